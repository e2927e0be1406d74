section
-- ===== PART A: goes FIRST, ahead of the names: the tables' words, and 'selects' of the private methods out of them =====
/-- a private method of a class that the tables say can be made, by its rows of tables_1 -/
def lw_okq (q : MethodName × Nat) : Prop := (q.1.cls ≠ "java/lang/invoke/MethodHandle" ∧ q.1.cls ≠ "java/lang/invoke/VarHandle") ∧ Cond.instantiable q.1.cls q.2 ∈ tables_1 ∧ Cond.privateMethod q.1 ∈ tables_1 ∧ Cond.instanceMethod q.1 ∈ tables_1
theorem lw_p0 : lw_okq (⟨"ByHand", "faulty", "(I)I"⟩, 9) := ⟨⟨by decide +kernel, by decide +kernel⟩, List.mem_of_getElem? (i := 14) (by decide +kernel), List.mem_of_getElem? (i := 187) (by decide +kernel), List.mem_of_getElem? (i := 188) (by decide +kernel)⟩
theorem lw_p1 : lw_okq (⟨"ByHand$Hands", "timesOf", "(I)I"⟩, 3) := ⟨⟨by decide +kernel, by decide +kernel⟩, List.mem_of_getElem? (i := 36) (by decide +kernel), List.mem_of_getElem? (i := 287) (by decide +kernel), List.mem_of_getElem? (i := 288) (by decide +kernel)⟩
theorem lw_p2 : lw_okq (⟨"ByHand$Telling", "has", "(I)Z"⟩, 4) := ⟨⟨by decide +kernel, by decide +kernel⟩, List.mem_of_getElem? (i := 96) (by decide +kernel), List.mem_of_getElem? (i := 316) (by decide +kernel), List.mem_of_getElem? (i := 317) (by decide +kernel)⟩
theorem lw_p3 : lw_okq (⟨"ByHand$Telling", "alikeToAny", "(I)I"⟩, 4) := ⟨⟨by decide +kernel, by decide +kernel⟩, List.mem_of_getElem? (i := 96) (by decide +kernel), List.mem_of_getElem? (i := 344) (by decide +kernel), List.mem_of_getElem? (i := 345) (by decide +kernel)⟩
theorem lw_p4 : lw_okq (⟨"ByHand$Telling", "leastIn", "(I)I"⟩, 4) := ⟨⟨by decide +kernel, by decide +kernel⟩, List.mem_of_getElem? (i := 96) (by decide +kernel), List.mem_of_getElem? (i := 357) (by decide +kernel), List.mem_of_getElem? (i := 358) (by decide +kernel)⟩
theorem lw_p5 : lw_okq (⟨"ByHand", "swappedUp", "(I)I"⟩, 9) := ⟨⟨by decide +kernel, by decide +kernel⟩, List.mem_of_getElem? (i := 14) (by decide +kernel), List.mem_of_getElem? (i := 370) (by decide +kernel), List.mem_of_getElem? (i := 371) (by decide +kernel)⟩
theorem lw_p6 : lw_okq (⟨"ByHand$Sayings", "has", "(I)Z"⟩, 5) := ⟨⟨by decide +kernel, by decide +kernel⟩, List.mem_of_getElem? (i := 52) (by decide +kernel), List.mem_of_getElem? (i := 413) (by decide +kernel), List.mem_of_getElem? (i := 414) (by decide +kernel)⟩
theorem lw_p7 : lw_okq (⟨"ByHand", "falseByWeight", "(II)I"⟩, 9) := ⟨⟨by decide +kernel, by decide +kernel⟩, List.mem_of_getElem? (i := 14) (by decide +kernel), List.mem_of_getElem? (i := 431) (by decide +kernel), List.mem_of_getElem? (i := 432) (by decide +kernel)⟩
theorem lw_p8 : lw_okq (⟨"ByHand$Telling", "allThings", "()I"⟩, 4) := ⟨⟨by decide +kernel, by decide +kernel⟩, List.mem_of_getElem? (i := 96) (by decide +kernel), List.mem_of_getElem? (i := 447) (by decide +kernel), List.mem_of_getElem? (i := 448) (by decide +kernel)⟩
theorem lw_p9 : lw_okq (⟨"ByHand$Telling", "fittingBehind", "(I)I"⟩, 4) := ⟨⟨by decide +kernel, by decide +kernel⟩, List.mem_of_getElem? (i := 96) (by decide +kernel), List.mem_of_getElem? (i := 455) (by decide +kernel), List.mem_of_getElem? (i := 456) (by decide +kernel)⟩
theorem lw_p10 : lw_okq (⟨"ByHand$Telling", "heavierThanAny", "(I)I"⟩, 4) := ⟨⟨by decide +kernel, by decide +kernel⟩, List.mem_of_getElem? (i := 96) (by decide +kernel), List.mem_of_getElem? (i := 467) (by decide +kernel), List.mem_of_getElem? (i := 468) (by decide +kernel)⟩
theorem lw_p11 : lw_okq (⟨"ByHand$Telling", "areAllAlike", "(I)Z"⟩, 4) := ⟨⟨by decide +kernel, by decide +kernel⟩, List.mem_of_getElem? (i := 96) (by decide +kernel), List.mem_of_getElem? (i := 485) (by decide +kernel), List.mem_of_getElem? (i := 486) (by decide +kernel)⟩
theorem lw_p12 : lw_okq (⟨"ByHand", "takeHandRow", "(IIII)I"⟩, 9) := ⟨⟨by decide +kernel, by decide +kernel⟩, List.mem_of_getElem? (i := 14) (by decide +kernel), List.mem_of_getElem? (i := 501) (by decide +kernel), List.mem_of_getElem? (i := 502) (by decide +kernel)⟩
theorem lw_p13 : lw_okq (⟨"ByHand$HandRow", "sortRow", "()V"⟩, 3) := ⟨⟨by decide +kernel, by decide +kernel⟩, List.mem_of_getElem? (i := 115) (by decide +kernel), List.mem_of_getElem? (i := 538) (by decide +kernel), List.mem_of_getElem? (i := 539) (by decide +kernel)⟩
theorem lw_p14 : lw_okq (⟨"ByHand$HandRow", "exchange", "(II)V"⟩, 3) := ⟨⟨by decide +kernel, by decide +kernel⟩, List.mem_of_getElem? (i := 115) (by decide +kernel), List.mem_of_getElem? (i := 542) (by decide +kernel), List.mem_of_getElem? (i := 543) (by decide +kernel)⟩
theorem lw_p15 : lw_okq (⟨"ByHand$HandRow", "spread", "(LByHand$Hands;I)I"⟩, 3) := ⟨⟨by decide +kernel, by decide +kernel⟩, List.mem_of_getElem? (i := 115) (by decide +kernel), List.mem_of_getElem? (i := 546) (by decide +kernel), List.mem_of_getElem? (i := 547) (by decide +kernel)⟩
def lw_privs_1 : List (MethodName × Nat) := [(⟨"ByHand", "faulty", "(I)I"⟩, 9), (⟨"ByHand$Hands", "timesOf", "(I)I"⟩, 3), (⟨"ByHand$Telling", "has", "(I)Z"⟩, 4), (⟨"ByHand$Telling", "alikeToAny", "(I)I"⟩, 4), (⟨"ByHand$Telling", "leastIn", "(I)I"⟩, 4), (⟨"ByHand", "swappedUp", "(I)I"⟩, 9), (⟨"ByHand$Sayings", "has", "(I)Z"⟩, 5), (⟨"ByHand", "falseByWeight", "(II)I"⟩, 9), (⟨"ByHand$Telling", "allThings", "()I"⟩, 4), (⟨"ByHand$Telling", "fittingBehind", "(I)I"⟩, 4), (⟨"ByHand$Telling", "heavierThanAny", "(I)I"⟩, 4), (⟨"ByHand$Telling", "areAllAlike", "(I)Z"⟩, 4), (⟨"ByHand", "takeHandRow", "(IIII)I"⟩, 9), (⟨"ByHand$HandRow", "sortRow", "()V"⟩, 3), (⟨"ByHand$HandRow", "exchange", "(II)V"⟩, 3), (⟨"ByHand$HandRow", "spread", "(LByHand$Hands;I)I"⟩, 3)]
theorem lw_r1 : ∀ q ∈ lw_privs_1, lw_okq q := List.forall_mem_cons.mpr ⟨lw_p0, List.forall_mem_cons.mpr ⟨lw_p1, List.forall_mem_cons.mpr ⟨lw_p2, List.forall_mem_cons.mpr ⟨lw_p3, List.forall_mem_cons.mpr ⟨lw_p4, List.forall_mem_cons.mpr ⟨lw_p5, List.forall_mem_cons.mpr ⟨lw_p6, List.forall_mem_cons.mpr ⟨lw_p7, List.forall_mem_cons.mpr ⟨lw_p8, List.forall_mem_cons.mpr ⟨lw_p9, List.forall_mem_cons.mpr ⟨lw_p10, List.forall_mem_cons.mpr ⟨lw_p11, List.forall_mem_cons.mpr ⟨lw_p12, List.forall_mem_cons.mpr ⟨lw_p13, List.forall_mem_cons.mpr ⟨lw_p14, List.forall_mem_cons.mpr ⟨lw_p15, fun _ h => absurd h List.not_mem_nil⟩⟩⟩⟩⟩⟩⟩⟩⟩⟩⟩⟩⟩⟩⟩⟩
theorem lw_p16 : lw_okq (⟨"ByHand$HandRow", "keepAsBest", "()V"⟩, 3) := ⟨⟨by decide +kernel, by decide +kernel⟩, List.mem_of_getElem? (i := 115) (by decide +kernel), List.mem_of_getElem? (i := 552) (by decide +kernel), List.mem_of_getElem? (i := 553) (by decide +kernel)⟩
theorem lw_p17 : lw_okq (⟨"ByHand$HandRow", "toNextOrder", "()Z"⟩, 3) := ⟨⟨by decide +kernel, by decide +kernel⟩, List.mem_of_getElem? (i := 115) (by decide +kernel), List.mem_of_getElem? (i := 556) (by decide +kernel), List.mem_of_getElem? (i := 557) (by decide +kernel)⟩
theorem lw_p18 : lw_okq (⟨"ByHand", "smithBody", "(I)I"⟩, 9) := ⟨⟨by decide +kernel, by decide +kernel⟩, List.mem_of_getElem? (i := 14) (by decide +kernel), List.mem_of_getElem? (i := 635) (by decide +kernel), List.mem_of_getElem? (i := 636) (by decide +kernel)⟩
theorem lw_p19 : lw_okq (⟨"ByHand", "leaveTrace", "(I)V"⟩, 9) := ⟨⟨by decide +kernel, by decide +kernel⟩, List.mem_of_getElem? (i := 14) (by decide +kernel), List.mem_of_getElem? (i := 639) (by decide +kernel), List.mem_of_getElem? (i := 640) (by decide +kernel)⟩
theorem lw_p20 : lw_okq (⟨"ByHand", "steadyBody", "(I)I"⟩, 9) := ⟨⟨by decide +kernel, by decide +kernel⟩, List.mem_of_getElem? (i := 14) (by decide +kernel), List.mem_of_getElem? (i := 643) (by decide +kernel), List.mem_of_getElem? (i := 644) (by decide +kernel)⟩
theorem lw_p21 : lw_okq (⟨"ByHand", "handBody", "(I)I"⟩, 9) := ⟨⟨by decide +kernel, by decide +kernel⟩, List.mem_of_getElem? (i := 14) (by decide +kernel), List.mem_of_getElem? (i := 647) (by decide +kernel), List.mem_of_getElem? (i := 648) (by decide +kernel)⟩
theorem lw_p22 : lw_okq (⟨"ByHand", "smithsOwnBody", "()I"⟩, 9) := ⟨⟨by decide +kernel, by decide +kernel⟩, List.mem_of_getElem? (i := 14) (by decide +kernel), List.mem_of_getElem? (i := 655) (by decide +kernel), List.mem_of_getElem? (i := 656) (by decide +kernel)⟩
theorem lw_p23 : lw_okq (⟨"ByHand", "lentBody", "(I)I"⟩, 9) := ⟨⟨by decide +kernel, by decide +kernel⟩, List.mem_of_getElem? (i := 14) (by decide +kernel), List.mem_of_getElem? (i := 659) (by decide +kernel), List.mem_of_getElem? (i := 660) (by decide +kernel)⟩
theorem lw_p24 : lw_okq (⟨"ByHandModel", "against", "(IIII)I"⟩, 23) := ⟨⟨by decide +kernel, by decide +kernel⟩, List.mem_of_getElem? (i := 683) (by decide +kernel), List.mem_of_getElem? (i := 772) (by decide +kernel), List.mem_of_getElem? (i := 773) (by decide +kernel)⟩
theorem lw_p25 : lw_okq (⟨"ByHandModel", "fails", "(I)I"⟩, 23) := ⟨⟨by decide +kernel, by decide +kernel⟩, List.mem_of_getElem? (i := 683) (by decide +kernel), List.mem_of_getElem? (i := 776) (by decide +kernel), List.mem_of_getElem? (i := 777) (by decide +kernel)⟩
theorem lw_p26 : lw_okq (⟨"ByHandModel", "readMarket", "(I)Z"⟩, 23) := ⟨⟨by decide +kernel, by decide +kernel⟩, List.mem_of_getElem? (i := 683) (by decide +kernel), List.mem_of_getElem? (i := 780) (by decide +kernel), List.mem_of_getElem? (i := 781) (by decide +kernel)⟩
theorem lw_p27 : lw_okq (⟨"ByHandModel", "isThing", "(I)Z"⟩, 23) := ⟨⟨by decide +kernel, by decide +kernel⟩, List.mem_of_getElem? (i := 683) (by decide +kernel), List.mem_of_getElem? (i := 788) (by decide +kernel), List.mem_of_getElem? (i := 789) (by decide +kernel)⟩
theorem lw_p28 : lw_okq (⟨"ByHandModel", "isHand", "(I)Z"⟩, 23) := ⟨⟨by decide +kernel, by decide +kernel⟩, List.mem_of_getElem? (i := 683) (by decide +kernel), List.mem_of_getElem? (i := 807) (by decide +kernel), List.mem_of_getElem? (i := 808) (by decide +kernel)⟩
theorem lw_p29 : lw_okq (⟨"ByHandModel", "isTold", "(III)Z"⟩, 23) := ⟨⟨by decide +kernel, by decide +kernel⟩, List.mem_of_getElem? (i := 683) (by decide +kernel), List.mem_of_getElem? (i := 815) (by decide +kernel), List.mem_of_getElem? (i := 816) (by decide +kernel)⟩
theorem lw_p30 : lw_okq (⟨"ByHandModel", "times", "(I)I"⟩, 23) := ⟨⟨by decide +kernel, by decide +kernel⟩, List.mem_of_getElem? (i := 683) (by decide +kernel), List.mem_of_getElem? (i := 819) (by decide +kernel), List.mem_of_getElem? (i := 820) (by decide +kernel)⟩
theorem lw_p31 : lw_okq (⟨"ByHandModel", "alikeTo", "(II)I"⟩, 23) := ⟨⟨by decide +kernel, by decide +kernel⟩, List.mem_of_getElem? (i := 683) (by decide +kernel), List.mem_of_getElem? (i := 827) (by decide +kernel), List.mem_of_getElem? (i := 828) (by decide +kernel)⟩
def lw_privs_2 : List (MethodName × Nat) := [(⟨"ByHand$HandRow", "keepAsBest", "()V"⟩, 3), (⟨"ByHand$HandRow", "toNextOrder", "()Z"⟩, 3), (⟨"ByHand", "smithBody", "(I)I"⟩, 9), (⟨"ByHand", "leaveTrace", "(I)V"⟩, 9), (⟨"ByHand", "steadyBody", "(I)I"⟩, 9), (⟨"ByHand", "handBody", "(I)I"⟩, 9), (⟨"ByHand", "smithsOwnBody", "()I"⟩, 9), (⟨"ByHand", "lentBody", "(I)I"⟩, 9), (⟨"ByHandModel", "against", "(IIII)I"⟩, 23), (⟨"ByHandModel", "fails", "(I)I"⟩, 23), (⟨"ByHandModel", "readMarket", "(I)Z"⟩, 23), (⟨"ByHandModel", "isThing", "(I)Z"⟩, 23), (⟨"ByHandModel", "isHand", "(I)Z"⟩, 23), (⟨"ByHandModel", "isTold", "(III)Z"⟩, 23), (⟨"ByHandModel", "times", "(I)I"⟩, 23), (⟨"ByHandModel", "alikeTo", "(II)I"⟩, 23)]
theorem lw_r2 : ∀ q ∈ lw_privs_2, lw_okq q := List.forall_mem_cons.mpr ⟨lw_p16, List.forall_mem_cons.mpr ⟨lw_p17, List.forall_mem_cons.mpr ⟨lw_p18, List.forall_mem_cons.mpr ⟨lw_p19, List.forall_mem_cons.mpr ⟨lw_p20, List.forall_mem_cons.mpr ⟨lw_p21, List.forall_mem_cons.mpr ⟨lw_p22, List.forall_mem_cons.mpr ⟨lw_p23, List.forall_mem_cons.mpr ⟨lw_p24, List.forall_mem_cons.mpr ⟨lw_p25, List.forall_mem_cons.mpr ⟨lw_p26, List.forall_mem_cons.mpr ⟨lw_p27, List.forall_mem_cons.mpr ⟨lw_p28, List.forall_mem_cons.mpr ⟨lw_p29, List.forall_mem_cons.mpr ⟨lw_p30, List.forall_mem_cons.mpr ⟨lw_p31, fun _ h => absurd h List.not_mem_nil⟩⟩⟩⟩⟩⟩⟩⟩⟩⟩⟩⟩⟩⟩⟩⟩
theorem lw_p32 : lw_okq (⟨"ByHandModel", "areAlike", "(III)Z"⟩, 23) := ⟨⟨by decide +kernel, by decide +kernel⟩, List.mem_of_getElem? (i := 683) (by decide +kernel), List.mem_of_getElem? (i := 831) (by decide +kernel), List.mem_of_getElem? (i := 832) (by decide +kernel)⟩
theorem lw_p33 : lw_okq (⟨"ByHandModel", "tellsThem", "(III)Z"⟩, 23) := ⟨⟨by decide +kernel, by decide +kernel⟩, List.mem_of_getElem? (i := 683) (by decide +kernel), List.mem_of_getElem? (i := 835) (by decide +kernel), List.mem_of_getElem? (i := 836) (by decide +kernel)⟩
theorem lw_p34 : lw_okq (⟨"ByHandModel", "findFar", "(II)V"⟩, 23) := ⟨⟨by decide +kernel, by decide +kernel⟩, List.mem_of_getElem? (i := 683) (by decide +kernel), List.mem_of_getElem? (i := 847) (by decide +kernel), List.mem_of_getElem? (i := 848) (by decide +kernel)⟩
theorem lw_p35 : lw_okq (⟨"ByHandModel", "nextOf", "(II)I"⟩, 23) := ⟨⟨by decide +kernel, by decide +kernel⟩, List.mem_of_getElem? (i := 683) (by decide +kernel), List.mem_of_getElem? (i := 851) (by decide +kernel), List.mem_of_getElem? (i := 852) (by decide +kernel)⟩
theorem lw_p36 : lw_okq (⟨"ByHandModel", "isGot", "(IIII)Z"⟩, 23) := ⟨⟨by decide +kernel, by decide +kernel⟩, List.mem_of_getElem? (i := 683) (by decide +kernel), List.mem_of_getElem? (i := 863) (by decide +kernel), List.mem_of_getElem? (i := 864) (by decide +kernel)⟩
theorem lw_p37 : lw_okq (⟨"ByHandModel", "isSo", "(I)Z"⟩, 23) := ⟨⟨by decide +kernel, by decide +kernel⟩, List.mem_of_getElem? (i := 683) (by decide +kernel), List.mem_of_getElem? (i := 879) (by decide +kernel), List.mem_of_getElem? (i := 880) (by decide +kernel)⟩
theorem lw_p38 : lw_okq (⟨"ByHandModel", "falseOf", "(I)I"⟩, 23) := ⟨⟨by decide +kernel, by decide +kernel⟩, List.mem_of_getElem? (i := 683) (by decide +kernel), List.mem_of_getElem? (i := 887) (by decide +kernel), List.mem_of_getElem? (i := 888) (by decide +kernel)⟩
theorem lw_p39 : lw_okq (⟨"ByHandModel", "inFirstRow", "(II)I"⟩, 23) := ⟨⟨by decide +kernel, by decide +kernel⟩, List.mem_of_getElem? (i := 683) (by decide +kernel), List.mem_of_getElem? (i := 899) (by decide +kernel), List.mem_of_getElem? (i := 900) (by decide +kernel)⟩
theorem lw_p40 : lw_okq (⟨"ByHandModel", "mayStand", "(III)Z"⟩, 23) := ⟨⟨by decide +kernel, by decide +kernel⟩, List.mem_of_getElem? (i := 683) (by decide +kernel), List.mem_of_getElem? (i := 903) (by decide +kernel), List.mem_of_getElem? (i := 904) (by decide +kernel)⟩
theorem lw_p41 : lw_okq (⟨"ByHandModel", "isCrowd", "(II)Z"⟩, 23) := ⟨⟨by decide +kernel, by decide +kernel⟩, List.mem_of_getElem? (i := 683) (by decide +kernel), List.mem_of_getElem? (i := 918) (by decide +kernel), List.mem_of_getElem? (i := 919) (by decide +kernel)⟩
theorem lw_p42 : lw_okq (⟨"ByHandModel", "layRow", "(III)I"⟩, 23) := ⟨⟨by decide +kernel, by decide +kernel⟩, List.mem_of_getElem? (i := 683) (by decide +kernel), List.mem_of_getElem? (i := 930) (by decide +kernel), List.mem_of_getElem? (i := 931) (by decide +kernel)⟩
theorem lw_p43 : lw_okq (⟨"ByHandModel", "copied", "(III)I"⟩, 23) := ⟨⟨by decide +kernel, by decide +kernel⟩, List.mem_of_getElem? (i := 683) (by decide +kernel), List.mem_of_getElem? (i := 934) (by decide +kernel), List.mem_of_getElem? (i := 935) (by decide +kernel)⟩
theorem lw_p44 : lw_okq (⟨"ByHandModel", "greatest", "(II)I"⟩, 23) := ⟨⟨by decide +kernel, by decide +kernel⟩, List.mem_of_getElem? (i := 683) (by decide +kernel), List.mem_of_getElem? (i := 938) (by decide +kernel), List.mem_of_getElem? (i := 939) (by decide +kernel)⟩
theorem lw_p45 : lw_okq (⟨"ByHandModel", "least", "(II)I"⟩, 23) := ⟨⟨by decide +kernel, by decide +kernel⟩, List.mem_of_getElem? (i := 683) (by decide +kernel), List.mem_of_getElem? (i := 942) (by decide +kernel), List.mem_of_getElem? (i := 943) (by decide +kernel)⟩
theorem lw_p46 : lw_okq (⟨"ByHandModel", "findBestRow", "(II)I"⟩, 23) := ⟨⟨by decide +kernel, by decide +kernel⟩, List.mem_of_getElem? (i := 683) (by decide +kernel), List.mem_of_getElem? (i := 950) (by decide +kernel), List.mem_of_getElem? (i := 951) (by decide +kernel)⟩
theorem lw_p47 : lw_okq (⟨"ByHandModel", "exchange", "(II)V"⟩, 23) := ⟨⟨by decide +kernel, by decide +kernel⟩, List.mem_of_getElem? (i := 683) (by decide +kernel), List.mem_of_getElem? (i := 954) (by decide +kernel), List.mem_of_getElem? (i := 955) (by decide +kernel)⟩
def lw_privs_3 : List (MethodName × Nat) := [(⟨"ByHandModel", "areAlike", "(III)Z"⟩, 23), (⟨"ByHandModel", "tellsThem", "(III)Z"⟩, 23), (⟨"ByHandModel", "findFar", "(II)V"⟩, 23), (⟨"ByHandModel", "nextOf", "(II)I"⟩, 23), (⟨"ByHandModel", "isGot", "(IIII)Z"⟩, 23), (⟨"ByHandModel", "isSo", "(I)Z"⟩, 23), (⟨"ByHandModel", "falseOf", "(I)I"⟩, 23), (⟨"ByHandModel", "inFirstRow", "(II)I"⟩, 23), (⟨"ByHandModel", "mayStand", "(III)Z"⟩, 23), (⟨"ByHandModel", "isCrowd", "(II)Z"⟩, 23), (⟨"ByHandModel", "layRow", "(III)I"⟩, 23), (⟨"ByHandModel", "copied", "(III)I"⟩, 23), (⟨"ByHandModel", "greatest", "(II)I"⟩, 23), (⟨"ByHandModel", "least", "(II)I"⟩, 23), (⟨"ByHandModel", "findBestRow", "(II)I"⟩, 23), (⟨"ByHandModel", "exchange", "(II)V"⟩, 23)]
theorem lw_r3 : ∀ q ∈ lw_privs_3, lw_okq q := List.forall_mem_cons.mpr ⟨lw_p32, List.forall_mem_cons.mpr ⟨lw_p33, List.forall_mem_cons.mpr ⟨lw_p34, List.forall_mem_cons.mpr ⟨lw_p35, List.forall_mem_cons.mpr ⟨lw_p36, List.forall_mem_cons.mpr ⟨lw_p37, List.forall_mem_cons.mpr ⟨lw_p38, List.forall_mem_cons.mpr ⟨lw_p39, List.forall_mem_cons.mpr ⟨lw_p40, List.forall_mem_cons.mpr ⟨lw_p41, List.forall_mem_cons.mpr ⟨lw_p42, List.forall_mem_cons.mpr ⟨lw_p43, List.forall_mem_cons.mpr ⟨lw_p44, List.forall_mem_cons.mpr ⟨lw_p45, List.forall_mem_cons.mpr ⟨lw_p46, List.forall_mem_cons.mpr ⟨lw_p47, fun _ h => absurd h List.not_mem_nil⟩⟩⟩⟩⟩⟩⟩⟩⟩⟩⟩⟩⟩⟩⟩⟩
theorem lw_p48 : lw_okq (⟨"ByHandModel", "nextRow", "(I)Z"⟩, 23) := ⟨⟨by decide +kernel, by decide +kernel⟩, List.mem_of_getElem? (i := 683) (by decide +kernel), List.mem_of_getElem? (i := 958) (by decide +kernel), List.mem_of_getElem? (i := 959) (by decide +kernel)⟩
theorem lw_p49 : lw_okq (⟨"ByHandModel", "areEven", "(III)Z"⟩, 23) := ⟨⟨by decide +kernel, by decide +kernel⟩, List.mem_of_getElem? (i := 683) (by decide +kernel), List.mem_of_getElem? (i := 966) (by decide +kernel), List.mem_of_getElem? (i := 967) (by decide +kernel)⟩
theorem lw_p50 : lw_okq (⟨"ByHandModel", "sumOf", "(I)I"⟩, 23) := ⟨⟨by decide +kernel, by decide +kernel⟩, List.mem_of_getElem? (i := 683) (by decide +kernel), List.mem_of_getElem? (i := 970) (by decide +kernel), List.mem_of_getElem? (i := 971) (by decide +kernel)⟩
theorem lw_p51 : lw_okq (⟨"ByHandModel", "lost", "(I)J"⟩, 23) := ⟨⟨by decide +kernel, by decide +kernel⟩, List.mem_of_getElem? (i := 683) (by decide +kernel), List.mem_of_getElem? (i := 998) (by decide +kernel), List.mem_of_getElem? (i := 999) (by decide +kernel)⟩
theorem lw_p52 : lw_okq (⟨"ByHandModel", "begins", "(I)V"⟩, 23) := ⟨⟨by decide +kernel, by decide +kernel⟩, List.mem_of_getElem? (i := 683) (by decide +kernel), List.mem_of_getElem? (i := 1010) (by decide +kernel), List.mem_of_getElem? (i := 1011) (by decide +kernel)⟩
def lw_privs_4 : List (MethodName × Nat) := [(⟨"ByHandModel", "nextRow", "(I)Z"⟩, 23), (⟨"ByHandModel", "areEven", "(III)Z"⟩, 23), (⟨"ByHandModel", "sumOf", "(I)I"⟩, 23), (⟨"ByHandModel", "lost", "(I)J"⟩, 23), (⟨"ByHandModel", "begins", "(I)V"⟩, 23)]
theorem lw_r4 : ∀ q ∈ lw_privs_4, lw_okq q := List.forall_mem_cons.mpr ⟨lw_p48, List.forall_mem_cons.mpr ⟨lw_p49, List.forall_mem_cons.mpr ⟨lw_p50, List.forall_mem_cons.mpr ⟨lw_p51, List.forall_mem_cons.mpr ⟨lw_p52, fun _ h => absurd h List.not_mem_nil⟩⟩⟩⟩⟩
def lw_privs : List (MethodName × Nat) := lw_privs_1 ++ (lw_privs_2 ++ (lw_privs_3 ++ (lw_privs_4)))
def lw_tbl : List Cond := k2_sels lw_privs ++ tables_1
theorem lw_privs_ok : ∀ q ∈ lw_privs, lw_okq q := by
  show ∀ q ∈ lw_privs_1 ++ (lw_privs_2 ++ (lw_privs_3 ++ (lw_privs_4))), lw_okq q
  exact List.forall_mem_append.mpr ⟨lw_r1, List.forall_mem_append.mpr ⟨lw_r2, List.forall_mem_append.mpr ⟨lw_r3, lw_r4⟩⟩⟩
-- ===== end of PART A; then your names; then what follows =====
def RX0 : String := "ByHand$HandRow"
def TX0 : u_T := fun k => match k with
  | 0 => ("ByHand$HandRow", "count", "I", false)
  | 1 => ("ByHand$HandRow", "row", "[I", true)
  | _ => ("ByHand$HandRow", "best", "[I", true)
def tyX0 : Nat → FieldType := fun k => match k with
  | 0 => .int
  | 1 => .array .int
  | _ => .array .int
theorem nmX0 : ∀ a, a < 3 → ∀ b, b < 3 → a ≠ b → (TX0 a).2.1 ≠ (TX0 b).2.1 := by decide +kernel
theorem tyX0_ok : ∀ k, k < 3 → parseFieldDescriptor (TX0 k).2.2.1 = some (tyX0 k) := by decide +kernel
abbrev cX0_init : ByteArray := prog_2_method_1_code
def yX0_init : MethodName := ⟨RX0, "<init>", "()V"⟩
abbrev cX0_clear : ByteArray := prog_2_method_2_code
def yX0_clear : MethodName := ⟨RX0, "clear", "()V"⟩
abbrev cX0_add : ByteArray := prog_2_method_3_code
def yX0_add : MethodName := ⟨RX0, "add", "(I)V"⟩
abbrev cX0_greatestCopy : ByteArray := prog_2_method_4_code
def yX0_greatestCopy : MethodName := ⟨RX0, "greatestCopy", "(LByHand$Hands;I)I"⟩
abbrev cX0_leastCopy : ByteArray := prog_2_method_5_code
def yX0_leastCopy : MethodName := ⟨RX0, "leastCopy", "(LByHand$Hands;I)I"⟩
abbrev cX0_spread : ByteArray := prog_2_method_6_code
def yX0_spread : MethodName := ⟨RX0, "spread", "(LByHand$Hands;I)I"⟩
abbrev cX0_findBest : ByteArray := prog_2_method_7_code
def yX0_findBest : MethodName := ⟨RX0, "findBest", "(LByHand$Hands;I)I"⟩
abbrev cX0_inBest : ByteArray := prog_2_method_8_code
def yX0_inBest : MethodName := ⟨RX0, "inBest", "(I)I"⟩
abbrev cX0_keepAsBest : ByteArray := prog_2_method_9_code
def yX0_keepAsBest : MethodName := ⟨RX0, "keepAsBest", "()V"⟩
abbrev cX0_sortRow : ByteArray := prog_2_method_10_code
def yX0_sortRow : MethodName := ⟨RX0, "sortRow", "()V"⟩
abbrev cX0_toNextOrder : ByteArray := prog_2_method_11_code
def yX0_toNextOrder : MethodName := ⟨RX0, "toNextOrder", "()Z"⟩
abbrev cX0_exchange : ByteArray := prog_2_method_12_code
def yX0_exchange : MethodName := ⟨RX0, "exchange", "(II)V"⟩
def RX1 : String := "ByHand$Hands"
def TX1 : u_T := fun k => match k with
  | 0 => ("ByHand$Hands", "count", "I", false)
  | 1 => ("ByHand$Hands", "kinds", "[I", true)
  | _ => ("ByHand$Hands", "parts", "[I", true)
def tyX1 : Nat → FieldType := fun k => match k with
  | 0 => .int
  | 1 => .array .int
  | _ => .array .int
theorem nmX1 : ∀ a, a < 3 → ∀ b, b < 3 → a ≠ b → (TX1 a).2.1 ≠ (TX1 b).2.1 := by decide +kernel
theorem tyX1_ok : ∀ k, k < 3 → parseFieldDescriptor (TX1 k).2.2.1 = some (tyX1 k) := by decide +kernel
abbrev cX1_init : ByteArray := prog_3_method_1_code
def yX1_init : MethodName := ⟨RX1, "<init>", "()V"⟩
abbrev cX1_count : ByteArray := prog_3_method_2_code
def yX1_count : MethodName := ⟨RX1, "count", "()I"⟩
abbrev cX1_has : ByteArray := prog_3_method_3_code
def yX1_has : MethodName := ⟨RX1, "has", "(I)Z"⟩
abbrev cX1_kindOf : ByteArray := prog_3_method_4_code
def yX1_kindOf : MethodName := ⟨RX1, "kindOf", "(I)I"⟩
abbrev cX1_partOf : ByteArray := prog_3_method_5_code
def yX1_partOf : MethodName := ⟨RX1, "partOf", "(I)I"⟩
abbrev cX1_clear : ByteArray := prog_3_method_6_code
def yX1_clear : MethodName := ⟨RX1, "clear", "()V"⟩
abbrev cX1_add : ByteArray := prog_3_method_7_code
def yX1_add : MethodName := ⟨RX1, "add", "(II)I"⟩
abbrev cX1_timesOf : ByteArray := prog_3_method_8_code
def yX1_timesOf : MethodName := ⟨RX1, "timesOf", "(I)I"⟩
abbrev cX1_feelsHeavier : ByteArray := prog_3_method_9_code
def yX1_feelsHeavier : MethodName := ⟨RX1, "feelsHeavier", "(III)Z"⟩
abbrev cX1_feelsAlike : ByteArray := prog_3_method_10_code
def yX1_feelsAlike : MethodName := ⟨RX1, "feelsAlike", "(III)Z"⟩
abbrev cX1_greatestUntold : ByteArray := prog_3_method_11_code
def yX1_greatestUntold : MethodName := ⟨RX1, "greatestUntold", "(II)I"⟩
abbrev cX1_leastUntold : ByteArray := prog_3_method_12_code
def yX1_leastUntold : MethodName := ⟨RX1, "leastUntold", "(II)I"⟩
def RX2 : String := "ByHand$Sayings"
def TX2 : u_T := fun k => match k with
  | 0 => ("ByHand$Sayings", "count", "I", false)
  | 1 => ("ByHand$Sayings", "sayers", "[I", true)
  | 2 => ("ByHand$Sayings", "firsts", "[I", true)
  | 3 => ("ByHand$Sayings", "seconds", "[I", true)
  | _ => ("ByHand$Sayings", "words", "[I", true)
def tyX2 : Nat → FieldType := fun k => match k with
  | 0 => .int
  | 1 => .array .int
  | 2 => .array .int
  | 3 => .array .int
  | _ => .array .int
theorem nmX2 : ∀ a, a < 5 → ∀ b, b < 5 → a ≠ b → (TX2 a).2.1 ≠ (TX2 b).2.1 := by decide +kernel
theorem tyX2_ok : ∀ k, k < 5 → parseFieldDescriptor (TX2 k).2.2.1 = some (tyX2 k) := by decide +kernel
abbrev cX2_init : ByteArray := prog_4_method_1_code
def yX2_init : MethodName := ⟨RX2, "<init>", "()V"⟩
abbrev cX2_count : ByteArray := prog_4_method_2_code
def yX2_count : MethodName := ⟨RX2, "count", "()I"⟩
abbrev cX2_has : ByteArray := prog_4_method_3_code
def yX2_has : MethodName := ⟨RX2, "has", "(I)Z"⟩
abbrev cX2_firstOf : ByteArray := prog_4_method_4_code
def yX2_firstOf : MethodName := ⟨RX2, "firstOf", "(I)I"⟩
abbrev cX2_secondOf : ByteArray := prog_4_method_5_code
def yX2_secondOf : MethodName := ⟨RX2, "secondOf", "(I)I"⟩
abbrev cX2_clear : ByteArray := prog_4_method_6_code
def yX2_clear : MethodName := ⟨RX2, "clear", "()V"⟩
abbrev cX2_add : ByteArray := prog_4_method_7_code
def yX2_add : MethodName := ⟨RX2, "add", "(IIII)I"⟩
abbrev cX2_takeBack : ByteArray := prog_4_method_8_code
def yX2_takeBack : MethodName := ⟨RX2, "takeBack", "(I)I"⟩
abbrev cX2_isFalse : ByteArray := prog_4_method_9_code
def yX2_isFalse : MethodName := ⟨RX2, "isFalse", "(ILByHand$Hands;II)Z"⟩
def RX3 : String := "ByHand$Sheets"
def TX3 : u_T := fun k => match k with
  | 0 => ("ByHand$Sheets", "filled", "[Z", true)
  | 1 => ("ByHand$Sheets", "sorts", "[I", true)
  | 2 => ("ByHand$Sheets", "lengths", "[I", true)
  | _ => ("ByHand$Sheets", "cells", "[[I", true)
def tyX3 : Nat → FieldType := fun k => match k with
  | 0 => .array .boolean
  | 1 => .array .int
  | 2 => .array .int
  | _ => .array (.array .int)
theorem nmX3 : ∀ a, a < 4 → ∀ b, b < 4 → a ≠ b → (TX3 a).2.1 ≠ (TX3 b).2.1 := by decide +kernel
theorem tyX3_ok : ∀ k, k < 4 → parseFieldDescriptor (TX3 k).2.2.1 = some (tyX3 k) := by decide +kernel
abbrev cX3_init : ByteArray := prog_5_method_1_code
def yX3_init : MethodName := ⟨RX3, "<init>", "()V"⟩
abbrev cX3_has : ByteArray := prog_5_method_2_code
def yX3_has : MethodName := ⟨RX3, "has", "(I)Z"⟩
abbrev cX3_hasRow : ByteArray := prog_5_method_3_code
def yX3_hasRow : MethodName := ⟨RX3, "hasRow", "(I)Z"⟩
abbrev cX3_sortOf : ByteArray := prog_5_method_4_code
def yX3_sortOf : MethodName := ⟨RX3, "sortOf", "(I)I"⟩
abbrev cX3_hasCells : ByteArray := prog_5_method_5_code
def yX3_hasCells : MethodName := ⟨RX3, "hasCells", "(III)Z"⟩
abbrev cX3_faultOfTaking : ByteArray := prog_5_method_6_code
def yX3_faultOfTaking : MethodName := ⟨RX3, "faultOfTaking", "(IIII)I"⟩
abbrev cX3_renew : ByteArray := prog_5_method_7_code
def yX3_renew : MethodName := ⟨RX3, "renew", "(III)V"⟩
abbrev cX3_empty : ByteArray := prog_5_method_8_code
def yX3_empty : MethodName := ⟨RX3, "empty", "(I)Z"⟩
abbrev cX3_cellOf : ByteArray := prog_5_method_9_code
def yX3_cellOf : MethodName := ⟨RX3, "cellOf", "(II)I"⟩
abbrev cX3_setCell : ByteArray := prog_5_method_10_code
def yX3_setCell : MethodName := ⟨RX3, "setCell", "(III)V"⟩
abbrev cX3_cut : ByteArray := prog_5_method_11_code
def yX3_cut : MethodName := ⟨RX3, "cut", "(II)I"⟩
abbrev cX3_copyCells : ByteArray := prog_5_method_12_code
def yX3_copyCells : MethodName := ⟨RX3, "copyCells", "(IIIII)V"⟩
def RX4 : String := "ByHand$Telling"
def TX4 : u_T := fun k => match k with
  | 0 => ("ByHand$Telling", "count", "I", false)
  | 1 => ("ByHand$Telling", "lighter", "[I", true)
  | 2 => ("ByHand$Telling", "alikes", "[I", true)
  | _ => ("ByHand$Telling", "orders", "[I", true)
def tyX4 : Nat → FieldType := fun k => match k with
  | 0 => .int
  | 1 => .array .int
  | 2 => .array .int
  | _ => .array .int
theorem nmX4 : ∀ a, a < 4 → ∀ b, b < 4 → a ≠ b → (TX4 a).2.1 ≠ (TX4 b).2.1 := by decide +kernel
theorem tyX4_ok : ∀ k, k < 4 → parseFieldDescriptor (TX4 k).2.2.1 = some (tyX4 k) := by decide +kernel
abbrev cX4_init : ByteArray := prog_6_method_1_code
def yX4_init : MethodName := ⟨RX4, "<init>", "()V"⟩
abbrev cX4_lay : ByteArray := prog_6_method_2_code
def yX4_lay : MethodName := ⟨RX4, "lay", "(LByHand$Hands;ILByHand$Things;)V"⟩
abbrev cX4_has : ByteArray := prog_6_method_3_code
def yX4_has : MethodName := ⟨RX4, "has", "(I)Z"⟩
abbrev cX4_alikeTo : ByteArray := prog_6_method_4_code
def yX4_alikeTo : MethodName := ⟨RX4, "alikeTo", "(I)I"⟩
abbrev cX4_lighterThan : ByteArray := prog_6_method_5_code
def yX4_lighterThan : MethodName := ⟨RX4, "lighterThan", "(I)I"⟩
abbrev cX4_othersAlikeTo : ByteArray := prog_6_method_6_code
def yX4_othersAlikeTo : MethodName := ⟨RX4, "othersAlikeTo", "(I)I"⟩
abbrev cX4_allThings : ByteArray := prog_6_method_7_code
def yX4_allThings : MethodName := ⟨RX4, "allThings", "()I"⟩
abbrev cX4_isFinerThan : ByteArray := prog_6_method_8_code
def yX4_isFinerThan : MethodName := ⟨RX4, "isFinerThan", "(LByHand$Telling;)Z"⟩
abbrev cX4_within : ByteArray := prog_6_method_9_code
def yX4_within : MethodName := ⟨RX4, "within", "(II)I"⟩
abbrev cX4_alikeToAny : ByteArray := prog_6_method_10_code
def yX4_alikeToAny : MethodName := ⟨RX4, "alikeToAny", "(I)I"⟩
abbrev cX4_fewestSwaps : ByteArray := prog_6_method_11_code
def yX4_fewestSwaps : MethodName := ⟨RX4, "fewestSwaps", "(II)I"⟩
abbrev cX4_behindSwaps : ByteArray := prog_6_method_12_code
def yX4_behindSwaps : MethodName := ⟨RX4, "behindSwaps", "(III)I"⟩
abbrev cX4_leastIn : ByteArray := prog_6_method_13_code
def yX4_leastIn : MethodName := ⟨RX4, "leastIn", "(I)I"⟩
abbrev cX4_countOrders : ByteArray := prog_6_method_14_code
def yX4_countOrders : MethodName := ⟨RX4, "countOrders", "()I"⟩
abbrev cX4_placeInFirstOrder : ByteArray := prog_6_method_15_code
def yX4_placeInFirstOrder : MethodName := ⟨RX4, "placeInFirstOrder", "(I)I"⟩
abbrev cX4_fittingBehind : ByteArray := prog_6_method_16_code
def yX4_fittingBehind : MethodName := ⟨RX4, "fittingBehind", "(I)I"⟩
abbrev cX4_longestChain : ByteArray := prog_6_method_17_code
def yX4_longestChain : MethodName := ⟨RX4, "longestChain", "()I"⟩
abbrev cX4_heavierThanAny : ByteArray := prog_6_method_18_code
def yX4_heavierThanAny : MethodName := ⟨RX4, "heavierThanAny", "(I)I"⟩
abbrev cX4_greatestCrowd : ByteArray := prog_6_method_19_code
def yX4_greatestCrowd : MethodName := ⟨RX4, "greatestCrowd", "()I"⟩
abbrev cX4_areAllAlike : ByteArray := prog_6_method_20_code
def yX4_areAllAlike : MethodName := ⟨RX4, "areAllAlike", "(I)Z"⟩
abbrev cX4_countTold : ByteArray := prog_6_method_21_code
def yX4_countTold : MethodName := ⟨RX4, "countTold", "()I"⟩
def RX5 : String := "ByHand$Text"
def TX5 : u_T := fun k => match k with
  | _ => ("", "", "", false)
def tyX5 : Nat → FieldType := fun k => match k with
  | _ => .int
theorem nmX5 : ∀ a, a < 0 → ∀ b, b < 0 → a ≠ b → (TX5 a).2.1 ≠ (TX5 b).2.1 := by decide +kernel
theorem tyX5_ok : ∀ k, k < 0 → parseFieldDescriptor (TX5 k).2.2.1 = some (tyX5 k) := by decide +kernel
abbrev cX5_firstFault : ByteArray := prog_7_method_2_code
def yX5_firstFault : MethodName := ⟨RX5, "firstFault", "(LByHand$Sheets;III)I"⟩
abbrev cX5_goesOn : ByteArray := prog_7_method_3_code
def yX5_goesOn : MethodName := ⟨RX5, "goesOn", "(LByHand$Sheets;III)Z"⟩
abbrev cX5_read : ByteArray := prog_7_method_4_code
def yX5_read : MethodName := ⟨RX5, "read", "(LByHand$Sheets;IIILByHand$Things;)V"⟩
abbrev cX5_number : ByteArray := prog_7_method_5_code
def yX5_number : MethodName := ⟨RX5, "number", "(LByHand$Sheets;II)I"⟩
def RX6 : String := "ByHand$Things"
def TX6 : u_T := fun k => match k with
  | 0 => ("ByHand$Things", "count", "I", false)
  | _ => ("ByHand$Things", "weights", "[I", true)
def tyX6 : Nat → FieldType := fun k => match k with
  | 0 => .int
  | _ => .array .int
theorem nmX6 : ∀ a, a < 2 → ∀ b, b < 2 → a ≠ b → (TX6 a).2.1 ≠ (TX6 b).2.1 := by decide +kernel
theorem tyX6_ok : ∀ k, k < 2 → parseFieldDescriptor (TX6 k).2.2.1 = some (tyX6 k) := by decide +kernel
abbrev cX6_init : ByteArray := prog_8_method_1_code
def yX6_init : MethodName := ⟨RX6, "<init>", "()V"⟩
abbrev cX6_count : ByteArray := prog_8_method_2_code
def yX6_count : MethodName := ⟨RX6, "count", "()I"⟩
abbrev cX6_has : ByteArray := prog_8_method_3_code
def yX6_has : MethodName := ⟨RX6, "has", "(I)Z"⟩
abbrev cX6_weightOf : ByteArray := prog_8_method_4_code
def yX6_weightOf : MethodName := ⟨RX6, "weightOf", "(I)I"⟩
abbrev cX6_setWeight : ByteArray := prog_8_method_5_code
def yX6_setWeight : MethodName := ⟨RX6, "setWeight", "(II)V"⟩
abbrev cX6_clear : ByteArray := prog_8_method_6_code
def yX6_clear : MethodName := ⟨RX6, "clear", "()V"⟩
abbrev cX6_add : ByteArray := prog_8_method_7_code
def yX6_add : MethodName := ⟨RX6, "add", "(I)V"⟩
abbrev cX6_weightTogether : ByteArray := prog_8_method_8_code
def yX6_weightTogether : MethodName := ⟨RX6, "weightTogether", "(I)I"⟩
abbrev cX6_greatestOf : ByteArray := prog_8_method_9_code
def yX6_greatestOf : MethodName := ⟨RX6, "greatestOf", "(I)I"⟩
def RX7 : String := "ByHand"
def TX7 : u_T := fun k => match k with
  | 0 => ("ByHand", "things", "LByHand$Things;", true)
  | 1 => ("ByHand", "hands", "LByHand$Hands;", true)
  | 2 => ("ByHand", "sayings", "LByHand$Sayings;", true)
  | 3 => ("ByHand", "sheets", "LByHand$Sheets;", true)
  | 4 => ("ByHand", "telling", "LByHand$Telling;", true)
  | 5 => ("ByHand", "otherTelling", "LByHand$Telling;", true)
  | 6 => ("ByHand", "handRow", "LByHand$HandRow;", true)
  | 7 => ("ByHand", "traceLeft", "I", false)
  | _ => ("ByHand", "latestFault", "I", false)
def tyX7 : Nat → FieldType := fun k => match k with
  | 0 => .object "ByHand$Things"
  | 1 => .object "ByHand$Hands"
  | 2 => .object "ByHand$Sayings"
  | 3 => .object "ByHand$Sheets"
  | 4 => .object "ByHand$Telling"
  | 5 => .object "ByHand$Telling"
  | 6 => .object "ByHand$HandRow"
  | 7 => .int
  | _ => .int
theorem nmX7 : ∀ a, a < 9 → ∀ b, b < 9 → a ≠ b → (TX7 a).2.1 ≠ (TX7 b).2.1 := by decide +kernel
theorem tyX7_ok : ∀ k, k < 9 → parseFieldDescriptor (TX7 k).2.2.1 = some (tyX7 k) := by decide +kernel
abbrev cX7_init : ByteArray := prog_1_method_1_code
def yX7_init : MethodName := ⟨RX7, "<init>", "()V"⟩
abbrev cX7_market : ByteArray := prog_1_method_2_code
def yX7_market : MethodName := ⟨RX7, "market", "(IIII)I"⟩
abbrev cX7_weight : ByteArray := prog_1_method_3_code
def yX7_weight : MethodName := ⟨RX7, "weight", "(I)I"⟩
abbrev cX7_weigh : ByteArray := prog_1_method_4_code
def yX7_weigh : MethodName := ⟨RX7, "weigh", "(II)I"⟩
abbrev cX7_hand : ByteArray := prog_1_method_5_code
def yX7_hand : MethodName := ⟨RX7, "hand", "(II)I"⟩
abbrev cX7_ofHand : ByteArray := prog_1_method_6_code
def yX7_ofHand : MethodName := ⟨RX7, "ofHand", "(II)I"⟩
abbrev cX7_tells : ByteArray := prog_1_method_7_code
def yX7_tells : MethodName := ⟨RX7, "tells", "(III)I"⟩
abbrev cX7_alike : ByteArray := prog_1_method_8_code
def yX7_alike : MethodName := ⟨RX7, "alike", "(II)I"⟩
abbrev cX7_finer : ByteArray := prog_1_method_9_code
def yX7_finer : MethodName := ⟨RX7, "finer", "(II)I"⟩
abbrev cX7_way : ByteArray := prog_1_method_10_code
def yX7_way : MethodName := ⟨RX7, "way", "(IIII)I"⟩
abbrev cX7_noon : ByteArray := prog_1_method_11_code
def yX7_noon : MethodName := ⟨RX7, "noon", "(III)I"⟩
abbrev cX7_gain : ByteArray := prog_1_method_12_code
def yX7_gain : MethodName := ⟨RX7, "gain", "(IIIII)I"⟩
abbrev cX7_swappedUp : ByteArray := prog_1_method_13_code
def yX7_swappedUp : MethodName := ⟨RX7, "swappedUp", "(I)I"⟩
abbrev cX7_saying : ByteArray := prog_1_method_14_code
def yX7_saying : MethodName := ⟨RX7, "saying", "(IIII)I"⟩
abbrev cX7_back : ByteArray := prog_1_method_15_code
def yX7_back : MethodName := ⟨RX7, "back", "(I)I"⟩
abbrev cX7_untrue : ByteArray := prog_1_method_16_code
def yX7_untrue : MethodName := ⟨RX7, "untrue", "()I"⟩
abbrev cX7_leaves : ByteArray := prog_1_method_17_code
def yX7_leaves : MethodName := ⟨RX7, "leaves", "(II)I"⟩
abbrev cX7_breaks : ByteArray := prog_1_method_18_code
def yX7_breaks : MethodName := ⟨RX7, "breaks", "(II)I"⟩
abbrev cX7_falseByWeight : ByteArray := prog_1_method_19_code
def yX7_falseByWeight : MethodName := ⟨RX7, "falseByWeight", "(II)I"⟩
abbrev cX7_rows : ByteArray := prog_1_method_20_code
def yX7_rows : MethodName := ⟨RX7, "rows", "(II)I"⟩
abbrev cX7_longest : ByteArray := prog_1_method_21_code
def yX7_longest : MethodName := ⟨RX7, "longest", "(I)I"⟩
abbrev cX7_crowd : ByteArray := prog_1_method_22_code
def yX7_crowd : MethodName := ⟨RX7, "crowd", "(I)I"⟩
abbrev cX7_measure : ByteArray := prog_1_method_23_code
def yX7_measure : MethodName := ⟨RX7, "measure", "(II)I"⟩
abbrev cX7_copies : ByteArray := prog_1_method_24_code
def yX7_copies : MethodName := ⟨RX7, "copies", "(IIIIII)I"⟩
abbrev cX7_bestRow : ByteArray := prog_1_method_25_code
def yX7_bestRow : MethodName := ⟨RX7, "bestRow", "(IIIIII)I"⟩
abbrev cX7_takeHandRow : ByteArray := prog_1_method_26_code
def yX7_takeHandRow : MethodName := ⟨RX7, "takeHandRow", "(IIII)I"⟩
abbrev cX7_even : ByteArray := prog_1_method_27_code
def yX7_even : MethodName := ⟨RX7, "even", "(II)I"⟩
abbrev cX7_odds : ByteArray := prog_1_method_28_code
def yX7_odds : MethodName := ⟨RX7, "odds", "(II)J"⟩
abbrev cX7_commonDivisor : ByteArray := prog_1_method_29_code
def yX7_commonDivisor : MethodName := ⟨RX7, "commonDivisor", "(II)I"⟩
abbrev cX7_sheet : ByteArray := prog_1_method_30_code
def yX7_sheet : MethodName := ⟨RX7, "sheet", "(III)I"⟩
abbrev cX7_lose : ByteArray := prog_1_method_31_code
def yX7_lose : MethodName := ⟨RX7, "lose", "(I)I"⟩
abbrev cX7_put : ByteArray := prog_1_method_32_code
def yX7_put : MethodName := ⟨RX7, "put", "(III)I"⟩
abbrev cX7_cell : ByteArray := prog_1_method_33_code
def yX7_cell : MethodName := ⟨RX7, "cell", "(III)J"⟩
abbrev cX7_copy : ByteArray := prog_1_method_34_code
def yX7_copy : MethodName := ⟨RX7, "copy", "(IIIII)I"⟩
abbrev cX7_tell : ByteArray := prog_1_method_35_code
def yX7_tell : MethodName := ⟨RX7, "tell", "(I)I"⟩
abbrev cX7_shake : ByteArray := prog_1_method_36_code
def yX7_shake : MethodName := ⟨RX7, "shake", "(I)I"⟩
abbrev cX7_as : ByteArray := prog_1_method_37_code
def yX7_as : MethodName := ⟨RX7, "as", "(II)I"⟩
abbrev cX7_trace : ByteArray := prog_1_method_38_code
def yX7_trace : MethodName := ⟨RX7, "trace", "()I"⟩
abbrev cX7_fault : ByteArray := prog_1_method_39_code
def yX7_fault : MethodName := ⟨RX7, "fault", "()I"⟩
abbrev cX7_many : ByteArray := prog_1_method_40_code
def yX7_many : MethodName := ⟨RX7, "many", "(I)I"⟩
abbrev cX7_handBody : ByteArray := prog_1_method_41_code
def yX7_handBody : MethodName := ⟨RX7, "handBody", "(I)I"⟩
abbrev cX7_steadyBody : ByteArray := prog_1_method_42_code
def yX7_steadyBody : MethodName := ⟨RX7, "steadyBody", "(I)I"⟩
abbrev cX7_smithBody : ByteArray := prog_1_method_43_code
def yX7_smithBody : MethodName := ⟨RX7, "smithBody", "(I)I"⟩
abbrev cX7_lentBody : ByteArray := prog_1_method_44_code
def yX7_lentBody : MethodName := ⟨RX7, "lentBody", "(I)I"⟩
abbrev cX7_smithsOwnBody : ByteArray := prog_1_method_45_code
def yX7_smithsOwnBody : MethodName := ⟨RX7, "smithsOwnBody", "()I"⟩
abbrev cX7_leaveTrace : ByteArray := prog_1_method_46_code
def yX7_leaveTrace : MethodName := ⟨RX7, "leaveTrace", "(I)V"⟩
abbrev cX7_faulty : ByteArray := prog_1_method_47_code
def yX7_faulty : MethodName := ⟨RX7, "faulty", "(I)I"⟩
abbrev cX7_isSort : ByteArray := prog_1_method_48_code
def yX7_isSort : MethodName := ⟨RX7, "isSort", "(I)Z"⟩
abbrev cX7_isKind : ByteArray := prog_1_method_49_code
def yX7_isKind : MethodName := ⟨RX7, "isKind", "(I)Z"⟩
abbrev cX7_isFirstOrSecond : ByteArray := prog_1_method_50_code
def yX7_isFirstOrSecond : MethodName := ⟨RX7, "isFirstOrSecond", "(I)Z"⟩
abbrev cX7_isIn : ByteArray := prog_1_method_51_code
def yX7_isIn : MethodName := ⟨RX7, "isIn", "(II)Z"⟩
def RX8 : String := "ByHandModel"
def TX8 : u_T := fun k => match k with
  | 0 => ("ByHandModel", "fault", "I", false)
  | 1 => ("ByHandModel", "trace", "I", false)
  | 2 => ("ByHandModel", "sorts", "[I", true)
  | 3 => ("ByHandModel", "sheetLong", "[I", true)
  | 4 => ("ByHandModel", "cells", "[I", true)
  | 5 => ("ByHandModel", "things", "I", false)
  | 6 => ("ByHandModel", "weight", "[I", true)
  | 7 => ("ByHandModel", "at", "I", false)
  | 8 => ("ByHandModel", "readThings", "I", false)
  | 9 => ("ByHandModel", "readWeight", "[I", true)
  | 10 => ("ByHandModel", "hands", "I", false)
  | 11 => ("ByHandModel", "kind", "[I", true)
  | 12 => ("ByHandModel", "part", "[I", true)
  | 13 => ("ByHandModel", "far", "[I", true)
  | 14 => ("ByHandModel", "sayings", "I", false)
  | 15 => ("ByHandModel", "saidBy", "[I", true)
  | 16 => ("ByHandModel", "saidFirst", "[I", true)
  | 17 => ("ByHandModel", "saidOther", "[I", true)
  | 18 => ("ByHandModel", "saidIs", "[I", true)
  | 19 => ("ByHandModel", "ways", "[I", true)
  | 20 => ("ByHandModel", "chain", "[I", true)
  | 21 => ("ByHandModel", "row", "[I", true)
  | _ => ("ByHandModel", "bestIs", "[I", true)
def tyX8 : Nat → FieldType := fun k => match k with
  | 0 => .int
  | 1 => .int
  | 2 => .array .int
  | 3 => .array .int
  | 4 => .array .int
  | 5 => .int
  | 6 => .array .int
  | 7 => .int
  | 8 => .int
  | 9 => .array .int
  | 10 => .int
  | 11 => .array .int
  | 12 => .array .int
  | 13 => .array .int
  | 14 => .int
  | 15 => .array .int
  | 16 => .array .int
  | 17 => .array .int
  | 18 => .array .int
  | 19 => .array .int
  | 20 => .array .int
  | 21 => .array .int
  | _ => .array .int
theorem nmX8 : ∀ a, a < 23 → ∀ b, b < 23 → a ≠ b → (TX8 a).2.1 ≠ (TX8 b).2.1 := by decide +kernel
theorem tyX8_ok : ∀ k, k < 23 → parseFieldDescriptor (TX8 k).2.2.1 = some (tyX8 k) := by decide +kernel
abbrev cX8_init : ByteArray := prog_10_method_1_code
def yX8_init : MethodName := ⟨RX8, "<init>", "()V"⟩
abbrev cX8_fails : ByteArray := prog_10_method_3_code
def yX8_fails : MethodName := ⟨RX8, "fails", "(I)I"⟩
abbrev cX8_lost : ByteArray := prog_10_method_4_code
def yX8_lost : MethodName := ⟨RX8, "lost", "(I)J"⟩
abbrev cX8_within : ByteArray := prog_10_method_5_code
def yX8_within : MethodName := ⟨RX8, "within", "(III)Z"⟩
abbrev cX8_share : ByteArray := prog_10_method_6_code
def yX8_share : MethodName := ⟨RX8, "share", "(JJI)J"⟩
abbrev cX8_bits : ByteArray := prog_10_method_7_code
def yX8_bits : MethodName := ⟨RX8, "bits", "(I)I"⟩
abbrev cX8_isSheet : ByteArray := prog_10_method_8_code
def yX8_isSheet : MethodName := ⟨RX8, "isSheet", "(I)Z"⟩
abbrev cX8_isSort : ByteArray := prog_10_method_9_code
def yX8_isSort : MethodName := ⟨RX8, "isSort", "(I)Z"⟩
abbrev cX8_against : ByteArray := prog_10_method_10_code
def yX8_against : MethodName := ⟨RX8, "against", "(IIII)I"⟩
abbrev cX8_isThing : ByteArray := prog_10_method_11_code
def yX8_isThing : MethodName := ⟨RX8, "isThing", "(I)Z"⟩
abbrev cX8_market : ByteArray := prog_10_method_12_code
def yX8_market : MethodName := ⟨RX8, "market", "(IIII)I"⟩
abbrev cX8_readMarket : ByteArray := prog_10_method_13_code
def yX8_readMarket : MethodName := ⟨RX8, "readMarket", "(I)Z"⟩
abbrev cX8_weight : ByteArray := prog_10_method_14_code
def yX8_weight : MethodName := ⟨RX8, "weight", "(I)I"⟩
abbrev cX8_isWeight : ByteArray := prog_10_method_15_code
def yX8_isWeight : MethodName := ⟨RX8, "isWeight", "(I)Z"⟩
abbrev cX8_weigh : ByteArray := prog_10_method_16_code
def yX8_weigh : MethodName := ⟨RX8, "weigh", "(II)I"⟩
abbrev cX8_isHand : ByteArray := prog_10_method_17_code
def yX8_isHand : MethodName := ⟨RX8, "isHand", "(I)Z"⟩
abbrev cX8_hand : ByteArray := prog_10_method_18_code
def yX8_hand : MethodName := ⟨RX8, "hand", "(II)I"⟩
abbrev cX8_ofHand : ByteArray := prog_10_method_19_code
def yX8_ofHand : MethodName := ⟨RX8, "ofHand", "(II)I"⟩
abbrev cX8_times : ByteArray := prog_10_method_20_code
def yX8_times : MethodName := ⟨RX8, "times", "(I)I"⟩
abbrev cX8_isTold : ByteArray := prog_10_method_21_code
def yX8_isTold : MethodName := ⟨RX8, "isTold", "(III)Z"⟩
abbrev cX8_tellsThem : ByteArray := prog_10_method_22_code
def yX8_tellsThem : MethodName := ⟨RX8, "tellsThem", "(III)Z"⟩
abbrev cX8_areAlike : ByteArray := prog_10_method_23_code
def yX8_areAlike : MethodName := ⟨RX8, "areAlike", "(III)Z"⟩
abbrev cX8_tells : ByteArray := prog_10_method_24_code
def yX8_tells : MethodName := ⟨RX8, "tells", "(III)I"⟩
abbrev cX8_alikeTo : ByteArray := prog_10_method_25_code
def yX8_alikeTo : MethodName := ⟨RX8, "alikeTo", "(II)I"⟩
abbrev cX8_alike : ByteArray := prog_10_method_26_code
def yX8_alike : MethodName := ⟨RX8, "alike", "(II)I"⟩
abbrev cX8_finer : ByteArray := prog_10_method_27_code
def yX8_finer : MethodName := ⟨RX8, "finer", "(II)I"⟩
abbrev cX8_findFar : ByteArray := prog_10_method_28_code
def yX8_findFar : MethodName := ⟨RX8, "findFar", "(II)V"⟩
abbrev cX8_way : ByteArray := prog_10_method_29_code
def yX8_way : MethodName := ⟨RX8, "way", "(IIII)I"⟩
abbrev cX8_nextOf : ByteArray := prog_10_method_30_code
def yX8_nextOf : MethodName := ⟨RX8, "nextOf", "(II)I"⟩
abbrev cX8_noon : ByteArray := prog_10_method_31_code
def yX8_noon : MethodName := ⟨RX8, "noon", "(III)I"⟩
abbrev cX8_gain : ByteArray := prog_10_method_32_code
def yX8_gain : MethodName := ⟨RX8, "gain", "(IIIII)I"⟩
abbrev cX8_isGot : ByteArray := prog_10_method_33_code
def yX8_isGot : MethodName := ⟨RX8, "isGot", "(IIII)Z"⟩
abbrev cX8_saying : ByteArray := prog_10_method_34_code
def yX8_saying : MethodName := ⟨RX8, "saying", "(IIII)I"⟩
abbrev cX8_back : ByteArray := prog_10_method_35_code
def yX8_back : MethodName := ⟨RX8, "back", "(I)I"⟩
abbrev cX8_isSo : ByteArray := prog_10_method_36_code
def yX8_isSo : MethodName := ⟨RX8, "isSo", "(I)Z"⟩
abbrev cX8_untrue : ByteArray := prog_10_method_37_code
def yX8_untrue : MethodName := ⟨RX8, "untrue", "()I"⟩
abbrev cX8_falseOf : ByteArray := prog_10_method_38_code
def yX8_falseOf : MethodName := ⟨RX8, "falseOf", "(I)I"⟩
abbrev cX8_leaves : ByteArray := prog_10_method_39_code
def yX8_leaves : MethodName := ⟨RX8, "leaves", "(II)I"⟩
abbrev cX8_breaks : ByteArray := prog_10_method_40_code
def yX8_breaks : MethodName := ⟨RX8, "breaks", "(II)I"⟩
abbrev cX8_mayStand : ByteArray := prog_10_method_41_code
def yX8_mayStand : MethodName := ⟨RX8, "mayStand", "(III)Z"⟩
abbrev cX8_rows : ByteArray := prog_10_method_42_code
def yX8_rows : MethodName := ⟨RX8, "rows", "(II)I"⟩
abbrev cX8_inFirstRow : ByteArray := prog_10_method_43_code
def yX8_inFirstRow : MethodName := ⟨RX8, "inFirstRow", "(II)I"⟩
abbrev cX8_longest : ByteArray := prog_10_method_44_code
def yX8_longest : MethodName := ⟨RX8, "longest", "(I)I"⟩
abbrev cX8_isCrowd : ByteArray := prog_10_method_45_code
def yX8_isCrowd : MethodName := ⟨RX8, "isCrowd", "(II)Z"⟩
abbrev cX8_crowd : ByteArray := prog_10_method_46_code
def yX8_crowd : MethodName := ⟨RX8, "crowd", "(I)I"⟩
abbrev cX8_measure : ByteArray := prog_10_method_47_code
def yX8_measure : MethodName := ⟨RX8, "measure", "(II)I"⟩
abbrev cX8_greatest : ByteArray := prog_10_method_48_code
def yX8_greatest : MethodName := ⟨RX8, "greatest", "(II)I"⟩
abbrev cX8_least : ByteArray := prog_10_method_49_code
def yX8_least : MethodName := ⟨RX8, "least", "(II)I"⟩
abbrev cX8_copied : ByteArray := prog_10_method_50_code
def yX8_copied : MethodName := ⟨RX8, "copied", "(III)I"⟩
abbrev cX8_layRow : ByteArray := prog_10_method_51_code
def yX8_layRow : MethodName := ⟨RX8, "layRow", "(III)I"⟩
abbrev cX8_copies : ByteArray := prog_10_method_52_code
def yX8_copies : MethodName := ⟨RX8, "copies", "(IIIIII)I"⟩
abbrev cX8_exchange : ByteArray := prog_10_method_53_code
def yX8_exchange : MethodName := ⟨RX8, "exchange", "(II)V"⟩
abbrev cX8_nextRow : ByteArray := prog_10_method_54_code
def yX8_nextRow : MethodName := ⟨RX8, "nextRow", "(I)Z"⟩
abbrev cX8_findBestRow : ByteArray := prog_10_method_55_code
def yX8_findBestRow : MethodName := ⟨RX8, "findBestRow", "(II)I"⟩
abbrev cX8_bestRow : ByteArray := prog_10_method_56_code
def yX8_bestRow : MethodName := ⟨RX8, "bestRow", "(IIIIII)I"⟩
abbrev cX8_sumOf : ByteArray := prog_10_method_57_code
def yX8_sumOf : MethodName := ⟨RX8, "sumOf", "(I)I"⟩
abbrev cX8_areEven : ByteArray := prog_10_method_58_code
def yX8_areEven : MethodName := ⟨RX8, "areEven", "(III)Z"⟩
abbrev cX8_even : ByteArray := prog_10_method_59_code
def yX8_even : MethodName := ⟨RX8, "even", "(II)I"⟩
abbrev cX8_odds : ByteArray := prog_10_method_60_code
def yX8_odds : MethodName := ⟨RX8, "odds", "(II)J"⟩
abbrev cX8_sheet : ByteArray := prog_10_method_61_code
def yX8_sheet : MethodName := ⟨RX8, "sheet", "(III)I"⟩
abbrev cX8_lose : ByteArray := prog_10_method_62_code
def yX8_lose : MethodName := ⟨RX8, "lose", "(I)I"⟩
abbrev cX8_put : ByteArray := prog_10_method_63_code
def yX8_put : MethodName := ⟨RX8, "put", "(III)I"⟩
abbrev cX8_cell : ByteArray := prog_10_method_64_code
def yX8_cell : MethodName := ⟨RX8, "cell", "(III)J"⟩
abbrev cX8_copy : ByteArray := prog_10_method_65_code
def yX8_copy : MethodName := ⟨RX8, "copy", "(IIIII)I"⟩
abbrev cX8_begins : ByteArray := prog_10_method_66_code
def yX8_begins : MethodName := ⟨RX8, "begins", "(I)V"⟩
abbrev cX8_tell : ByteArray := prog_10_method_67_code
def yX8_tell : MethodName := ⟨RX8, "tell", "(I)I"⟩
abbrev cX8_shake : ByteArray := prog_10_method_68_code
def yX8_shake : MethodName := ⟨RX8, "shake", "(I)I"⟩
abbrev cX8_as : ByteArray := prog_10_method_69_code
def yX8_as : MethodName := ⟨RX8, "as", "(II)I"⟩
abbrev cX8_trace : ByteArray := prog_10_method_70_code
def yX8_trace : MethodName := ⟨RX8, "trace", "()I"⟩
abbrev cX8_fault : ByteArray := prog_10_method_71_code
def yX8_fault : MethodName := ⟨RX8, "fault", "()I"⟩
abbrev cX8_many : ByteArray := prog_10_method_72_code
def yX8_many : MethodName := ⟨RX8, "many", "(I)I"⟩
def RJ6 : String := "java/lang/Integer"
def TJ6 : u_T := fun k => match k with
  | _ => ("", "", "", false)
def tyJ6 : Nat → FieldType := fun k => match k with
  | _ => .int
theorem nmJ6 : ∀ a, a < 0 → ∀ b, b < 0 → a ≠ b → (TJ6 a).2.1 ≠ (TJ6 b).2.1 := by decide +kernel
theorem tyJ6_ok : ∀ k, k < 0 → parseFieldDescriptor (TJ6 k).2.2.1 = some (tyJ6 k) := by decide +kernel
abbrev cJ6_bitCount_0f7a4 : ByteArray := prog_11_method_49_code
def yJ6_bitCount_0f7a4 : MethodName := ⟨RJ6, "bitCount", "(I)I"⟩
def RJ9 : String := "java/lang/Math"
def TJ9 : u_T := fun k => match k with
  | _ => ("", "", "", false)
def tyJ9 : Nat → FieldType := fun k => match k with
  | _ => .int
theorem nmJ9 : ∀ a, a < 0 → ∀ b, b < 0 → a ≠ b → (TJ9 a).2.1 ≠ (TJ9 b).2.1 := by decide +kernel
theorem tyJ9_ok : ∀ k, k < 0 → parseFieldDescriptor (TJ9 k).2.2.1 = some (tyJ9 k) := by decide +kernel
abbrev cJ9_max_7cf53 : ByteArray := prog_12_method_65_code
def yJ9_max_7cf53 : MethodName := ⟨RJ9, "max", "(II)I"⟩
abbrev cJ9_min_7cf53 : ByteArray := prog_12_method_69_code
def yJ9_min_7cf53 : MethodName := ⟨RJ9, "min", "(II)I"⟩
def RJ10 : String := "java/lang/System"
def TJ10 : u_T := fun k => match k with
  | _ => ("", "", "", false)
def tyJ10 : Nat → FieldType := fun k => match k with
  | _ => .int
theorem nmJ10 : ∀ a, a < 0 → ∀ b, b < 0 → a ≠ b → (TJ10 a).2.1 ≠ (TJ10 b).2.1 := by decide +kernel
theorem tyJ10_ok : ∀ k, k < 0 → parseFieldDescriptor (TJ10 k).2.2.1 = some (tyJ10 k) := by decide +kernel
def RL : String := "ByHandLaw"
abbrev cL_law : ByteArray := code
def yL_law : MethodName := ⟨RL, "law", "([I)Z"⟩
abbrev vwCl : List vw_C := [(RX0, TX0, 3), (RX1, TX1, 3), (RX2, TX2, 5), (RX3, TX3, 4), (RX4, TX4, 4), (RX6, TX6, 2), (RX7, TX7, 9), (RX8, TX8, 23)]
/-- the words that every contract stands on: the tables' good words, and 'selects' of the private methods -/
def wsL_law : List Cond := k2_sels lw_privs ++ tables_1.filter goodWord
theorem wsL_law_in : ∀ w ∈ wsL_law, w ∈ lw_tbl := fun w h => (List.mem_append.mp h).elim (fun h => List.mem_append_left _ h) (fun h => List.mem_append_right _ (List.mem_filter.mp h).1)
theorem wsL_sel_good : (k2_sels lw_privs).all goodWord = true := by decide +kernel
theorem wsL_good : ∀ w ∈ wsL_law, (w.onTables && w.keeps) = true ∨ ∃ ty, w = .arrayClass ty := fun w h => good_of_word ((List.mem_append.mp h).elim (fun h => List.all_eq_true.mp wsL_sel_good w h) (fun h => (List.mem_filter.mp h).2))
theorem wsL_of {w : Cond} (h : w ∈ tables_1) (hg : goodWord w = true) : w ∈ wsL_law := List.mem_append_right _ (List.mem_filter.mpr ⟨h, hg⟩)
theorem wsL_sel {w : Cond} (h : w ∈ k2_sels lw_privs) : w ∈ wsL_law := List.mem_append_left _ h
theorem mi_L : Cond.initialized RL ∈ wsL_law := wsL_of (List.mem_of_getElem? (i := 0) (by decide +kernel)) rfl
theorem mi_X7 : Cond.initialized RX7 ∈ wsL_law := wsL_of (List.mem_of_getElem? (i := 1) (by decide +kernel)) rfl
theorem mi_X6 : Cond.initialized RX6 ∈ wsL_law := wsL_of (List.mem_of_getElem? (i := 2) (by decide +kernel)) rfl
theorem mi_X1 : Cond.initialized RX1 ∈ wsL_law := wsL_of (List.mem_of_getElem? (i := 3) (by decide +kernel)) rfl
theorem mi_X2 : Cond.initialized RX2 ∈ wsL_law := wsL_of (List.mem_of_getElem? (i := 4) (by decide +kernel)) rfl
theorem mi_X3 : Cond.initialized RX3 ∈ wsL_law := wsL_of (List.mem_of_getElem? (i := 5) (by decide +kernel)) rfl
theorem mi_X4 : Cond.initialized RX4 ∈ wsL_law := wsL_of (List.mem_of_getElem? (i := 6) (by decide +kernel)) rfl
theorem mi_X0 : Cond.initialized RX0 ∈ wsL_law := wsL_of (List.mem_of_getElem? (i := 7) (by decide +kernel)) rfl
theorem mi_X8 : Cond.initialized RX8 ∈ wsL_law := wsL_of (List.mem_of_getElem? (i := 8) (by decide +kernel)) rfl
theorem mi_X5 : Cond.initialized RX5 ∈ wsL_law := wsL_of (List.mem_of_getElem? (i := 9) (by decide +kernel)) rfl
theorem mi_J9 : Cond.initialized RJ9 ∈ wsL_law := wsL_of (List.mem_of_getElem? (i := 10) (by decide +kernel)) rfl
theorem mi_J6 : Cond.initialized RJ6 ∈ wsL_law := wsL_of (List.mem_of_getElem? (i := 11) (by decide +kernel)) rfl
theorem mi_J10 : Cond.initialized RJ10 ∈ wsL_law := wsL_of (List.mem_of_getElem? (i := 12) (by decide +kernel)) rfl
theorem mc_X7_init : Cond.code yX7_init cX7_init 1 none ∈ wsL_law := wsL_of (List.mem_append_left _ (List.mem_of_getElem? (i := 17) rfl)) rfl
theorem mn_X7_init : Cond.instanceMethod yX7_init ∈ wsL_law := wsL_of (List.mem_of_getElem? (i := 16) (by decide +kernel)) rfl
theorem mc_X6_init : Cond.code yX6_init cX6_init 1 none ∈ wsL_law := wsL_of (List.mem_append_left _ (List.mem_of_getElem? (i := 25) rfl)) rfl
theorem mn_X6_init : Cond.instanceMethod yX6_init ∈ wsL_law := wsL_of (List.mem_of_getElem? (i := 24) (by decide +kernel)) rfl
theorem mc_X1_init : Cond.code yX1_init cX1_init 1 none ∈ wsL_law := wsL_of (List.mem_append_left _ (List.mem_of_getElem? (i := 39) rfl)) rfl
theorem mn_X1_init : Cond.instanceMethod yX1_init ∈ wsL_law := wsL_of (List.mem_of_getElem? (i := 38) (by decide +kernel)) rfl
theorem mc_X2_init : Cond.code yX2_init cX2_init 1 none ∈ wsL_law := wsL_of (List.mem_append_left _ (List.mem_of_getElem? (i := 55) rfl)) rfl
theorem mn_X2_init : Cond.instanceMethod yX2_init ∈ wsL_law := wsL_of (List.mem_of_getElem? (i := 54) (by decide +kernel)) rfl
theorem mc_X3_init : Cond.code yX3_init cX3_init 1 none ∈ wsL_law := wsL_of (List.mem_append_left _ (List.mem_of_getElem? (i := 77) rfl)) rfl
theorem mn_X3_init : Cond.instanceMethod yX3_init ∈ wsL_law := wsL_of (List.mem_of_getElem? (i := 76) (by decide +kernel)) rfl
theorem mc_X4_init : Cond.code yX4_init cX4_init 1 none ∈ wsL_law := wsL_of (List.mem_append_left _ (List.mem_of_getElem? (i := 99) rfl)) rfl
theorem mn_X4_init : Cond.instanceMethod yX4_init ∈ wsL_law := wsL_of (List.mem_of_getElem? (i := 98) (by decide +kernel)) rfl
theorem mc_X0_init : Cond.code yX0_init cX0_init 1 none ∈ wsL_law := wsL_of (List.mem_append_left _ (List.mem_of_getElem? (i := 118) rfl)) rfl
theorem mn_X0_init : Cond.instanceMethod yX0_init ∈ wsL_law := wsL_of (List.mem_of_getElem? (i := 117) (by decide +kernel)) rfl
theorem mc_X7_market : Cond.code yX7_market cX7_market 7 (some .int) ∈ wsL_law := wsL_of (List.mem_append_left _ (List.mem_of_getElem? (i := 161) rfl)) rfl
theorem mn_X7_market : Cond.instanceMethod yX7_market ∈ wsL_law := wsL_of (List.mem_of_getElem? (i := 159) (by decide +kernel)) rfl
theorem mv_X7_market : Cond.selects RX7 yX7_market yX7_market ∈ wsL_law := wsL_of (List.mem_of_getElem? (i := 160) (by decide +kernel)) rfl
theorem mc_X3_has : Cond.code yX3_has cX3_has 2 (some .boolean) ∈ wsL_law := wsL_of (List.mem_append_left _ (List.mem_of_getElem? (i := 165) rfl)) rfl
theorem mn_X3_has : Cond.instanceMethod yX3_has ∈ wsL_law := wsL_of (List.mem_of_getElem? (i := 163) (by decide +kernel)) rfl
theorem mv_X3_has : Cond.selects RX3 yX3_has yX3_has ∈ wsL_law := wsL_of (List.mem_of_getElem? (i := 164) (by decide +kernel)) rfl
theorem mc_X7_isSort : Cond.code yX7_isSort cX7_isSort 1 (some .boolean) ∈ wsL_law := wsL_of (List.mem_append_left _ (List.mem_of_getElem? (i := 168) rfl)) rfl
theorem ms_X7_isSort : Cond.static yX7_isSort ∈ wsL_law := wsL_of (List.mem_of_getElem? (i := 167) (by decide +kernel)) rfl
theorem mc_X3_faultOfTaking : Cond.code yX3_faultOfTaking cX3_faultOfTaking 5 (some .int) ∈ wsL_law := wsL_of (List.mem_append_left _ (List.mem_of_getElem? (i := 172) rfl)) rfl
theorem mn_X3_faultOfTaking : Cond.instanceMethod yX3_faultOfTaking ∈ wsL_law := wsL_of (List.mem_of_getElem? (i := 170) (by decide +kernel)) rfl
theorem mv_X3_faultOfTaking : Cond.selects RX3 yX3_faultOfTaking yX3_faultOfTaking ∈ wsL_law := wsL_of (List.mem_of_getElem? (i := 171) (by decide +kernel)) rfl
theorem mc_X3_hasRow : Cond.code yX3_hasRow cX3_hasRow 2 (some .boolean) ∈ wsL_law := wsL_of (List.mem_append_left _ (List.mem_of_getElem? (i := 176) rfl)) rfl
theorem mn_X3_hasRow : Cond.instanceMethod yX3_hasRow ∈ wsL_law := wsL_of (List.mem_of_getElem? (i := 174) (by decide +kernel)) rfl
theorem mv_X3_hasRow : Cond.selects RX3 yX3_hasRow yX3_hasRow ∈ wsL_law := wsL_of (List.mem_of_getElem? (i := 175) (by decide +kernel)) rfl
theorem mc_X3_sortOf : Cond.code yX3_sortOf cX3_sortOf 2 (some .int) ∈ wsL_law := wsL_of (List.mem_append_left _ (List.mem_of_getElem? (i := 181) rfl)) rfl
theorem mn_X3_sortOf : Cond.instanceMethod yX3_sortOf ∈ wsL_law := wsL_of (List.mem_of_getElem? (i := 179) (by decide +kernel)) rfl
theorem mv_X3_sortOf : Cond.selects RX3 yX3_sortOf yX3_sortOf ∈ wsL_law := wsL_of (List.mem_of_getElem? (i := 180) (by decide +kernel)) rfl
theorem mc_X3_hasCells : Cond.code yX3_hasCells cX3_hasCells 4 (some .boolean) ∈ wsL_law := wsL_of (List.mem_append_left _ (List.mem_of_getElem? (i := 185) rfl)) rfl
theorem mn_X3_hasCells : Cond.instanceMethod yX3_hasCells ∈ wsL_law := wsL_of (List.mem_of_getElem? (i := 183) (by decide +kernel)) rfl
theorem mv_X3_hasCells : Cond.selects RX3 yX3_hasCells yX3_hasCells ∈ wsL_law := wsL_of (List.mem_of_getElem? (i := 184) (by decide +kernel)) rfl
theorem mc_X7_faulty : Cond.code yX7_faulty cX7_faulty 2 (some .int) ∈ wsL_law := wsL_of (List.mem_append_left _ (List.mem_of_getElem? (i := 189) rfl)) rfl
theorem mn_X7_faulty : Cond.instanceMethod yX7_faulty ∈ wsL_law := wsL_of (List.mem_of_getElem? (i := 188) (by decide +kernel)) rfl
theorem mv_X7_faulty : Cond.selects RX7 yX7_faulty yX7_faulty ∈ wsL_law := wsL_sel (List.mem_of_getElem? (i := 0) (by decide +kernel))
theorem mc_X5_firstFault : Cond.code yX5_firstFault cX5_firstFault 6 (some .int) ∈ wsL_law := wsL_of (List.mem_append_left _ (List.mem_of_getElem? (i := 192) rfl)) rfl
theorem ms_X5_firstFault : Cond.static yX5_firstFault ∈ wsL_law := wsL_of (List.mem_of_getElem? (i := 191) (by decide +kernel)) rfl
theorem mc_X5_goesOn : Cond.code yX5_goesOn cX5_goesOn 6 (some .boolean) ∈ wsL_law := wsL_of (List.mem_append_left _ (List.mem_of_getElem? (i := 195) rfl)) rfl
theorem ms_X5_goesOn : Cond.static yX5_goesOn ∈ wsL_law := wsL_of (List.mem_of_getElem? (i := 194) (by decide +kernel)) rfl
theorem mc_X3_cellOf : Cond.code yX3_cellOf cX3_cellOf 3 (some .int) ∈ wsL_law := wsL_of (List.mem_append_left _ (List.mem_of_getElem? (i := 199) rfl)) rfl
theorem mn_X3_cellOf : Cond.instanceMethod yX3_cellOf ∈ wsL_law := wsL_of (List.mem_of_getElem? (i := 197) (by decide +kernel)) rfl
theorem mv_X3_cellOf : Cond.selects RX3 yX3_cellOf yX3_cellOf ∈ wsL_law := wsL_of (List.mem_of_getElem? (i := 198) (by decide +kernel)) rfl
theorem mc_X5_number : Cond.code yX5_number cX5_number 5 (some .int) ∈ wsL_law := wsL_of (List.mem_append_left _ (List.mem_of_getElem? (i := 202) rfl)) rfl
theorem ms_X5_number : Cond.static yX5_number ∈ wsL_law := wsL_of (List.mem_of_getElem? (i := 201) (by decide +kernel)) rfl
theorem mc_X1_clear : Cond.code yX1_clear cX1_clear 1 none ∈ wsL_law := wsL_of (List.mem_append_left _ (List.mem_of_getElem? (i := 206) rfl)) rfl
theorem mn_X1_clear : Cond.instanceMethod yX1_clear ∈ wsL_law := wsL_of (List.mem_of_getElem? (i := 204) (by decide +kernel)) rfl
theorem mv_X1_clear : Cond.selects RX1 yX1_clear yX1_clear ∈ wsL_law := wsL_of (List.mem_of_getElem? (i := 205) (by decide +kernel)) rfl
theorem mc_X2_clear : Cond.code yX2_clear cX2_clear 1 none ∈ wsL_law := wsL_of (List.mem_append_left _ (List.mem_of_getElem? (i := 210) rfl)) rfl
theorem mn_X2_clear : Cond.instanceMethod yX2_clear ∈ wsL_law := wsL_of (List.mem_of_getElem? (i := 208) (by decide +kernel)) rfl
theorem mv_X2_clear : Cond.selects RX2 yX2_clear yX2_clear ∈ wsL_law := wsL_of (List.mem_of_getElem? (i := 209) (by decide +kernel)) rfl
theorem mc_X5_read : Cond.code yX5_read cX5_read 6 none ∈ wsL_law := wsL_of (List.mem_append_left _ (List.mem_of_getElem? (i := 213) rfl)) rfl
theorem ms_X5_read : Cond.static yX5_read ∈ wsL_law := wsL_of (List.mem_of_getElem? (i := 212) (by decide +kernel)) rfl
theorem mc_X6_clear : Cond.code yX6_clear cX6_clear 1 none ∈ wsL_law := wsL_of (List.mem_append_left _ (List.mem_of_getElem? (i := 217) rfl)) rfl
theorem mn_X6_clear : Cond.instanceMethod yX6_clear ∈ wsL_law := wsL_of (List.mem_of_getElem? (i := 215) (by decide +kernel)) rfl
theorem mv_X6_clear : Cond.selects RX6 yX6_clear yX6_clear ∈ wsL_law := wsL_of (List.mem_of_getElem? (i := 216) (by decide +kernel)) rfl
theorem mc_X6_add : Cond.code yX6_add cX6_add 2 none ∈ wsL_law := wsL_of (List.mem_append_left _ (List.mem_of_getElem? (i := 221) rfl)) rfl
theorem mn_X6_add : Cond.instanceMethod yX6_add ∈ wsL_law := wsL_of (List.mem_of_getElem? (i := 219) (by decide +kernel)) rfl
theorem mv_X6_add : Cond.selects RX6 yX6_add yX6_add ∈ wsL_law := wsL_of (List.mem_of_getElem? (i := 220) (by decide +kernel)) rfl
theorem mc_X6_count : Cond.code yX6_count cX6_count 1 (some .int) ∈ wsL_law := wsL_of (List.mem_append_left _ (List.mem_of_getElem? (i := 225) rfl)) rfl
theorem mn_X6_count : Cond.instanceMethod yX6_count ∈ wsL_law := wsL_of (List.mem_of_getElem? (i := 223) (by decide +kernel)) rfl
theorem mv_X6_count : Cond.selects RX6 yX6_count yX6_count ∈ wsL_law := wsL_of (List.mem_of_getElem? (i := 224) (by decide +kernel)) rfl
theorem mc_X7_weight : Cond.code yX7_weight cX7_weight 2 (some .int) ∈ wsL_law := wsL_of (List.mem_append_left _ (List.mem_of_getElem? (i := 229) rfl)) rfl
theorem mn_X7_weight : Cond.instanceMethod yX7_weight ∈ wsL_law := wsL_of (List.mem_of_getElem? (i := 227) (by decide +kernel)) rfl
theorem mv_X7_weight : Cond.selects RX7 yX7_weight yX7_weight ∈ wsL_law := wsL_of (List.mem_of_getElem? (i := 228) (by decide +kernel)) rfl
theorem mc_X6_has : Cond.code yX6_has cX6_has 2 (some .boolean) ∈ wsL_law := wsL_of (List.mem_append_left _ (List.mem_of_getElem? (i := 233) rfl)) rfl
theorem mn_X6_has : Cond.instanceMethod yX6_has ∈ wsL_law := wsL_of (List.mem_of_getElem? (i := 231) (by decide +kernel)) rfl
theorem mv_X6_has : Cond.selects RX6 yX6_has yX6_has ∈ wsL_law := wsL_of (List.mem_of_getElem? (i := 232) (by decide +kernel)) rfl
theorem mc_X6_weightOf : Cond.code yX6_weightOf cX6_weightOf 2 (some .int) ∈ wsL_law := wsL_of (List.mem_append_left _ (List.mem_of_getElem? (i := 237) rfl)) rfl
theorem mn_X6_weightOf : Cond.instanceMethod yX6_weightOf ∈ wsL_law := wsL_of (List.mem_of_getElem? (i := 235) (by decide +kernel)) rfl
theorem mv_X6_weightOf : Cond.selects RX6 yX6_weightOf yX6_weightOf ∈ wsL_law := wsL_of (List.mem_of_getElem? (i := 236) (by decide +kernel)) rfl
theorem mc_X7_weigh : Cond.code yX7_weigh cX7_weigh 4 (some .int) ∈ wsL_law := wsL_of (List.mem_append_right _ (List.mem_append_left _ (List.mem_of_getElem? (i := 2) rfl))) rfl
theorem mn_X7_weigh : Cond.instanceMethod yX7_weigh ∈ wsL_law := wsL_of (List.mem_of_getElem? (i := 240) (by decide +kernel)) rfl
theorem mv_X7_weigh : Cond.selects RX7 yX7_weigh yX7_weigh ∈ wsL_law := wsL_of (List.mem_of_getElem? (i := 241) (by decide +kernel)) rfl
theorem mc_X6_setWeight : Cond.code yX6_setWeight cX6_setWeight 3 none ∈ wsL_law := wsL_of (List.mem_append_right _ (List.mem_append_left _ (List.mem_of_getElem? (i := 6) rfl))) rfl
theorem mn_X6_setWeight : Cond.instanceMethod yX6_setWeight ∈ wsL_law := wsL_of (List.mem_of_getElem? (i := 244) (by decide +kernel)) rfl
theorem mv_X6_setWeight : Cond.selects RX6 yX6_setWeight yX6_setWeight ∈ wsL_law := wsL_of (List.mem_of_getElem? (i := 245) (by decide +kernel)) rfl
theorem mc_X7_hand : Cond.code yX7_hand cX7_hand 3 (some .int) ∈ wsL_law := wsL_of (List.mem_append_right _ (List.mem_append_left _ (List.mem_of_getElem? (i := 10) rfl))) rfl
theorem mn_X7_hand : Cond.instanceMethod yX7_hand ∈ wsL_law := wsL_of (List.mem_of_getElem? (i := 248) (by decide +kernel)) rfl
theorem mv_X7_hand : Cond.selects RX7 yX7_hand yX7_hand ∈ wsL_law := wsL_of (List.mem_of_getElem? (i := 249) (by decide +kernel)) rfl
theorem mc_X7_isKind : Cond.code yX7_isKind cX7_isKind 1 (some .boolean) ∈ wsL_law := wsL_of (List.mem_append_right _ (List.mem_append_left _ (List.mem_of_getElem? (i := 13) rfl))) rfl
theorem ms_X7_isKind : Cond.static yX7_isKind ∈ wsL_law := wsL_of (List.mem_of_getElem? (i := 252) (by decide +kernel)) rfl
theorem mc_X1_add : Cond.code yX1_add cX1_add 3 (some .int) ∈ wsL_law := wsL_of (List.mem_append_right _ (List.mem_append_left _ (List.mem_of_getElem? (i := 17) rfl))) rfl
theorem mn_X1_add : Cond.instanceMethod yX1_add ∈ wsL_law := wsL_of (List.mem_of_getElem? (i := 255) (by decide +kernel)) rfl
theorem mv_X1_add : Cond.selects RX1 yX1_add yX1_add ∈ wsL_law := wsL_of (List.mem_of_getElem? (i := 256) (by decide +kernel)) rfl
theorem mc_X7_ofHand : Cond.code yX7_ofHand cX7_ofHand 3 (some .int) ∈ wsL_law := wsL_of (List.mem_append_right _ (List.mem_append_left _ (List.mem_of_getElem? (i := 21) rfl))) rfl
theorem mn_X7_ofHand : Cond.instanceMethod yX7_ofHand ∈ wsL_law := wsL_of (List.mem_of_getElem? (i := 259) (by decide +kernel)) rfl
theorem mv_X7_ofHand : Cond.selects RX7 yX7_ofHand yX7_ofHand ∈ wsL_law := wsL_of (List.mem_of_getElem? (i := 260) (by decide +kernel)) rfl
theorem mc_X1_has : Cond.code yX1_has cX1_has 2 (some .boolean) ∈ wsL_law := wsL_of (List.mem_append_right _ (List.mem_append_left _ (List.mem_of_getElem? (i := 25) rfl))) rfl
theorem mn_X1_has : Cond.instanceMethod yX1_has ∈ wsL_law := wsL_of (List.mem_of_getElem? (i := 263) (by decide +kernel)) rfl
theorem mv_X1_has : Cond.selects RX1 yX1_has yX1_has ∈ wsL_law := wsL_of (List.mem_of_getElem? (i := 264) (by decide +kernel)) rfl
theorem mc_X7_isFirstOrSecond : Cond.code yX7_isFirstOrSecond cX7_isFirstOrSecond 1 (some .boolean) ∈ wsL_law := wsL_of (List.mem_append_right _ (List.mem_append_left _ (List.mem_of_getElem? (i := 28) rfl))) rfl
theorem ms_X7_isFirstOrSecond : Cond.static yX7_isFirstOrSecond ∈ wsL_law := wsL_of (List.mem_of_getElem? (i := 267) (by decide +kernel)) rfl
theorem mc_X1_kindOf : Cond.code yX1_kindOf cX1_kindOf 2 (some .int) ∈ wsL_law := wsL_of (List.mem_append_right _ (List.mem_append_left _ (List.mem_of_getElem? (i := 32) rfl))) rfl
theorem mn_X1_kindOf : Cond.instanceMethod yX1_kindOf ∈ wsL_law := wsL_of (List.mem_of_getElem? (i := 270) (by decide +kernel)) rfl
theorem mv_X1_kindOf : Cond.selects RX1 yX1_kindOf yX1_kindOf ∈ wsL_law := wsL_of (List.mem_of_getElem? (i := 271) (by decide +kernel)) rfl
theorem mc_X1_partOf : Cond.code yX1_partOf cX1_partOf 2 (some .int) ∈ wsL_law := wsL_of (List.mem_append_right _ (List.mem_append_left _ (List.mem_of_getElem? (i := 37) rfl))) rfl
theorem mn_X1_partOf : Cond.instanceMethod yX1_partOf ∈ wsL_law := wsL_of (List.mem_of_getElem? (i := 275) (by decide +kernel)) rfl
theorem mv_X1_partOf : Cond.selects RX1 yX1_partOf yX1_partOf ∈ wsL_law := wsL_of (List.mem_of_getElem? (i := 276) (by decide +kernel)) rfl
theorem mc_X7_tells : Cond.code yX7_tells cX7_tells 4 (some .int) ∈ wsL_law := wsL_of (List.mem_append_right _ (List.mem_append_left _ (List.mem_of_getElem? (i := 41) rfl))) rfl
theorem mn_X7_tells : Cond.instanceMethod yX7_tells ∈ wsL_law := wsL_of (List.mem_of_getElem? (i := 279) (by decide +kernel)) rfl
theorem mv_X7_tells : Cond.selects RX7 yX7_tells yX7_tells ∈ wsL_law := wsL_of (List.mem_of_getElem? (i := 280) (by decide +kernel)) rfl
theorem mc_X1_feelsHeavier : Cond.code yX1_feelsHeavier cX1_feelsHeavier 5 (some .boolean) ∈ wsL_law := wsL_of (List.mem_append_right _ (List.mem_append_left _ (List.mem_of_getElem? (i := 45) rfl))) rfl
theorem mn_X1_feelsHeavier : Cond.instanceMethod yX1_feelsHeavier ∈ wsL_law := wsL_of (List.mem_of_getElem? (i := 283) (by decide +kernel)) rfl
theorem mv_X1_feelsHeavier : Cond.selects RX1 yX1_feelsHeavier yX1_feelsHeavier ∈ wsL_law := wsL_of (List.mem_of_getElem? (i := 284) (by decide +kernel)) rfl
theorem mc_X1_timesOf : Cond.code yX1_timesOf cX1_timesOf 2 (some .int) ∈ wsL_law := wsL_of (List.mem_append_right _ (List.mem_append_left _ (List.mem_of_getElem? (i := 49) rfl))) rfl
theorem mn_X1_timesOf : Cond.instanceMethod yX1_timesOf ∈ wsL_law := wsL_of (List.mem_of_getElem? (i := 288) (by decide +kernel)) rfl
theorem mv_X1_timesOf : Cond.selects RX1 yX1_timesOf yX1_timesOf ∈ wsL_law := wsL_sel (List.mem_of_getElem? (i := 1) (by decide +kernel))
theorem mc_X7_alike : Cond.code yX7_alike cX7_alike 3 (some .int) ∈ wsL_law := wsL_of (List.mem_append_right _ (List.mem_append_left _ (List.mem_of_getElem? (i := 55) rfl))) rfl
theorem mn_X7_alike : Cond.instanceMethod yX7_alike ∈ wsL_law := wsL_of (List.mem_of_getElem? (i := 293) (by decide +kernel)) rfl
theorem mv_X7_alike : Cond.selects RX7 yX7_alike yX7_alike ∈ wsL_law := wsL_of (List.mem_of_getElem? (i := 294) (by decide +kernel)) rfl
theorem mc_X4_lay : Cond.code yX4_lay cX4_lay 6 none ∈ wsL_law := wsL_of (List.mem_append_right _ (List.mem_append_left _ (List.mem_of_getElem? (i := 59) rfl))) rfl
theorem mn_X4_lay : Cond.instanceMethod yX4_lay ∈ wsL_law := wsL_of (List.mem_of_getElem? (i := 297) (by decide +kernel)) rfl
theorem mv_X4_lay : Cond.selects RX4 yX4_lay yX4_lay ∈ wsL_law := wsL_of (List.mem_of_getElem? (i := 298) (by decide +kernel)) rfl
theorem mc_J9_min_7cf53 : Cond.code yJ9_min_7cf53 cJ9_min_7cf53 2 (some .int) ∈ wsL_law := wsL_of (List.mem_append_right _ (List.mem_append_left _ (List.mem_of_getElem? (i := 63) rfl))) rfl
theorem ms_J9_min_7cf53 : Cond.static yJ9_min_7cf53 ∈ wsL_law := wsL_of (List.mem_of_getElem? (i := 302) (by decide +kernel)) rfl
theorem mc_X1_feelsAlike : Cond.code yX1_feelsAlike cX1_feelsAlike 4 (some .boolean) ∈ wsL_law := wsL_of (List.mem_append_right _ (List.mem_append_left _ (List.mem_of_getElem? (i := 69) rfl))) rfl
theorem mn_X1_feelsAlike : Cond.instanceMethod yX1_feelsAlike ∈ wsL_law := wsL_of (List.mem_of_getElem? (i := 307) (by decide +kernel)) rfl
theorem mv_X1_feelsAlike : Cond.selects RX1 yX1_feelsAlike yX1_feelsAlike ∈ wsL_law := wsL_of (List.mem_of_getElem? (i := 308) (by decide +kernel)) rfl
theorem mc_X4_alikeTo : Cond.code yX4_alikeTo cX4_alikeTo 2 (some .int) ∈ wsL_law := wsL_of (List.mem_append_right _ (List.mem_append_left _ (List.mem_of_getElem? (i := 74) rfl))) rfl
theorem mn_X4_alikeTo : Cond.instanceMethod yX4_alikeTo ∈ wsL_law := wsL_of (List.mem_of_getElem? (i := 312) (by decide +kernel)) rfl
theorem mv_X4_alikeTo : Cond.selects RX4 yX4_alikeTo yX4_alikeTo ∈ wsL_law := wsL_of (List.mem_of_getElem? (i := 313) (by decide +kernel)) rfl
theorem mc_X4_has : Cond.code yX4_has cX4_has 2 (some .boolean) ∈ wsL_law := wsL_of (List.mem_append_right _ (List.mem_append_left _ (List.mem_of_getElem? (i := 78) rfl))) rfl
theorem mn_X4_has : Cond.instanceMethod yX4_has ∈ wsL_law := wsL_of (List.mem_of_getElem? (i := 317) (by decide +kernel)) rfl
theorem mv_X4_has : Cond.selects RX4 yX4_has yX4_has ∈ wsL_law := wsL_sel (List.mem_of_getElem? (i := 2) (by decide +kernel))
theorem mc_X7_finer : Cond.code yX7_finer cX7_finer 3 (some .int) ∈ wsL_law := wsL_of (List.mem_append_right _ (List.mem_append_left _ (List.mem_of_getElem? (i := 82) rfl))) rfl
theorem mn_X7_finer : Cond.instanceMethod yX7_finer ∈ wsL_law := wsL_of (List.mem_of_getElem? (i := 320) (by decide +kernel)) rfl
theorem mv_X7_finer : Cond.selects RX7 yX7_finer yX7_finer ∈ wsL_law := wsL_of (List.mem_of_getElem? (i := 321) (by decide +kernel)) rfl
theorem mc_X4_isFinerThan : Cond.code yX4_isFinerThan cX4_isFinerThan 4 (some .boolean) ∈ wsL_law := wsL_of (List.mem_append_right _ (List.mem_append_left _ (List.mem_of_getElem? (i := 86) rfl))) rfl
theorem mn_X4_isFinerThan : Cond.instanceMethod yX4_isFinerThan ∈ wsL_law := wsL_of (List.mem_of_getElem? (i := 324) (by decide +kernel)) rfl
theorem mv_X4_isFinerThan : Cond.selects RX4 yX4_isFinerThan yX4_isFinerThan ∈ wsL_law := wsL_of (List.mem_of_getElem? (i := 325) (by decide +kernel)) rfl
theorem mc_X4_lighterThan : Cond.code yX4_lighterThan cX4_lighterThan 2 (some .int) ∈ wsL_law := wsL_of (List.mem_append_right _ (List.mem_append_left _ (List.mem_of_getElem? (i := 90) rfl))) rfl
theorem mn_X4_lighterThan : Cond.instanceMethod yX4_lighterThan ∈ wsL_law := wsL_of (List.mem_of_getElem? (i := 328) (by decide +kernel)) rfl
theorem mv_X4_lighterThan : Cond.selects RX4 yX4_lighterThan yX4_lighterThan ∈ wsL_law := wsL_of (List.mem_of_getElem? (i := 329) (by decide +kernel)) rfl
theorem mc_X7_way : Cond.code yX7_way cX7_way 5 (some .int) ∈ wsL_law := wsL_of (List.mem_append_right _ (List.mem_append_left _ (List.mem_of_getElem? (i := 94) rfl))) rfl
theorem mn_X7_way : Cond.instanceMethod yX7_way ∈ wsL_law := wsL_of (List.mem_of_getElem? (i := 332) (by decide +kernel)) rfl
theorem mv_X7_way : Cond.selects RX7 yX7_way yX7_way ∈ wsL_law := wsL_of (List.mem_of_getElem? (i := 333) (by decide +kernel)) rfl
theorem mc_X4_fewestSwaps : Cond.code yX4_fewestSwaps cX4_fewestSwaps 4 (some .int) ∈ wsL_law := wsL_of (List.mem_append_right _ (List.mem_append_left _ (List.mem_of_getElem? (i := 98) rfl))) rfl
theorem mn_X4_fewestSwaps : Cond.instanceMethod yX4_fewestSwaps ∈ wsL_law := wsL_of (List.mem_of_getElem? (i := 336) (by decide +kernel)) rfl
theorem mv_X4_fewestSwaps : Cond.selects RX4 yX4_fewestSwaps yX4_fewestSwaps ∈ wsL_law := wsL_of (List.mem_of_getElem? (i := 337) (by decide +kernel)) rfl
theorem mc_X4_within : Cond.code yX4_within cX4_within 5 (some .int) ∈ wsL_law := wsL_of (List.mem_append_right _ (List.mem_append_left _ (List.mem_of_getElem? (i := 102) rfl))) rfl
theorem mn_X4_within : Cond.instanceMethod yX4_within ∈ wsL_law := wsL_of (List.mem_of_getElem? (i := 340) (by decide +kernel)) rfl
theorem mv_X4_within : Cond.selects RX4 yX4_within yX4_within ∈ wsL_law := wsL_of (List.mem_of_getElem? (i := 341) (by decide +kernel)) rfl
theorem mc_X4_alikeToAny : Cond.code yX4_alikeToAny cX4_alikeToAny 4 (some .int) ∈ wsL_law := wsL_of (List.mem_append_right _ (List.mem_append_left _ (List.mem_of_getElem? (i := 106) rfl))) rfl
theorem mn_X4_alikeToAny : Cond.instanceMethod yX4_alikeToAny ∈ wsL_law := wsL_of (List.mem_of_getElem? (i := 345) (by decide +kernel)) rfl
theorem mv_X4_alikeToAny : Cond.selects RX4 yX4_alikeToAny yX4_alikeToAny ∈ wsL_law := wsL_sel (List.mem_of_getElem? (i := 3) (by decide +kernel))
theorem mc_X7_isIn : Cond.code yX7_isIn cX7_isIn 2 (some .boolean) ∈ wsL_law := wsL_of (List.mem_append_right _ (List.mem_append_left _ (List.mem_of_getElem? (i := 109) rfl))) rfl
theorem ms_X7_isIn : Cond.static yX7_isIn ∈ wsL_law := wsL_of (List.mem_of_getElem? (i := 348) (by decide +kernel)) rfl
theorem mc_X4_behindSwaps : Cond.code yX4_behindSwaps cX4_behindSwaps 7 (some .int) ∈ wsL_law := wsL_of (List.mem_append_right _ (List.mem_append_left _ (List.mem_of_getElem? (i := 113) rfl))) rfl
theorem mn_X4_behindSwaps : Cond.instanceMethod yX4_behindSwaps ∈ wsL_law := wsL_of (List.mem_of_getElem? (i := 351) (by decide +kernel)) rfl
theorem mv_X4_behindSwaps : Cond.selects RX4 yX4_behindSwaps yX4_behindSwaps ∈ wsL_law := wsL_of (List.mem_of_getElem? (i := 352) (by decide +kernel)) rfl
theorem mc_X4_leastIn : Cond.code yX4_leastIn cX4_leastIn 3 (some .int) ∈ wsL_law := wsL_of (List.mem_append_right _ (List.mem_append_left _ (List.mem_of_getElem? (i := 119) rfl))) rfl
theorem mn_X4_leastIn : Cond.instanceMethod yX4_leastIn ∈ wsL_law := wsL_of (List.mem_of_getElem? (i := 358) (by decide +kernel)) rfl
theorem mv_X4_leastIn : Cond.selects RX4 yX4_leastIn yX4_leastIn ∈ wsL_law := wsL_sel (List.mem_of_getElem? (i := 4) (by decide +kernel))
theorem mc_X7_noon : Cond.code yX7_noon cX7_noon 4 (some .int) ∈ wsL_law := wsL_of (List.mem_append_right _ (List.mem_append_left _ (List.mem_of_getElem? (i := 123) rfl))) rfl
theorem mn_X7_noon : Cond.instanceMethod yX7_noon ∈ wsL_law := wsL_of (List.mem_of_getElem? (i := 361) (by decide +kernel)) rfl
theorem mv_X7_noon : Cond.selects RX7 yX7_noon yX7_noon ∈ wsL_law := wsL_of (List.mem_of_getElem? (i := 362) (by decide +kernel)) rfl
theorem mc_X7_gain : Cond.code yX7_gain cX7_gain 11 (some .int) ∈ wsL_law := wsL_of (List.mem_append_right _ (List.mem_append_left _ (List.mem_of_getElem? (i := 128) rfl))) rfl
theorem mn_X7_gain : Cond.instanceMethod yX7_gain ∈ wsL_law := wsL_of (List.mem_of_getElem? (i := 366) (by decide +kernel)) rfl
theorem mv_X7_gain : Cond.selects RX7 yX7_gain yX7_gain ∈ wsL_law := wsL_of (List.mem_of_getElem? (i := 367) (by decide +kernel)) rfl
theorem mc_X7_swappedUp : Cond.code yX7_swappedUp cX7_swappedUp 4 (some .int) ∈ wsL_law := wsL_of (List.mem_append_right _ (List.mem_append_left _ (List.mem_of_getElem? (i := 132) rfl))) rfl
theorem mn_X7_swappedUp : Cond.instanceMethod yX7_swappedUp ∈ wsL_law := wsL_of (List.mem_of_getElem? (i := 371) (by decide +kernel)) rfl
theorem mv_X7_swappedUp : Cond.selects RX7 yX7_swappedUp yX7_swappedUp ∈ wsL_law := wsL_sel (List.mem_of_getElem? (i := 5) (by decide +kernel))
theorem mc_X6_greatestOf : Cond.code yX6_greatestOf cX6_greatestOf 4 (some .int) ∈ wsL_law := wsL_of (List.mem_append_right _ (List.mem_append_left _ (List.mem_of_getElem? (i := 137) rfl))) rfl
theorem mn_X6_greatestOf : Cond.instanceMethod yX6_greatestOf ∈ wsL_law := wsL_of (List.mem_of_getElem? (i := 375) (by decide +kernel)) rfl
theorem mv_X6_greatestOf : Cond.selects RX6 yX6_greatestOf yX6_greatestOf ∈ wsL_law := wsL_of (List.mem_of_getElem? (i := 376) (by decide +kernel)) rfl
theorem mc_J9_max_7cf53 : Cond.code yJ9_max_7cf53 cJ9_max_7cf53 2 (some .int) ∈ wsL_law := wsL_of (List.mem_append_right _ (List.mem_append_left _ (List.mem_of_getElem? (i := 142) rfl))) rfl
theorem ms_J9_max_7cf53 : Cond.static yJ9_max_7cf53 ∈ wsL_law := wsL_of (List.mem_of_getElem? (i := 381) (by decide +kernel)) rfl
theorem mc_X7_saying : Cond.code yX7_saying cX7_saying 5 (some .int) ∈ wsL_law := wsL_of (List.mem_append_right _ (List.mem_append_left _ (List.mem_of_getElem? (i := 146) rfl))) rfl
theorem mn_X7_saying : Cond.instanceMethod yX7_saying ∈ wsL_law := wsL_of (List.mem_of_getElem? (i := 384) (by decide +kernel)) rfl
theorem mv_X7_saying : Cond.selects RX7 yX7_saying yX7_saying ∈ wsL_law := wsL_of (List.mem_of_getElem? (i := 385) (by decide +kernel)) rfl
theorem mc_X2_add : Cond.code yX2_add cX2_add 5 (some .int) ∈ wsL_law := wsL_of (List.mem_append_right _ (List.mem_append_left _ (List.mem_of_getElem? (i := 150) rfl))) rfl
theorem mn_X2_add : Cond.instanceMethod yX2_add ∈ wsL_law := wsL_of (List.mem_of_getElem? (i := 388) (by decide +kernel)) rfl
theorem mv_X2_add : Cond.selects RX2 yX2_add yX2_add ∈ wsL_law := wsL_of (List.mem_of_getElem? (i := 389) (by decide +kernel)) rfl
theorem mc_X7_back : Cond.code yX7_back cX7_back 2 (some .int) ∈ wsL_law := wsL_of (List.mem_append_right _ (List.mem_append_left _ (List.mem_of_getElem? (i := 154) rfl))) rfl
theorem mn_X7_back : Cond.instanceMethod yX7_back ∈ wsL_law := wsL_of (List.mem_of_getElem? (i := 392) (by decide +kernel)) rfl
theorem mv_X7_back : Cond.selects RX7 yX7_back yX7_back ∈ wsL_law := wsL_of (List.mem_of_getElem? (i := 393) (by decide +kernel)) rfl
theorem mc_X2_count : Cond.code yX2_count cX2_count 1 (some .int) ∈ wsL_law := wsL_of (List.mem_append_right _ (List.mem_append_left _ (List.mem_of_getElem? (i := 158) rfl))) rfl
theorem mn_X2_count : Cond.instanceMethod yX2_count ∈ wsL_law := wsL_of (List.mem_of_getElem? (i := 396) (by decide +kernel)) rfl
theorem mv_X2_count : Cond.selects RX2 yX2_count yX2_count ∈ wsL_law := wsL_of (List.mem_of_getElem? (i := 397) (by decide +kernel)) rfl
theorem mc_X2_takeBack : Cond.code yX2_takeBack cX2_takeBack 2 (some .int) ∈ wsL_law := wsL_of (List.mem_append_right _ (List.mem_append_left _ (List.mem_of_getElem? (i := 162) rfl))) rfl
theorem mn_X2_takeBack : Cond.instanceMethod yX2_takeBack ∈ wsL_law := wsL_of (List.mem_of_getElem? (i := 400) (by decide +kernel)) rfl
theorem mv_X2_takeBack : Cond.selects RX2 yX2_takeBack yX2_takeBack ∈ wsL_law := wsL_of (List.mem_of_getElem? (i := 401) (by decide +kernel)) rfl
theorem mc_X7_untrue : Cond.code yX7_untrue cX7_untrue 5 (some .int) ∈ wsL_law := wsL_of (List.mem_append_right _ (List.mem_append_left _ (List.mem_of_getElem? (i := 167) rfl))) rfl
theorem mn_X7_untrue : Cond.instanceMethod yX7_untrue ∈ wsL_law := wsL_of (List.mem_of_getElem? (i := 405) (by decide +kernel)) rfl
theorem mv_X7_untrue : Cond.selects RX7 yX7_untrue yX7_untrue ∈ wsL_law := wsL_of (List.mem_of_getElem? (i := 406) (by decide +kernel)) rfl
theorem mc_X2_firstOf : Cond.code yX2_firstOf cX2_firstOf 2 (some .int) ∈ wsL_law := wsL_of (List.mem_append_right _ (List.mem_append_left _ (List.mem_of_getElem? (i := 171) rfl))) rfl
theorem mn_X2_firstOf : Cond.instanceMethod yX2_firstOf ∈ wsL_law := wsL_of (List.mem_of_getElem? (i := 409) (by decide +kernel)) rfl
theorem mv_X2_firstOf : Cond.selects RX2 yX2_firstOf yX2_firstOf ∈ wsL_law := wsL_of (List.mem_of_getElem? (i := 410) (by decide +kernel)) rfl
theorem mc_X2_has : Cond.code yX2_has cX2_has 2 (some .boolean) ∈ wsL_law := wsL_of (List.mem_append_right _ (List.mem_append_left _ (List.mem_of_getElem? (i := 175) rfl))) rfl
theorem mn_X2_has : Cond.instanceMethod yX2_has ∈ wsL_law := wsL_of (List.mem_of_getElem? (i := 414) (by decide +kernel)) rfl
theorem mv_X2_has : Cond.selects RX2 yX2_has yX2_has ∈ wsL_law := wsL_sel (List.mem_of_getElem? (i := 6) (by decide +kernel))
theorem mc_X2_secondOf : Cond.code yX2_secondOf cX2_secondOf 2 (some .int) ∈ wsL_law := wsL_of (List.mem_append_right _ (List.mem_append_left _ (List.mem_of_getElem? (i := 179) rfl))) rfl
theorem mn_X2_secondOf : Cond.instanceMethod yX2_secondOf ∈ wsL_law := wsL_of (List.mem_of_getElem? (i := 417) (by decide +kernel)) rfl
theorem mv_X2_secondOf : Cond.selects RX2 yX2_secondOf yX2_secondOf ∈ wsL_law := wsL_of (List.mem_of_getElem? (i := 418) (by decide +kernel)) rfl
theorem mc_X2_isFalse : Cond.code yX2_isFalse cX2_isFalse 5 (some .boolean) ∈ wsL_law := wsL_of (List.mem_append_right _ (List.mem_append_left _ (List.mem_of_getElem? (i := 183) rfl))) rfl
theorem mn_X2_isFalse : Cond.instanceMethod yX2_isFalse ∈ wsL_law := wsL_of (List.mem_of_getElem? (i := 421) (by decide +kernel)) rfl
theorem mv_X2_isFalse : Cond.selects RX2 yX2_isFalse yX2_isFalse ∈ wsL_law := wsL_of (List.mem_of_getElem? (i := 422) (by decide +kernel)) rfl
theorem mc_X7_leaves : Cond.code yX7_leaves cX7_leaves 7 (some .int) ∈ wsL_law := wsL_of (List.mem_append_right _ (List.mem_append_left _ (List.mem_of_getElem? (i := 189) rfl))) rfl
theorem mn_X7_leaves : Cond.instanceMethod yX7_leaves ∈ wsL_law := wsL_of (List.mem_of_getElem? (i := 427) (by decide +kernel)) rfl
theorem mv_X7_leaves : Cond.selects RX7 yX7_leaves yX7_leaves ∈ wsL_law := wsL_of (List.mem_of_getElem? (i := 428) (by decide +kernel)) rfl
theorem mc_X7_falseByWeight : Cond.code yX7_falseByWeight cX7_falseByWeight 9 (some .int) ∈ wsL_law := wsL_of (List.mem_append_right _ (List.mem_append_left _ (List.mem_of_getElem? (i := 193) rfl))) rfl
theorem mn_X7_falseByWeight : Cond.instanceMethod yX7_falseByWeight ∈ wsL_law := wsL_of (List.mem_of_getElem? (i := 432) (by decide +kernel)) rfl
theorem mv_X7_falseByWeight : Cond.selects RX7 yX7_falseByWeight yX7_falseByWeight ∈ wsL_law := wsL_sel (List.mem_of_getElem? (i := 7) (by decide +kernel))
theorem mc_X7_breaks : Cond.code yX7_breaks cX7_breaks 7 (some .int) ∈ wsL_law := wsL_of (List.mem_append_right _ (List.mem_append_left _ (List.mem_of_getElem? (i := 197) rfl))) rfl
theorem mn_X7_breaks : Cond.instanceMethod yX7_breaks ∈ wsL_law := wsL_of (List.mem_of_getElem? (i := 435) (by decide +kernel)) rfl
theorem mv_X7_breaks : Cond.selects RX7 yX7_breaks yX7_breaks ∈ wsL_law := wsL_of (List.mem_of_getElem? (i := 436) (by decide +kernel)) rfl
theorem mc_X7_rows : Cond.code yX7_rows cX7_rows 3 (some .int) ∈ wsL_law := wsL_of (List.mem_append_right _ (List.mem_append_left _ (List.mem_of_getElem? (i := 201) rfl))) rfl
theorem mn_X7_rows : Cond.instanceMethod yX7_rows ∈ wsL_law := wsL_of (List.mem_of_getElem? (i := 439) (by decide +kernel)) rfl
theorem mv_X7_rows : Cond.selects RX7 yX7_rows yX7_rows ∈ wsL_law := wsL_of (List.mem_of_getElem? (i := 440) (by decide +kernel)) rfl
theorem mc_X4_countOrders : Cond.code yX4_countOrders cX4_countOrders 5 (some .int) ∈ wsL_law := wsL_of (List.mem_append_right _ (List.mem_append_left _ (List.mem_of_getElem? (i := 205) rfl))) rfl
theorem mn_X4_countOrders : Cond.instanceMethod yX4_countOrders ∈ wsL_law := wsL_of (List.mem_of_getElem? (i := 443) (by decide +kernel)) rfl
theorem mv_X4_countOrders : Cond.selects RX4 yX4_countOrders yX4_countOrders ∈ wsL_law := wsL_of (List.mem_of_getElem? (i := 444) (by decide +kernel)) rfl
theorem mc_X4_allThings : Cond.code yX4_allThings cX4_allThings 1 (some .int) ∈ wsL_law := wsL_of (List.mem_append_right _ (List.mem_append_left _ (List.mem_of_getElem? (i := 209) rfl))) rfl
theorem mn_X4_allThings : Cond.instanceMethod yX4_allThings ∈ wsL_law := wsL_of (List.mem_of_getElem? (i := 448) (by decide +kernel)) rfl
theorem mv_X4_allThings : Cond.selects RX4 yX4_allThings yX4_allThings ∈ wsL_law := wsL_sel (List.mem_of_getElem? (i := 8) (by decide +kernel))
theorem mc_X4_placeInFirstOrder : Cond.code yX4_placeInFirstOrder cX4_placeInFirstOrder 5 (some .int) ∈ wsL_law := wsL_of (List.mem_append_right _ (List.mem_append_left _ (List.mem_of_getElem? (i := 213) rfl))) rfl
theorem mn_X4_placeInFirstOrder : Cond.instanceMethod yX4_placeInFirstOrder ∈ wsL_law := wsL_of (List.mem_of_getElem? (i := 451) (by decide +kernel)) rfl
theorem mv_X4_placeInFirstOrder : Cond.selects RX4 yX4_placeInFirstOrder yX4_placeInFirstOrder ∈ wsL_law := wsL_of (List.mem_of_getElem? (i := 452) (by decide +kernel)) rfl
theorem mc_X4_fittingBehind : Cond.code yX4_fittingBehind cX4_fittingBehind 4 (some .int) ∈ wsL_law := wsL_of (List.mem_append_right _ (List.mem_append_left _ (List.mem_of_getElem? (i := 217) rfl))) rfl
theorem mn_X4_fittingBehind : Cond.instanceMethod yX4_fittingBehind ∈ wsL_law := wsL_of (List.mem_of_getElem? (i := 456) (by decide +kernel)) rfl
theorem mv_X4_fittingBehind : Cond.selects RX4 yX4_fittingBehind yX4_fittingBehind ∈ wsL_law := wsL_sel (List.mem_of_getElem? (i := 9) (by decide +kernel))
theorem mc_X7_longest : Cond.code yX7_longest cX7_longest 2 (some .int) ∈ wsL_law := wsL_of (List.mem_append_right _ (List.mem_append_left _ (List.mem_of_getElem? (i := 221) rfl))) rfl
theorem mn_X7_longest : Cond.instanceMethod yX7_longest ∈ wsL_law := wsL_of (List.mem_of_getElem? (i := 459) (by decide +kernel)) rfl
theorem mv_X7_longest : Cond.selects RX7 yX7_longest yX7_longest ∈ wsL_law := wsL_of (List.mem_of_getElem? (i := 460) (by decide +kernel)) rfl
theorem mc_X4_longestChain : Cond.code yX4_longestChain cX4_longestChain 4 (some .int) ∈ wsL_law := wsL_of (List.mem_append_right _ (List.mem_append_left _ (List.mem_of_getElem? (i := 225) rfl))) rfl
theorem mn_X4_longestChain : Cond.instanceMethod yX4_longestChain ∈ wsL_law := wsL_of (List.mem_of_getElem? (i := 463) (by decide +kernel)) rfl
theorem mv_X4_longestChain : Cond.selects RX4 yX4_longestChain yX4_longestChain ∈ wsL_law := wsL_of (List.mem_of_getElem? (i := 464) (by decide +kernel)) rfl
theorem mc_X4_heavierThanAny : Cond.code yX4_heavierThanAny cX4_heavierThanAny 4 (some .int) ∈ wsL_law := wsL_of (List.mem_append_right _ (List.mem_append_left _ (List.mem_of_getElem? (i := 229) rfl))) rfl
theorem mn_X4_heavierThanAny : Cond.instanceMethod yX4_heavierThanAny ∈ wsL_law := wsL_of (List.mem_of_getElem? (i := 468) (by decide +kernel)) rfl
theorem mv_X4_heavierThanAny : Cond.selects RX4 yX4_heavierThanAny yX4_heavierThanAny ∈ wsL_law := wsL_sel (List.mem_of_getElem? (i := 10) (by decide +kernel))
theorem mc_X7_crowd : Cond.code yX7_crowd cX7_crowd 2 (some .int) ∈ wsL_law := wsL_of (List.mem_append_right _ (List.mem_append_left _ (List.mem_of_getElem? (i := 233) rfl))) rfl
theorem mn_X7_crowd : Cond.instanceMethod yX7_crowd ∈ wsL_law := wsL_of (List.mem_of_getElem? (i := 471) (by decide +kernel)) rfl
theorem mv_X7_crowd : Cond.selects RX7 yX7_crowd yX7_crowd ∈ wsL_law := wsL_of (List.mem_of_getElem? (i := 472) (by decide +kernel)) rfl
theorem mc_X4_greatestCrowd : Cond.code yX4_greatestCrowd cX4_greatestCrowd 3 (some .int) ∈ wsL_law := wsL_of (List.mem_append_right _ (List.mem_append_left _ (List.mem_of_getElem? (i := 237) rfl))) rfl
theorem mn_X4_greatestCrowd : Cond.instanceMethod yX4_greatestCrowd ∈ wsL_law := wsL_of (List.mem_of_getElem? (i := 475) (by decide +kernel)) rfl
theorem mv_X4_greatestCrowd : Cond.selects RX4 yX4_greatestCrowd yX4_greatestCrowd ∈ wsL_law := wsL_of (List.mem_of_getElem? (i := 476) (by decide +kernel)) rfl
theorem mc_J6_bitCount_0f7a4 : Cond.code yJ6_bitCount_0f7a4 cJ6_bitCount_0f7a4 1 (some .int) ∈ wsL_law := wsL_of (List.mem_append_right _ (List.mem_append_right _ (List.mem_append_left _ (List.mem_of_getElem? (i := 0) rfl)))) rfl
theorem ms_J6_bitCount_0f7a4 : Cond.static yJ6_bitCount_0f7a4 ∈ wsL_law := wsL_of (List.mem_of_getElem? (i := 479) (by decide +kernel)) rfl
theorem mc_X4_areAllAlike : Cond.code yX4_areAllAlike cX4_areAllAlike 3 (some .boolean) ∈ wsL_law := wsL_of (List.mem_append_right _ (List.mem_append_right _ (List.mem_append_left _ (List.mem_of_getElem? (i := 7) rfl)))) rfl
theorem mn_X4_areAllAlike : Cond.instanceMethod yX4_areAllAlike ∈ wsL_law := wsL_of (List.mem_of_getElem? (i := 486) (by decide +kernel)) rfl
theorem mv_X4_areAllAlike : Cond.selects RX4 yX4_areAllAlike yX4_areAllAlike ∈ wsL_law := wsL_sel (List.mem_of_getElem? (i := 11) (by decide +kernel))
theorem mc_X7_measure : Cond.code yX7_measure cX7_measure 5 (some .int) ∈ wsL_law := wsL_of (List.mem_append_right _ (List.mem_append_right _ (List.mem_append_left _ (List.mem_of_getElem? (i := 11) rfl)))) rfl
theorem mn_X7_measure : Cond.instanceMethod yX7_measure ∈ wsL_law := wsL_of (List.mem_of_getElem? (i := 489) (by decide +kernel)) rfl
theorem mv_X7_measure : Cond.selects RX7 yX7_measure yX7_measure ∈ wsL_law := wsL_of (List.mem_of_getElem? (i := 490) (by decide +kernel)) rfl
theorem mc_X4_othersAlikeTo : Cond.code yX4_othersAlikeTo cX4_othersAlikeTo 2 (some .int) ∈ wsL_law := wsL_of (List.mem_append_right _ (List.mem_append_right _ (List.mem_append_left _ (List.mem_of_getElem? (i := 15) rfl)))) rfl
theorem mn_X4_othersAlikeTo : Cond.instanceMethod yX4_othersAlikeTo ∈ wsL_law := wsL_of (List.mem_of_getElem? (i := 493) (by decide +kernel)) rfl
theorem mv_X4_othersAlikeTo : Cond.selects RX4 yX4_othersAlikeTo yX4_othersAlikeTo ∈ wsL_law := wsL_of (List.mem_of_getElem? (i := 494) (by decide +kernel)) rfl
theorem mc_X7_copies : Cond.code yX7_copies cX7_copies 8 (some .int) ∈ wsL_law := wsL_of (List.mem_append_right _ (List.mem_append_right _ (List.mem_append_left _ (List.mem_of_getElem? (i := 19) rfl)))) rfl
theorem mn_X7_copies : Cond.instanceMethod yX7_copies ∈ wsL_law := wsL_of (List.mem_of_getElem? (i := 497) (by decide +kernel)) rfl
theorem mv_X7_copies : Cond.selects RX7 yX7_copies yX7_copies ∈ wsL_law := wsL_of (List.mem_of_getElem? (i := 498) (by decide +kernel)) rfl
theorem mc_X7_takeHandRow : Cond.code yX7_takeHandRow cX7_takeHandRow 8 (some .int) ∈ wsL_law := wsL_of (List.mem_append_right _ (List.mem_append_right _ (List.mem_append_left _ (List.mem_of_getElem? (i := 23) rfl)))) rfl
theorem mn_X7_takeHandRow : Cond.instanceMethod yX7_takeHandRow ∈ wsL_law := wsL_of (List.mem_of_getElem? (i := 502) (by decide +kernel)) rfl
theorem mv_X7_takeHandRow : Cond.selects RX7 yX7_takeHandRow yX7_takeHandRow ∈ wsL_law := wsL_sel (List.mem_of_getElem? (i := 12) (by decide +kernel))
theorem mc_X0_clear : Cond.code yX0_clear cX0_clear 1 none ∈ wsL_law := wsL_of (List.mem_append_right _ (List.mem_append_right _ (List.mem_append_left _ (List.mem_of_getElem? (i := 27) rfl)))) rfl
theorem mn_X0_clear : Cond.instanceMethod yX0_clear ∈ wsL_law := wsL_of (List.mem_of_getElem? (i := 505) (by decide +kernel)) rfl
theorem mv_X0_clear : Cond.selects RX0 yX0_clear yX0_clear ∈ wsL_law := wsL_of (List.mem_of_getElem? (i := 506) (by decide +kernel)) rfl
theorem mc_X0_add : Cond.code yX0_add cX0_add 2 none ∈ wsL_law := wsL_of (List.mem_append_right _ (List.mem_append_right _ (List.mem_append_left _ (List.mem_of_getElem? (i := 32) rfl)))) rfl
theorem mn_X0_add : Cond.instanceMethod yX0_add ∈ wsL_law := wsL_of (List.mem_of_getElem? (i := 510) (by decide +kernel)) rfl
theorem mv_X0_add : Cond.selects RX0 yX0_add yX0_add ∈ wsL_law := wsL_of (List.mem_of_getElem? (i := 511) (by decide +kernel)) rfl
theorem mc_X0_greatestCopy : Cond.code yX0_greatestCopy cX0_greatestCopy 5 (some .int) ∈ wsL_law := wsL_of (List.mem_append_right _ (List.mem_append_right _ (List.mem_append_left _ (List.mem_of_getElem? (i := 36) rfl)))) rfl
theorem mn_X0_greatestCopy : Cond.instanceMethod yX0_greatestCopy ∈ wsL_law := wsL_of (List.mem_of_getElem? (i := 514) (by decide +kernel)) rfl
theorem mv_X0_greatestCopy : Cond.selects RX0 yX0_greatestCopy yX0_greatestCopy ∈ wsL_law := wsL_of (List.mem_of_getElem? (i := 515) (by decide +kernel)) rfl
theorem mc_X1_greatestUntold : Cond.code yX1_greatestUntold cX1_greatestUntold 4 (some .int) ∈ wsL_law := wsL_of (List.mem_append_right _ (List.mem_append_right _ (List.mem_append_left _ (List.mem_of_getElem? (i := 40) rfl)))) rfl
theorem mn_X1_greatestUntold : Cond.instanceMethod yX1_greatestUntold ∈ wsL_law := wsL_of (List.mem_of_getElem? (i := 518) (by decide +kernel)) rfl
theorem mv_X1_greatestUntold : Cond.selects RX1 yX1_greatestUntold yX1_greatestUntold ∈ wsL_law := wsL_of (List.mem_of_getElem? (i := 519) (by decide +kernel)) rfl
theorem mc_X0_leastCopy : Cond.code yX0_leastCopy cX0_leastCopy 5 (some .int) ∈ wsL_law := wsL_of (List.mem_append_right _ (List.mem_append_right _ (List.mem_append_left _ (List.mem_of_getElem? (i := 44) rfl)))) rfl
theorem mn_X0_leastCopy : Cond.instanceMethod yX0_leastCopy ∈ wsL_law := wsL_of (List.mem_of_getElem? (i := 522) (by decide +kernel)) rfl
theorem mv_X0_leastCopy : Cond.selects RX0 yX0_leastCopy yX0_leastCopy ∈ wsL_law := wsL_of (List.mem_of_getElem? (i := 523) (by decide +kernel)) rfl
theorem mc_X1_leastUntold : Cond.code yX1_leastUntold cX1_leastUntold 5 (some .int) ∈ wsL_law := wsL_of (List.mem_append_right _ (List.mem_append_right _ (List.mem_append_left _ (List.mem_of_getElem? (i := 48) rfl)))) rfl
theorem mn_X1_leastUntold : Cond.instanceMethod yX1_leastUntold ∈ wsL_law := wsL_of (List.mem_of_getElem? (i := 526) (by decide +kernel)) rfl
theorem mv_X1_leastUntold : Cond.selects RX1 yX1_leastUntold yX1_leastUntold ∈ wsL_law := wsL_of (List.mem_of_getElem? (i := 527) (by decide +kernel)) rfl
theorem mc_X7_bestRow : Cond.code yX7_bestRow cX7_bestRow 9 (some .int) ∈ wsL_law := wsL_of (List.mem_append_right _ (List.mem_append_right _ (List.mem_append_left _ (List.mem_of_getElem? (i := 52) rfl)))) rfl
theorem mn_X7_bestRow : Cond.instanceMethod yX7_bestRow ∈ wsL_law := wsL_of (List.mem_of_getElem? (i := 530) (by decide +kernel)) rfl
theorem mv_X7_bestRow : Cond.selects RX7 yX7_bestRow yX7_bestRow ∈ wsL_law := wsL_of (List.mem_of_getElem? (i := 531) (by decide +kernel)) rfl
theorem mc_X0_findBest : Cond.code yX0_findBest cX0_findBest 6 (some .int) ∈ wsL_law := wsL_of (List.mem_append_right _ (List.mem_append_right _ (List.mem_append_left _ (List.mem_of_getElem? (i := 56) rfl)))) rfl
theorem mn_X0_findBest : Cond.instanceMethod yX0_findBest ∈ wsL_law := wsL_of (List.mem_of_getElem? (i := 534) (by decide +kernel)) rfl
theorem mv_X0_findBest : Cond.selects RX0 yX0_findBest yX0_findBest ∈ wsL_law := wsL_of (List.mem_of_getElem? (i := 535) (by decide +kernel)) rfl
theorem mc_X0_sortRow : Cond.code yX0_sortRow cX0_sortRow 3 none ∈ wsL_law := wsL_of (List.mem_append_right _ (List.mem_append_right _ (List.mem_append_left _ (List.mem_of_getElem? (i := 60) rfl)))) rfl
theorem mn_X0_sortRow : Cond.instanceMethod yX0_sortRow ∈ wsL_law := wsL_of (List.mem_of_getElem? (i := 539) (by decide +kernel)) rfl
theorem mv_X0_sortRow : Cond.selects RX0 yX0_sortRow yX0_sortRow ∈ wsL_law := wsL_sel (List.mem_of_getElem? (i := 13) (by decide +kernel))
theorem mc_X0_exchange : Cond.code yX0_exchange cX0_exchange 4 none ∈ wsL_law := wsL_of (List.mem_append_right _ (List.mem_append_right _ (List.mem_append_left _ (List.mem_of_getElem? (i := 64) rfl)))) rfl
theorem mn_X0_exchange : Cond.instanceMethod yX0_exchange ∈ wsL_law := wsL_of (List.mem_of_getElem? (i := 543) (by decide +kernel)) rfl
theorem mv_X0_exchange : Cond.selects RX0 yX0_exchange yX0_exchange ∈ wsL_law := wsL_sel (List.mem_of_getElem? (i := 14) (by decide +kernel))
theorem mc_X0_spread : Cond.code yX0_spread cX0_spread 3 (some .int) ∈ wsL_law := wsL_of (List.mem_append_right _ (List.mem_append_right _ (List.mem_append_left _ (List.mem_of_getElem? (i := 68) rfl)))) rfl
theorem mn_X0_spread : Cond.instanceMethod yX0_spread ∈ wsL_law := wsL_of (List.mem_of_getElem? (i := 547) (by decide +kernel)) rfl
theorem mv_X0_spread : Cond.selects RX0 yX0_spread yX0_spread ∈ wsL_law := wsL_sel (List.mem_of_getElem? (i := 15) (by decide +kernel))
theorem mc_X0_keepAsBest : Cond.code yX0_keepAsBest cX0_keepAsBest 2 none ∈ wsL_law := wsL_of (List.mem_append_right _ (List.mem_append_right _ (List.mem_append_left _ (List.mem_of_getElem? (i := 74) rfl)))) rfl
theorem mn_X0_keepAsBest : Cond.instanceMethod yX0_keepAsBest ∈ wsL_law := wsL_of (List.mem_of_getElem? (i := 553) (by decide +kernel)) rfl
theorem mv_X0_keepAsBest : Cond.selects RX0 yX0_keepAsBest yX0_keepAsBest ∈ wsL_law := wsL_sel (List.mem_of_getElem? (i := 16) (by decide +kernel))
theorem mc_X0_toNextOrder : Cond.code yX0_toNextOrder cX0_toNextOrder 5 (some .boolean) ∈ wsL_law := wsL_of (List.mem_append_right _ (List.mem_append_right _ (List.mem_append_left _ (List.mem_of_getElem? (i := 78) rfl)))) rfl
theorem mn_X0_toNextOrder : Cond.instanceMethod yX0_toNextOrder ∈ wsL_law := wsL_of (List.mem_of_getElem? (i := 557) (by decide +kernel)) rfl
theorem mv_X0_toNextOrder : Cond.selects RX0 yX0_toNextOrder yX0_toNextOrder ∈ wsL_law := wsL_sel (List.mem_of_getElem? (i := 17) (by decide +kernel))
theorem mc_X0_inBest : Cond.code yX0_inBest cX0_inBest 2 (some .int) ∈ wsL_law := wsL_of (List.mem_append_right _ (List.mem_append_right _ (List.mem_append_left _ (List.mem_of_getElem? (i := 82) rfl)))) rfl
theorem mn_X0_inBest : Cond.instanceMethod yX0_inBest ∈ wsL_law := wsL_of (List.mem_of_getElem? (i := 560) (by decide +kernel)) rfl
theorem mv_X0_inBest : Cond.selects RX0 yX0_inBest yX0_inBest ∈ wsL_law := wsL_of (List.mem_of_getElem? (i := 561) (by decide +kernel)) rfl
theorem mc_X7_even : Cond.code yX7_even cX7_even 9 (some .int) ∈ wsL_law := wsL_of (List.mem_append_right _ (List.mem_append_right _ (List.mem_append_left _ (List.mem_of_getElem? (i := 86) rfl)))) rfl
theorem mn_X7_even : Cond.instanceMethod yX7_even ∈ wsL_law := wsL_of (List.mem_of_getElem? (i := 564) (by decide +kernel)) rfl
theorem mv_X7_even : Cond.selects RX7 yX7_even yX7_even ∈ wsL_law := wsL_of (List.mem_of_getElem? (i := 565) (by decide +kernel)) rfl
theorem mc_X6_weightTogether : Cond.code yX6_weightTogether cX6_weightTogether 4 (some .int) ∈ wsL_law := wsL_of (List.mem_append_right _ (List.mem_append_right _ (List.mem_append_left _ (List.mem_of_getElem? (i := 90) rfl)))) rfl
theorem mn_X6_weightTogether : Cond.instanceMethod yX6_weightTogether ∈ wsL_law := wsL_of (List.mem_of_getElem? (i := 568) (by decide +kernel)) rfl
theorem mv_X6_weightTogether : Cond.selects RX6 yX6_weightTogether yX6_weightTogether ∈ wsL_law := wsL_of (List.mem_of_getElem? (i := 569) (by decide +kernel)) rfl
theorem mc_X7_odds : Cond.code yX7_odds cX7_odds 6 (some .long) ∈ wsL_law := wsL_of (List.mem_append_right _ (List.mem_append_right _ (List.mem_append_left _ (List.mem_of_getElem? (i := 96) rfl)))) rfl
theorem mn_X7_odds : Cond.instanceMethod yX7_odds ∈ wsL_law := wsL_of (List.mem_of_getElem? (i := 574) (by decide +kernel)) rfl
theorem mv_X7_odds : Cond.selects RX7 yX7_odds yX7_odds ∈ wsL_law := wsL_of (List.mem_of_getElem? (i := 575) (by decide +kernel)) rfl
theorem mc_X4_countTold : Cond.code yX4_countTold cX4_countTold 3 (some .int) ∈ wsL_law := wsL_of (List.mem_append_right _ (List.mem_append_right _ (List.mem_append_left _ (List.mem_of_getElem? (i := 101) rfl)))) rfl
theorem mn_X4_countTold : Cond.instanceMethod yX4_countTold ∈ wsL_law := wsL_of (List.mem_of_getElem? (i := 579) (by decide +kernel)) rfl
theorem mv_X4_countTold : Cond.selects RX4 yX4_countTold yX4_countTold ∈ wsL_law := wsL_of (List.mem_of_getElem? (i := 580) (by decide +kernel)) rfl
theorem mc_X7_commonDivisor : Cond.code yX7_commonDivisor cX7_commonDivisor 3 (some .int) ∈ wsL_law := wsL_of (List.mem_append_right _ (List.mem_append_right _ (List.mem_append_left _ (List.mem_of_getElem? (i := 104) rfl)))) rfl
theorem ms_X7_commonDivisor : Cond.static yX7_commonDivisor ∈ wsL_law := wsL_of (List.mem_of_getElem? (i := 583) (by decide +kernel)) rfl
theorem mc_X7_sheet : Cond.code yX7_sheet cX7_sheet 4 (some .int) ∈ wsL_law := wsL_of (List.mem_append_right _ (List.mem_append_right _ (List.mem_append_left _ (List.mem_of_getElem? (i := 108) rfl)))) rfl
theorem mn_X7_sheet : Cond.instanceMethod yX7_sheet ∈ wsL_law := wsL_of (List.mem_of_getElem? (i := 586) (by decide +kernel)) rfl
theorem mv_X7_sheet : Cond.selects RX7 yX7_sheet yX7_sheet ∈ wsL_law := wsL_of (List.mem_of_getElem? (i := 587) (by decide +kernel)) rfl
theorem mc_X3_renew : Cond.code yX3_renew cX3_renew 5 none ∈ wsL_law := wsL_of (List.mem_append_right _ (List.mem_append_right _ (List.mem_append_left _ (List.mem_of_getElem? (i := 112) rfl)))) rfl
theorem mn_X3_renew : Cond.instanceMethod yX3_renew ∈ wsL_law := wsL_of (List.mem_of_getElem? (i := 590) (by decide +kernel)) rfl
theorem mv_X3_renew : Cond.selects RX3 yX3_renew yX3_renew ∈ wsL_law := wsL_of (List.mem_of_getElem? (i := 591) (by decide +kernel)) rfl
theorem mc_X7_lose : Cond.code yX7_lose cX7_lose 2 (some .int) ∈ wsL_law := wsL_of (List.mem_append_right _ (List.mem_append_right _ (List.mem_append_left _ (List.mem_of_getElem? (i := 116) rfl)))) rfl
theorem mn_X7_lose : Cond.instanceMethod yX7_lose ∈ wsL_law := wsL_of (List.mem_of_getElem? (i := 594) (by decide +kernel)) rfl
theorem mv_X7_lose : Cond.selects RX7 yX7_lose yX7_lose ∈ wsL_law := wsL_of (List.mem_of_getElem? (i := 595) (by decide +kernel)) rfl
theorem mc_X3_empty : Cond.code yX3_empty cX3_empty 3 (some .boolean) ∈ wsL_law := wsL_of (List.mem_append_right _ (List.mem_append_right _ (List.mem_append_left _ (List.mem_of_getElem? (i := 120) rfl)))) rfl
theorem mn_X3_empty : Cond.instanceMethod yX3_empty ∈ wsL_law := wsL_of (List.mem_of_getElem? (i := 598) (by decide +kernel)) rfl
theorem mv_X3_empty : Cond.selects RX3 yX3_empty yX3_empty ∈ wsL_law := wsL_of (List.mem_of_getElem? (i := 599) (by decide +kernel)) rfl
theorem mc_X7_put : Cond.code yX7_put cX7_put 4 (some .int) ∈ wsL_law := wsL_of (List.mem_append_right _ (List.mem_append_right _ (List.mem_append_left _ (List.mem_of_getElem? (i := 124) rfl)))) rfl
theorem mn_X7_put : Cond.instanceMethod yX7_put ∈ wsL_law := wsL_of (List.mem_of_getElem? (i := 602) (by decide +kernel)) rfl
theorem mv_X7_put : Cond.selects RX7 yX7_put yX7_put ∈ wsL_law := wsL_of (List.mem_of_getElem? (i := 603) (by decide +kernel)) rfl
theorem mc_X3_setCell : Cond.code yX3_setCell cX3_setCell 4 none ∈ wsL_law := wsL_of (List.mem_append_right _ (List.mem_append_right _ (List.mem_append_left _ (List.mem_of_getElem? (i := 130) rfl)))) rfl
theorem mn_X3_setCell : Cond.instanceMethod yX3_setCell ∈ wsL_law := wsL_of (List.mem_of_getElem? (i := 608) (by decide +kernel)) rfl
theorem mv_X3_setCell : Cond.selects RX3 yX3_setCell yX3_setCell ∈ wsL_law := wsL_of (List.mem_of_getElem? (i := 609) (by decide +kernel)) rfl
theorem mc_X3_cut : Cond.code yX3_cut cX3_cut 2 (some .int) ∈ wsL_law := wsL_of (List.mem_append_right _ (List.mem_append_right _ (List.mem_append_left _ (List.mem_of_getElem? (i := 133) rfl)))) rfl
theorem ms_X3_cut : Cond.static yX3_cut ∈ wsL_law := wsL_of (List.mem_of_getElem? (i := 612) (by decide +kernel)) rfl
theorem mc_X7_cell : Cond.code yX7_cell cX7_cell 4 (some .long) ∈ wsL_law := wsL_of (List.mem_append_right _ (List.mem_append_right _ (List.mem_append_left _ (List.mem_of_getElem? (i := 137) rfl)))) rfl
theorem mn_X7_cell : Cond.instanceMethod yX7_cell ∈ wsL_law := wsL_of (List.mem_of_getElem? (i := 615) (by decide +kernel)) rfl
theorem mv_X7_cell : Cond.selects RX7 yX7_cell yX7_cell ∈ wsL_law := wsL_of (List.mem_of_getElem? (i := 616) (by decide +kernel)) rfl
theorem mc_X7_copy : Cond.code yX7_copy cX7_copy 6 (some .int) ∈ wsL_law := wsL_of (List.mem_append_right _ (List.mem_append_right _ (List.mem_append_left _ (List.mem_of_getElem? (i := 141) rfl)))) rfl
theorem mn_X7_copy : Cond.instanceMethod yX7_copy ∈ wsL_law := wsL_of (List.mem_of_getElem? (i := 619) (by decide +kernel)) rfl
theorem mv_X7_copy : Cond.selects RX7 yX7_copy yX7_copy ∈ wsL_law := wsL_of (List.mem_of_getElem? (i := 620) (by decide +kernel)) rfl
theorem mc_X3_copyCells : Cond.code yX3_copyCells cX3_copyCells 6 none ∈ wsL_law := wsL_of (List.mem_append_right _ (List.mem_append_right _ (List.mem_append_left _ (List.mem_of_getElem? (i := 146) rfl)))) rfl
theorem mn_X3_copyCells : Cond.instanceMethod yX3_copyCells ∈ wsL_law := wsL_of (List.mem_of_getElem? (i := 624) (by decide +kernel)) rfl
theorem mv_X3_copyCells : Cond.selects RX3 yX3_copyCells yX3_copyCells ∈ wsL_law := wsL_of (List.mem_of_getElem? (i := 625) (by decide +kernel)) rfl
theorem mc_X7_tell : Cond.code yX7_tell cX7_tell 3 (some .int) ∈ wsL_law := wsL_of (List.mem_append_right _ (List.mem_append_right _ (List.mem_append_left _ (List.mem_of_getElem? (i := 153) rfl)))) rfl
theorem mn_X7_tell : Cond.instanceMethod yX7_tell ∈ wsL_law := wsL_of (List.mem_of_getElem? (i := 631) (by decide +kernel)) rfl
theorem mv_X7_tell : Cond.selects RX7 yX7_tell yX7_tell ∈ wsL_law := wsL_of (List.mem_of_getElem? (i := 632) (by decide +kernel)) rfl
theorem mc_X7_smithBody : Cond.code yX7_smithBody cX7_smithBody 3 (some .int) ∈ wsL_law := wsL_of (List.mem_append_right _ (List.mem_append_right _ (List.mem_append_left _ (List.mem_of_getElem? (i := 157) rfl)))) rfl
theorem mn_X7_smithBody : Cond.instanceMethod yX7_smithBody ∈ wsL_law := wsL_of (List.mem_of_getElem? (i := 636) (by decide +kernel)) rfl
theorem mv_X7_smithBody : Cond.selects RX7 yX7_smithBody yX7_smithBody ∈ wsL_law := wsL_sel (List.mem_of_getElem? (i := 18) (by decide +kernel))
theorem mc_X7_leaveTrace : Cond.code yX7_leaveTrace cX7_leaveTrace 2 none ∈ wsL_law := wsL_of (List.mem_append_right _ (List.mem_append_right _ (List.mem_append_left _ (List.mem_of_getElem? (i := 161) rfl)))) rfl
theorem mn_X7_leaveTrace : Cond.instanceMethod yX7_leaveTrace ∈ wsL_law := wsL_of (List.mem_of_getElem? (i := 640) (by decide +kernel)) rfl
theorem mv_X7_leaveTrace : Cond.selects RX7 yX7_leaveTrace yX7_leaveTrace ∈ wsL_law := wsL_sel (List.mem_of_getElem? (i := 19) (by decide +kernel))
theorem mc_X7_steadyBody : Cond.code yX7_steadyBody cX7_steadyBody 2 (some .int) ∈ wsL_law := wsL_of (List.mem_append_right _ (List.mem_append_right _ (List.mem_append_left _ (List.mem_of_getElem? (i := 165) rfl)))) rfl
theorem mn_X7_steadyBody : Cond.instanceMethod yX7_steadyBody ∈ wsL_law := wsL_of (List.mem_of_getElem? (i := 644) (by decide +kernel)) rfl
theorem mv_X7_steadyBody : Cond.selects RX7 yX7_steadyBody yX7_steadyBody ∈ wsL_law := wsL_sel (List.mem_of_getElem? (i := 20) (by decide +kernel))
theorem mc_X7_handBody : Cond.code yX7_handBody cX7_handBody 2 (some .int) ∈ wsL_law := wsL_of (List.mem_append_right _ (List.mem_append_right _ (List.mem_append_left _ (List.mem_of_getElem? (i := 169) rfl)))) rfl
theorem mn_X7_handBody : Cond.instanceMethod yX7_handBody ∈ wsL_law := wsL_of (List.mem_of_getElem? (i := 648) (by decide +kernel)) rfl
theorem mv_X7_handBody : Cond.selects RX7 yX7_handBody yX7_handBody ∈ wsL_law := wsL_sel (List.mem_of_getElem? (i := 21) (by decide +kernel))
theorem mc_X7_shake : Cond.code yX7_shake cX7_shake 2 (some .int) ∈ wsL_law := wsL_of (List.mem_append_right _ (List.mem_append_right _ (List.mem_append_left _ (List.mem_of_getElem? (i := 173) rfl)))) rfl
theorem mn_X7_shake : Cond.instanceMethod yX7_shake ∈ wsL_law := wsL_of (List.mem_of_getElem? (i := 651) (by decide +kernel)) rfl
theorem mv_X7_shake : Cond.selects RX7 yX7_shake yX7_shake ∈ wsL_law := wsL_of (List.mem_of_getElem? (i := 652) (by decide +kernel)) rfl
theorem mc_X7_smithsOwnBody : Cond.code yX7_smithsOwnBody cX7_smithsOwnBody 1 (some .int) ∈ wsL_law := wsL_of (List.mem_append_right _ (List.mem_append_right _ (List.mem_append_left _ (List.mem_of_getElem? (i := 177) rfl)))) rfl
theorem mn_X7_smithsOwnBody : Cond.instanceMethod yX7_smithsOwnBody ∈ wsL_law := wsL_of (List.mem_of_getElem? (i := 656) (by decide +kernel)) rfl
theorem mv_X7_smithsOwnBody : Cond.selects RX7 yX7_smithsOwnBody yX7_smithsOwnBody ∈ wsL_law := wsL_sel (List.mem_of_getElem? (i := 22) (by decide +kernel))
theorem mc_X7_lentBody : Cond.code yX7_lentBody cX7_lentBody 2 (some .int) ∈ wsL_law := wsL_of (List.mem_append_right _ (List.mem_append_right _ (List.mem_append_left _ (List.mem_of_getElem? (i := 181) rfl)))) rfl
theorem mn_X7_lentBody : Cond.instanceMethod yX7_lentBody ∈ wsL_law := wsL_of (List.mem_of_getElem? (i := 660) (by decide +kernel)) rfl
theorem mv_X7_lentBody : Cond.selects RX7 yX7_lentBody yX7_lentBody ∈ wsL_law := wsL_sel (List.mem_of_getElem? (i := 23) (by decide +kernel))
theorem mc_X7_as : Cond.code yX7_as cX7_as 3 (some .int) ∈ wsL_law := wsL_of (List.mem_append_right _ (List.mem_append_right _ (List.mem_append_left _ (List.mem_of_getElem? (i := 185) rfl)))) rfl
theorem mn_X7_as : Cond.instanceMethod yX7_as ∈ wsL_law := wsL_of (List.mem_of_getElem? (i := 663) (by decide +kernel)) rfl
theorem mv_X7_as : Cond.selects RX7 yX7_as yX7_as ∈ wsL_law := wsL_of (List.mem_of_getElem? (i := 664) (by decide +kernel)) rfl
theorem mc_X7_trace : Cond.code yX7_trace cX7_trace 1 (some .int) ∈ wsL_law := wsL_of (List.mem_append_right _ (List.mem_append_right _ (List.mem_append_left _ (List.mem_of_getElem? (i := 189) rfl)))) rfl
theorem mn_X7_trace : Cond.instanceMethod yX7_trace ∈ wsL_law := wsL_of (List.mem_of_getElem? (i := 667) (by decide +kernel)) rfl
theorem mv_X7_trace : Cond.selects RX7 yX7_trace yX7_trace ∈ wsL_law := wsL_of (List.mem_of_getElem? (i := 668) (by decide +kernel)) rfl
theorem mc_X7_fault : Cond.code yX7_fault cX7_fault 1 (some .int) ∈ wsL_law := wsL_of (List.mem_append_right _ (List.mem_append_right _ (List.mem_append_left _ (List.mem_of_getElem? (i := 193) rfl)))) rfl
theorem mn_X7_fault : Cond.instanceMethod yX7_fault ∈ wsL_law := wsL_of (List.mem_of_getElem? (i := 671) (by decide +kernel)) rfl
theorem mv_X7_fault : Cond.selects RX7 yX7_fault yX7_fault ∈ wsL_law := wsL_of (List.mem_of_getElem? (i := 672) (by decide +kernel)) rfl
theorem mc_X7_many : Cond.code yX7_many cX7_many 2 (some .int) ∈ wsL_law := wsL_of (List.mem_append_right _ (List.mem_append_right _ (List.mem_append_left _ (List.mem_of_getElem? (i := 197) rfl)))) rfl
theorem mn_X7_many : Cond.instanceMethod yX7_many ∈ wsL_law := wsL_of (List.mem_of_getElem? (i := 675) (by decide +kernel)) rfl
theorem mv_X7_many : Cond.selects RX7 yX7_many yX7_many ∈ wsL_law := wsL_of (List.mem_of_getElem? (i := 676) (by decide +kernel)) rfl
theorem mc_X1_count : Cond.code yX1_count cX1_count 1 (some .int) ∈ wsL_law := wsL_of (List.mem_append_right _ (List.mem_append_right _ (List.mem_append_left _ (List.mem_of_getElem? (i := 201) rfl)))) rfl
theorem mn_X1_count : Cond.instanceMethod yX1_count ∈ wsL_law := wsL_of (List.mem_of_getElem? (i := 679) (by decide +kernel)) rfl
theorem mv_X1_count : Cond.selects RX1 yX1_count yX1_count ∈ wsL_law := wsL_of (List.mem_of_getElem? (i := 680) (by decide +kernel)) rfl
theorem mc_X8_init : Cond.code yX8_init cX8_init 1 none ∈ wsL_law := wsL_of (List.mem_append_right _ (List.mem_append_right _ (List.mem_append_left _ (List.mem_of_getElem? (i := 206) rfl)))) rfl
theorem mn_X8_init : Cond.instanceMethod yX8_init ∈ wsL_law := wsL_of (List.mem_of_getElem? (i := 685) (by decide +kernel)) rfl
theorem mc_X8_market : Cond.code yX8_market cX8_market 8 (some .int) ∈ wsL_law := wsL_of (List.mem_append_right _ (List.mem_append_right _ (List.mem_append_right _ (List.mem_append_left _ (List.mem_of_getElem? (i := 41) rfl))))) rfl
theorem mn_X8_market : Cond.instanceMethod yX8_market ∈ wsL_law := wsL_of (List.mem_of_getElem? (i := 759) (by decide +kernel)) rfl
theorem mv_X8_market : Cond.selects RX8 yX8_market yX8_market ∈ wsL_law := wsL_of (List.mem_of_getElem? (i := 760) (by decide +kernel)) rfl
theorem mc_X8_isSheet : Cond.code yX8_isSheet cX8_isSheet 1 (some .boolean) ∈ wsL_law := wsL_of (List.mem_append_right _ (List.mem_append_right _ (List.mem_append_right _ (List.mem_append_left _ (List.mem_of_getElem? (i := 44) rfl))))) rfl
theorem ms_X8_isSheet : Cond.static yX8_isSheet ∈ wsL_law := wsL_of (List.mem_of_getElem? (i := 763) (by decide +kernel)) rfl
theorem mc_X8_within : Cond.code yX8_within cX8_within 3 (some .boolean) ∈ wsL_law := wsL_of (List.mem_append_right _ (List.mem_append_right _ (List.mem_append_right _ (List.mem_append_left _ (List.mem_of_getElem? (i := 47) rfl))))) rfl
theorem ms_X8_within : Cond.static yX8_within ∈ wsL_law := wsL_of (List.mem_of_getElem? (i := 766) (by decide +kernel)) rfl
theorem mc_X8_isSort : Cond.code yX8_isSort cX8_isSort 1 (some .boolean) ∈ wsL_law := wsL_of (List.mem_append_right _ (List.mem_append_right _ (List.mem_append_right _ (List.mem_append_left _ (List.mem_of_getElem? (i := 50) rfl))))) rfl
theorem ms_X8_isSort : Cond.static yX8_isSort ∈ wsL_law := wsL_of (List.mem_of_getElem? (i := 769) (by decide +kernel)) rfl
theorem mc_X8_against : Cond.code yX8_against cX8_against 5 (some .int) ∈ wsL_law := wsL_of (List.mem_append_right _ (List.mem_append_right _ (List.mem_append_right _ (List.mem_append_left _ (List.mem_of_getElem? (i := 54) rfl))))) rfl
theorem mn_X8_against : Cond.instanceMethod yX8_against ∈ wsL_law := wsL_of (List.mem_of_getElem? (i := 773) (by decide +kernel)) rfl
theorem mv_X8_against : Cond.selects RX8 yX8_against yX8_against ∈ wsL_law := wsL_sel (List.mem_of_getElem? (i := 24) (by decide +kernel))
theorem mc_X8_fails : Cond.code yX8_fails cX8_fails 2 (some .int) ∈ wsL_law := wsL_of (List.mem_append_right _ (List.mem_append_right _ (List.mem_append_right _ (List.mem_append_left _ (List.mem_of_getElem? (i := 58) rfl))))) rfl
theorem mn_X8_fails : Cond.instanceMethod yX8_fails ∈ wsL_law := wsL_of (List.mem_of_getElem? (i := 777) (by decide +kernel)) rfl
theorem mv_X8_fails : Cond.selects RX8 yX8_fails yX8_fails ∈ wsL_law := wsL_sel (List.mem_of_getElem? (i := 25) (by decide +kernel))
theorem mc_X8_readMarket : Cond.code yX8_readMarket cX8_readMarket 4 (some .boolean) ∈ wsL_law := wsL_of (List.mem_append_right _ (List.mem_append_right _ (List.mem_append_right _ (List.mem_append_left _ (List.mem_of_getElem? (i := 62) rfl))))) rfl
theorem mn_X8_readMarket : Cond.instanceMethod yX8_readMarket ∈ wsL_law := wsL_of (List.mem_of_getElem? (i := 781) (by decide +kernel)) rfl
theorem mv_X8_readMarket : Cond.selects RX8 yX8_readMarket yX8_readMarket ∈ wsL_law := wsL_sel (List.mem_of_getElem? (i := 26) (by decide +kernel))
theorem mc_X8_weight : Cond.code yX8_weight cX8_weight 2 (some .int) ∈ wsL_law := wsL_of (List.mem_append_right _ (List.mem_append_right _ (List.mem_append_right _ (List.mem_append_left _ (List.mem_of_getElem? (i := 66) rfl))))) rfl
theorem mn_X8_weight : Cond.instanceMethod yX8_weight ∈ wsL_law := wsL_of (List.mem_of_getElem? (i := 784) (by decide +kernel)) rfl
theorem mv_X8_weight : Cond.selects RX8 yX8_weight yX8_weight ∈ wsL_law := wsL_of (List.mem_of_getElem? (i := 785) (by decide +kernel)) rfl
theorem mc_X8_isThing : Cond.code yX8_isThing cX8_isThing 2 (some .boolean) ∈ wsL_law := wsL_of (List.mem_append_right _ (List.mem_append_right _ (List.mem_append_right _ (List.mem_append_left _ (List.mem_of_getElem? (i := 70) rfl))))) rfl
theorem mn_X8_isThing : Cond.instanceMethod yX8_isThing ∈ wsL_law := wsL_of (List.mem_of_getElem? (i := 789) (by decide +kernel)) rfl
theorem mv_X8_isThing : Cond.selects RX8 yX8_isThing yX8_isThing ∈ wsL_law := wsL_sel (List.mem_of_getElem? (i := 27) (by decide +kernel))
theorem mc_X8_weigh : Cond.code yX8_weigh cX8_weigh 4 (some .int) ∈ wsL_law := wsL_of (List.mem_append_right _ (List.mem_append_right _ (List.mem_append_right _ (List.mem_append_left _ (List.mem_of_getElem? (i := 74) rfl))))) rfl
theorem mn_X8_weigh : Cond.instanceMethod yX8_weigh ∈ wsL_law := wsL_of (List.mem_of_getElem? (i := 792) (by decide +kernel)) rfl
theorem mv_X8_weigh : Cond.selects RX8 yX8_weigh yX8_weigh ∈ wsL_law := wsL_of (List.mem_of_getElem? (i := 793) (by decide +kernel)) rfl
theorem mc_X8_isWeight : Cond.code yX8_isWeight cX8_isWeight 1 (some .boolean) ∈ wsL_law := wsL_of (List.mem_append_right _ (List.mem_append_right _ (List.mem_append_right _ (List.mem_append_left _ (List.mem_of_getElem? (i := 77) rfl))))) rfl
theorem ms_X8_isWeight : Cond.static yX8_isWeight ∈ wsL_law := wsL_of (List.mem_of_getElem? (i := 796) (by decide +kernel)) rfl
theorem mc_X8_hand : Cond.code yX8_hand cX8_hand 3 (some .int) ∈ wsL_law := wsL_of (List.mem_append_right _ (List.mem_append_right _ (List.mem_append_right _ (List.mem_append_left _ (List.mem_of_getElem? (i := 81) rfl))))) rfl
theorem mn_X8_hand : Cond.instanceMethod yX8_hand ∈ wsL_law := wsL_of (List.mem_of_getElem? (i := 799) (by decide +kernel)) rfl
theorem mv_X8_hand : Cond.selects RX8 yX8_hand yX8_hand ∈ wsL_law := wsL_of (List.mem_of_getElem? (i := 800) (by decide +kernel)) rfl
theorem mc_X8_ofHand : Cond.code yX8_ofHand cX8_ofHand 3 (some .int) ∈ wsL_law := wsL_of (List.mem_append_right _ (List.mem_append_right _ (List.mem_append_right _ (List.mem_append_left _ (List.mem_of_getElem? (i := 85) rfl))))) rfl
theorem mn_X8_ofHand : Cond.instanceMethod yX8_ofHand ∈ wsL_law := wsL_of (List.mem_of_getElem? (i := 803) (by decide +kernel)) rfl
theorem mv_X8_ofHand : Cond.selects RX8 yX8_ofHand yX8_ofHand ∈ wsL_law := wsL_of (List.mem_of_getElem? (i := 804) (by decide +kernel)) rfl
theorem mc_X8_isHand : Cond.code yX8_isHand cX8_isHand 2 (some .boolean) ∈ wsL_law := wsL_of (List.mem_append_right _ (List.mem_append_right _ (List.mem_append_right _ (List.mem_append_left _ (List.mem_of_getElem? (i := 89) rfl))))) rfl
theorem mn_X8_isHand : Cond.instanceMethod yX8_isHand ∈ wsL_law := wsL_of (List.mem_of_getElem? (i := 808) (by decide +kernel)) rfl
theorem mv_X8_isHand : Cond.selects RX8 yX8_isHand yX8_isHand ∈ wsL_law := wsL_sel (List.mem_of_getElem? (i := 28) (by decide +kernel))
theorem mc_X8_tells : Cond.code yX8_tells cX8_tells 4 (some .int) ∈ wsL_law := wsL_of (List.mem_append_right _ (List.mem_append_right _ (List.mem_append_right _ (List.mem_append_left _ (List.mem_of_getElem? (i := 93) rfl))))) rfl
theorem mn_X8_tells : Cond.instanceMethod yX8_tells ∈ wsL_law := wsL_of (List.mem_of_getElem? (i := 811) (by decide +kernel)) rfl
theorem mv_X8_tells : Cond.selects RX8 yX8_tells yX8_tells ∈ wsL_law := wsL_of (List.mem_of_getElem? (i := 812) (by decide +kernel)) rfl
theorem mc_X8_isTold : Cond.code yX8_isTold cX8_isTold 5 (some .boolean) ∈ wsL_law := wsL_of (List.mem_append_right _ (List.mem_append_right _ (List.mem_append_right _ (List.mem_append_left _ (List.mem_of_getElem? (i := 97) rfl))))) rfl
theorem mn_X8_isTold : Cond.instanceMethod yX8_isTold ∈ wsL_law := wsL_of (List.mem_of_getElem? (i := 816) (by decide +kernel)) rfl
theorem mv_X8_isTold : Cond.selects RX8 yX8_isTold yX8_isTold ∈ wsL_law := wsL_sel (List.mem_of_getElem? (i := 29) (by decide +kernel))
theorem mc_X8_times : Cond.code yX8_times cX8_times 2 (some .int) ∈ wsL_law := wsL_of (List.mem_append_right _ (List.mem_append_right _ (List.mem_append_right _ (List.mem_append_left _ (List.mem_of_getElem? (i := 101) rfl))))) rfl
theorem mn_X8_times : Cond.instanceMethod yX8_times ∈ wsL_law := wsL_of (List.mem_of_getElem? (i := 820) (by decide +kernel)) rfl
theorem mv_X8_times : Cond.selects RX8 yX8_times yX8_times ∈ wsL_law := wsL_sel (List.mem_of_getElem? (i := 30) (by decide +kernel))
theorem mc_X8_alike : Cond.code yX8_alike cX8_alike 3 (some .int) ∈ wsL_law := wsL_of (List.mem_append_right _ (List.mem_append_right _ (List.mem_append_right _ (List.mem_append_left _ (List.mem_of_getElem? (i := 105) rfl))))) rfl
theorem mn_X8_alike : Cond.instanceMethod yX8_alike ∈ wsL_law := wsL_of (List.mem_of_getElem? (i := 823) (by decide +kernel)) rfl
theorem mv_X8_alike : Cond.selects RX8 yX8_alike yX8_alike ∈ wsL_law := wsL_of (List.mem_of_getElem? (i := 824) (by decide +kernel)) rfl
theorem mc_X8_alikeTo : Cond.code yX8_alikeTo cX8_alikeTo 5 (some .int) ∈ wsL_law := wsL_of (List.mem_append_right _ (List.mem_append_right _ (List.mem_append_right _ (List.mem_append_left _ (List.mem_of_getElem? (i := 109) rfl))))) rfl
theorem mn_X8_alikeTo : Cond.instanceMethod yX8_alikeTo ∈ wsL_law := wsL_of (List.mem_of_getElem? (i := 828) (by decide +kernel)) rfl
theorem mv_X8_alikeTo : Cond.selects RX8 yX8_alikeTo yX8_alikeTo ∈ wsL_law := wsL_sel (List.mem_of_getElem? (i := 31) (by decide +kernel))
theorem mc_X8_areAlike : Cond.code yX8_areAlike cX8_areAlike 4 (some .boolean) ∈ wsL_law := wsL_of (List.mem_append_right _ (List.mem_append_right _ (List.mem_append_right _ (List.mem_append_left _ (List.mem_of_getElem? (i := 113) rfl))))) rfl
theorem mn_X8_areAlike : Cond.instanceMethod yX8_areAlike ∈ wsL_law := wsL_of (List.mem_of_getElem? (i := 832) (by decide +kernel)) rfl
theorem mv_X8_areAlike : Cond.selects RX8 yX8_areAlike yX8_areAlike ∈ wsL_law := wsL_sel (List.mem_of_getElem? (i := 32) (by decide +kernel))
theorem mc_X8_tellsThem : Cond.code yX8_tellsThem cX8_tellsThem 4 (some .boolean) ∈ wsL_law := wsL_of (List.mem_append_right _ (List.mem_append_right _ (List.mem_append_right _ (List.mem_append_left _ (List.mem_of_getElem? (i := 117) rfl))))) rfl
theorem mn_X8_tellsThem : Cond.instanceMethod yX8_tellsThem ∈ wsL_law := wsL_of (List.mem_of_getElem? (i := 836) (by decide +kernel)) rfl
theorem mv_X8_tellsThem : Cond.selects RX8 yX8_tellsThem yX8_tellsThem ∈ wsL_law := wsL_sel (List.mem_of_getElem? (i := 33) (by decide +kernel))
theorem mc_X8_finer : Cond.code yX8_finer cX8_finer 7 (some .int) ∈ wsL_law := wsL_of (List.mem_append_right _ (List.mem_append_right _ (List.mem_append_right _ (List.mem_append_left _ (List.mem_of_getElem? (i := 121) rfl))))) rfl
theorem mn_X8_finer : Cond.instanceMethod yX8_finer ∈ wsL_law := wsL_of (List.mem_of_getElem? (i := 839) (by decide +kernel)) rfl
theorem mv_X8_finer : Cond.selects RX8 yX8_finer yX8_finer ∈ wsL_law := wsL_of (List.mem_of_getElem? (i := 840) (by decide +kernel)) rfl
theorem mc_X8_way : Cond.code yX8_way cX8_way 7 (some .int) ∈ wsL_law := wsL_of (List.mem_append_right _ (List.mem_append_right _ (List.mem_append_right _ (List.mem_append_left _ (List.mem_of_getElem? (i := 125) rfl))))) rfl
theorem mn_X8_way : Cond.instanceMethod yX8_way ∈ wsL_law := wsL_of (List.mem_of_getElem? (i := 843) (by decide +kernel)) rfl
theorem mv_X8_way : Cond.selects RX8 yX8_way yX8_way ∈ wsL_law := wsL_of (List.mem_of_getElem? (i := 844) (by decide +kernel)) rfl
theorem mc_X8_findFar : Cond.code yX8_findFar cX8_findFar 6 none ∈ wsL_law := wsL_of (List.mem_append_right _ (List.mem_append_right _ (List.mem_append_right _ (List.mem_append_left _ (List.mem_of_getElem? (i := 129) rfl))))) rfl
theorem mn_X8_findFar : Cond.instanceMethod yX8_findFar ∈ wsL_law := wsL_of (List.mem_of_getElem? (i := 848) (by decide +kernel)) rfl
theorem mv_X8_findFar : Cond.selects RX8 yX8_findFar yX8_findFar ∈ wsL_law := wsL_sel (List.mem_of_getElem? (i := 34) (by decide +kernel))
theorem mc_X8_nextOf : Cond.code yX8_nextOf cX8_nextOf 4 (some .int) ∈ wsL_law := wsL_of (List.mem_append_right _ (List.mem_append_right _ (List.mem_append_right _ (List.mem_append_left _ (List.mem_of_getElem? (i := 133) rfl))))) rfl
theorem mn_X8_nextOf : Cond.instanceMethod yX8_nextOf ∈ wsL_law := wsL_of (List.mem_of_getElem? (i := 852) (by decide +kernel)) rfl
theorem mv_X8_nextOf : Cond.selects RX8 yX8_nextOf yX8_nextOf ∈ wsL_law := wsL_sel (List.mem_of_getElem? (i := 35) (by decide +kernel))
theorem mc_X8_noon : Cond.code yX8_noon cX8_noon 6 (some .int) ∈ wsL_law := wsL_of (List.mem_append_right _ (List.mem_append_right _ (List.mem_append_right _ (List.mem_append_left _ (List.mem_of_getElem? (i := 137) rfl))))) rfl
theorem mn_X8_noon : Cond.instanceMethod yX8_noon ∈ wsL_law := wsL_of (List.mem_of_getElem? (i := 855) (by decide +kernel)) rfl
theorem mv_X8_noon : Cond.selects RX8 yX8_noon yX8_noon ∈ wsL_law := wsL_of (List.mem_of_getElem? (i := 856) (by decide +kernel)) rfl
theorem mc_X8_gain : Cond.code yX8_gain cX8_gain 12 (some .int) ∈ wsL_law := wsL_of (List.mem_append_right _ (List.mem_append_right _ (List.mem_append_right _ (List.mem_append_left _ (List.mem_of_getElem? (i := 141) rfl))))) rfl
theorem mn_X8_gain : Cond.instanceMethod yX8_gain ∈ wsL_law := wsL_of (List.mem_of_getElem? (i := 859) (by decide +kernel)) rfl
theorem mv_X8_gain : Cond.selects RX8 yX8_gain yX8_gain ∈ wsL_law := wsL_of (List.mem_of_getElem? (i := 860) (by decide +kernel)) rfl
theorem mc_X8_isGot : Cond.code yX8_isGot cX8_isGot 6 (some .boolean) ∈ wsL_law := wsL_of (List.mem_append_right _ (List.mem_append_right _ (List.mem_append_right _ (List.mem_append_left _ (List.mem_of_getElem? (i := 145) rfl))))) rfl
theorem mn_X8_isGot : Cond.instanceMethod yX8_isGot ∈ wsL_law := wsL_of (List.mem_of_getElem? (i := 864) (by decide +kernel)) rfl
theorem mv_X8_isGot : Cond.selects RX8 yX8_isGot yX8_isGot ∈ wsL_law := wsL_sel (List.mem_of_getElem? (i := 36) (by decide +kernel))
theorem mc_X8_saying : Cond.code yX8_saying cX8_saying 5 (some .int) ∈ wsL_law := wsL_of (List.mem_append_right _ (List.mem_append_right _ (List.mem_append_right _ (List.mem_append_left _ (List.mem_of_getElem? (i := 149) rfl))))) rfl
theorem mn_X8_saying : Cond.instanceMethod yX8_saying ∈ wsL_law := wsL_of (List.mem_of_getElem? (i := 867) (by decide +kernel)) rfl
theorem mv_X8_saying : Cond.selects RX8 yX8_saying yX8_saying ∈ wsL_law := wsL_of (List.mem_of_getElem? (i := 868) (by decide +kernel)) rfl
theorem mc_X8_back : Cond.code yX8_back cX8_back 2 (some .int) ∈ wsL_law := wsL_of (List.mem_append_right _ (List.mem_append_right _ (List.mem_append_right _ (List.mem_append_left _ (List.mem_of_getElem? (i := 153) rfl))))) rfl
theorem mn_X8_back : Cond.instanceMethod yX8_back ∈ wsL_law := wsL_of (List.mem_of_getElem? (i := 871) (by decide +kernel)) rfl
theorem mv_X8_back : Cond.selects RX8 yX8_back yX8_back ∈ wsL_law := wsL_of (List.mem_of_getElem? (i := 872) (by decide +kernel)) rfl
theorem mc_X8_untrue : Cond.code yX8_untrue cX8_untrue 3 (some .int) ∈ wsL_law := wsL_of (List.mem_append_right _ (List.mem_append_right _ (List.mem_append_right _ (List.mem_append_left _ (List.mem_of_getElem? (i := 157) rfl))))) rfl
theorem mn_X8_untrue : Cond.instanceMethod yX8_untrue ∈ wsL_law := wsL_of (List.mem_of_getElem? (i := 875) (by decide +kernel)) rfl
theorem mv_X8_untrue : Cond.selects RX8 yX8_untrue yX8_untrue ∈ wsL_law := wsL_of (List.mem_of_getElem? (i := 876) (by decide +kernel)) rfl
theorem mc_X8_isSo : Cond.code yX8_isSo cX8_isSo 4 (some .boolean) ∈ wsL_law := wsL_of (List.mem_append_right _ (List.mem_append_right _ (List.mem_append_right _ (List.mem_append_left _ (List.mem_of_getElem? (i := 161) rfl))))) rfl
theorem mn_X8_isSo : Cond.instanceMethod yX8_isSo ∈ wsL_law := wsL_of (List.mem_of_getElem? (i := 880) (by decide +kernel)) rfl
theorem mv_X8_isSo : Cond.selects RX8 yX8_isSo yX8_isSo ∈ wsL_law := wsL_sel (List.mem_of_getElem? (i := 37) (by decide +kernel))
theorem mc_X8_leaves : Cond.code yX8_leaves cX8_leaves 8 (some .int) ∈ wsL_law := wsL_of (List.mem_append_right _ (List.mem_append_right _ (List.mem_append_right _ (List.mem_append_left _ (List.mem_of_getElem? (i := 165) rfl))))) rfl
theorem mn_X8_leaves : Cond.instanceMethod yX8_leaves ∈ wsL_law := wsL_of (List.mem_of_getElem? (i := 883) (by decide +kernel)) rfl
theorem mv_X8_leaves : Cond.selects RX8 yX8_leaves yX8_leaves ∈ wsL_law := wsL_of (List.mem_of_getElem? (i := 884) (by decide +kernel)) rfl
theorem mc_X8_falseOf : Cond.code yX8_falseOf cX8_falseOf 4 (some .int) ∈ wsL_law := wsL_of (List.mem_append_right _ (List.mem_append_right _ (List.mem_append_right _ (List.mem_append_left _ (List.mem_of_getElem? (i := 169) rfl))))) rfl
theorem mn_X8_falseOf : Cond.instanceMethod yX8_falseOf ∈ wsL_law := wsL_of (List.mem_of_getElem? (i := 888) (by decide +kernel)) rfl
theorem mv_X8_falseOf : Cond.selects RX8 yX8_falseOf yX8_falseOf ∈ wsL_law := wsL_sel (List.mem_of_getElem? (i := 38) (by decide +kernel))
theorem mc_X8_breaks : Cond.code yX8_breaks cX8_breaks 8 (some .int) ∈ wsL_law := wsL_of (List.mem_append_right _ (List.mem_append_right _ (List.mem_append_right _ (List.mem_append_left _ (List.mem_of_getElem? (i := 173) rfl))))) rfl
theorem mn_X8_breaks : Cond.instanceMethod yX8_breaks ∈ wsL_law := wsL_of (List.mem_of_getElem? (i := 891) (by decide +kernel)) rfl
theorem mv_X8_breaks : Cond.selects RX8 yX8_breaks yX8_breaks ∈ wsL_law := wsL_of (List.mem_of_getElem? (i := 892) (by decide +kernel)) rfl
theorem mc_X8_rows : Cond.code yX8_rows cX8_rows 6 (some .int) ∈ wsL_law := wsL_of (List.mem_append_right _ (List.mem_append_right _ (List.mem_append_right _ (List.mem_append_left _ (List.mem_of_getElem? (i := 177) rfl))))) rfl
theorem mn_X8_rows : Cond.instanceMethod yX8_rows ∈ wsL_law := wsL_of (List.mem_of_getElem? (i := 895) (by decide +kernel)) rfl
theorem mv_X8_rows : Cond.selects RX8 yX8_rows yX8_rows ∈ wsL_law := wsL_of (List.mem_of_getElem? (i := 896) (by decide +kernel)) rfl
theorem mc_X8_inFirstRow : Cond.code yX8_inFirstRow cX8_inFirstRow 6 (some .int) ∈ wsL_law := wsL_of (List.mem_append_right _ (List.mem_append_right _ (List.mem_append_right _ (List.mem_append_left _ (List.mem_of_getElem? (i := 181) rfl))))) rfl
theorem mn_X8_inFirstRow : Cond.instanceMethod yX8_inFirstRow ∈ wsL_law := wsL_of (List.mem_of_getElem? (i := 900) (by decide +kernel)) rfl
theorem mv_X8_inFirstRow : Cond.selects RX8 yX8_inFirstRow yX8_inFirstRow ∈ wsL_law := wsL_sel (List.mem_of_getElem? (i := 39) (by decide +kernel))
theorem mc_X8_mayStand : Cond.code yX8_mayStand cX8_mayStand 5 (some .boolean) ∈ wsL_law := wsL_of (List.mem_append_right _ (List.mem_append_right _ (List.mem_append_right _ (List.mem_append_left _ (List.mem_of_getElem? (i := 185) rfl))))) rfl
theorem mn_X8_mayStand : Cond.instanceMethod yX8_mayStand ∈ wsL_law := wsL_of (List.mem_of_getElem? (i := 904) (by decide +kernel)) rfl
theorem mv_X8_mayStand : Cond.selects RX8 yX8_mayStand yX8_mayStand ∈ wsL_law := wsL_sel (List.mem_of_getElem? (i := 40) (by decide +kernel))
theorem mc_X8_longest : Cond.code yX8_longest cX8_longest 6 (some .int) ∈ wsL_law := wsL_of (List.mem_append_right _ (List.mem_append_right _ (List.mem_append_right _ (List.mem_append_left _ (List.mem_of_getElem? (i := 189) rfl))))) rfl
theorem mn_X8_longest : Cond.instanceMethod yX8_longest ∈ wsL_law := wsL_of (List.mem_of_getElem? (i := 907) (by decide +kernel)) rfl
theorem mv_X8_longest : Cond.selects RX8 yX8_longest yX8_longest ∈ wsL_law := wsL_of (List.mem_of_getElem? (i := 908) (by decide +kernel)) rfl
theorem mc_X8_crowd : Cond.code yX8_crowd cX8_crowd 4 (some .int) ∈ wsL_law := wsL_of (List.mem_append_right _ (List.mem_append_right _ (List.mem_append_right _ (List.mem_append_left _ (List.mem_of_getElem? (i := 193) rfl))))) rfl
theorem mn_X8_crowd : Cond.instanceMethod yX8_crowd ∈ wsL_law := wsL_of (List.mem_of_getElem? (i := 911) (by decide +kernel)) rfl
theorem mv_X8_crowd : Cond.selects RX8 yX8_crowd yX8_crowd ∈ wsL_law := wsL_of (List.mem_of_getElem? (i := 912) (by decide +kernel)) rfl
theorem mc_X8_bits : Cond.code yX8_bits cX8_bits 3 (some .int) ∈ wsL_law := wsL_of (List.mem_append_right _ (List.mem_append_right _ (List.mem_append_right _ (List.mem_append_left _ (List.mem_of_getElem? (i := 196) rfl))))) rfl
theorem ms_X8_bits : Cond.static yX8_bits ∈ wsL_law := wsL_of (List.mem_of_getElem? (i := 915) (by decide +kernel)) rfl
theorem mc_X8_isCrowd : Cond.code yX8_isCrowd cX8_isCrowd 4 (some .boolean) ∈ wsL_law := wsL_of (List.mem_append_right _ (List.mem_append_right _ (List.mem_append_right _ (List.mem_append_left _ (List.mem_of_getElem? (i := 200) rfl))))) rfl
theorem mn_X8_isCrowd : Cond.instanceMethod yX8_isCrowd ∈ wsL_law := wsL_of (List.mem_of_getElem? (i := 919) (by decide +kernel)) rfl
theorem mv_X8_isCrowd : Cond.selects RX8 yX8_isCrowd yX8_isCrowd ∈ wsL_law := wsL_sel (List.mem_of_getElem? (i := 41) (by decide +kernel))
theorem mc_X8_measure : Cond.code yX8_measure cX8_measure 7 (some .int) ∈ wsL_law := wsL_of (List.mem_append_right _ (List.mem_append_right _ (List.mem_append_right _ (List.mem_append_left _ (List.mem_of_getElem? (i := 204) rfl))))) rfl
theorem mn_X8_measure : Cond.instanceMethod yX8_measure ∈ wsL_law := wsL_of (List.mem_of_getElem? (i := 922) (by decide +kernel)) rfl
theorem mv_X8_measure : Cond.selects RX8 yX8_measure yX8_measure ∈ wsL_law := wsL_of (List.mem_of_getElem? (i := 923) (by decide +kernel)) rfl
theorem mc_X8_copies : Cond.code yX8_copies cX8_copies 9 (some .int) ∈ wsL_law := wsL_of (List.mem_append_right _ (List.mem_append_right _ (List.mem_append_right _ (List.mem_append_left _ (List.mem_of_getElem? (i := 208) rfl))))) rfl
theorem mn_X8_copies : Cond.instanceMethod yX8_copies ∈ wsL_law := wsL_of (List.mem_of_getElem? (i := 926) (by decide +kernel)) rfl
theorem mv_X8_copies : Cond.selects RX8 yX8_copies yX8_copies ∈ wsL_law := wsL_of (List.mem_of_getElem? (i := 927) (by decide +kernel)) rfl
theorem mc_X8_layRow : Cond.code yX8_layRow cX8_layRow 6 (some .int) ∈ wsL_law := wsL_of (List.mem_append_right _ (List.mem_append_right _ (List.mem_append_right _ (List.mem_append_left _ (List.mem_of_getElem? (i := 212) rfl))))) rfl
theorem mn_X8_layRow : Cond.instanceMethod yX8_layRow ∈ wsL_law := wsL_of (List.mem_of_getElem? (i := 931) (by decide +kernel)) rfl
theorem mv_X8_layRow : Cond.selects RX8 yX8_layRow yX8_layRow ∈ wsL_law := wsL_sel (List.mem_of_getElem? (i := 42) (by decide +kernel))
theorem mc_X8_copied : Cond.code yX8_copied cX8_copied 7 (some .int) ∈ wsL_law := wsL_of (List.mem_append_right _ (List.mem_append_right _ (List.mem_append_right _ (List.mem_append_left _ (List.mem_of_getElem? (i := 216) rfl))))) rfl
theorem mn_X8_copied : Cond.instanceMethod yX8_copied ∈ wsL_law := wsL_of (List.mem_of_getElem? (i := 935) (by decide +kernel)) rfl
theorem mv_X8_copied : Cond.selects RX8 yX8_copied yX8_copied ∈ wsL_law := wsL_sel (List.mem_of_getElem? (i := 43) (by decide +kernel))
theorem mc_X8_greatest : Cond.code yX8_greatest cX8_greatest 3 (some .int) ∈ wsL_law := wsL_of (List.mem_append_right _ (List.mem_append_right _ (List.mem_append_right _ (List.mem_append_left _ (List.mem_of_getElem? (i := 220) rfl))))) rfl
theorem mn_X8_greatest : Cond.instanceMethod yX8_greatest ∈ wsL_law := wsL_of (List.mem_of_getElem? (i := 939) (by decide +kernel)) rfl
theorem mv_X8_greatest : Cond.selects RX8 yX8_greatest yX8_greatest ∈ wsL_law := wsL_sel (List.mem_of_getElem? (i := 44) (by decide +kernel))
theorem mc_X8_least : Cond.code yX8_least cX8_least 6 (some .int) ∈ wsL_law := wsL_of (List.mem_append_right _ (List.mem_append_right _ (List.mem_append_right _ (List.mem_append_left _ (List.mem_of_getElem? (i := 224) rfl))))) rfl
theorem mn_X8_least : Cond.instanceMethod yX8_least ∈ wsL_law := wsL_of (List.mem_of_getElem? (i := 943) (by decide +kernel)) rfl
theorem mv_X8_least : Cond.selects RX8 yX8_least yX8_least ∈ wsL_law := wsL_sel (List.mem_of_getElem? (i := 45) (by decide +kernel))
theorem mc_X8_bestRow : Cond.code yX8_bestRow cX8_bestRow 10 (some .int) ∈ wsL_law := wsL_of (List.mem_append_right _ (List.mem_append_right _ (List.mem_append_right _ (List.mem_append_left _ (List.mem_of_getElem? (i := 228) rfl))))) rfl
theorem mn_X8_bestRow : Cond.instanceMethod yX8_bestRow ∈ wsL_law := wsL_of (List.mem_of_getElem? (i := 946) (by decide +kernel)) rfl
theorem mv_X8_bestRow : Cond.selects RX8 yX8_bestRow yX8_bestRow ∈ wsL_law := wsL_of (List.mem_of_getElem? (i := 947) (by decide +kernel)) rfl
theorem mc_X8_findBestRow : Cond.code yX8_findBestRow cX8_findBestRow 7 (some .int) ∈ wsL_law := wsL_of (List.mem_append_right _ (List.mem_append_right _ (List.mem_append_right _ (List.mem_append_left _ (List.mem_of_getElem? (i := 232) rfl))))) rfl
theorem mn_X8_findBestRow : Cond.instanceMethod yX8_findBestRow ∈ wsL_law := wsL_of (List.mem_of_getElem? (i := 951) (by decide +kernel)) rfl
theorem mv_X8_findBestRow : Cond.selects RX8 yX8_findBestRow yX8_findBestRow ∈ wsL_law := wsL_sel (List.mem_of_getElem? (i := 46) (by decide +kernel))
theorem mc_X8_exchange : Cond.code yX8_exchange cX8_exchange 4 none ∈ wsL_law := wsL_of (List.mem_append_right _ (List.mem_append_right _ (List.mem_append_right _ (List.mem_append_left _ (List.mem_of_getElem? (i := 236) rfl))))) rfl
theorem mn_X8_exchange : Cond.instanceMethod yX8_exchange ∈ wsL_law := wsL_of (List.mem_of_getElem? (i := 955) (by decide +kernel)) rfl
theorem mv_X8_exchange : Cond.selects RX8 yX8_exchange yX8_exchange ∈ wsL_law := wsL_sel (List.mem_of_getElem? (i := 47) (by decide +kernel))
theorem mc_X8_nextRow : Cond.code yX8_nextRow cX8_nextRow 6 (some .boolean) ∈ wsL_law := wsL_of (List.mem_append_right _ (List.mem_append_right _ (List.mem_append_right _ (List.mem_append_right _ (List.mem_of_getElem? (i := 0) rfl))))) rfl
theorem mn_X8_nextRow : Cond.instanceMethod yX8_nextRow ∈ wsL_law := wsL_of (List.mem_of_getElem? (i := 959) (by decide +kernel)) rfl
theorem mv_X8_nextRow : Cond.selects RX8 yX8_nextRow yX8_nextRow ∈ wsL_law := wsL_sel (List.mem_of_getElem? (i := 48) (by decide +kernel))
theorem mc_X8_even : Cond.code yX8_even cX8_even 8 (some .int) ∈ wsL_law := wsL_of (List.mem_append_right _ (List.mem_append_right _ (List.mem_append_right _ (List.mem_append_right _ (List.mem_of_getElem? (i := 4) rfl))))) rfl
theorem mn_X8_even : Cond.instanceMethod yX8_even ∈ wsL_law := wsL_of (List.mem_of_getElem? (i := 962) (by decide +kernel)) rfl
theorem mv_X8_even : Cond.selects RX8 yX8_even yX8_even ∈ wsL_law := wsL_of (List.mem_of_getElem? (i := 963) (by decide +kernel)) rfl
theorem mc_X8_areEven : Cond.code yX8_areEven cX8_areEven 4 (some .boolean) ∈ wsL_law := wsL_of (List.mem_append_right _ (List.mem_append_right _ (List.mem_append_right _ (List.mem_append_right _ (List.mem_of_getElem? (i := 8) rfl))))) rfl
theorem mn_X8_areEven : Cond.instanceMethod yX8_areEven ∈ wsL_law := wsL_of (List.mem_of_getElem? (i := 967) (by decide +kernel)) rfl
theorem mv_X8_areEven : Cond.selects RX8 yX8_areEven yX8_areEven ∈ wsL_law := wsL_sel (List.mem_of_getElem? (i := 49) (by decide +kernel))
theorem mc_X8_sumOf : Cond.code yX8_sumOf cX8_sumOf 4 (some .int) ∈ wsL_law := wsL_of (List.mem_append_right _ (List.mem_append_right _ (List.mem_append_right _ (List.mem_append_right _ (List.mem_of_getElem? (i := 12) rfl))))) rfl
theorem mn_X8_sumOf : Cond.instanceMethod yX8_sumOf ∈ wsL_law := wsL_of (List.mem_of_getElem? (i := 971) (by decide +kernel)) rfl
theorem mv_X8_sumOf : Cond.selects RX8 yX8_sumOf yX8_sumOf ∈ wsL_law := wsL_sel (List.mem_of_getElem? (i := 50) (by decide +kernel))
theorem mc_X8_odds : Cond.code yX8_odds cX8_odds 6 (some .long) ∈ wsL_law := wsL_of (List.mem_append_right _ (List.mem_append_right _ (List.mem_append_right _ (List.mem_append_right _ (List.mem_of_getElem? (i := 16) rfl))))) rfl
theorem mn_X8_odds : Cond.instanceMethod yX8_odds ∈ wsL_law := wsL_of (List.mem_of_getElem? (i := 974) (by decide +kernel)) rfl
theorem mv_X8_odds : Cond.selects RX8 yX8_odds yX8_odds ∈ wsL_law := wsL_of (List.mem_of_getElem? (i := 975) (by decide +kernel)) rfl
theorem mc_X8_share : Cond.code yX8_share cX8_share 11 (some .long) ∈ wsL_law := wsL_of (List.mem_append_right _ (List.mem_append_right _ (List.mem_append_right _ (List.mem_append_right _ (List.mem_of_getElem? (i := 20) rfl))))) rfl
theorem ms_X8_share : Cond.static yX8_share ∈ wsL_law := wsL_of (List.mem_of_getElem? (i := 979) (by decide +kernel)) rfl
theorem mc_X8_sheet : Cond.code yX8_sheet cX8_sheet 5 (some .int) ∈ wsL_law := wsL_of (List.mem_append_right _ (List.mem_append_right _ (List.mem_append_right _ (List.mem_append_right _ (List.mem_of_getElem? (i := 24) rfl))))) rfl
theorem mn_X8_sheet : Cond.instanceMethod yX8_sheet ∈ wsL_law := wsL_of (List.mem_of_getElem? (i := 982) (by decide +kernel)) rfl
theorem mv_X8_sheet : Cond.selects RX8 yX8_sheet yX8_sheet ∈ wsL_law := wsL_of (List.mem_of_getElem? (i := 983) (by decide +kernel)) rfl
theorem mc_X8_lose : Cond.code yX8_lose cX8_lose 3 (some .int) ∈ wsL_law := wsL_of (List.mem_append_right _ (List.mem_append_right _ (List.mem_append_right _ (List.mem_append_right _ (List.mem_of_getElem? (i := 28) rfl))))) rfl
theorem mn_X8_lose : Cond.instanceMethod yX8_lose ∈ wsL_law := wsL_of (List.mem_of_getElem? (i := 986) (by decide +kernel)) rfl
theorem mv_X8_lose : Cond.selects RX8 yX8_lose yX8_lose ∈ wsL_law := wsL_of (List.mem_of_getElem? (i := 987) (by decide +kernel)) rfl
theorem mc_X8_put : Cond.code yX8_put cX8_put 4 (some .int) ∈ wsL_law := wsL_of (List.mem_append_right _ (List.mem_append_right _ (List.mem_append_right _ (List.mem_append_right _ (List.mem_of_getElem? (i := 32) rfl))))) rfl
theorem mn_X8_put : Cond.instanceMethod yX8_put ∈ wsL_law := wsL_of (List.mem_of_getElem? (i := 990) (by decide +kernel)) rfl
theorem mv_X8_put : Cond.selects RX8 yX8_put yX8_put ∈ wsL_law := wsL_of (List.mem_of_getElem? (i := 991) (by decide +kernel)) rfl
theorem mc_X8_cell : Cond.code yX8_cell cX8_cell 4 (some .long) ∈ wsL_law := wsL_of (List.mem_append_right _ (List.mem_append_right _ (List.mem_append_right _ (List.mem_append_right _ (List.mem_of_getElem? (i := 36) rfl))))) rfl
theorem mn_X8_cell : Cond.instanceMethod yX8_cell ∈ wsL_law := wsL_of (List.mem_of_getElem? (i := 994) (by decide +kernel)) rfl
theorem mv_X8_cell : Cond.selects RX8 yX8_cell yX8_cell ∈ wsL_law := wsL_of (List.mem_of_getElem? (i := 995) (by decide +kernel)) rfl
theorem mc_X8_lost : Cond.code yX8_lost cX8_lost 2 (some .long) ∈ wsL_law := wsL_of (List.mem_append_right _ (List.mem_append_right _ (List.mem_append_right _ (List.mem_append_right _ (List.mem_of_getElem? (i := 40) rfl))))) rfl
theorem mn_X8_lost : Cond.instanceMethod yX8_lost ∈ wsL_law := wsL_of (List.mem_of_getElem? (i := 999) (by decide +kernel)) rfl
theorem mv_X8_lost : Cond.selects RX8 yX8_lost yX8_lost ∈ wsL_law := wsL_sel (List.mem_of_getElem? (i := 51) (by decide +kernel))
theorem mc_X8_copy : Cond.code yX8_copy cX8_copy 10 (some .int) ∈ wsL_law := wsL_of (List.mem_append_right _ (List.mem_append_right _ (List.mem_append_right _ (List.mem_append_right _ (List.mem_of_getElem? (i := 44) rfl))))) rfl
theorem mn_X8_copy : Cond.instanceMethod yX8_copy ∈ wsL_law := wsL_of (List.mem_of_getElem? (i := 1002) (by decide +kernel)) rfl
theorem mv_X8_copy : Cond.selects RX8 yX8_copy yX8_copy ∈ wsL_law := wsL_of (List.mem_of_getElem? (i := 1003) (by decide +kernel)) rfl
theorem mc_X8_tell : Cond.code yX8_tell cX8_tell 3 (some .int) ∈ wsL_law := wsL_of (List.mem_append_right _ (List.mem_append_right _ (List.mem_append_right _ (List.mem_append_right _ (List.mem_of_getElem? (i := 48) rfl))))) rfl
theorem mn_X8_tell : Cond.instanceMethod yX8_tell ∈ wsL_law := wsL_of (List.mem_of_getElem? (i := 1006) (by decide +kernel)) rfl
theorem mv_X8_tell : Cond.selects RX8 yX8_tell yX8_tell ∈ wsL_law := wsL_of (List.mem_of_getElem? (i := 1007) (by decide +kernel)) rfl
theorem mc_X8_begins : Cond.code yX8_begins cX8_begins 2 none ∈ wsL_law := wsL_of (List.mem_append_right _ (List.mem_append_right _ (List.mem_append_right _ (List.mem_append_right _ (List.mem_of_getElem? (i := 52) rfl))))) rfl
theorem mn_X8_begins : Cond.instanceMethod yX8_begins ∈ wsL_law := wsL_of (List.mem_of_getElem? (i := 1011) (by decide +kernel)) rfl
theorem mv_X8_begins : Cond.selects RX8 yX8_begins yX8_begins ∈ wsL_law := wsL_sel (List.mem_of_getElem? (i := 52) (by decide +kernel))
theorem mc_X8_shake : Cond.code yX8_shake cX8_shake 2 (some .int) ∈ wsL_law := wsL_of (List.mem_append_right _ (List.mem_append_right _ (List.mem_append_right _ (List.mem_append_right _ (List.mem_of_getElem? (i := 56) rfl))))) rfl
theorem mn_X8_shake : Cond.instanceMethod yX8_shake ∈ wsL_law := wsL_of (List.mem_of_getElem? (i := 1014) (by decide +kernel)) rfl
theorem mv_X8_shake : Cond.selects RX8 yX8_shake yX8_shake ∈ wsL_law := wsL_of (List.mem_of_getElem? (i := 1015) (by decide +kernel)) rfl
theorem mc_X8_as : Cond.code yX8_as cX8_as 3 (some .int) ∈ wsL_law := wsL_of (List.mem_append_right _ (List.mem_append_right _ (List.mem_append_right _ (List.mem_append_right _ (List.mem_of_getElem? (i := 60) rfl))))) rfl
theorem mn_X8_as : Cond.instanceMethod yX8_as ∈ wsL_law := wsL_of (List.mem_of_getElem? (i := 1018) (by decide +kernel)) rfl
theorem mv_X8_as : Cond.selects RX8 yX8_as yX8_as ∈ wsL_law := wsL_of (List.mem_of_getElem? (i := 1019) (by decide +kernel)) rfl
theorem mc_X8_trace : Cond.code yX8_trace cX8_trace 1 (some .int) ∈ wsL_law := wsL_of (List.mem_append_right _ (List.mem_append_right _ (List.mem_append_right _ (List.mem_append_right _ (List.mem_of_getElem? (i := 64) rfl))))) rfl
theorem mn_X8_trace : Cond.instanceMethod yX8_trace ∈ wsL_law := wsL_of (List.mem_of_getElem? (i := 1022) (by decide +kernel)) rfl
theorem mv_X8_trace : Cond.selects RX8 yX8_trace yX8_trace ∈ wsL_law := wsL_of (List.mem_of_getElem? (i := 1023) (by decide +kernel)) rfl
theorem mc_X8_fault : Cond.code yX8_fault cX8_fault 1 (some .int) ∈ wsL_law := wsL_of (List.mem_append_right _ (List.mem_append_right _ (List.mem_append_right _ (List.mem_append_right _ (List.mem_of_getElem? (i := 68) rfl))))) rfl
theorem mn_X8_fault : Cond.instanceMethod yX8_fault ∈ wsL_law := wsL_of (List.mem_of_getElem? (i := 1026) (by decide +kernel)) rfl
theorem mv_X8_fault : Cond.selects RX8 yX8_fault yX8_fault ∈ wsL_law := wsL_of (List.mem_of_getElem? (i := 1027) (by decide +kernel)) rfl
theorem mc_X8_many : Cond.code yX8_many cX8_many 2 (some .int) ∈ wsL_law := wsL_of (List.mem_append_right _ (List.mem_append_right _ (List.mem_append_right _ (List.mem_append_right _ (List.mem_of_getElem? (i := 72) rfl))))) rfl
theorem mn_X8_many : Cond.instanceMethod yX8_many ∈ wsL_law := wsL_of (List.mem_of_getElem? (i := 1030) (by decide +kernel)) rfl
theorem mv_X8_many : Cond.selects RX8 yX8_many yX8_many ∈ wsL_law := wsL_of (List.mem_of_getElem? (i := 1031) (by decide +kernel)) rfl
theorem ml_L_9 : Cond.methodLink RL 9 yX7_init ∈ wsL_law := wsL_of (List.mem_of_getElem? (i := 15) (by decide +kernel)) rfl
theorem ml_L_13 : Cond.methodLink RL 13 yX7_market ∈ wsL_law := wsL_of (List.mem_of_getElem? (i := 158) (by decide +kernel)) rfl
theorem ml_L_18 : Cond.methodLink RL 18 yX7_weight ∈ wsL_law := wsL_of (List.mem_of_getElem? (i := 226) (by decide +kernel)) rfl
theorem ml_L_23 : Cond.methodLink RL 23 yX7_weigh ∈ wsL_law := wsL_of (List.mem_of_getElem? (i := 239) (by decide +kernel)) rfl
theorem ml_L_28 : Cond.methodLink RL 28 yX7_hand ∈ wsL_law := wsL_of (List.mem_of_getElem? (i := 247) (by decide +kernel)) rfl
theorem ml_L_32 : Cond.methodLink RL 32 yX7_ofHand ∈ wsL_law := wsL_of (List.mem_of_getElem? (i := 258) (by decide +kernel)) rfl
theorem ml_L_36 : Cond.methodLink RL 36 yX7_tells ∈ wsL_law := wsL_of (List.mem_of_getElem? (i := 278) (by decide +kernel)) rfl
theorem ml_L_41 : Cond.methodLink RL 41 yX7_alike ∈ wsL_law := wsL_of (List.mem_of_getElem? (i := 292) (by decide +kernel)) rfl
theorem ml_L_45 : Cond.methodLink RL 45 yX7_finer ∈ wsL_law := wsL_of (List.mem_of_getElem? (i := 319) (by decide +kernel)) rfl
theorem ml_L_49 : Cond.methodLink RL 49 yX7_way ∈ wsL_law := wsL_of (List.mem_of_getElem? (i := 331) (by decide +kernel)) rfl
theorem ml_L_53 : Cond.methodLink RL 53 yX7_noon ∈ wsL_law := wsL_of (List.mem_of_getElem? (i := 360) (by decide +kernel)) rfl
theorem ml_L_57 : Cond.methodLink RL 57 yX7_gain ∈ wsL_law := wsL_of (List.mem_of_getElem? (i := 365) (by decide +kernel)) rfl
theorem ml_L_62 : Cond.methodLink RL 62 yX7_saying ∈ wsL_law := wsL_of (List.mem_of_getElem? (i := 383) (by decide +kernel)) rfl
theorem ml_L_66 : Cond.methodLink RL 66 yX7_back ∈ wsL_law := wsL_of (List.mem_of_getElem? (i := 391) (by decide +kernel)) rfl
theorem ml_L_70 : Cond.methodLink RL 70 yX7_untrue ∈ wsL_law := wsL_of (List.mem_of_getElem? (i := 404) (by decide +kernel)) rfl
theorem ml_L_75 : Cond.methodLink RL 75 yX7_leaves ∈ wsL_law := wsL_of (List.mem_of_getElem? (i := 426) (by decide +kernel)) rfl
theorem ml_L_79 : Cond.methodLink RL 79 yX7_breaks ∈ wsL_law := wsL_of (List.mem_of_getElem? (i := 434) (by decide +kernel)) rfl
theorem ml_L_83 : Cond.methodLink RL 83 yX7_rows ∈ wsL_law := wsL_of (List.mem_of_getElem? (i := 438) (by decide +kernel)) rfl
theorem ml_L_87 : Cond.methodLink RL 87 yX7_longest ∈ wsL_law := wsL_of (List.mem_of_getElem? (i := 458) (by decide +kernel)) rfl
theorem ml_L_91 : Cond.methodLink RL 91 yX7_crowd ∈ wsL_law := wsL_of (List.mem_of_getElem? (i := 470) (by decide +kernel)) rfl
theorem ml_L_95 : Cond.methodLink RL 95 yX7_measure ∈ wsL_law := wsL_of (List.mem_of_getElem? (i := 488) (by decide +kernel)) rfl
theorem ml_L_99 : Cond.methodLink RL 99 yX7_copies ∈ wsL_law := wsL_of (List.mem_of_getElem? (i := 496) (by decide +kernel)) rfl
theorem ml_L_104 : Cond.methodLink RL 104 yX7_bestRow ∈ wsL_law := wsL_of (List.mem_of_getElem? (i := 529) (by decide +kernel)) rfl
theorem ml_L_108 : Cond.methodLink RL 108 yX7_even ∈ wsL_law := wsL_of (List.mem_of_getElem? (i := 563) (by decide +kernel)) rfl
theorem ml_L_112 : Cond.methodLink RL 112 yX7_odds ∈ wsL_law := wsL_of (List.mem_of_getElem? (i := 573) (by decide +kernel)) rfl
theorem ml_L_117 : Cond.methodLink RL 117 yX7_sheet ∈ wsL_law := wsL_of (List.mem_of_getElem? (i := 585) (by decide +kernel)) rfl
theorem ml_L_121 : Cond.methodLink RL 121 yX7_lose ∈ wsL_law := wsL_of (List.mem_of_getElem? (i := 593) (by decide +kernel)) rfl
theorem ml_L_125 : Cond.methodLink RL 125 yX7_put ∈ wsL_law := wsL_of (List.mem_of_getElem? (i := 601) (by decide +kernel)) rfl
theorem ml_L_129 : Cond.methodLink RL 129 yX7_cell ∈ wsL_law := wsL_of (List.mem_of_getElem? (i := 614) (by decide +kernel)) rfl
theorem ml_L_134 : Cond.methodLink RL 134 yX7_copy ∈ wsL_law := wsL_of (List.mem_of_getElem? (i := 618) (by decide +kernel)) rfl
theorem ml_L_138 : Cond.methodLink RL 138 yX7_tell ∈ wsL_law := wsL_of (List.mem_of_getElem? (i := 630) (by decide +kernel)) rfl
theorem ml_L_142 : Cond.methodLink RL 142 yX7_shake ∈ wsL_law := wsL_of (List.mem_of_getElem? (i := 650) (by decide +kernel)) rfl
theorem ml_L_146 : Cond.methodLink RL 146 yX7_as ∈ wsL_law := wsL_of (List.mem_of_getElem? (i := 662) (by decide +kernel)) rfl
theorem ml_L_150 : Cond.methodLink RL 150 yX7_trace ∈ wsL_law := wsL_of (List.mem_of_getElem? (i := 666) (by decide +kernel)) rfl
theorem ml_L_154 : Cond.methodLink RL 154 yX7_fault ∈ wsL_law := wsL_of (List.mem_of_getElem? (i := 670) (by decide +kernel)) rfl
theorem ml_L_158 : Cond.methodLink RL 158 yX7_many ∈ wsL_law := wsL_of (List.mem_of_getElem? (i := 674) (by decide +kernel)) rfl
theorem ml_L_12 : Cond.methodLink RL 12 yX8_init ∈ wsL_law := wsL_of (List.mem_of_getElem? (i := 684) (by decide +kernel)) rfl
theorem ml_L_17 : Cond.methodLink RL 17 yX8_market ∈ wsL_law := wsL_of (List.mem_of_getElem? (i := 758) (by decide +kernel)) rfl
theorem ml_L_22 : Cond.methodLink RL 22 yX8_weight ∈ wsL_law := wsL_of (List.mem_of_getElem? (i := 783) (by decide +kernel)) rfl
theorem ml_L_27 : Cond.methodLink RL 27 yX8_weigh ∈ wsL_law := wsL_of (List.mem_of_getElem? (i := 791) (by decide +kernel)) rfl
theorem ml_L_31 : Cond.methodLink RL 31 yX8_hand ∈ wsL_law := wsL_of (List.mem_of_getElem? (i := 798) (by decide +kernel)) rfl
theorem ml_L_35 : Cond.methodLink RL 35 yX8_ofHand ∈ wsL_law := wsL_of (List.mem_of_getElem? (i := 802) (by decide +kernel)) rfl
theorem ml_L_40 : Cond.methodLink RL 40 yX8_tells ∈ wsL_law := wsL_of (List.mem_of_getElem? (i := 810) (by decide +kernel)) rfl
theorem ml_L_44 : Cond.methodLink RL 44 yX8_alike ∈ wsL_law := wsL_of (List.mem_of_getElem? (i := 822) (by decide +kernel)) rfl
theorem ml_L_48 : Cond.methodLink RL 48 yX8_finer ∈ wsL_law := wsL_of (List.mem_of_getElem? (i := 838) (by decide +kernel)) rfl
theorem ml_L_52 : Cond.methodLink RL 52 yX8_way ∈ wsL_law := wsL_of (List.mem_of_getElem? (i := 842) (by decide +kernel)) rfl
theorem ml_L_56 : Cond.methodLink RL 56 yX8_noon ∈ wsL_law := wsL_of (List.mem_of_getElem? (i := 854) (by decide +kernel)) rfl
theorem ml_L_61 : Cond.methodLink RL 61 yX8_gain ∈ wsL_law := wsL_of (List.mem_of_getElem? (i := 858) (by decide +kernel)) rfl
theorem ml_L_65 : Cond.methodLink RL 65 yX8_saying ∈ wsL_law := wsL_of (List.mem_of_getElem? (i := 866) (by decide +kernel)) rfl
theorem ml_L_69 : Cond.methodLink RL 69 yX8_back ∈ wsL_law := wsL_of (List.mem_of_getElem? (i := 870) (by decide +kernel)) rfl
theorem ml_L_74 : Cond.methodLink RL 74 yX8_untrue ∈ wsL_law := wsL_of (List.mem_of_getElem? (i := 874) (by decide +kernel)) rfl
theorem ml_L_78 : Cond.methodLink RL 78 yX8_leaves ∈ wsL_law := wsL_of (List.mem_of_getElem? (i := 882) (by decide +kernel)) rfl
theorem ml_L_82 : Cond.methodLink RL 82 yX8_breaks ∈ wsL_law := wsL_of (List.mem_of_getElem? (i := 890) (by decide +kernel)) rfl
theorem ml_L_86 : Cond.methodLink RL 86 yX8_rows ∈ wsL_law := wsL_of (List.mem_of_getElem? (i := 894) (by decide +kernel)) rfl
theorem ml_L_90 : Cond.methodLink RL 90 yX8_longest ∈ wsL_law := wsL_of (List.mem_of_getElem? (i := 906) (by decide +kernel)) rfl
theorem ml_L_94 : Cond.methodLink RL 94 yX8_crowd ∈ wsL_law := wsL_of (List.mem_of_getElem? (i := 910) (by decide +kernel)) rfl
theorem ml_L_98 : Cond.methodLink RL 98 yX8_measure ∈ wsL_law := wsL_of (List.mem_of_getElem? (i := 921) (by decide +kernel)) rfl
theorem ml_L_103 : Cond.methodLink RL 103 yX8_copies ∈ wsL_law := wsL_of (List.mem_of_getElem? (i := 925) (by decide +kernel)) rfl
theorem ml_L_107 : Cond.methodLink RL 107 yX8_bestRow ∈ wsL_law := wsL_of (List.mem_of_getElem? (i := 945) (by decide +kernel)) rfl
theorem ml_L_111 : Cond.methodLink RL 111 yX8_even ∈ wsL_law := wsL_of (List.mem_of_getElem? (i := 961) (by decide +kernel)) rfl
theorem ml_L_116 : Cond.methodLink RL 116 yX8_odds ∈ wsL_law := wsL_of (List.mem_of_getElem? (i := 973) (by decide +kernel)) rfl
theorem ml_L_120 : Cond.methodLink RL 120 yX8_sheet ∈ wsL_law := wsL_of (List.mem_of_getElem? (i := 981) (by decide +kernel)) rfl
theorem ml_L_124 : Cond.methodLink RL 124 yX8_lose ∈ wsL_law := wsL_of (List.mem_of_getElem? (i := 985) (by decide +kernel)) rfl
theorem ml_L_128 : Cond.methodLink RL 128 yX8_put ∈ wsL_law := wsL_of (List.mem_of_getElem? (i := 989) (by decide +kernel)) rfl
theorem ml_L_133 : Cond.methodLink RL 133 yX8_cell ∈ wsL_law := wsL_of (List.mem_of_getElem? (i := 993) (by decide +kernel)) rfl
theorem ml_L_137 : Cond.methodLink RL 137 yX8_copy ∈ wsL_law := wsL_of (List.mem_of_getElem? (i := 1001) (by decide +kernel)) rfl
theorem ml_L_141 : Cond.methodLink RL 141 yX8_tell ∈ wsL_law := wsL_of (List.mem_of_getElem? (i := 1005) (by decide +kernel)) rfl
theorem ml_L_145 : Cond.methodLink RL 145 yX8_shake ∈ wsL_law := wsL_of (List.mem_of_getElem? (i := 1013) (by decide +kernel)) rfl
theorem ml_L_149 : Cond.methodLink RL 149 yX8_as ∈ wsL_law := wsL_of (List.mem_of_getElem? (i := 1017) (by decide +kernel)) rfl
theorem ml_L_153 : Cond.methodLink RL 153 yX8_trace ∈ wsL_law := wsL_of (List.mem_of_getElem? (i := 1021) (by decide +kernel)) rfl
theorem ml_L_157 : Cond.methodLink RL 157 yX8_fault ∈ wsL_law := wsL_of (List.mem_of_getElem? (i := 1025) (by decide +kernel)) rfl
theorem ml_L_161 : Cond.methodLink RL 161 yX8_many ∈ wsL_law := wsL_of (List.mem_of_getElem? (i := 1029) (by decide +kernel)) rfl
theorem ml_X7_63 : Cond.methodLink RX7 63 yX3_has ∈ wsL_law := wsL_of (List.mem_of_getElem? (i := 162) (by decide +kernel)) rfl
theorem ml_X7_67 : Cond.methodLink RX7 67 yX7_isSort ∈ wsL_law := wsL_of (List.mem_of_getElem? (i := 166) (by decide +kernel)) rfl
theorem ml_X7_70 : Cond.methodLink RX7 70 yX3_faultOfTaking ∈ wsL_law := wsL_of (List.mem_of_getElem? (i := 169) (by decide +kernel)) rfl
theorem ml_X7_74 : Cond.methodLink RX7 74 yX7_faulty ∈ wsL_law := wsL_of (List.mem_of_getElem? (i := 186) (by decide +kernel)) rfl
theorem ml_X7_78 : Cond.methodLink RX7 78 yX5_firstFault ∈ wsL_law := wsL_of (List.mem_of_getElem? (i := 190) (by decide +kernel)) rfl
theorem ml_X7_84 : Cond.methodLink RX7 84 yX1_clear ∈ wsL_law := wsL_of (List.mem_of_getElem? (i := 203) (by decide +kernel)) rfl
theorem ml_X7_87 : Cond.methodLink RX7 87 yX2_clear ∈ wsL_law := wsL_of (List.mem_of_getElem? (i := 207) (by decide +kernel)) rfl
theorem ml_X7_88 : Cond.methodLink RX7 88 yX5_read ∈ wsL_law := wsL_of (List.mem_of_getElem? (i := 211) (by decide +kernel)) rfl
theorem ml_X7_92 : Cond.methodLink RX7 92 yX6_count ∈ wsL_law := wsL_of (List.mem_of_getElem? (i := 222) (by decide +kernel)) rfl
theorem ml_X7_96 : Cond.methodLink RX7 96 yX6_has ∈ wsL_law := wsL_of (List.mem_of_getElem? (i := 230) (by decide +kernel)) rfl
theorem ml_X7_97 : Cond.methodLink RX7 97 yX6_weightOf ∈ wsL_law := wsL_of (List.mem_of_getElem? (i := 234) (by decide +kernel)) rfl
theorem ml_X7_100 : Cond.methodLink RX7 100 yX6_setWeight ∈ wsL_law := wsL_of (List.mem_of_getElem? (i := 243) (by decide +kernel)) rfl
theorem ml_X7_104 : Cond.methodLink RX7 104 yX7_isKind ∈ wsL_law := wsL_of (List.mem_of_getElem? (i := 251) (by decide +kernel)) rfl
theorem ml_X7_107 : Cond.methodLink RX7 107 yX1_add ∈ wsL_law := wsL_of (List.mem_of_getElem? (i := 254) (by decide +kernel)) rfl
theorem ml_X7_111 : Cond.methodLink RX7 111 yX1_has ∈ wsL_law := wsL_of (List.mem_of_getElem? (i := 262) (by decide +kernel)) rfl
theorem ml_X7_112 : Cond.methodLink RX7 112 yX7_isFirstOrSecond ∈ wsL_law := wsL_of (List.mem_of_getElem? (i := 266) (by decide +kernel)) rfl
theorem ml_X7_115 : Cond.methodLink RX7 115 yX1_kindOf ∈ wsL_law := wsL_of (List.mem_of_getElem? (i := 269) (by decide +kernel)) rfl
theorem ml_X7_118 : Cond.methodLink RX7 118 yX1_partOf ∈ wsL_law := wsL_of (List.mem_of_getElem? (i := 274) (by decide +kernel)) rfl
theorem ml_X7_121 : Cond.methodLink RX7 121 yX1_feelsHeavier ∈ wsL_law := wsL_of (List.mem_of_getElem? (i := 282) (by decide +kernel)) rfl
theorem ml_X7_125 : Cond.methodLink RX7 125 yX4_lay ∈ wsL_law := wsL_of (List.mem_of_getElem? (i := 296) (by decide +kernel)) rfl
theorem ml_X7_129 : Cond.methodLink RX7 129 yX4_alikeTo ∈ wsL_law := wsL_of (List.mem_of_getElem? (i := 311) (by decide +kernel)) rfl
theorem ml_X7_132 : Cond.methodLink RX7 132 yX4_isFinerThan ∈ wsL_law := wsL_of (List.mem_of_getElem? (i := 323) (by decide +kernel)) rfl
theorem ml_X7_136 : Cond.methodLink RX7 136 yX4_fewestSwaps ∈ wsL_law := wsL_of (List.mem_of_getElem? (i := 335) (by decide +kernel)) rfl
theorem ml_X7_139 : Cond.methodLink RX7 139 yX4_behindSwaps ∈ wsL_law := wsL_of (List.mem_of_getElem? (i := 350) (by decide +kernel)) rfl
theorem ml_X7_143 : Cond.methodLink RX7 143 yX4_within ∈ wsL_law := wsL_of (List.mem_of_getElem? (i := 364) (by decide +kernel)) rfl
theorem ml_X7_146 : Cond.methodLink RX7 146 yX7_swappedUp ∈ wsL_law := wsL_of (List.mem_of_getElem? (i := 369) (by decide +kernel)) rfl
theorem ml_X7_152 : Cond.methodLink RX7 152 yX4_lighterThan ∈ wsL_law := wsL_of (List.mem_of_getElem? (i := 373) (by decide +kernel)) rfl
theorem ml_X7_149 : Cond.methodLink RX7 149 yX6_greatestOf ∈ wsL_law := wsL_of (List.mem_of_getElem? (i := 374) (by decide +kernel)) rfl
theorem ml_X7_155 : Cond.methodLink RX7 155 yX2_add ∈ wsL_law := wsL_of (List.mem_of_getElem? (i := 387) (by decide +kernel)) rfl
theorem ml_X7_157 : Cond.methodLink RX7 157 yX2_count ∈ wsL_law := wsL_of (List.mem_of_getElem? (i := 395) (by decide +kernel)) rfl
theorem ml_X7_158 : Cond.methodLink RX7 158 yX2_takeBack ∈ wsL_law := wsL_of (List.mem_of_getElem? (i := 399) (by decide +kernel)) rfl
theorem ml_X7_161 : Cond.methodLink RX7 161 yX2_firstOf ∈ wsL_law := wsL_of (List.mem_of_getElem? (i := 408) (by decide +kernel)) rfl
theorem ml_X7_164 : Cond.methodLink RX7 164 yX2_secondOf ∈ wsL_law := wsL_of (List.mem_of_getElem? (i := 416) (by decide +kernel)) rfl
theorem ml_X7_167 : Cond.methodLink RX7 167 yX2_isFalse ∈ wsL_law := wsL_of (List.mem_of_getElem? (i := 420) (by decide +kernel)) rfl
theorem ml_X7_171 : Cond.methodLink RX7 171 yX7_falseByWeight ∈ wsL_law := wsL_of (List.mem_of_getElem? (i := 430) (by decide +kernel)) rfl
theorem ml_X7_174 : Cond.methodLink RX7 174 yX4_countOrders ∈ wsL_law := wsL_of (List.mem_of_getElem? (i := 442) (by decide +kernel)) rfl
theorem ml_X7_177 : Cond.methodLink RX7 177 yX4_placeInFirstOrder ∈ wsL_law := wsL_of (List.mem_of_getElem? (i := 450) (by decide +kernel)) rfl
theorem ml_X7_180 : Cond.methodLink RX7 180 yX4_longestChain ∈ wsL_law := wsL_of (List.mem_of_getElem? (i := 462) (by decide +kernel)) rfl
theorem ml_X7_183 : Cond.methodLink RX7 183 yX4_greatestCrowd ∈ wsL_law := wsL_of (List.mem_of_getElem? (i := 474) (by decide +kernel)) rfl
theorem ml_X7_186 : Cond.methodLink RX7 186 yX4_othersAlikeTo ∈ wsL_law := wsL_of (List.mem_of_getElem? (i := 492) (by decide +kernel)) rfl
theorem ml_X7_189 : Cond.methodLink RX7 189 yX7_takeHandRow ∈ wsL_law := wsL_of (List.mem_of_getElem? (i := 500) (by decide +kernel)) rfl
theorem ml_X7_205 : Cond.methodLink RX7 205 yX0_clear ∈ wsL_law := wsL_of (List.mem_of_getElem? (i := 504) (by decide +kernel)) rfl
theorem ml_X7_206 : Cond.methodLink RX7 206 yX3_cellOf ∈ wsL_law := wsL_of (List.mem_of_getElem? (i := 508) (by decide +kernel)) rfl
theorem ml_X7_209 : Cond.methodLink RX7 209 yX0_add ∈ wsL_law := wsL_of (List.mem_of_getElem? (i := 509) (by decide +kernel)) rfl
theorem ml_X7_192 : Cond.methodLink RX7 192 yX0_greatestCopy ∈ wsL_law := wsL_of (List.mem_of_getElem? (i := 513) (by decide +kernel)) rfl
theorem ml_X7_196 : Cond.methodLink RX7 196 yX0_leastCopy ∈ wsL_law := wsL_of (List.mem_of_getElem? (i := 521) (by decide +kernel)) rfl
theorem ml_X7_199 : Cond.methodLink RX7 199 yX0_findBest ∈ wsL_law := wsL_of (List.mem_of_getElem? (i := 533) (by decide +kernel)) rfl
theorem ml_X7_202 : Cond.methodLink RX7 202 yX0_inBest ∈ wsL_law := wsL_of (List.mem_of_getElem? (i := 559) (by decide +kernel)) rfl
theorem ml_X7_212 : Cond.methodLink RX7 212 yX6_weightTogether ∈ wsL_law := wsL_of (List.mem_of_getElem? (i := 567) (by decide +kernel)) rfl
theorem ml_X7_215 : Cond.methodLink RX7 215 yJ6_bitCount_0f7a4 ∈ wsL_law := wsL_of (List.mem_of_getElem? (i := 571) (by decide +kernel)) rfl
theorem ml_X7_220 : Cond.methodLink RX7 220 yX1_feelsAlike ∈ wsL_law := wsL_of (List.mem_of_getElem? (i := 572) (by decide +kernel)) rfl
theorem ml_X7_225 : Cond.methodLink RX7 225 yX4_countTold ∈ wsL_law := wsL_of (List.mem_of_getElem? (i := 578) (by decide +kernel)) rfl
theorem ml_X7_228 : Cond.methodLink RX7 228 yX7_commonDivisor ∈ wsL_law := wsL_of (List.mem_of_getElem? (i := 582) (by decide +kernel)) rfl
theorem ml_X7_231 : Cond.methodLink RX7 231 yX3_renew ∈ wsL_law := wsL_of (List.mem_of_getElem? (i := 589) (by decide +kernel)) rfl
theorem ml_X7_235 : Cond.methodLink RX7 235 yX3_empty ∈ wsL_law := wsL_of (List.mem_of_getElem? (i := 597) (by decide +kernel)) rfl
theorem ml_X7_238 : Cond.methodLink RX7 238 yX3_hasRow ∈ wsL_law := wsL_of (List.mem_of_getElem? (i := 605) (by decide +kernel)) rfl
theorem ml_X7_241 : Cond.methodLink RX7 241 yX3_hasCells ∈ wsL_law := wsL_of (List.mem_of_getElem? (i := 606) (by decide +kernel)) rfl
theorem ml_X7_244 : Cond.methodLink RX7 244 yX3_setCell ∈ wsL_law := wsL_of (List.mem_of_getElem? (i := 607) (by decide +kernel)) rfl
theorem ml_X7_247 : Cond.methodLink RX7 247 yX3_sortOf ∈ wsL_law := wsL_of (List.mem_of_getElem? (i := 622) (by decide +kernel)) rfl
theorem ml_X7_250 : Cond.methodLink RX7 250 yX3_copyCells ∈ wsL_law := wsL_of (List.mem_of_getElem? (i := 623) (by decide +kernel)) rfl
theorem ml_X7_254 : Cond.methodLink RX7 254 yX7_smithBody ∈ wsL_law := wsL_of (List.mem_of_getElem? (i := 634) (by decide +kernel)) rfl
theorem ml_X7_270 : Cond.methodLink RX7 270 yX7_leaveTrace ∈ wsL_law := wsL_of (List.mem_of_getElem? (i := 638) (by decide +kernel)) rfl
theorem ml_X7_257 : Cond.methodLink RX7 257 yX7_steadyBody ∈ wsL_law := wsL_of (List.mem_of_getElem? (i := 642) (by decide +kernel)) rfl
theorem ml_X7_260 : Cond.methodLink RX7 260 yX7_handBody ∈ wsL_law := wsL_of (List.mem_of_getElem? (i := 646) (by decide +kernel)) rfl
theorem ml_X7_263 : Cond.methodLink RX7 263 yX7_smithsOwnBody ∈ wsL_law := wsL_of (List.mem_of_getElem? (i := 654) (by decide +kernel)) rfl
theorem ml_X7_266 : Cond.methodLink RX7 266 yX7_lentBody ∈ wsL_law := wsL_of (List.mem_of_getElem? (i := 658) (by decide +kernel)) rfl
theorem ml_X7_269 : Cond.methodLink RX7 269 yX1_count ∈ wsL_law := wsL_of (List.mem_of_getElem? (i := 678) (by decide +kernel)) rfl
theorem ml_X6_19 : Cond.methodLink RX6 19 yX6_has ∈ wsL_law := wsL_of (List.mem_of_getElem? (i := 238) (by decide +kernel)) rfl
theorem ml_X6_27 : Cond.methodLink RX6 27 yX6_weightOf ∈ wsL_law := wsL_of (List.mem_of_getElem? (i := 379) (by decide +kernel)) rfl
theorem ml_X6_31 : Cond.methodLink RX6 31 yJ9_max_7cf53 ∈ wsL_law := wsL_of (List.mem_of_getElem? (i := 380) (by decide +kernel)) rfl
theorem ml_X1_22 : Cond.methodLink RX1 22 yX1_has ∈ wsL_law := wsL_of (List.mem_of_getElem? (i := 273) (by decide +kernel)) rfl
theorem ml_X1_33 : Cond.methodLink RX1 33 yX1_timesOf ∈ wsL_law := wsL_of (List.mem_of_getElem? (i := 286) (by decide +kernel)) rfl
theorem ml_X1_26 : Cond.methodLink RX1 26 yX1_kindOf ∈ wsL_law := wsL_of (List.mem_of_getElem? (i := 290) (by decide +kernel)) rfl
theorem ml_X1_30 : Cond.methodLink RX1 30 yX1_partOf ∈ wsL_law := wsL_of (List.mem_of_getElem? (i := 291) (by decide +kernel)) rfl
theorem ml_X1_36 : Cond.methodLink RX1 36 yX1_feelsHeavier ∈ wsL_law := wsL_of (List.mem_of_getElem? (i := 310) (by decide +kernel)) rfl
theorem ml_X2_32 : Cond.methodLink RX2 32 yJ9_max_7cf53 ∈ wsL_law := wsL_of (List.mem_of_getElem? (i := 403) (by decide +kernel)) rfl
theorem ml_X2_28 : Cond.methodLink RX2 28 yX2_has ∈ wsL_law := wsL_of (List.mem_of_getElem? (i := 412) (by decide +kernel)) rfl
theorem ml_X2_38 : Cond.methodLink RX2 38 yX1_feelsHeavier ∈ wsL_law := wsL_of (List.mem_of_getElem? (i := 424) (by decide +kernel)) rfl
theorem ml_X2_44 : Cond.methodLink RX2 44 yX1_feelsAlike ∈ wsL_law := wsL_of (List.mem_of_getElem? (i := 425) (by decide +kernel)) rfl
theorem ml_X3_31 : Cond.methodLink RX3 31 yX3_hasRow ∈ wsL_law := wsL_of (List.mem_of_getElem? (i := 173) (by decide +kernel)) rfl
theorem ml_X3_27 : Cond.methodLink RX3 27 yX3_has ∈ wsL_law := wsL_of (List.mem_of_getElem? (i := 177) (by decide +kernel)) rfl
theorem ml_X3_34 : Cond.methodLink RX3 34 yX3_sortOf ∈ wsL_law := wsL_of (List.mem_of_getElem? (i := 178) (by decide +kernel)) rfl
theorem ml_X3_38 : Cond.methodLink RX3 38 yX3_hasCells ∈ wsL_law := wsL_of (List.mem_of_getElem? (i := 182) (by decide +kernel)) rfl
theorem ml_X3_42 : Cond.methodLink RX3 42 yX3_cut ∈ wsL_law := wsL_of (List.mem_of_getElem? (i := 611) (by decide +kernel)) rfl
theorem ml_X4_25 : Cond.methodLink RX4 25 yX6_count ∈ wsL_law := wsL_of (List.mem_of_getElem? (i := 300) (by decide +kernel)) rfl
theorem ml_X4_30 : Cond.methodLink RX4 30 yJ9_min_7cf53 ∈ wsL_law := wsL_of (List.mem_of_getElem? (i := 301) (by decide +kernel)) rfl
theorem ml_X4_36 : Cond.methodLink RX4 36 yX6_weightOf ∈ wsL_law := wsL_of (List.mem_of_getElem? (i := 304) (by decide +kernel)) rfl
theorem ml_X4_40 : Cond.methodLink RX4 40 yX1_feelsHeavier ∈ wsL_law := wsL_of (List.mem_of_getElem? (i := 305) (by decide +kernel)) rfl
theorem ml_X4_46 : Cond.methodLink RX4 46 yX1_feelsAlike ∈ wsL_law := wsL_of (List.mem_of_getElem? (i := 306) (by decide +kernel)) rfl
theorem ml_X4_49 : Cond.methodLink RX4 49 yX4_has ∈ wsL_law := wsL_of (List.mem_of_getElem? (i := 315) (by decide +kernel)) rfl
theorem ml_X4_61 : Cond.methodLink RX4 61 yX4_lighterThan ∈ wsL_law := wsL_of (List.mem_of_getElem? (i := 327) (by decide +kernel)) rfl
theorem ml_X4_71 : Cond.methodLink RX4 71 yX4_within ∈ wsL_law := wsL_of (List.mem_of_getElem? (i := 339) (by decide +kernel)) rfl
theorem ml_X4_64 : Cond.methodLink RX4 64 yX4_alikeToAny ∈ wsL_law := wsL_of (List.mem_of_getElem? (i := 343) (by decide +kernel)) rfl
theorem ml_X4_74 : Cond.methodLink RX4 74 yX4_fewestSwaps ∈ wsL_law := wsL_of (List.mem_of_getElem? (i := 354) (by decide +kernel)) rfl
theorem ml_X4_53 : Cond.methodLink RX4 53 yX4_alikeTo ∈ wsL_law := wsL_of (List.mem_of_getElem? (i := 355) (by decide +kernel)) rfl
theorem ml_X4_77 : Cond.methodLink RX4 77 yX4_leastIn ∈ wsL_law := wsL_of (List.mem_of_getElem? (i := 356) (by decide +kernel)) rfl
theorem ml_X4_80 : Cond.methodLink RX4 80 yX4_allThings ∈ wsL_law := wsL_of (List.mem_of_getElem? (i := 446) (by decide +kernel)) rfl
theorem ml_X4_83 : Cond.methodLink RX4 83 yX4_fittingBehind ∈ wsL_law := wsL_of (List.mem_of_getElem? (i := 454) (by decide +kernel)) rfl
theorem ml_X4_86 : Cond.methodLink RX4 86 yX4_heavierThanAny ∈ wsL_law := wsL_of (List.mem_of_getElem? (i := 466) (by decide +kernel)) rfl
theorem ml_X4_56 : Cond.methodLink RX4 56 yJ6_bitCount_0f7a4 ∈ wsL_law := wsL_of (List.mem_of_getElem? (i := 478) (by decide +kernel)) rfl
theorem ml_X4_89 : Cond.methodLink RX4 89 yX4_areAllAlike ∈ wsL_law := wsL_of (List.mem_of_getElem? (i := 484) (by decide +kernel)) rfl
theorem ml_X0_22 : Cond.methodLink RX0 22 yX1_greatestUntold ∈ wsL_law := wsL_of (List.mem_of_getElem? (i := 517) (by decide +kernel)) rfl
theorem ml_X0_28 : Cond.methodLink RX0 28 yX1_leastUntold ∈ wsL_law := wsL_of (List.mem_of_getElem? (i := 525) (by decide +kernel)) rfl
theorem ml_X0_38 : Cond.methodLink RX0 38 yX0_sortRow ∈ wsL_law := wsL_of (List.mem_of_getElem? (i := 537) (by decide +kernel)) rfl
theorem ml_X0_51 : Cond.methodLink RX0 51 yX0_exchange ∈ wsL_law := wsL_of (List.mem_of_getElem? (i := 541) (by decide +kernel)) rfl
theorem ml_X0_41 : Cond.methodLink RX0 41 yX0_spread ∈ wsL_law := wsL_of (List.mem_of_getElem? (i := 545) (by decide +kernel)) rfl
theorem ml_X0_31 : Cond.methodLink RX0 31 yX0_greatestCopy ∈ wsL_law := wsL_of (List.mem_of_getElem? (i := 549) (by decide +kernel)) rfl
theorem ml_X0_35 : Cond.methodLink RX0 35 yX0_leastCopy ∈ wsL_law := wsL_of (List.mem_of_getElem? (i := 550) (by decide +kernel)) rfl
theorem ml_X0_44 : Cond.methodLink RX0 44 yX0_keepAsBest ∈ wsL_law := wsL_of (List.mem_of_getElem? (i := 551) (by decide +kernel)) rfl
theorem ml_X0_47 : Cond.methodLink RX0 47 yX0_toNextOrder ∈ wsL_law := wsL_of (List.mem_of_getElem? (i := 555) (by decide +kernel)) rfl
theorem ml_X5_9 : Cond.methodLink RX5 9 yX5_goesOn ∈ wsL_law := wsL_of (List.mem_of_getElem? (i := 193) (by decide +kernel)) rfl
theorem ml_X5_15 : Cond.methodLink RX5 15 yX3_cellOf ∈ wsL_law := wsL_of (List.mem_of_getElem? (i := 196) (by decide +kernel)) rfl
theorem ml_X5_21 : Cond.methodLink RX5 21 yX5_number ∈ wsL_law := wsL_of (List.mem_of_getElem? (i := 200) (by decide +kernel)) rfl
theorem ml_X5_25 : Cond.methodLink RX5 25 yX6_clear ∈ wsL_law := wsL_of (List.mem_of_getElem? (i := 214) (by decide +kernel)) rfl
theorem ml_X5_30 : Cond.methodLink RX5 30 yX6_add ∈ wsL_law := wsL_of (List.mem_of_getElem? (i := 218) (by decide +kernel)) rfl
theorem ml_X8_71 : Cond.methodLink RX8 71 yX8_isSheet ∈ wsL_law := wsL_of (List.mem_of_getElem? (i := 762) (by decide +kernel)) rfl
theorem ml_X8_64 : Cond.methodLink RX8 64 yX8_within ∈ wsL_law := wsL_of (List.mem_of_getElem? (i := 765) (by decide +kernel)) rfl
theorem ml_X8_75 : Cond.methodLink RX8 75 yX8_isSort ∈ wsL_law := wsL_of (List.mem_of_getElem? (i := 768) (by decide +kernel)) rfl
theorem ml_X8_78 : Cond.methodLink RX8 78 yX8_against ∈ wsL_law := wsL_of (List.mem_of_getElem? (i := 771) (by decide +kernel)) rfl
theorem ml_X8_82 : Cond.methodLink RX8 82 yX8_fails ∈ wsL_law := wsL_of (List.mem_of_getElem? (i := 775) (by decide +kernel)) rfl
theorem ml_X8_89 : Cond.methodLink RX8 89 yX8_readMarket ∈ wsL_law := wsL_of (List.mem_of_getElem? (i := 779) (by decide +kernel)) rfl
theorem ml_X8_101 : Cond.methodLink RX8 101 yX8_isThing ∈ wsL_law := wsL_of (List.mem_of_getElem? (i := 787) (by decide +kernel)) rfl
theorem ml_X8_104 : Cond.methodLink RX8 104 yX8_isWeight ∈ wsL_law := wsL_of (List.mem_of_getElem? (i := 795) (by decide +kernel)) rfl
theorem ml_X8_107 : Cond.methodLink RX8 107 yX8_isHand ∈ wsL_law := wsL_of (List.mem_of_getElem? (i := 806) (by decide +kernel)) rfl
theorem ml_X8_113 : Cond.methodLink RX8 113 yX8_isTold ∈ wsL_law := wsL_of (List.mem_of_getElem? (i := 814) (by decide +kernel)) rfl
theorem ml_X8_110 : Cond.methodLink RX8 110 yX8_times ∈ wsL_law := wsL_of (List.mem_of_getElem? (i := 818) (by decide +kernel)) rfl
theorem ml_X8_122 : Cond.methodLink RX8 122 yX8_alikeTo ∈ wsL_law := wsL_of (List.mem_of_getElem? (i := 826) (by decide +kernel)) rfl
theorem ml_X8_119 : Cond.methodLink RX8 119 yX8_areAlike ∈ wsL_law := wsL_of (List.mem_of_getElem? (i := 830) (by decide +kernel)) rfl
theorem ml_X8_116 : Cond.methodLink RX8 116 yX8_tellsThem ∈ wsL_law := wsL_of (List.mem_of_getElem? (i := 834) (by decide +kernel)) rfl
theorem ml_X8_126 : Cond.methodLink RX8 126 yX8_findFar ∈ wsL_law := wsL_of (List.mem_of_getElem? (i := 846) (by decide +kernel)) rfl
theorem ml_X8_130 : Cond.methodLink RX8 130 yX8_nextOf ∈ wsL_law := wsL_of (List.mem_of_getElem? (i := 850) (by decide +kernel)) rfl
theorem ml_X8_133 : Cond.methodLink RX8 133 yX8_isGot ∈ wsL_law := wsL_of (List.mem_of_getElem? (i := 862) (by decide +kernel)) rfl
theorem ml_X8_137 : Cond.methodLink RX8 137 yX8_isSo ∈ wsL_law := wsL_of (List.mem_of_getElem? (i := 878) (by decide +kernel)) rfl
theorem ml_X8_140 : Cond.methodLink RX8 140 yX8_falseOf ∈ wsL_law := wsL_of (List.mem_of_getElem? (i := 886) (by decide +kernel)) rfl
theorem ml_X8_143 : Cond.methodLink RX8 143 yX8_inFirstRow ∈ wsL_law := wsL_of (List.mem_of_getElem? (i := 898) (by decide +kernel)) rfl
theorem ml_X8_146 : Cond.methodLink RX8 146 yX8_mayStand ∈ wsL_law := wsL_of (List.mem_of_getElem? (i := 902) (by decide +kernel)) rfl
theorem ml_X8_149 : Cond.methodLink RX8 149 yX8_bits ∈ wsL_law := wsL_of (List.mem_of_getElem? (i := 914) (by decide +kernel)) rfl
theorem ml_X8_152 : Cond.methodLink RX8 152 yX8_isCrowd ∈ wsL_law := wsL_of (List.mem_of_getElem? (i := 917) (by decide +kernel)) rfl
theorem ml_X8_162 : Cond.methodLink RX8 162 yX8_layRow ∈ wsL_law := wsL_of (List.mem_of_getElem? (i := 929) (by decide +kernel)) rfl
theorem ml_X8_166 : Cond.methodLink RX8 166 yX8_copied ∈ wsL_law := wsL_of (List.mem_of_getElem? (i := 933) (by decide +kernel)) rfl
theorem ml_X8_156 : Cond.methodLink RX8 156 yX8_greatest ∈ wsL_law := wsL_of (List.mem_of_getElem? (i := 937) (by decide +kernel)) rfl
theorem ml_X8_159 : Cond.methodLink RX8 159 yX8_least ∈ wsL_law := wsL_of (List.mem_of_getElem? (i := 941) (by decide +kernel)) rfl
theorem ml_X8_175 : Cond.methodLink RX8 175 yX8_findBestRow ∈ wsL_law := wsL_of (List.mem_of_getElem? (i := 949) (by decide +kernel)) rfl
theorem ml_X8_169 : Cond.methodLink RX8 169 yX8_exchange ∈ wsL_law := wsL_of (List.mem_of_getElem? (i := 953) (by decide +kernel)) rfl
theorem ml_X8_172 : Cond.methodLink RX8 172 yX8_nextRow ∈ wsL_law := wsL_of (List.mem_of_getElem? (i := 957) (by decide +kernel)) rfl
theorem ml_X8_181 : Cond.methodLink RX8 181 yX8_areEven ∈ wsL_law := wsL_of (List.mem_of_getElem? (i := 965) (by decide +kernel)) rfl
theorem ml_X8_178 : Cond.methodLink RX8 178 yX8_sumOf ∈ wsL_law := wsL_of (List.mem_of_getElem? (i := 969) (by decide +kernel)) rfl
theorem ml_X8_184 : Cond.methodLink RX8 184 yX8_share ∈ wsL_law := wsL_of (List.mem_of_getElem? (i := 978) (by decide +kernel)) rfl
theorem ml_X8_188 : Cond.methodLink RX8 188 yX8_lost ∈ wsL_law := wsL_of (List.mem_of_getElem? (i := 997) (by decide +kernel)) rfl
theorem ml_X8_195 : Cond.methodLink RX8 195 yX8_begins ∈ wsL_law := wsL_of (List.mem_of_getElem? (i := 1009) (by decide +kernel)) rfl
theorem mf_X6_9 : Cond.fieldLink RX6 9 "ByHand$Things" "count" "I" ∈ wsL_law := wsL_of (List.mem_of_getElem? (i := 27) (by decide +kernel)) rfl
theorem mf_X6_15 : Cond.fieldLink RX6 15 "ByHand$Things" "weights" "[I" ∈ wsL_law := wsL_of (List.mem_of_getElem? (i := 28) (by decide +kernel)) rfl
theorem mf_X1_9 : Cond.fieldLink RX1 9 "ByHand$Hands" "count" "I" ∈ wsL_law := wsL_of (List.mem_of_getElem? (i := 41) (by decide +kernel)) rfl
theorem mf_X1_15 : Cond.fieldLink RX1 15 "ByHand$Hands" "kinds" "[I" ∈ wsL_law := wsL_of (List.mem_of_getElem? (i := 42) (by decide +kernel)) rfl
theorem mf_X1_19 : Cond.fieldLink RX1 19 "ByHand$Hands" "parts" "[I" ∈ wsL_law := wsL_of (List.mem_of_getElem? (i := 43) (by decide +kernel)) rfl
theorem mf_X2_9 : Cond.fieldLink RX2 9 "ByHand$Sayings" "count" "I" ∈ wsL_law := wsL_of (List.mem_of_getElem? (i := 57) (by decide +kernel)) rfl
theorem mf_X2_15 : Cond.fieldLink RX2 15 "ByHand$Sayings" "sayers" "[I" ∈ wsL_law := wsL_of (List.mem_of_getElem? (i := 58) (by decide +kernel)) rfl
theorem mf_X2_19 : Cond.fieldLink RX2 19 "ByHand$Sayings" "firsts" "[I" ∈ wsL_law := wsL_of (List.mem_of_getElem? (i := 59) (by decide +kernel)) rfl
theorem mf_X2_22 : Cond.fieldLink RX2 22 "ByHand$Sayings" "seconds" "[I" ∈ wsL_law := wsL_of (List.mem_of_getElem? (i := 60) (by decide +kernel)) rfl
theorem mf_X2_25 : Cond.fieldLink RX2 25 "ByHand$Sayings" "words" "[I" ∈ wsL_law := wsL_of (List.mem_of_getElem? (i := 61) (by decide +kernel)) rfl
theorem mf_X3_9 : Cond.fieldLink RX3 9 "ByHand$Sheets" "filled" "[Z" ∈ wsL_law := wsL_of (List.mem_of_getElem? (i := 81) (by decide +kernel)) rfl
theorem mf_X3_15 : Cond.fieldLink RX3 15 "ByHand$Sheets" "sorts" "[I" ∈ wsL_law := wsL_of (List.mem_of_getElem? (i := 82) (by decide +kernel)) rfl
theorem mf_X3_19 : Cond.fieldLink RX3 19 "ByHand$Sheets" "lengths" "[I" ∈ wsL_law := wsL_of (List.mem_of_getElem? (i := 83) (by decide +kernel)) rfl
theorem mf_X3_24 : Cond.fieldLink RX3 24 "ByHand$Sheets" "cells" "[[I" ∈ wsL_law := wsL_of (List.mem_of_getElem? (i := 84) (by decide +kernel)) rfl
theorem mf_X4_9 : Cond.fieldLink RX4 9 "ByHand$Telling" "count" "I" ∈ wsL_law := wsL_of (List.mem_of_getElem? (i := 101) (by decide +kernel)) rfl
theorem mf_X4_15 : Cond.fieldLink RX4 15 "ByHand$Telling" "lighter" "[I" ∈ wsL_law := wsL_of (List.mem_of_getElem? (i := 102) (by decide +kernel)) rfl
theorem mf_X4_19 : Cond.fieldLink RX4 19 "ByHand$Telling" "alikes" "[I" ∈ wsL_law := wsL_of (List.mem_of_getElem? (i := 103) (by decide +kernel)) rfl
theorem mf_X4_22 : Cond.fieldLink RX4 22 "ByHand$Telling" "orders" "[I" ∈ wsL_law := wsL_of (List.mem_of_getElem? (i := 104) (by decide +kernel)) rfl
theorem mf_X0_9 : Cond.fieldLink RX0 9 "ByHand$HandRow" "count" "I" ∈ wsL_law := wsL_of (List.mem_of_getElem? (i := 120) (by decide +kernel)) rfl
theorem mf_X0_15 : Cond.fieldLink RX0 15 "ByHand$HandRow" "row" "[I" ∈ wsL_law := wsL_of (List.mem_of_getElem? (i := 121) (by decide +kernel)) rfl
theorem mf_X0_19 : Cond.fieldLink RX0 19 "ByHand$HandRow" "best" "[I" ∈ wsL_law := wsL_of (List.mem_of_getElem? (i := 122) (by decide +kernel)) rfl
theorem mf_X7_14 : Cond.fieldLink RX7 14 "ByHand" "things" "LByHand$Things;" ∈ wsL_law := wsL_of (List.mem_of_getElem? (i := 130) (by decide +kernel)) rfl
theorem mf_X7_21 : Cond.fieldLink RX7 21 "ByHand" "hands" "LByHand$Hands;" ∈ wsL_law := wsL_of (List.mem_of_getElem? (i := 131) (by decide +kernel)) rfl
theorem mf_X7_28 : Cond.fieldLink RX7 28 "ByHand" "sayings" "LByHand$Sayings;" ∈ wsL_law := wsL_of (List.mem_of_getElem? (i := 132) (by decide +kernel)) rfl
theorem mf_X7_35 : Cond.fieldLink RX7 35 "ByHand" "sheets" "LByHand$Sheets;" ∈ wsL_law := wsL_of (List.mem_of_getElem? (i := 133) (by decide +kernel)) rfl
theorem mf_X7_42 : Cond.fieldLink RX7 42 "ByHand" "telling" "LByHand$Telling;" ∈ wsL_law := wsL_of (List.mem_of_getElem? (i := 134) (by decide +kernel)) rfl
theorem mf_X7_46 : Cond.fieldLink RX7 46 "ByHand" "otherTelling" "LByHand$Telling;" ∈ wsL_law := wsL_of (List.mem_of_getElem? (i := 135) (by decide +kernel)) rfl
theorem mf_X7_52 : Cond.fieldLink RX7 52 "ByHand" "handRow" "LByHand$HandRow;" ∈ wsL_law := wsL_of (List.mem_of_getElem? (i := 136) (by decide +kernel)) rfl
theorem mf_X7_56 : Cond.fieldLink RX7 56 "ByHand" "traceLeft" "I" ∈ wsL_law := wsL_of (List.mem_of_getElem? (i := 137) (by decide +kernel)) rfl
theorem mf_X7_60 : Cond.fieldLink RX7 60 "ByHand" "latestFault" "I" ∈ wsL_law := wsL_of (List.mem_of_getElem? (i := 138) (by decide +kernel)) rfl
theorem mf_X8_58 : Cond.fieldLink RX8 58 "ByHandModel" "fault" "I" ∈ wsL_law := wsL_of (List.mem_of_getElem? (i := 688) (by decide +kernel)) rfl
theorem mf_X8_192 : Cond.fieldLink RX8 192 "ByHandModel" "trace" "I" ∈ wsL_law := wsL_of (List.mem_of_getElem? (i := 689) (by decide +kernel)) rfl
theorem mf_X8_9 : Cond.fieldLink RX8 9 "ByHandModel" "sorts" "[I" ∈ wsL_law := wsL_of (List.mem_of_getElem? (i := 690) (by decide +kernel)) rfl
theorem mf_X8_13 : Cond.fieldLink RX8 13 "ByHandModel" "sheetLong" "[I" ∈ wsL_law := wsL_of (List.mem_of_getElem? (i := 691) (by decide +kernel)) rfl
theorem mf_X8_16 : Cond.fieldLink RX8 16 "ByHandModel" "cells" "[I" ∈ wsL_law := wsL_of (List.mem_of_getElem? (i := 692) (by decide +kernel)) rfl
theorem mf_X8_68 : Cond.fieldLink RX8 68 "ByHandModel" "things" "I" ∈ wsL_law := wsL_of (List.mem_of_getElem? (i := 693) (by decide +kernel)) rfl
theorem mf_X8_19 : Cond.fieldLink RX8 19 "ByHandModel" "weight" "[I" ∈ wsL_law := wsL_of (List.mem_of_getElem? (i := 694) (by decide +kernel)) rfl
theorem mf_X8_86 : Cond.fieldLink RX8 86 "ByHandModel" "at" "I" ∈ wsL_law := wsL_of (List.mem_of_getElem? (i := 695) (by decide +kernel)) rfl
theorem mf_X8_92 : Cond.fieldLink RX8 92 "ByHandModel" "readThings" "I" ∈ wsL_law := wsL_of (List.mem_of_getElem? (i := 696) (by decide +kernel)) rfl
theorem mf_X8_22 : Cond.fieldLink RX8 22 "ByHandModel" "readWeight" "[I" ∈ wsL_law := wsL_of (List.mem_of_getElem? (i := 697) (by decide +kernel)) rfl
theorem mf_X8_95 : Cond.fieldLink RX8 95 "ByHandModel" "hands" "I" ∈ wsL_law := wsL_of (List.mem_of_getElem? (i := 698) (by decide +kernel)) rfl
theorem mf_X8_25 : Cond.fieldLink RX8 25 "ByHandModel" "kind" "[I" ∈ wsL_law := wsL_of (List.mem_of_getElem? (i := 699) (by decide +kernel)) rfl
theorem mf_X8_28 : Cond.fieldLink RX8 28 "ByHandModel" "part" "[I" ∈ wsL_law := wsL_of (List.mem_of_getElem? (i := 700) (by decide +kernel)) rfl
theorem mf_X8_31 : Cond.fieldLink RX8 31 "ByHandModel" "far" "[I" ∈ wsL_law := wsL_of (List.mem_of_getElem? (i := 701) (by decide +kernel)) rfl
theorem mf_X8_98 : Cond.fieldLink RX8 98 "ByHandModel" "sayings" "I" ∈ wsL_law := wsL_of (List.mem_of_getElem? (i := 702) (by decide +kernel)) rfl
theorem mf_X8_34 : Cond.fieldLink RX8 34 "ByHandModel" "saidBy" "[I" ∈ wsL_law := wsL_of (List.mem_of_getElem? (i := 703) (by decide +kernel)) rfl
theorem mf_X8_37 : Cond.fieldLink RX8 37 "ByHandModel" "saidFirst" "[I" ∈ wsL_law := wsL_of (List.mem_of_getElem? (i := 704) (by decide +kernel)) rfl
theorem mf_X8_40 : Cond.fieldLink RX8 40 "ByHandModel" "saidOther" "[I" ∈ wsL_law := wsL_of (List.mem_of_getElem? (i := 705) (by decide +kernel)) rfl
theorem mf_X8_43 : Cond.fieldLink RX8 43 "ByHandModel" "saidIs" "[I" ∈ wsL_law := wsL_of (List.mem_of_getElem? (i := 706) (by decide +kernel)) rfl
theorem mf_X8_46 : Cond.fieldLink RX8 46 "ByHandModel" "ways" "[I" ∈ wsL_law := wsL_of (List.mem_of_getElem? (i := 707) (by decide +kernel)) rfl
theorem mf_X8_49 : Cond.fieldLink RX8 49 "ByHandModel" "chain" "[I" ∈ wsL_law := wsL_of (List.mem_of_getElem? (i := 708) (by decide +kernel)) rfl
theorem mf_X8_52 : Cond.fieldLink RX8 52 "ByHandModel" "row" "[I" ∈ wsL_law := wsL_of (List.mem_of_getElem? (i := 709) (by decide +kernel)) rfl
theorem mf_X8_55 : Cond.fieldLink RX8 55 "ByHandModel" "bestIs" "[I" ∈ wsL_law := wsL_of (List.mem_of_getElem? (i := 710) (by decide +kernel)) rfl
theorem mk_J6_265 : Cond.constant RJ6 265 (1431655765) ∈ wsL_law := wsL_of (List.mem_of_getElem? (i := 481) (by decide +kernel)) rfl
theorem mk_J6_266 : Cond.constant RJ6 266 (858993459) ∈ wsL_law := wsL_of (List.mem_of_getElem? (i := 482) (by decide +kernel)) rfl
theorem mk_J6_267 : Cond.constant RJ6 267 (252645135) ∈ wsL_law := wsL_of (List.mem_of_getElem? (i := 483) (by decide +kernel)) rfl
theorem mk2_X7_223 : Cond.constantLong RX7 223 (-9223372036854775808) ∈ wsL_law := wsL_of (List.mem_of_getElem? (i := 577) (by decide +kernel)) rfl
theorem mk2_X8_62 : Cond.constantLong RX8 62 (-9223372036854775808) ∈ wsL_law := wsL_of (List.mem_of_getElem? (i := 977) (by decide +kernel)) rfl
theorem mcl_L_7 : Cond.classLink RL 7 RX7 ∈ wsL_law := wsL_of (List.mem_of_getElem? (i := 13) (by decide +kernel)) rfl
theorem mcl_L_10 : Cond.classLink RL 10 RX8 ∈ wsL_law := wsL_of (List.mem_of_getElem? (i := 682) (by decide +kernel)) rfl
theorem mcl_X7_11 : Cond.classLink RX7 11 RX6 ∈ wsL_law := wsL_of (List.mem_of_getElem? (i := 21) (by decide +kernel)) rfl
theorem mcl_X7_18 : Cond.classLink RX7 18 RX1 ∈ wsL_law := wsL_of (List.mem_of_getElem? (i := 35) (by decide +kernel)) rfl
theorem mcl_X7_25 : Cond.classLink RX7 25 RX2 ∈ wsL_law := wsL_of (List.mem_of_getElem? (i := 51) (by decide +kernel)) rfl
theorem mcl_X7_32 : Cond.classLink RX7 32 RX3 ∈ wsL_law := wsL_of (List.mem_of_getElem? (i := 73) (by decide +kernel)) rfl
theorem mcl_X7_39 : Cond.classLink RX7 39 RX4 ∈ wsL_law := wsL_of (List.mem_of_getElem? (i := 95) (by decide +kernel)) rfl
theorem mcl_X7_49 : Cond.classLink RX7 49 RX0 ∈ wsL_law := wsL_of (List.mem_of_getElem? (i := 114) (by decide +kernel)) rfl
theorem mw_X0 : ∀ w ∈ u_ws RX0 TX0 3, w ∈ wsL_law := by
  have h1 : ∀ w ∈ u_ws RX0 TX0 3, w ∈ tables_1 := by decide +kernel
  have h2 : (u_ws RX0 TX0 3).all goodWord = true := by decide +kernel
  exact fun w h => wsL_of (h1 w h) (List.all_eq_true.mp h2 w h)
theorem mw_X1 : ∀ w ∈ u_ws RX1 TX1 3, w ∈ wsL_law := by
  have h1 : ∀ w ∈ u_ws RX1 TX1 3, w ∈ tables_1 := by decide +kernel
  have h2 : (u_ws RX1 TX1 3).all goodWord = true := by decide +kernel
  exact fun w h => wsL_of (h1 w h) (List.all_eq_true.mp h2 w h)
theorem mw_X2 : ∀ w ∈ u_ws RX2 TX2 5, w ∈ wsL_law := by
  have h1 : ∀ w ∈ u_ws RX2 TX2 5, w ∈ tables_1 := by decide +kernel
  have h2 : (u_ws RX2 TX2 5).all goodWord = true := by decide +kernel
  exact fun w h => wsL_of (h1 w h) (List.all_eq_true.mp h2 w h)
theorem mw_X3 : ∀ w ∈ u_ws RX3 TX3 4, w ∈ wsL_law := by
  have h1 : ∀ w ∈ u_ws RX3 TX3 4, w ∈ tables_1 := by decide +kernel
  have h2 : (u_ws RX3 TX3 4).all goodWord = true := by decide +kernel
  exact fun w h => wsL_of (h1 w h) (List.all_eq_true.mp h2 w h)
theorem mw_X4 : ∀ w ∈ u_ws RX4 TX4 4, w ∈ wsL_law := by
  have h1 : ∀ w ∈ u_ws RX4 TX4 4, w ∈ tables_1 := by decide +kernel
  have h2 : (u_ws RX4 TX4 4).all goodWord = true := by decide +kernel
  exact fun w h => wsL_of (h1 w h) (List.all_eq_true.mp h2 w h)
theorem mw_X6 : ∀ w ∈ u_ws RX6 TX6 2, w ∈ wsL_law := by
  have h1 : ∀ w ∈ u_ws RX6 TX6 2, w ∈ tables_1 := by decide +kernel
  have h2 : (u_ws RX6 TX6 2).all goodWord = true := by decide +kernel
  exact fun w h => wsL_of (h1 w h) (List.all_eq_true.mp h2 w h)
theorem mw_X7 : ∀ w ∈ u_ws RX7 TX7 9, w ∈ wsL_law := by
  have h1 : ∀ w ∈ u_ws RX7 TX7 9, w ∈ tables_1 := by decide +kernel
  have h2 : (u_ws RX7 TX7 9).all goodWord = true := by decide +kernel
  exact fun w h => wsL_of (h1 w h) (List.all_eq_true.mp h2 w h)
theorem mw_X8 : ∀ w ∈ u_ws RX8 TX8 23, w ∈ wsL_law := by
  have h1 : ∀ w ∈ u_ws RX8 TX8 23, w ∈ tables_1 := by decide +kernel
  have h2 : (u_ws RX8 TX8 23).all goodWord = true := by decide +kernel
  exact fun w h => wsL_of (h1 w h) (List.all_eq_true.mp h2 w h)
end
section
theorem dX0_init_0 : decode cX0_init 0 = .ok (.aload_n 0, 1) := by decide +kernel
theorem dX0_init_1 : decode cX0_init 1 = .ok (.invokespecial 3, 3) := by decide +kernel
theorem dX0_init_4 : decode cX0_init 4 = .ok (.aload_n 0, 1) := by decide +kernel
theorem dX0_init_5 : decode cX0_init 5 = .ok (.iconst 0, 1) := by decide +kernel
theorem dX0_init_6 : decode cX0_init 6 = .ok (.putfield 9, 3) := by decide +kernel
theorem dX0_init_9 : decode cX0_init 9 = .ok (.aload_n 0, 1) := by decide +kernel
theorem dX0_init_10 : decode cX0_init 10 = .ok (.iconst 5, 1) := by decide +kernel
theorem dX0_init_11 : decode cX0_init 11 = .ok (.newarray .int, 2) := by decide +kernel
theorem dX0_init_13 : decode cX0_init 13 = .ok (.putfield 15, 3) := by decide +kernel
theorem dX0_init_16 : decode cX0_init 16 = .ok (.aload_n 0, 1) := by decide +kernel
theorem dX0_init_17 : decode cX0_init 17 = .ok (.iconst 5, 1) := by decide +kernel
theorem dX0_init_18 : decode cX0_init 18 = .ok (.newarray .int, 2) := by decide +kernel
theorem dX0_init_20 : decode cX0_init 20 = .ok (.putfield 19, 3) := by decide +kernel
theorem dX0_init_23 : decode cX0_init 23 = .ok (.return_, 1) := by decide +kernel
theorem dX0_clear_0 : decode cX0_clear 0 = .ok (.aload_n 0, 1) := by decide +kernel
theorem dX0_clear_1 : decode cX0_clear 1 = .ok (.iconst 0, 1) := by decide +kernel
theorem dX0_clear_2 : decode cX0_clear 2 = .ok (.putfield 9, 3) := by decide +kernel
theorem dX0_clear_5 : decode cX0_clear 5 = .ok (.return_, 1) := by decide +kernel
theorem dX0_add_0 : decode cX0_add 0 = .ok (.aload_n 0, 1) := by decide +kernel
theorem dX0_add_1 : decode cX0_add 1 = .ok (.getfield 9, 3) := by decide +kernel
theorem dX0_add_4 : decode cX0_add 4 = .ok (.iconst 5, 1) := by decide +kernel
theorem dX0_add_5 : decode cX0_add 5 = .ok (.if_icmp .ge 23, 3) := by decide +kernel
theorem dX0_add_8 : decode cX0_add 8 = .ok (.aload_n 0, 1) := by decide +kernel
theorem dX0_add_9 : decode cX0_add 9 = .ok (.getfield 15, 3) := by decide +kernel
theorem dX0_add_12 : decode cX0_add 12 = .ok (.aload_n 0, 1) := by decide +kernel
theorem dX0_add_13 : decode cX0_add 13 = .ok (.getfield 9, 3) := by decide +kernel
theorem dX0_add_16 : decode cX0_add 16 = .ok (.iload_n 1, 1) := by decide +kernel
theorem dX0_add_17 : decode cX0_add 17 = .ok (.iastore, 1) := by decide +kernel
theorem dX0_add_18 : decode cX0_add 18 = .ok (.aload_n 0, 1) := by decide +kernel
theorem dX0_add_19 : decode cX0_add 19 = .ok (.dup, 1) := by decide +kernel
theorem dX0_add_20 : decode cX0_add 20 = .ok (.getfield 9, 3) := by decide +kernel
theorem dX0_add_23 : decode cX0_add 23 = .ok (.iconst 1, 1) := by decide +kernel
theorem dX0_add_24 : decode cX0_add 24 = .ok (.iadd, 1) := by decide +kernel
theorem dX0_add_25 : decode cX0_add 25 = .ok (.putfield 9, 3) := by decide +kernel
theorem dX0_add_28 : decode cX0_add 28 = .ok (.return_, 1) := by decide +kernel
theorem dX0_greatestCopy_0 : decode cX0_greatestCopy 0 = .ok (.iload_n 2, 1) := by decide +kernel
theorem dX0_greatestCopy_1 : decode cX0_greatestCopy 1 = .ok (.istore_n 3, 1) := by decide +kernel
theorem dX0_greatestCopy_2 : decode cX0_greatestCopy 2 = .ok (.iconst 0, 1) := by decide +kernel
theorem dX0_greatestCopy_3 : decode cX0_greatestCopy 3 = .ok (.istore 4, 2) := by decide +kernel
theorem dX0_greatestCopy_5 : decode cX0_greatestCopy 5 = .ok (.iload 4, 2) := by decide +kernel
theorem dX0_greatestCopy_7 : decode cX0_greatestCopy 7 = .ok (.aload_n 0, 1) := by decide +kernel
theorem dX0_greatestCopy_8 : decode cX0_greatestCopy 8 = .ok (.getfield 9, 3) := by decide +kernel
theorem dX0_greatestCopy_11 : decode cX0_greatestCopy 11 = .ok (.if_icmp .ge 22, 3) := by decide +kernel
theorem dX0_greatestCopy_14 : decode cX0_greatestCopy 14 = .ok (.aload_n 1, 1) := by decide +kernel
theorem dX0_greatestCopy_15 : decode cX0_greatestCopy 15 = .ok (.aload_n 0, 1) := by decide +kernel
theorem dX0_greatestCopy_16 : decode cX0_greatestCopy 16 = .ok (.getfield 15, 3) := by decide +kernel
theorem dX0_greatestCopy_19 : decode cX0_greatestCopy 19 = .ok (.iload 4, 2) := by decide +kernel
theorem dX0_greatestCopy_21 : decode cX0_greatestCopy 21 = .ok (.iaload, 1) := by decide +kernel
theorem dX0_greatestCopy_22 : decode cX0_greatestCopy 22 = .ok (.iload_n 3, 1) := by decide +kernel
theorem dX0_greatestCopy_23 : decode cX0_greatestCopy 23 = .ok (.invokevirtual 22, 3) := by decide +kernel
theorem dX0_greatestCopy_26 : decode cX0_greatestCopy 26 = .ok (.istore_n 3, 1) := by decide +kernel
theorem dX0_greatestCopy_27 : decode cX0_greatestCopy 27 = .ok (.iinc 4 1, 3) := by decide +kernel
theorem dX0_greatestCopy_30 : decode cX0_greatestCopy 30 = .ok (.goto (-25), 3) := by decide +kernel
theorem dX0_greatestCopy_33 : decode cX0_greatestCopy 33 = .ok (.iload_n 3, 1) := by decide +kernel
theorem dX0_greatestCopy_34 : decode cX0_greatestCopy 34 = .ok (.ireturn, 1) := by decide +kernel
theorem dX0_leastCopy_0 : decode cX0_leastCopy 0 = .ok (.iload_n 2, 1) := by decide +kernel
theorem dX0_leastCopy_1 : decode cX0_leastCopy 1 = .ok (.istore_n 3, 1) := by decide +kernel
theorem dX0_leastCopy_2 : decode cX0_leastCopy 2 = .ok (.iconst 0, 1) := by decide +kernel
theorem dX0_leastCopy_3 : decode cX0_leastCopy 3 = .ok (.istore 4, 2) := by decide +kernel
theorem dX0_leastCopy_5 : decode cX0_leastCopy 5 = .ok (.iload 4, 2) := by decide +kernel
theorem dX0_leastCopy_7 : decode cX0_leastCopy 7 = .ok (.aload_n 0, 1) := by decide +kernel
theorem dX0_leastCopy_8 : decode cX0_leastCopy 8 = .ok (.getfield 9, 3) := by decide +kernel
theorem dX0_leastCopy_11 : decode cX0_leastCopy 11 = .ok (.if_icmp .ge 22, 3) := by decide +kernel
theorem dX0_leastCopy_14 : decode cX0_leastCopy 14 = .ok (.aload_n 1, 1) := by decide +kernel
theorem dX0_leastCopy_15 : decode cX0_leastCopy 15 = .ok (.aload_n 0, 1) := by decide +kernel
theorem dX0_leastCopy_16 : decode cX0_leastCopy 16 = .ok (.getfield 15, 3) := by decide +kernel
theorem dX0_leastCopy_19 : decode cX0_leastCopy 19 = .ok (.iload 4, 2) := by decide +kernel
theorem dX0_leastCopy_21 : decode cX0_leastCopy 21 = .ok (.iaload, 1) := by decide +kernel
theorem dX0_leastCopy_22 : decode cX0_leastCopy 22 = .ok (.iload_n 3, 1) := by decide +kernel
theorem dX0_leastCopy_23 : decode cX0_leastCopy 23 = .ok (.invokevirtual 28, 3) := by decide +kernel
theorem dX0_leastCopy_26 : decode cX0_leastCopy 26 = .ok (.istore_n 3, 1) := by decide +kernel
theorem dX0_leastCopy_27 : decode cX0_leastCopy 27 = .ok (.iinc 4 1, 3) := by decide +kernel
theorem dX0_leastCopy_30 : decode cX0_leastCopy 30 = .ok (.goto (-25), 3) := by decide +kernel
theorem dX0_leastCopy_33 : decode cX0_leastCopy 33 = .ok (.iload_n 3, 1) := by decide +kernel
theorem dX0_leastCopy_34 : decode cX0_leastCopy 34 = .ok (.ireturn, 1) := by decide +kernel
theorem dX0_spread_0 : decode cX0_spread 0 = .ok (.aload_n 0, 1) := by decide +kernel
theorem dX0_spread_1 : decode cX0_spread 1 = .ok (.aload_n 1, 1) := by decide +kernel
theorem dX0_spread_2 : decode cX0_spread 2 = .ok (.iload_n 2, 1) := by decide +kernel
theorem dX0_spread_3 : decode cX0_spread 3 = .ok (.invokevirtual 31, 3) := by decide +kernel
theorem dX0_spread_6 : decode cX0_spread 6 = .ok (.aload_n 0, 1) := by decide +kernel
theorem dX0_spread_7 : decode cX0_spread 7 = .ok (.aload_n 1, 1) := by decide +kernel
theorem dX0_spread_8 : decode cX0_spread 8 = .ok (.iload_n 2, 1) := by decide +kernel
theorem dX0_spread_9 : decode cX0_spread 9 = .ok (.invokevirtual 35, 3) := by decide +kernel
theorem dX0_spread_12 : decode cX0_spread 12 = .ok (.isub, 1) := by decide +kernel
theorem dX0_spread_13 : decode cX0_spread 13 = .ok (.ireturn, 1) := by decide +kernel
theorem dX0_findBest_0 : decode cX0_findBest 0 = .ok (.aload_n 0, 1) := by decide +kernel
theorem dX0_findBest_1 : decode cX0_findBest 1 = .ok (.invokevirtual 38, 3) := by decide +kernel
theorem dX0_findBest_4 : decode cX0_findBest 4 = .ok (.aload_n 0, 1) := by decide +kernel
theorem dX0_findBest_5 : decode cX0_findBest 5 = .ok (.aload_n 1, 1) := by decide +kernel
theorem dX0_findBest_6 : decode cX0_findBest 6 = .ok (.iload_n 2, 1) := by decide +kernel
theorem dX0_findBest_7 : decode cX0_findBest 7 = .ok (.invokevirtual 41, 3) := by decide +kernel
theorem dX0_findBest_10 : decode cX0_findBest 10 = .ok (.istore_n 3, 1) := by decide +kernel
theorem dX0_findBest_11 : decode cX0_findBest 11 = .ok (.aload_n 0, 1) := by decide +kernel
theorem dX0_findBest_12 : decode cX0_findBest 12 = .ok (.invokevirtual 44, 3) := by decide +kernel
theorem dX0_findBest_15 : decode cX0_findBest 15 = .ok (.iconst 1, 1) := by decide +kernel
theorem dX0_findBest_16 : decode cX0_findBest 16 = .ok (.istore 4, 2) := by decide +kernel
theorem dX0_findBest_18 : decode cX0_findBest 18 = .ok (.iload 4, 2) := by decide +kernel
theorem dX0_findBest_20 : decode cX0_findBest 20 = .ok (.bipush 120, 2) := by decide +kernel
theorem dX0_findBest_22 : decode cX0_findBest 22 = .ok (.if_icmp .ge 37, 3) := by decide +kernel
theorem dX0_findBest_25 : decode cX0_findBest 25 = .ok (.aload_n 0, 1) := by decide +kernel
theorem dX0_findBest_26 : decode cX0_findBest 26 = .ok (.invokevirtual 47, 3) := by decide +kernel
theorem dX0_findBest_29 : decode cX0_findBest 29 = .ok (.ifCond .eq 30, 3) := by decide +kernel
theorem dX0_findBest_32 : decode cX0_findBest 32 = .ok (.aload_n 0, 1) := by decide +kernel
theorem dX0_findBest_33 : decode cX0_findBest 33 = .ok (.aload_n 1, 1) := by decide +kernel
theorem dX0_findBest_34 : decode cX0_findBest 34 = .ok (.iload_n 2, 1) := by decide +kernel
theorem dX0_findBest_35 : decode cX0_findBest 35 = .ok (.invokevirtual 41, 3) := by decide +kernel
theorem dX0_findBest_38 : decode cX0_findBest 38 = .ok (.istore 5, 2) := by decide +kernel
theorem dX0_findBest_40 : decode cX0_findBest 40 = .ok (.iload 5, 2) := by decide +kernel
theorem dX0_findBest_42 : decode cX0_findBest 42 = .ok (.iload_n 3, 1) := by decide +kernel
theorem dX0_findBest_43 : decode cX0_findBest 43 = .ok (.if_icmp .ge 10, 3) := by decide +kernel
theorem dX0_findBest_46 : decode cX0_findBest 46 = .ok (.iload 5, 2) := by decide +kernel
theorem dX0_findBest_48 : decode cX0_findBest 48 = .ok (.istore_n 3, 1) := by decide +kernel
theorem dX0_findBest_49 : decode cX0_findBest 49 = .ok (.aload_n 0, 1) := by decide +kernel
theorem dX0_findBest_50 : decode cX0_findBest 50 = .ok (.invokevirtual 44, 3) := by decide +kernel
theorem dX0_findBest_53 : decode cX0_findBest 53 = .ok (.iinc 4 1, 3) := by decide +kernel
theorem dX0_findBest_56 : decode cX0_findBest 56 = .ok (.goto (-38), 3) := by decide +kernel
theorem dX0_findBest_59 : decode cX0_findBest 59 = .ok (.iload_n 3, 1) := by decide +kernel
theorem dX0_findBest_60 : decode cX0_findBest 60 = .ok (.ireturn, 1) := by decide +kernel
theorem dX0_inBest_0 : decode cX0_inBest 0 = .ok (.iload_n 1, 1) := by decide +kernel
theorem dX0_inBest_1 : decode cX0_inBest 1 = .ok (.ifCond .lt 25, 3) := by decide +kernel
theorem dX0_inBest_4 : decode cX0_inBest 4 = .ok (.iload_n 1, 1) := by decide +kernel
theorem dX0_inBest_5 : decode cX0_inBest 5 = .ok (.aload_n 0, 1) := by decide +kernel
theorem dX0_inBest_6 : decode cX0_inBest 6 = .ok (.getfield 9, 3) := by decide +kernel
theorem dX0_inBest_9 : decode cX0_inBest 9 = .ok (.if_icmp .ge 17, 3) := by decide +kernel
theorem dX0_inBest_12 : decode cX0_inBest 12 = .ok (.iload_n 1, 1) := by decide +kernel
theorem dX0_inBest_13 : decode cX0_inBest 13 = .ok (.iconst 5, 1) := by decide +kernel
theorem dX0_inBest_14 : decode cX0_inBest 14 = .ok (.if_icmp .ge 12, 3) := by decide +kernel
theorem dX0_inBest_17 : decode cX0_inBest 17 = .ok (.aload_n 0, 1) := by decide +kernel
theorem dX0_inBest_18 : decode cX0_inBest 18 = .ok (.getfield 19, 3) := by decide +kernel
theorem dX0_inBest_21 : decode cX0_inBest 21 = .ok (.iload_n 1, 1) := by decide +kernel
theorem dX0_inBest_22 : decode cX0_inBest 22 = .ok (.iaload, 1) := by decide +kernel
theorem dX0_inBest_23 : decode cX0_inBest 23 = .ok (.goto 4, 3) := by decide +kernel
theorem dX0_inBest_26 : decode cX0_inBest 26 = .ok (.iconst (-1), 1) := by decide +kernel
theorem dX0_inBest_27 : decode cX0_inBest 27 = .ok (.ireturn, 1) := by decide +kernel
theorem dX0_keepAsBest_0 : decode cX0_keepAsBest 0 = .ok (.iconst 0, 1) := by decide +kernel
theorem dX0_keepAsBest_1 : decode cX0_keepAsBest 1 = .ok (.istore_n 1, 1) := by decide +kernel
theorem dX0_keepAsBest_2 : decode cX0_keepAsBest 2 = .ok (.iload_n 1, 1) := by decide +kernel
theorem dX0_keepAsBest_3 : decode cX0_keepAsBest 3 = .ok (.aload_n 0, 1) := by decide +kernel
theorem dX0_keepAsBest_4 : decode cX0_keepAsBest 4 = .ok (.getfield 9, 3) := by decide +kernel
theorem dX0_keepAsBest_7 : decode cX0_keepAsBest 7 = .ok (.if_icmp .ge 21, 3) := by decide +kernel
theorem dX0_keepAsBest_10 : decode cX0_keepAsBest 10 = .ok (.aload_n 0, 1) := by decide +kernel
theorem dX0_keepAsBest_11 : decode cX0_keepAsBest 11 = .ok (.getfield 19, 3) := by decide +kernel
theorem dX0_keepAsBest_14 : decode cX0_keepAsBest 14 = .ok (.iload_n 1, 1) := by decide +kernel
theorem dX0_keepAsBest_15 : decode cX0_keepAsBest 15 = .ok (.aload_n 0, 1) := by decide +kernel
theorem dX0_keepAsBest_16 : decode cX0_keepAsBest 16 = .ok (.getfield 15, 3) := by decide +kernel
theorem dX0_keepAsBest_19 : decode cX0_keepAsBest 19 = .ok (.iload_n 1, 1) := by decide +kernel
theorem dX0_keepAsBest_20 : decode cX0_keepAsBest 20 = .ok (.iaload, 1) := by decide +kernel
theorem dX0_keepAsBest_21 : decode cX0_keepAsBest 21 = .ok (.iastore, 1) := by decide +kernel
theorem dX0_keepAsBest_22 : decode cX0_keepAsBest 22 = .ok (.iinc 1 1, 3) := by decide +kernel
theorem dX0_keepAsBest_25 : decode cX0_keepAsBest 25 = .ok (.goto (-23), 3) := by decide +kernel
theorem dX0_keepAsBest_28 : decode cX0_keepAsBest 28 = .ok (.return_, 1) := by decide +kernel
theorem dX0_sortRow_0 : decode cX0_sortRow 0 = .ok (.iconst 1, 1) := by decide +kernel
theorem dX0_sortRow_1 : decode cX0_sortRow 1 = .ok (.istore_n 1, 1) := by decide +kernel
theorem dX0_sortRow_2 : decode cX0_sortRow 2 = .ok (.iload_n 1, 1) := by decide +kernel
theorem dX0_sortRow_3 : decode cX0_sortRow 3 = .ok (.aload_n 0, 1) := by decide +kernel
theorem dX0_sortRow_4 : decode cX0_sortRow 4 = .ok (.getfield 9, 3) := by decide +kernel
theorem dX0_sortRow_7 : decode cX0_sortRow 7 = .ok (.if_icmp .ge 46, 3) := by decide +kernel
theorem dX0_sortRow_10 : decode cX0_sortRow 10 = .ok (.iload_n 1, 1) := by decide +kernel
theorem dX0_sortRow_11 : decode cX0_sortRow 11 = .ok (.istore_n 2, 1) := by decide +kernel
theorem dX0_sortRow_12 : decode cX0_sortRow 12 = .ok (.iload_n 2, 1) := by decide +kernel
theorem dX0_sortRow_13 : decode cX0_sortRow 13 = .ok (.ifCond .le 34, 3) := by decide +kernel
theorem dX0_sortRow_16 : decode cX0_sortRow 16 = .ok (.aload_n 0, 1) := by decide +kernel
theorem dX0_sortRow_17 : decode cX0_sortRow 17 = .ok (.getfield 15, 3) := by decide +kernel
theorem dX0_sortRow_20 : decode cX0_sortRow 20 = .ok (.iload_n 2, 1) := by decide +kernel
theorem dX0_sortRow_21 : decode cX0_sortRow 21 = .ok (.iconst 1, 1) := by decide +kernel
theorem dX0_sortRow_22 : decode cX0_sortRow 22 = .ok (.isub, 1) := by decide +kernel
theorem dX0_sortRow_23 : decode cX0_sortRow 23 = .ok (.iaload, 1) := by decide +kernel
theorem dX0_sortRow_24 : decode cX0_sortRow 24 = .ok (.aload_n 0, 1) := by decide +kernel
theorem dX0_sortRow_25 : decode cX0_sortRow 25 = .ok (.getfield 15, 3) := by decide +kernel
theorem dX0_sortRow_28 : decode cX0_sortRow 28 = .ok (.iload_n 2, 1) := by decide +kernel
theorem dX0_sortRow_29 : decode cX0_sortRow 29 = .ok (.iaload, 1) := by decide +kernel
theorem dX0_sortRow_30 : decode cX0_sortRow 30 = .ok (.if_icmp .le 17, 3) := by decide +kernel
theorem dX0_sortRow_33 : decode cX0_sortRow 33 = .ok (.aload_n 0, 1) := by decide +kernel
theorem dX0_sortRow_34 : decode cX0_sortRow 34 = .ok (.iload_n 2, 1) := by decide +kernel
theorem dX0_sortRow_35 : decode cX0_sortRow 35 = .ok (.iconst 1, 1) := by decide +kernel
theorem dX0_sortRow_36 : decode cX0_sortRow 36 = .ok (.isub, 1) := by decide +kernel
theorem dX0_sortRow_37 : decode cX0_sortRow 37 = .ok (.iload_n 2, 1) := by decide +kernel
theorem dX0_sortRow_38 : decode cX0_sortRow 38 = .ok (.invokevirtual 51, 3) := by decide +kernel
theorem dX0_sortRow_41 : decode cX0_sortRow 41 = .ok (.iinc 2 (-1), 3) := by decide +kernel
theorem dX0_sortRow_44 : decode cX0_sortRow 44 = .ok (.goto (-32), 3) := by decide +kernel
theorem dX0_sortRow_47 : decode cX0_sortRow 47 = .ok (.iinc 1 1, 3) := by decide +kernel
theorem dX0_sortRow_50 : decode cX0_sortRow 50 = .ok (.goto (-48), 3) := by decide +kernel
theorem dX0_sortRow_53 : decode cX0_sortRow 53 = .ok (.return_, 1) := by decide +kernel
theorem dX0_toNextOrder_0 : decode cX0_toNextOrder 0 = .ok (.aload_n 0, 1) := by decide +kernel
theorem dX0_toNextOrder_1 : decode cX0_toNextOrder 1 = .ok (.getfield 9, 3) := by decide +kernel
theorem dX0_toNextOrder_4 : decode cX0_toNextOrder 4 = .ok (.iconst 2, 1) := by decide +kernel
theorem dX0_toNextOrder_5 : decode cX0_toNextOrder 5 = .ok (.isub, 1) := by decide +kernel
theorem dX0_toNextOrder_6 : decode cX0_toNextOrder 6 = .ok (.istore_n 1, 1) := by decide +kernel
theorem dX0_toNextOrder_7 : decode cX0_toNextOrder 7 = .ok (.iload_n 1, 1) := by decide +kernel
theorem dX0_toNextOrder_8 : decode cX0_toNextOrder 8 = .ok (.ifCond .lt 26, 3) := by decide +kernel
theorem dX0_toNextOrder_11 : decode cX0_toNextOrder 11 = .ok (.aload_n 0, 1) := by decide +kernel
theorem dX0_toNextOrder_12 : decode cX0_toNextOrder 12 = .ok (.getfield 15, 3) := by decide +kernel
theorem dX0_toNextOrder_15 : decode cX0_toNextOrder 15 = .ok (.iload_n 1, 1) := by decide +kernel
theorem dX0_toNextOrder_16 : decode cX0_toNextOrder 16 = .ok (.iaload, 1) := by decide +kernel
theorem dX0_toNextOrder_17 : decode cX0_toNextOrder 17 = .ok (.aload_n 0, 1) := by decide +kernel
theorem dX0_toNextOrder_18 : decode cX0_toNextOrder 18 = .ok (.getfield 15, 3) := by decide +kernel
theorem dX0_toNextOrder_21 : decode cX0_toNextOrder 21 = .ok (.iload_n 1, 1) := by decide +kernel
theorem dX0_toNextOrder_22 : decode cX0_toNextOrder 22 = .ok (.iconst 1, 1) := by decide +kernel
theorem dX0_toNextOrder_23 : decode cX0_toNextOrder 23 = .ok (.iadd, 1) := by decide +kernel
theorem dX0_toNextOrder_24 : decode cX0_toNextOrder 24 = .ok (.iaload, 1) := by decide +kernel
theorem dX0_toNextOrder_25 : decode cX0_toNextOrder 25 = .ok (.if_icmp .lt 9, 3) := by decide +kernel
theorem dX0_toNextOrder_28 : decode cX0_toNextOrder 28 = .ok (.iinc 1 (-1), 3) := by decide +kernel
theorem dX0_toNextOrder_31 : decode cX0_toNextOrder 31 = .ok (.goto (-24), 3) := by decide +kernel
theorem dX0_toNextOrder_34 : decode cX0_toNextOrder 34 = .ok (.iload_n 1, 1) := by decide +kernel
theorem dX0_toNextOrder_35 : decode cX0_toNextOrder 35 = .ok (.ifCond .ge 5, 3) := by decide +kernel
theorem dX0_toNextOrder_38 : decode cX0_toNextOrder 38 = .ok (.iconst 0, 1) := by decide +kernel
theorem dX0_toNextOrder_39 : decode cX0_toNextOrder 39 = .ok (.ireturn, 1) := by decide +kernel
theorem dX0_toNextOrder_40 : decode cX0_toNextOrder 40 = .ok (.aload_n 0, 1) := by decide +kernel
theorem dX0_toNextOrder_41 : decode cX0_toNextOrder 41 = .ok (.getfield 9, 3) := by decide +kernel
theorem dX0_toNextOrder_44 : decode cX0_toNextOrder 44 = .ok (.iconst 1, 1) := by decide +kernel
theorem dX0_toNextOrder_45 : decode cX0_toNextOrder 45 = .ok (.isub, 1) := by decide +kernel
theorem dX0_toNextOrder_46 : decode cX0_toNextOrder 46 = .ok (.istore_n 2, 1) := by decide +kernel
theorem dX0_toNextOrder_47 : decode cX0_toNextOrder 47 = .ok (.iload_n 2, 1) := by decide +kernel
theorem dX0_toNextOrder_48 : decode cX0_toNextOrder 48 = .ok (.iload_n 1, 1) := by decide +kernel
theorem dX0_toNextOrder_49 : decode cX0_toNextOrder 49 = .ok (.if_icmp .le 24, 3) := by decide +kernel
theorem dX0_toNextOrder_52 : decode cX0_toNextOrder 52 = .ok (.aload_n 0, 1) := by decide +kernel
theorem dX0_toNextOrder_53 : decode cX0_toNextOrder 53 = .ok (.getfield 15, 3) := by decide +kernel
theorem dX0_toNextOrder_56 : decode cX0_toNextOrder 56 = .ok (.iload_n 2, 1) := by decide +kernel
theorem dX0_toNextOrder_57 : decode cX0_toNextOrder 57 = .ok (.iaload, 1) := by decide +kernel
theorem dX0_toNextOrder_58 : decode cX0_toNextOrder 58 = .ok (.aload_n 0, 1) := by decide +kernel
theorem dX0_toNextOrder_59 : decode cX0_toNextOrder 59 = .ok (.getfield 15, 3) := by decide +kernel
theorem dX0_toNextOrder_62 : decode cX0_toNextOrder 62 = .ok (.iload_n 1, 1) := by decide +kernel
theorem dX0_toNextOrder_63 : decode cX0_toNextOrder 63 = .ok (.iaload, 1) := by decide +kernel
theorem dX0_toNextOrder_64 : decode cX0_toNextOrder 64 = .ok (.if_icmp .gt 9, 3) := by decide +kernel
theorem dX0_toNextOrder_67 : decode cX0_toNextOrder 67 = .ok (.iinc 2 (-1), 3) := by decide +kernel
theorem dX0_toNextOrder_70 : decode cX0_toNextOrder 70 = .ok (.goto (-23), 3) := by decide +kernel
theorem dX0_toNextOrder_73 : decode cX0_toNextOrder 73 = .ok (.aload_n 0, 1) := by decide +kernel
theorem dX0_toNextOrder_74 : decode cX0_toNextOrder 74 = .ok (.iload_n 1, 1) := by decide +kernel
theorem dX0_toNextOrder_75 : decode cX0_toNextOrder 75 = .ok (.iload_n 2, 1) := by decide +kernel
theorem dX0_toNextOrder_76 : decode cX0_toNextOrder 76 = .ok (.invokevirtual 51, 3) := by decide +kernel
theorem dX0_toNextOrder_79 : decode cX0_toNextOrder 79 = .ok (.iload_n 1, 1) := by decide +kernel
theorem dX0_toNextOrder_80 : decode cX0_toNextOrder 80 = .ok (.iconst 1, 1) := by decide +kernel
theorem dX0_toNextOrder_81 : decode cX0_toNextOrder 81 = .ok (.iadd, 1) := by decide +kernel
theorem dX0_toNextOrder_82 : decode cX0_toNextOrder 82 = .ok (.istore_n 3, 1) := by decide +kernel
theorem dX0_toNextOrder_83 : decode cX0_toNextOrder 83 = .ok (.aload_n 0, 1) := by decide +kernel
theorem dX0_toNextOrder_84 : decode cX0_toNextOrder 84 = .ok (.getfield 9, 3) := by decide +kernel
theorem dX0_toNextOrder_87 : decode cX0_toNextOrder 87 = .ok (.iconst 1, 1) := by decide +kernel
theorem dX0_toNextOrder_88 : decode cX0_toNextOrder 88 = .ok (.isub, 1) := by decide +kernel
theorem dX0_toNextOrder_89 : decode cX0_toNextOrder 89 = .ok (.istore 4, 2) := by decide +kernel
theorem dX0_toNextOrder_91 : decode cX0_toNextOrder 91 = .ok (.iload_n 3, 1) := by decide +kernel
theorem dX0_toNextOrder_92 : decode cX0_toNextOrder 92 = .ok (.iload 4, 2) := by decide +kernel
theorem dX0_toNextOrder_94 : decode cX0_toNextOrder 94 = .ok (.if_icmp .ge 19, 3) := by decide +kernel
theorem dX0_toNextOrder_97 : decode cX0_toNextOrder 97 = .ok (.aload_n 0, 1) := by decide +kernel
theorem dX0_toNextOrder_98 : decode cX0_toNextOrder 98 = .ok (.iload_n 3, 1) := by decide +kernel
theorem dX0_toNextOrder_99 : decode cX0_toNextOrder 99 = .ok (.iload 4, 2) := by decide +kernel
theorem dX0_toNextOrder_101 : decode cX0_toNextOrder 101 = .ok (.invokevirtual 51, 3) := by decide +kernel
theorem dX0_toNextOrder_104 : decode cX0_toNextOrder 104 = .ok (.iinc 3 1, 3) := by decide +kernel
theorem dX0_toNextOrder_107 : decode cX0_toNextOrder 107 = .ok (.iinc 4 (-1), 3) := by decide +kernel
theorem dX0_toNextOrder_110 : decode cX0_toNextOrder 110 = .ok (.goto (-19), 3) := by decide +kernel
theorem dX0_toNextOrder_113 : decode cX0_toNextOrder 113 = .ok (.iconst 1, 1) := by decide +kernel
theorem dX0_toNextOrder_114 : decode cX0_toNextOrder 114 = .ok (.ireturn, 1) := by decide +kernel
theorem dX0_exchange_0 : decode cX0_exchange 0 = .ok (.aload_n 0, 1) := by decide +kernel
theorem dX0_exchange_1 : decode cX0_exchange 1 = .ok (.getfield 15, 3) := by decide +kernel
theorem dX0_exchange_4 : decode cX0_exchange 4 = .ok (.iload_n 1, 1) := by decide +kernel
theorem dX0_exchange_5 : decode cX0_exchange 5 = .ok (.iaload, 1) := by decide +kernel
theorem dX0_exchange_6 : decode cX0_exchange 6 = .ok (.istore_n 3, 1) := by decide +kernel
theorem dX0_exchange_7 : decode cX0_exchange 7 = .ok (.aload_n 0, 1) := by decide +kernel
theorem dX0_exchange_8 : decode cX0_exchange 8 = .ok (.getfield 15, 3) := by decide +kernel
theorem dX0_exchange_11 : decode cX0_exchange 11 = .ok (.iload_n 1, 1) := by decide +kernel
theorem dX0_exchange_12 : decode cX0_exchange 12 = .ok (.aload_n 0, 1) := by decide +kernel
theorem dX0_exchange_13 : decode cX0_exchange 13 = .ok (.getfield 15, 3) := by decide +kernel
theorem dX0_exchange_16 : decode cX0_exchange 16 = .ok (.iload_n 2, 1) := by decide +kernel
theorem dX0_exchange_17 : decode cX0_exchange 17 = .ok (.iaload, 1) := by decide +kernel
theorem dX0_exchange_18 : decode cX0_exchange 18 = .ok (.iastore, 1) := by decide +kernel
theorem dX0_exchange_19 : decode cX0_exchange 19 = .ok (.aload_n 0, 1) := by decide +kernel
theorem dX0_exchange_20 : decode cX0_exchange 20 = .ok (.getfield 15, 3) := by decide +kernel
theorem dX0_exchange_23 : decode cX0_exchange 23 = .ok (.iload_n 2, 1) := by decide +kernel
theorem dX0_exchange_24 : decode cX0_exchange 24 = .ok (.iload_n 3, 1) := by decide +kernel
theorem dX0_exchange_25 : decode cX0_exchange 25 = .ok (.iastore, 1) := by decide +kernel
theorem dX0_exchange_26 : decode cX0_exchange 26 = .ok (.return_, 1) := by decide +kernel
theorem dX1_init_0 : decode cX1_init 0 = .ok (.aload_n 0, 1) := by decide +kernel
theorem dX1_init_1 : decode cX1_init 1 = .ok (.invokespecial 3, 3) := by decide +kernel
theorem dX1_init_4 : decode cX1_init 4 = .ok (.aload_n 0, 1) := by decide +kernel
theorem dX1_init_5 : decode cX1_init 5 = .ok (.iconst 0, 1) := by decide +kernel
theorem dX1_init_6 : decode cX1_init 6 = .ok (.putfield 9, 3) := by decide +kernel
theorem dX1_init_9 : decode cX1_init 9 = .ok (.aload_n 0, 1) := by decide +kernel
theorem dX1_init_10 : decode cX1_init 10 = .ok (.bipush 6, 2) := by decide +kernel
theorem dX1_init_12 : decode cX1_init 12 = .ok (.newarray .int, 2) := by decide +kernel
theorem dX1_init_14 : decode cX1_init 14 = .ok (.putfield 15, 3) := by decide +kernel
theorem dX1_init_17 : decode cX1_init 17 = .ok (.aload_n 0, 1) := by decide +kernel
theorem dX1_init_18 : decode cX1_init 18 = .ok (.bipush 6, 2) := by decide +kernel
theorem dX1_init_20 : decode cX1_init 20 = .ok (.newarray .int, 2) := by decide +kernel
theorem dX1_init_22 : decode cX1_init 22 = .ok (.putfield 19, 3) := by decide +kernel
theorem dX1_init_25 : decode cX1_init 25 = .ok (.return_, 1) := by decide +kernel
theorem dX1_count_0 : decode cX1_count 0 = .ok (.aload_n 0, 1) := by decide +kernel
theorem dX1_count_1 : decode cX1_count 1 = .ok (.getfield 9, 3) := by decide +kernel
theorem dX1_count_4 : decode cX1_count 4 = .ok (.ireturn, 1) := by decide +kernel
theorem dX1_has_0 : decode cX1_has 0 = .ok (.iload_n 1, 1) := by decide +kernel
theorem dX1_has_1 : decode cX1_has 1 = .ok (.ifCond .lt 21, 3) := by decide +kernel
theorem dX1_has_4 : decode cX1_has 4 = .ok (.iload_n 1, 1) := by decide +kernel
theorem dX1_has_5 : decode cX1_has 5 = .ok (.aload_n 0, 1) := by decide +kernel
theorem dX1_has_6 : decode cX1_has 6 = .ok (.getfield 9, 3) := by decide +kernel
theorem dX1_has_9 : decode cX1_has 9 = .ok (.if_icmp .ge 13, 3) := by decide +kernel
theorem dX1_has_12 : decode cX1_has 12 = .ok (.iload_n 1, 1) := by decide +kernel
theorem dX1_has_13 : decode cX1_has 13 = .ok (.bipush 6, 2) := by decide +kernel
theorem dX1_has_15 : decode cX1_has 15 = .ok (.if_icmp .ge 7, 3) := by decide +kernel
theorem dX1_has_18 : decode cX1_has 18 = .ok (.iconst 1, 1) := by decide +kernel
theorem dX1_has_19 : decode cX1_has 19 = .ok (.goto 4, 3) := by decide +kernel
theorem dX1_has_22 : decode cX1_has 22 = .ok (.iconst 0, 1) := by decide +kernel
theorem dX1_has_23 : decode cX1_has 23 = .ok (.ireturn, 1) := by decide +kernel
theorem dX1_kindOf_0 : decode cX1_kindOf 0 = .ok (.aload_n 0, 1) := by decide +kernel
theorem dX1_kindOf_1 : decode cX1_kindOf 1 = .ok (.iload_n 1, 1) := by decide +kernel
theorem dX1_kindOf_2 : decode cX1_kindOf 2 = .ok (.invokevirtual 22, 3) := by decide +kernel
theorem dX1_kindOf_5 : decode cX1_kindOf 5 = .ok (.ifCond .eq 12, 3) := by decide +kernel
theorem dX1_kindOf_8 : decode cX1_kindOf 8 = .ok (.aload_n 0, 1) := by decide +kernel
theorem dX1_kindOf_9 : decode cX1_kindOf 9 = .ok (.getfield 15, 3) := by decide +kernel
theorem dX1_kindOf_12 : decode cX1_kindOf 12 = .ok (.iload_n 1, 1) := by decide +kernel
theorem dX1_kindOf_13 : decode cX1_kindOf 13 = .ok (.iaload, 1) := by decide +kernel
theorem dX1_kindOf_14 : decode cX1_kindOf 14 = .ok (.goto 4, 3) := by decide +kernel
theorem dX1_kindOf_17 : decode cX1_kindOf 17 = .ok (.iconst 0, 1) := by decide +kernel
theorem dX1_kindOf_18 : decode cX1_kindOf 18 = .ok (.ireturn, 1) := by decide +kernel
theorem dX1_partOf_0 : decode cX1_partOf 0 = .ok (.aload_n 0, 1) := by decide +kernel
theorem dX1_partOf_1 : decode cX1_partOf 1 = .ok (.iload_n 1, 1) := by decide +kernel
theorem dX1_partOf_2 : decode cX1_partOf 2 = .ok (.invokevirtual 22, 3) := by decide +kernel
theorem dX1_partOf_5 : decode cX1_partOf 5 = .ok (.ifCond .eq 12, 3) := by decide +kernel
theorem dX1_partOf_8 : decode cX1_partOf 8 = .ok (.aload_n 0, 1) := by decide +kernel
theorem dX1_partOf_9 : decode cX1_partOf 9 = .ok (.getfield 19, 3) := by decide +kernel
theorem dX1_partOf_12 : decode cX1_partOf 12 = .ok (.iload_n 1, 1) := by decide +kernel
theorem dX1_partOf_13 : decode cX1_partOf 13 = .ok (.iaload, 1) := by decide +kernel
theorem dX1_partOf_14 : decode cX1_partOf 14 = .ok (.goto 4, 3) := by decide +kernel
theorem dX1_partOf_17 : decode cX1_partOf 17 = .ok (.iconst 1, 1) := by decide +kernel
theorem dX1_partOf_18 : decode cX1_partOf 18 = .ok (.ireturn, 1) := by decide +kernel
theorem dX1_clear_0 : decode cX1_clear 0 = .ok (.aload_n 0, 1) := by decide +kernel
theorem dX1_clear_1 : decode cX1_clear 1 = .ok (.iconst 0, 1) := by decide +kernel
theorem dX1_clear_2 : decode cX1_clear 2 = .ok (.putfield 9, 3) := by decide +kernel
theorem dX1_clear_5 : decode cX1_clear 5 = .ok (.return_, 1) := by decide +kernel
theorem dX1_add_0 : decode cX1_add 0 = .ok (.aload_n 0, 1) := by decide +kernel
theorem dX1_add_1 : decode cX1_add 1 = .ok (.getfield 9, 3) := by decide +kernel
theorem dX1_add_4 : decode cX1_add 4 = .ok (.bipush 6, 2) := by decide +kernel
theorem dX1_add_6 : decode cX1_add 6 = .ok (.if_icmp .lt 6, 3) := by decide +kernel
theorem dX1_add_9 : decode cX1_add 9 = .ok (.bipush (-4), 2) := by decide +kernel
theorem dX1_add_11 : decode cX1_add 11 = .ok (.ireturn, 1) := by decide +kernel
theorem dX1_add_12 : decode cX1_add 12 = .ok (.aload_n 0, 1) := by decide +kernel
theorem dX1_add_13 : decode cX1_add 13 = .ok (.getfield 15, 3) := by decide +kernel
theorem dX1_add_16 : decode cX1_add 16 = .ok (.aload_n 0, 1) := by decide +kernel
theorem dX1_add_17 : decode cX1_add 17 = .ok (.getfield 9, 3) := by decide +kernel
theorem dX1_add_20 : decode cX1_add 20 = .ok (.iload_n 1, 1) := by decide +kernel
theorem dX1_add_21 : decode cX1_add 21 = .ok (.iastore, 1) := by decide +kernel
theorem dX1_add_22 : decode cX1_add 22 = .ok (.aload_n 0, 1) := by decide +kernel
theorem dX1_add_23 : decode cX1_add 23 = .ok (.getfield 19, 3) := by decide +kernel
theorem dX1_add_26 : decode cX1_add 26 = .ok (.aload_n 0, 1) := by decide +kernel
theorem dX1_add_27 : decode cX1_add 27 = .ok (.getfield 9, 3) := by decide +kernel
theorem dX1_add_30 : decode cX1_add 30 = .ok (.iload_n 2, 1) := by decide +kernel
theorem dX1_add_31 : decode cX1_add 31 = .ok (.iastore, 1) := by decide +kernel
theorem dX1_add_32 : decode cX1_add 32 = .ok (.aload_n 0, 1) := by decide +kernel
theorem dX1_add_33 : decode cX1_add 33 = .ok (.dup, 1) := by decide +kernel
theorem dX1_add_34 : decode cX1_add 34 = .ok (.getfield 9, 3) := by decide +kernel
theorem dX1_add_37 : decode cX1_add 37 = .ok (.iconst 1, 1) := by decide +kernel
theorem dX1_add_38 : decode cX1_add 38 = .ok (.iadd, 1) := by decide +kernel
theorem dX1_add_39 : decode cX1_add 39 = .ok (.putfield 9, 3) := by decide +kernel
theorem dX1_add_42 : decode cX1_add 42 = .ok (.aload_n 0, 1) := by decide +kernel
theorem dX1_add_43 : decode cX1_add 43 = .ok (.getfield 9, 3) := by decide +kernel
theorem dX1_add_46 : decode cX1_add 46 = .ok (.iconst 1, 1) := by decide +kernel
theorem dX1_add_47 : decode cX1_add 47 = .ok (.isub, 1) := by decide +kernel
theorem dX1_add_48 : decode cX1_add 48 = .ok (.ireturn, 1) := by decide +kernel
theorem dX1_timesOf_0 : decode cX1_timesOf 0 = .ok (.aload_n 0, 1) := by decide +kernel
theorem dX1_timesOf_1 : decode cX1_timesOf 1 = .ok (.iload_n 1, 1) := by decide +kernel
theorem dX1_timesOf_2 : decode cX1_timesOf 2 = .ok (.invokevirtual 26, 3) := by decide +kernel
theorem dX1_timesOf_5 : decode cX1_timesOf 5 = .ok (.ifCond .ne 11, 3) := by decide +kernel
theorem dX1_timesOf_8 : decode cX1_timesOf 8 = .ok (.aload_n 0, 1) := by decide +kernel
theorem dX1_timesOf_9 : decode cX1_timesOf 9 = .ok (.iload_n 1, 1) := by decide +kernel
theorem dX1_timesOf_10 : decode cX1_timesOf 10 = .ok (.invokevirtual 30, 3) := by decide +kernel
theorem dX1_timesOf_13 : decode cX1_timesOf 13 = .ok (.goto 10, 3) := by decide +kernel
theorem dX1_timesOf_16 : decode cX1_timesOf 16 = .ok (.iconst 2, 1) := by decide +kernel
theorem dX1_timesOf_17 : decode cX1_timesOf 17 = .ok (.aload_n 0, 1) := by decide +kernel
theorem dX1_timesOf_18 : decode cX1_timesOf 18 = .ok (.iload_n 1, 1) := by decide +kernel
theorem dX1_timesOf_19 : decode cX1_timesOf 19 = .ok (.invokevirtual 30, 3) := by decide +kernel
theorem dX1_timesOf_22 : decode cX1_timesOf 22 = .ok (.imul, 1) := by decide +kernel
theorem dX1_timesOf_23 : decode cX1_timesOf 23 = .ok (.ireturn, 1) := by decide +kernel
theorem dX1_feelsHeavier_0 : decode cX1_feelsHeavier 0 = .ok (.iload_n 2, 1) := by decide +kernel
theorem dX1_feelsHeavier_1 : decode cX1_feelsHeavier 1 = .ok (.iload_n 3, 1) := by decide +kernel
theorem dX1_feelsHeavier_2 : decode cX1_feelsHeavier 2 = .ok (.if_icmp .gt 5, 3) := by decide +kernel
theorem dX1_feelsHeavier_5 : decode cX1_feelsHeavier 5 = .ok (.iconst 0, 1) := by decide +kernel
theorem dX1_feelsHeavier_6 : decode cX1_feelsHeavier 6 = .ok (.ireturn, 1) := by decide +kernel
theorem dX1_feelsHeavier_7 : decode cX1_feelsHeavier 7 = .ok (.iload_n 2, 1) := by decide +kernel
theorem dX1_feelsHeavier_8 : decode cX1_feelsHeavier 8 = .ok (.iload_n 3, 1) := by decide +kernel
theorem dX1_feelsHeavier_9 : decode cX1_feelsHeavier 9 = .ok (.isub, 1) := by decide +kernel
theorem dX1_feelsHeavier_10 : decode cX1_feelsHeavier 10 = .ok (.aload_n 0, 1) := by decide +kernel
theorem dX1_feelsHeavier_11 : decode cX1_feelsHeavier 11 = .ok (.iload_n 1, 1) := by decide +kernel
theorem dX1_feelsHeavier_12 : decode cX1_feelsHeavier 12 = .ok (.invokevirtual 33, 3) := by decide +kernel
theorem dX1_feelsHeavier_15 : decode cX1_feelsHeavier 15 = .ok (.imul, 1) := by decide +kernel
theorem dX1_feelsHeavier_16 : decode cX1_feelsHeavier 16 = .ok (.istore 4, 2) := by decide +kernel
theorem dX1_feelsHeavier_18 : decode cX1_feelsHeavier 18 = .ok (.iload 4, 2) := by decide +kernel
theorem dX1_feelsHeavier_20 : decode cX1_feelsHeavier 20 = .ok (.iload_n 3, 1) := by decide +kernel
theorem dX1_feelsHeavier_21 : decode cX1_feelsHeavier 21 = .ok (.if_icmp .gt 18, 3) := by decide +kernel
theorem dX1_feelsHeavier_24 : decode cX1_feelsHeavier 24 = .ok (.aload_n 0, 1) := by decide +kernel
theorem dX1_feelsHeavier_25 : decode cX1_feelsHeavier 25 = .ok (.iload_n 1, 1) := by decide +kernel
theorem dX1_feelsHeavier_26 : decode cX1_feelsHeavier 26 = .ok (.invokevirtual 26, 3) := by decide +kernel
theorem dX1_feelsHeavier_29 : decode cX1_feelsHeavier 29 = .ok (.iconst 2, 1) := by decide +kernel
theorem dX1_feelsHeavier_30 : decode cX1_feelsHeavier 30 = .ok (.if_icmp .ne 13, 3) := by decide +kernel
theorem dX1_feelsHeavier_33 : decode cX1_feelsHeavier 33 = .ok (.iload 4, 2) := by decide +kernel
theorem dX1_feelsHeavier_35 : decode cX1_feelsHeavier 35 = .ok (.iload_n 3, 1) := by decide +kernel
theorem dX1_feelsHeavier_36 : decode cX1_feelsHeavier 36 = .ok (.if_icmp .ne 7, 3) := by decide +kernel
theorem dX1_feelsHeavier_39 : decode cX1_feelsHeavier 39 = .ok (.iconst 1, 1) := by decide +kernel
theorem dX1_feelsHeavier_40 : decode cX1_feelsHeavier 40 = .ok (.goto 4, 3) := by decide +kernel
theorem dX1_feelsHeavier_43 : decode cX1_feelsHeavier 43 = .ok (.iconst 0, 1) := by decide +kernel
theorem dX1_feelsHeavier_44 : decode cX1_feelsHeavier 44 = .ok (.ireturn, 1) := by decide +kernel
theorem dX1_feelsAlike_0 : decode cX1_feelsAlike 0 = .ok (.aload_n 0, 1) := by decide +kernel
theorem dX1_feelsAlike_1 : decode cX1_feelsAlike 1 = .ok (.iload_n 1, 1) := by decide +kernel
theorem dX1_feelsAlike_2 : decode cX1_feelsAlike 2 = .ok (.iload_n 2, 1) := by decide +kernel
theorem dX1_feelsAlike_3 : decode cX1_feelsAlike 3 = .ok (.iload_n 3, 1) := by decide +kernel
theorem dX1_feelsAlike_4 : decode cX1_feelsAlike 4 = .ok (.invokevirtual 36, 3) := by decide +kernel
theorem dX1_feelsAlike_7 : decode cX1_feelsAlike 7 = .ok (.ifCond .ne 17, 3) := by decide +kernel
theorem dX1_feelsAlike_10 : decode cX1_feelsAlike 10 = .ok (.aload_n 0, 1) := by decide +kernel
theorem dX1_feelsAlike_11 : decode cX1_feelsAlike 11 = .ok (.iload_n 1, 1) := by decide +kernel
theorem dX1_feelsAlike_12 : decode cX1_feelsAlike 12 = .ok (.iload_n 3, 1) := by decide +kernel
theorem dX1_feelsAlike_13 : decode cX1_feelsAlike 13 = .ok (.iload_n 2, 1) := by decide +kernel
theorem dX1_feelsAlike_14 : decode cX1_feelsAlike 14 = .ok (.invokevirtual 36, 3) := by decide +kernel
theorem dX1_feelsAlike_17 : decode cX1_feelsAlike 17 = .ok (.ifCond .ne 7, 3) := by decide +kernel
theorem dX1_feelsAlike_20 : decode cX1_feelsAlike 20 = .ok (.iconst 1, 1) := by decide +kernel
theorem dX1_feelsAlike_21 : decode cX1_feelsAlike 21 = .ok (.goto 4, 3) := by decide +kernel
theorem dX1_feelsAlike_24 : decode cX1_feelsAlike 24 = .ok (.iconst 0, 1) := by decide +kernel
theorem dX1_feelsAlike_25 : decode cX1_feelsAlike 25 = .ok (.ireturn, 1) := by decide +kernel
theorem dX1_greatestUntold_0 : decode cX1_greatestUntold 0 = .ok (.aload_n 0, 1) := by decide +kernel
theorem dX1_greatestUntold_1 : decode cX1_greatestUntold 1 = .ok (.iload_n 1, 1) := by decide +kernel
theorem dX1_greatestUntold_2 : decode cX1_greatestUntold 2 = .ok (.invokevirtual 33, 3) := by decide +kernel
theorem dX1_greatestUntold_5 : decode cX1_greatestUntold 5 = .ok (.istore_n 3, 1) := by decide +kernel
theorem dX1_greatestUntold_6 : decode cX1_greatestUntold 6 = .ok (.iload_n 3, 1) := by decide +kernel
theorem dX1_greatestUntold_7 : decode cX1_greatestUntold 7 = .ok (.iconst 1, 1) := by decide +kernel
theorem dX1_greatestUntold_8 : decode cX1_greatestUntold 8 = .ok (.if_icmp .ge 5, 3) := by decide +kernel
theorem dX1_greatestUntold_11 : decode cX1_greatestUntold 11 = .ok (.iload_n 2, 1) := by decide +kernel
theorem dX1_greatestUntold_12 : decode cX1_greatestUntold 12 = .ok (.ireturn, 1) := by decide +kernel
theorem dX1_greatestUntold_13 : decode cX1_greatestUntold 13 = .ok (.iload_n 2, 1) := by decide +kernel
theorem dX1_greatestUntold_14 : decode cX1_greatestUntold 14 = .ok (.aload_n 0, 1) := by decide +kernel
theorem dX1_greatestUntold_15 : decode cX1_greatestUntold 15 = .ok (.iload_n 1, 1) := by decide +kernel
theorem dX1_greatestUntold_16 : decode cX1_greatestUntold 16 = .ok (.invokevirtual 26, 3) := by decide +kernel
theorem dX1_greatestUntold_19 : decode cX1_greatestUntold 19 = .ok (.iconst 2, 1) := by decide +kernel
theorem dX1_greatestUntold_20 : decode cX1_greatestUntold 20 = .ok (.if_icmp .ne 9, 3) := by decide +kernel
theorem dX1_greatestUntold_23 : decode cX1_greatestUntold 23 = .ok (.iload_n 2, 1) := by decide +kernel
theorem dX1_greatestUntold_24 : decode cX1_greatestUntold 24 = .ok (.iconst 1, 1) := by decide +kernel
theorem dX1_greatestUntold_25 : decode cX1_greatestUntold 25 = .ok (.isub, 1) := by decide +kernel
theorem dX1_greatestUntold_26 : decode cX1_greatestUntold 26 = .ok (.goto 4, 3) := by decide +kernel
theorem dX1_greatestUntold_29 : decode cX1_greatestUntold 29 = .ok (.iload_n 2, 1) := by decide +kernel
theorem dX1_greatestUntold_30 : decode cX1_greatestUntold 30 = .ok (.iload_n 3, 1) := by decide +kernel
theorem dX1_greatestUntold_31 : decode cX1_greatestUntold 31 = .ok (.idiv, 1) := by decide +kernel
theorem dX1_greatestUntold_32 : decode cX1_greatestUntold 32 = .ok (.iadd, 1) := by decide +kernel
theorem dX1_greatestUntold_33 : decode cX1_greatestUntold 33 = .ok (.ireturn, 1) := by decide +kernel
theorem dX1_leastUntold_0 : decode cX1_leastUntold 0 = .ok (.aload_n 0, 1) := by decide +kernel
theorem dX1_leastUntold_1 : decode cX1_leastUntold 1 = .ok (.iload_n 1, 1) := by decide +kernel
theorem dX1_leastUntold_2 : decode cX1_leastUntold 2 = .ok (.invokevirtual 33, 3) := by decide +kernel
theorem dX1_leastUntold_5 : decode cX1_leastUntold 5 = .ok (.istore_n 3, 1) := by decide +kernel
theorem dX1_leastUntold_6 : decode cX1_leastUntold 6 = .ok (.iload_n 3, 1) := by decide +kernel
theorem dX1_leastUntold_7 : decode cX1_leastUntold 7 = .ok (.iconst 1, 1) := by decide +kernel
theorem dX1_leastUntold_8 : decode cX1_leastUntold 8 = .ok (.if_icmp .ge 5, 3) := by decide +kernel
theorem dX1_leastUntold_11 : decode cX1_leastUntold 11 = .ok (.iload_n 2, 1) := by decide +kernel
theorem dX1_leastUntold_12 : decode cX1_leastUntold 12 = .ok (.ireturn, 1) := by decide +kernel
theorem dX1_leastUntold_13 : decode cX1_leastUntold 13 = .ok (.iload_n 2, 1) := by decide +kernel
theorem dX1_leastUntold_14 : decode cX1_leastUntold 14 = .ok (.iload_n 3, 1) := by decide +kernel
theorem dX1_leastUntold_15 : decode cX1_leastUntold 15 = .ok (.imul, 1) := by decide +kernel
theorem dX1_leastUntold_16 : decode cX1_leastUntold 16 = .ok (.istore 4, 2) := by decide +kernel
theorem dX1_leastUntold_18 : decode cX1_leastUntold 18 = .ok (.aload_n 0, 1) := by decide +kernel
theorem dX1_leastUntold_19 : decode cX1_leastUntold 19 = .ok (.iload_n 1, 1) := by decide +kernel
theorem dX1_leastUntold_20 : decode cX1_leastUntold 20 = .ok (.invokevirtual 26, 3) := by decide +kernel
theorem dX1_leastUntold_23 : decode cX1_leastUntold 23 = .ok (.iconst 2, 1) := by decide +kernel
theorem dX1_leastUntold_24 : decode cX1_leastUntold 24 = .ok (.if_icmp .ne 14, 3) := by decide +kernel
theorem dX1_leastUntold_27 : decode cX1_leastUntold 27 = .ok (.iload 4, 2) := by decide +kernel
theorem dX1_leastUntold_29 : decode cX1_leastUntold 29 = .ok (.iload_n 3, 1) := by decide +kernel
theorem dX1_leastUntold_30 : decode cX1_leastUntold 30 = .ok (.iconst 1, 1) := by decide +kernel
theorem dX1_leastUntold_31 : decode cX1_leastUntold 31 = .ok (.iadd, 1) := by decide +kernel
theorem dX1_leastUntold_32 : decode cX1_leastUntold 32 = .ok (.idiv, 1) := by decide +kernel
theorem dX1_leastUntold_33 : decode cX1_leastUntold 33 = .ok (.iconst 1, 1) := by decide +kernel
theorem dX1_leastUntold_34 : decode cX1_leastUntold 34 = .ok (.iadd, 1) := by decide +kernel
theorem dX1_leastUntold_35 : decode cX1_leastUntold 35 = .ok (.goto 11, 3) := by decide +kernel
theorem dX1_leastUntold_38 : decode cX1_leastUntold 38 = .ok (.iload 4, 2) := by decide +kernel
theorem dX1_leastUntold_40 : decode cX1_leastUntold 40 = .ok (.iload_n 3, 1) := by decide +kernel
theorem dX1_leastUntold_41 : decode cX1_leastUntold 41 = .ok (.iadd, 1) := by decide +kernel
theorem dX1_leastUntold_42 : decode cX1_leastUntold 42 = .ok (.iload_n 3, 1) := by decide +kernel
theorem dX1_leastUntold_43 : decode cX1_leastUntold 43 = .ok (.iconst 1, 1) := by decide +kernel
theorem dX1_leastUntold_44 : decode cX1_leastUntold 44 = .ok (.iadd, 1) := by decide +kernel
theorem dX1_leastUntold_45 : decode cX1_leastUntold 45 = .ok (.idiv, 1) := by decide +kernel
theorem dX1_leastUntold_46 : decode cX1_leastUntold 46 = .ok (.ireturn, 1) := by decide +kernel
theorem dX2_init_0 : decode cX2_init 0 = .ok (.aload_n 0, 1) := by decide +kernel
theorem dX2_init_1 : decode cX2_init 1 = .ok (.invokespecial 3, 3) := by decide +kernel
theorem dX2_init_4 : decode cX2_init 4 = .ok (.aload_n 0, 1) := by decide +kernel
theorem dX2_init_5 : decode cX2_init 5 = .ok (.iconst 0, 1) := by decide +kernel
theorem dX2_init_6 : decode cX2_init 6 = .ok (.putfield 9, 3) := by decide +kernel
theorem dX2_init_9 : decode cX2_init 9 = .ok (.aload_n 0, 1) := by decide +kernel
theorem dX2_init_10 : decode cX2_init 10 = .ok (.bipush 10, 2) := by decide +kernel
theorem dX2_init_12 : decode cX2_init 12 = .ok (.newarray .int, 2) := by decide +kernel
theorem dX2_init_14 : decode cX2_init 14 = .ok (.putfield 15, 3) := by decide +kernel
theorem dX2_init_17 : decode cX2_init 17 = .ok (.aload_n 0, 1) := by decide +kernel
theorem dX2_init_18 : decode cX2_init 18 = .ok (.bipush 10, 2) := by decide +kernel
theorem dX2_init_20 : decode cX2_init 20 = .ok (.newarray .int, 2) := by decide +kernel
theorem dX2_init_22 : decode cX2_init 22 = .ok (.putfield 19, 3) := by decide +kernel
theorem dX2_init_25 : decode cX2_init 25 = .ok (.aload_n 0, 1) := by decide +kernel
theorem dX2_init_26 : decode cX2_init 26 = .ok (.bipush 10, 2) := by decide +kernel
theorem dX2_init_28 : decode cX2_init 28 = .ok (.newarray .int, 2) := by decide +kernel
theorem dX2_init_30 : decode cX2_init 30 = .ok (.putfield 22, 3) := by decide +kernel
theorem dX2_init_33 : decode cX2_init 33 = .ok (.aload_n 0, 1) := by decide +kernel
theorem dX2_init_34 : decode cX2_init 34 = .ok (.bipush 10, 2) := by decide +kernel
theorem dX2_init_36 : decode cX2_init 36 = .ok (.newarray .int, 2) := by decide +kernel
theorem dX2_init_38 : decode cX2_init 38 = .ok (.putfield 25, 3) := by decide +kernel
theorem dX2_init_41 : decode cX2_init 41 = .ok (.return_, 1) := by decide +kernel
theorem dX2_count_0 : decode cX2_count 0 = .ok (.aload_n 0, 1) := by decide +kernel
theorem dX2_count_1 : decode cX2_count 1 = .ok (.getfield 9, 3) := by decide +kernel
theorem dX2_count_4 : decode cX2_count 4 = .ok (.ireturn, 1) := by decide +kernel
theorem dX2_has_0 : decode cX2_has 0 = .ok (.iload_n 1, 1) := by decide +kernel
theorem dX2_has_1 : decode cX2_has 1 = .ok (.ifCond .lt 21, 3) := by decide +kernel
theorem dX2_has_4 : decode cX2_has 4 = .ok (.iload_n 1, 1) := by decide +kernel
theorem dX2_has_5 : decode cX2_has 5 = .ok (.aload_n 0, 1) := by decide +kernel
theorem dX2_has_6 : decode cX2_has 6 = .ok (.getfield 9, 3) := by decide +kernel
theorem dX2_has_9 : decode cX2_has 9 = .ok (.if_icmp .ge 13, 3) := by decide +kernel
theorem dX2_has_12 : decode cX2_has 12 = .ok (.iload_n 1, 1) := by decide +kernel
theorem dX2_has_13 : decode cX2_has 13 = .ok (.bipush 10, 2) := by decide +kernel
theorem dX2_has_15 : decode cX2_has 15 = .ok (.if_icmp .ge 7, 3) := by decide +kernel
theorem dX2_has_18 : decode cX2_has 18 = .ok (.iconst 1, 1) := by decide +kernel
theorem dX2_has_19 : decode cX2_has 19 = .ok (.goto 4, 3) := by decide +kernel
theorem dX2_has_22 : decode cX2_has 22 = .ok (.iconst 0, 1) := by decide +kernel
theorem dX2_has_23 : decode cX2_has 23 = .ok (.ireturn, 1) := by decide +kernel
theorem dX2_firstOf_0 : decode cX2_firstOf 0 = .ok (.aload_n 0, 1) := by decide +kernel
theorem dX2_firstOf_1 : decode cX2_firstOf 1 = .ok (.iload_n 1, 1) := by decide +kernel
theorem dX2_firstOf_2 : decode cX2_firstOf 2 = .ok (.invokevirtual 28, 3) := by decide +kernel
theorem dX2_firstOf_5 : decode cX2_firstOf 5 = .ok (.ifCond .eq 12, 3) := by decide +kernel
theorem dX2_firstOf_8 : decode cX2_firstOf 8 = .ok (.aload_n 0, 1) := by decide +kernel
theorem dX2_firstOf_9 : decode cX2_firstOf 9 = .ok (.getfield 19, 3) := by decide +kernel
theorem dX2_firstOf_12 : decode cX2_firstOf 12 = .ok (.iload_n 1, 1) := by decide +kernel
theorem dX2_firstOf_13 : decode cX2_firstOf 13 = .ok (.iaload, 1) := by decide +kernel
theorem dX2_firstOf_14 : decode cX2_firstOf 14 = .ok (.goto 4, 3) := by decide +kernel
theorem dX2_firstOf_17 : decode cX2_firstOf 17 = .ok (.iconst (-1), 1) := by decide +kernel
theorem dX2_firstOf_18 : decode cX2_firstOf 18 = .ok (.ireturn, 1) := by decide +kernel
theorem dX2_secondOf_0 : decode cX2_secondOf 0 = .ok (.aload_n 0, 1) := by decide +kernel
theorem dX2_secondOf_1 : decode cX2_secondOf 1 = .ok (.iload_n 1, 1) := by decide +kernel
theorem dX2_secondOf_2 : decode cX2_secondOf 2 = .ok (.invokevirtual 28, 3) := by decide +kernel
theorem dX2_secondOf_5 : decode cX2_secondOf 5 = .ok (.ifCond .eq 12, 3) := by decide +kernel
theorem dX2_secondOf_8 : decode cX2_secondOf 8 = .ok (.aload_n 0, 1) := by decide +kernel
theorem dX2_secondOf_9 : decode cX2_secondOf 9 = .ok (.getfield 22, 3) := by decide +kernel
theorem dX2_secondOf_12 : decode cX2_secondOf 12 = .ok (.iload_n 1, 1) := by decide +kernel
theorem dX2_secondOf_13 : decode cX2_secondOf 13 = .ok (.iaload, 1) := by decide +kernel
theorem dX2_secondOf_14 : decode cX2_secondOf 14 = .ok (.goto 4, 3) := by decide +kernel
theorem dX2_secondOf_17 : decode cX2_secondOf 17 = .ok (.iconst (-1), 1) := by decide +kernel
theorem dX2_secondOf_18 : decode cX2_secondOf 18 = .ok (.ireturn, 1) := by decide +kernel
theorem dX2_clear_0 : decode cX2_clear 0 = .ok (.aload_n 0, 1) := by decide +kernel
theorem dX2_clear_1 : decode cX2_clear 1 = .ok (.iconst 0, 1) := by decide +kernel
theorem dX2_clear_2 : decode cX2_clear 2 = .ok (.putfield 9, 3) := by decide +kernel
theorem dX2_clear_5 : decode cX2_clear 5 = .ok (.return_, 1) := by decide +kernel
theorem dX2_add_0 : decode cX2_add 0 = .ok (.aload_n 0, 1) := by decide +kernel
theorem dX2_add_1 : decode cX2_add 1 = .ok (.getfield 9, 3) := by decide +kernel
theorem dX2_add_4 : decode cX2_add 4 = .ok (.bipush 10, 2) := by decide +kernel
theorem dX2_add_6 : decode cX2_add 6 = .ok (.if_icmp .lt 6, 3) := by decide +kernel
theorem dX2_add_9 : decode cX2_add 9 = .ok (.bipush (-4), 2) := by decide +kernel
theorem dX2_add_11 : decode cX2_add 11 = .ok (.ireturn, 1) := by decide +kernel
theorem dX2_add_12 : decode cX2_add 12 = .ok (.aload_n 0, 1) := by decide +kernel
theorem dX2_add_13 : decode cX2_add 13 = .ok (.getfield 15, 3) := by decide +kernel
theorem dX2_add_16 : decode cX2_add 16 = .ok (.aload_n 0, 1) := by decide +kernel
theorem dX2_add_17 : decode cX2_add 17 = .ok (.getfield 9, 3) := by decide +kernel
theorem dX2_add_20 : decode cX2_add 20 = .ok (.iload_n 1, 1) := by decide +kernel
theorem dX2_add_21 : decode cX2_add 21 = .ok (.iastore, 1) := by decide +kernel
theorem dX2_add_22 : decode cX2_add 22 = .ok (.aload_n 0, 1) := by decide +kernel
theorem dX2_add_23 : decode cX2_add 23 = .ok (.getfield 19, 3) := by decide +kernel
theorem dX2_add_26 : decode cX2_add 26 = .ok (.aload_n 0, 1) := by decide +kernel
theorem dX2_add_27 : decode cX2_add 27 = .ok (.getfield 9, 3) := by decide +kernel
theorem dX2_add_30 : decode cX2_add 30 = .ok (.iload_n 2, 1) := by decide +kernel
theorem dX2_add_31 : decode cX2_add 31 = .ok (.iastore, 1) := by decide +kernel
theorem dX2_add_32 : decode cX2_add 32 = .ok (.aload_n 0, 1) := by decide +kernel
theorem dX2_add_33 : decode cX2_add 33 = .ok (.getfield 22, 3) := by decide +kernel
theorem dX2_add_36 : decode cX2_add 36 = .ok (.aload_n 0, 1) := by decide +kernel
theorem dX2_add_37 : decode cX2_add 37 = .ok (.getfield 9, 3) := by decide +kernel
theorem dX2_add_40 : decode cX2_add 40 = .ok (.iload_n 3, 1) := by decide +kernel
theorem dX2_add_41 : decode cX2_add 41 = .ok (.iastore, 1) := by decide +kernel
theorem dX2_add_42 : decode cX2_add 42 = .ok (.aload_n 0, 1) := by decide +kernel
theorem dX2_add_43 : decode cX2_add 43 = .ok (.getfield 25, 3) := by decide +kernel
theorem dX2_add_46 : decode cX2_add 46 = .ok (.aload_n 0, 1) := by decide +kernel
theorem dX2_add_47 : decode cX2_add 47 = .ok (.getfield 9, 3) := by decide +kernel
theorem dX2_add_50 : decode cX2_add 50 = .ok (.iload 4, 2) := by decide +kernel
theorem dX2_add_52 : decode cX2_add 52 = .ok (.iastore, 1) := by decide +kernel
theorem dX2_add_53 : decode cX2_add 53 = .ok (.aload_n 0, 1) := by decide +kernel
theorem dX2_add_54 : decode cX2_add 54 = .ok (.dup, 1) := by decide +kernel
theorem dX2_add_55 : decode cX2_add 55 = .ok (.getfield 9, 3) := by decide +kernel
theorem dX2_add_58 : decode cX2_add 58 = .ok (.iconst 1, 1) := by decide +kernel
theorem dX2_add_59 : decode cX2_add 59 = .ok (.iadd, 1) := by decide +kernel
theorem dX2_add_60 : decode cX2_add 60 = .ok (.putfield 9, 3) := by decide +kernel
theorem dX2_add_63 : decode cX2_add 63 = .ok (.aload_n 0, 1) := by decide +kernel
theorem dX2_add_64 : decode cX2_add 64 = .ok (.getfield 9, 3) := by decide +kernel
theorem dX2_add_67 : decode cX2_add 67 = .ok (.iconst 1, 1) := by decide +kernel
theorem dX2_add_68 : decode cX2_add 68 = .ok (.isub, 1) := by decide +kernel
theorem dX2_add_69 : decode cX2_add 69 = .ok (.ireturn, 1) := by decide +kernel
theorem dX2_takeBack_0 : decode cX2_takeBack 0 = .ok (.aload_n 0, 1) := by decide +kernel
theorem dX2_takeBack_1 : decode cX2_takeBack 1 = .ok (.iconst 0, 1) := by decide +kernel
theorem dX2_takeBack_2 : decode cX2_takeBack 2 = .ok (.aload_n 0, 1) := by decide +kernel
theorem dX2_takeBack_3 : decode cX2_takeBack 3 = .ok (.getfield 9, 3) := by decide +kernel
theorem dX2_takeBack_6 : decode cX2_takeBack 6 = .ok (.iload_n 1, 1) := by decide +kernel
theorem dX2_takeBack_7 : decode cX2_takeBack 7 = .ok (.isub, 1) := by decide +kernel
theorem dX2_takeBack_8 : decode cX2_takeBack 8 = .ok (.invokestatic 32, 3) := by decide +kernel
theorem dX2_takeBack_11 : decode cX2_takeBack 11 = .ok (.putfield 9, 3) := by decide +kernel
theorem dX2_takeBack_14 : decode cX2_takeBack 14 = .ok (.aload_n 0, 1) := by decide +kernel
theorem dX2_takeBack_15 : decode cX2_takeBack 15 = .ok (.getfield 9, 3) := by decide +kernel
theorem dX2_takeBack_18 : decode cX2_takeBack 18 = .ok (.ireturn, 1) := by decide +kernel
theorem dX2_isFalse_0 : decode cX2_isFalse 0 = .ok (.aload_n 0, 1) := by decide +kernel
theorem dX2_isFalse_1 : decode cX2_isFalse 1 = .ok (.iload_n 1, 1) := by decide +kernel
theorem dX2_isFalse_2 : decode cX2_isFalse 2 = .ok (.invokevirtual 28, 3) := by decide +kernel
theorem dX2_isFalse_5 : decode cX2_isFalse 5 = .ok (.ifCond .ne 5, 3) := by decide +kernel
theorem dX2_isFalse_8 : decode cX2_isFalse 8 = .ok (.iconst 0, 1) := by decide +kernel
theorem dX2_isFalse_9 : decode cX2_isFalse 9 = .ok (.ireturn, 1) := by decide +kernel
theorem dX2_isFalse_10 : decode cX2_isFalse 10 = .ok (.aload_n 0, 1) := by decide +kernel
theorem dX2_isFalse_11 : decode cX2_isFalse 11 = .ok (.getfield 25, 3) := by decide +kernel
theorem dX2_isFalse_14 : decode cX2_isFalse 14 = .ok (.iload_n 1, 1) := by decide +kernel
theorem dX2_isFalse_15 : decode cX2_isFalse 15 = .ok (.iaload, 1) := by decide +kernel
theorem dX2_isFalse_16 : decode cX2_isFalse 16 = .ok (.iconst 1, 1) := by decide +kernel
theorem dX2_isFalse_17 : decode cX2_isFalse 17 = .ok (.if_icmp .ne 25, 3) := by decide +kernel
theorem dX2_isFalse_20 : decode cX2_isFalse 20 = .ok (.aload_n 2, 1) := by decide +kernel
theorem dX2_isFalse_21 : decode cX2_isFalse 21 = .ok (.aload_n 0, 1) := by decide +kernel
theorem dX2_isFalse_22 : decode cX2_isFalse 22 = .ok (.getfield 15, 3) := by decide +kernel
theorem dX2_isFalse_25 : decode cX2_isFalse 25 = .ok (.iload_n 1, 1) := by decide +kernel
theorem dX2_isFalse_26 : decode cX2_isFalse 26 = .ok (.iaload, 1) := by decide +kernel
theorem dX2_isFalse_27 : decode cX2_isFalse 27 = .ok (.iload_n 3, 1) := by decide +kernel
theorem dX2_isFalse_28 : decode cX2_isFalse 28 = .ok (.iload 4, 2) := by decide +kernel
theorem dX2_isFalse_30 : decode cX2_isFalse 30 = .ok (.invokevirtual 38, 3) := by decide +kernel
theorem dX2_isFalse_33 : decode cX2_isFalse 33 = .ok (.ifCond .ne 7, 3) := by decide +kernel
theorem dX2_isFalse_36 : decode cX2_isFalse 36 = .ok (.iconst 1, 1) := by decide +kernel
theorem dX2_isFalse_37 : decode cX2_isFalse 37 = .ok (.goto 4, 3) := by decide +kernel
theorem dX2_isFalse_40 : decode cX2_isFalse 40 = .ok (.iconst 0, 1) := by decide +kernel
theorem dX2_isFalse_41 : decode cX2_isFalse 41 = .ok (.ireturn, 1) := by decide +kernel
theorem dX2_isFalse_42 : decode cX2_isFalse 42 = .ok (.aload_n 2, 1) := by decide +kernel
theorem dX2_isFalse_43 : decode cX2_isFalse 43 = .ok (.aload_n 0, 1) := by decide +kernel
theorem dX2_isFalse_44 : decode cX2_isFalse 44 = .ok (.getfield 15, 3) := by decide +kernel
theorem dX2_isFalse_47 : decode cX2_isFalse 47 = .ok (.iload_n 1, 1) := by decide +kernel
theorem dX2_isFalse_48 : decode cX2_isFalse 48 = .ok (.iaload, 1) := by decide +kernel
theorem dX2_isFalse_49 : decode cX2_isFalse 49 = .ok (.iload_n 3, 1) := by decide +kernel
theorem dX2_isFalse_50 : decode cX2_isFalse 50 = .ok (.iload 4, 2) := by decide +kernel
theorem dX2_isFalse_52 : decode cX2_isFalse 52 = .ok (.invokevirtual 44, 3) := by decide +kernel
theorem dX2_isFalse_55 : decode cX2_isFalse 55 = .ok (.ifCond .ne 7, 3) := by decide +kernel
theorem dX2_isFalse_58 : decode cX2_isFalse 58 = .ok (.iconst 1, 1) := by decide +kernel
theorem dX2_isFalse_59 : decode cX2_isFalse 59 = .ok (.goto 4, 3) := by decide +kernel
theorem dX2_isFalse_62 : decode cX2_isFalse 62 = .ok (.iconst 0, 1) := by decide +kernel
theorem dX2_isFalse_63 : decode cX2_isFalse 63 = .ok (.ireturn, 1) := by decide +kernel
theorem dX3_init_0 : decode cX3_init 0 = .ok (.aload_n 0, 1) := by decide +kernel
theorem dX3_init_1 : decode cX3_init 1 = .ok (.invokespecial 3, 3) := by decide +kernel
theorem dX3_init_4 : decode cX3_init 4 = .ok (.aload_n 0, 1) := by decide +kernel
theorem dX3_init_5 : decode cX3_init 5 = .ok (.iconst 4, 1) := by decide +kernel
theorem dX3_init_6 : decode cX3_init 6 = .ok (.newarray .boolean, 2) := by decide +kernel
theorem dX3_init_8 : decode cX3_init 8 = .ok (.putfield 9, 3) := by decide +kernel
theorem dX3_init_11 : decode cX3_init 11 = .ok (.aload_n 0, 1) := by decide +kernel
theorem dX3_init_12 : decode cX3_init 12 = .ok (.iconst 4, 1) := by decide +kernel
theorem dX3_init_13 : decode cX3_init 13 = .ok (.newarray .int, 2) := by decide +kernel
theorem dX3_init_15 : decode cX3_init 15 = .ok (.putfield 15, 3) := by decide +kernel
theorem dX3_init_18 : decode cX3_init 18 = .ok (.aload_n 0, 1) := by decide +kernel
theorem dX3_init_19 : decode cX3_init 19 = .ok (.iconst 4, 1) := by decide +kernel
theorem dX3_init_20 : decode cX3_init 20 = .ok (.newarray .int, 2) := by decide +kernel
theorem dX3_init_22 : decode cX3_init 22 = .ok (.putfield 19, 3) := by decide +kernel
theorem dX3_init_25 : decode cX3_init 25 = .ok (.aload_n 0, 1) := by decide +kernel
theorem dX3_init_26 : decode cX3_init 26 = .ok (.iconst 4, 1) := by decide +kernel
theorem dX3_init_27 : decode cX3_init 27 = .ok (.bipush 40, 2) := by decide +kernel
theorem dX3_init_29 : decode cX3_init 29 = .ok (.multianewarray 22 2, 4) := by decide +kernel
theorem dX3_init_33 : decode cX3_init 33 = .ok (.putfield 24, 3) := by decide +kernel
theorem dX3_init_36 : decode cX3_init 36 = .ok (.return_, 1) := by decide +kernel
theorem dX3_has_0 : decode cX3_has 0 = .ok (.iload_n 1, 1) := by decide +kernel
theorem dX3_has_1 : decode cX3_has 1 = .ok (.ifCond .lt 12, 3) := by decide +kernel
theorem dX3_has_4 : decode cX3_has 4 = .ok (.iload_n 1, 1) := by decide +kernel
theorem dX3_has_5 : decode cX3_has 5 = .ok (.iconst 4, 1) := by decide +kernel
theorem dX3_has_6 : decode cX3_has 6 = .ok (.if_icmp .ge 7, 3) := by decide +kernel
theorem dX3_has_9 : decode cX3_has 9 = .ok (.iconst 1, 1) := by decide +kernel
theorem dX3_has_10 : decode cX3_has 10 = .ok (.goto 4, 3) := by decide +kernel
theorem dX3_has_13 : decode cX3_has 13 = .ok (.iconst 0, 1) := by decide +kernel
theorem dX3_has_14 : decode cX3_has 14 = .ok (.ireturn, 1) := by decide +kernel
theorem dX3_hasRow_0 : decode cX3_hasRow 0 = .ok (.aload_n 0, 1) := by decide +kernel
theorem dX3_hasRow_1 : decode cX3_hasRow 1 = .ok (.iload_n 1, 1) := by decide +kernel
theorem dX3_hasRow_2 : decode cX3_hasRow 2 = .ok (.invokevirtual 27, 3) := by decide +kernel
theorem dX3_hasRow_5 : decode cX3_hasRow 5 = .ok (.ifCond .eq 16, 3) := by decide +kernel
theorem dX3_hasRow_8 : decode cX3_hasRow 8 = .ok (.aload_n 0, 1) := by decide +kernel
theorem dX3_hasRow_9 : decode cX3_hasRow 9 = .ok (.getfield 9, 3) := by decide +kernel
theorem dX3_hasRow_12 : decode cX3_hasRow 12 = .ok (.iload_n 1, 1) := by decide +kernel
theorem dX3_hasRow_13 : decode cX3_hasRow 13 = .ok (.baload, 1) := by decide +kernel
theorem dX3_hasRow_14 : decode cX3_hasRow 14 = .ok (.ifCond .eq 7, 3) := by decide +kernel
theorem dX3_hasRow_17 : decode cX3_hasRow 17 = .ok (.iconst 1, 1) := by decide +kernel
theorem dX3_hasRow_18 : decode cX3_hasRow 18 = .ok (.goto 4, 3) := by decide +kernel
theorem dX3_hasRow_21 : decode cX3_hasRow 21 = .ok (.iconst 0, 1) := by decide +kernel
theorem dX3_hasRow_22 : decode cX3_hasRow 22 = .ok (.ireturn, 1) := by decide +kernel
theorem dX3_sortOf_0 : decode cX3_sortOf 0 = .ok (.aload_n 0, 1) := by decide +kernel
theorem dX3_sortOf_1 : decode cX3_sortOf 1 = .ok (.iload_n 1, 1) := by decide +kernel
theorem dX3_sortOf_2 : decode cX3_sortOf 2 = .ok (.invokevirtual 27, 3) := by decide +kernel
theorem dX3_sortOf_5 : decode cX3_sortOf 5 = .ok (.ifCond .eq 12, 3) := by decide +kernel
theorem dX3_sortOf_8 : decode cX3_sortOf 8 = .ok (.aload_n 0, 1) := by decide +kernel
theorem dX3_sortOf_9 : decode cX3_sortOf 9 = .ok (.getfield 15, 3) := by decide +kernel
theorem dX3_sortOf_12 : decode cX3_sortOf 12 = .ok (.iload_n 1, 1) := by decide +kernel
theorem dX3_sortOf_13 : decode cX3_sortOf 13 = .ok (.iaload, 1) := by decide +kernel
theorem dX3_sortOf_14 : decode cX3_sortOf 14 = .ok (.goto 4, 3) := by decide +kernel
theorem dX3_sortOf_17 : decode cX3_sortOf 17 = .ok (.iconst (-1), 1) := by decide +kernel
theorem dX3_sortOf_18 : decode cX3_sortOf 18 = .ok (.ireturn, 1) := by decide +kernel
theorem dX3_hasCells_0 : decode cX3_hasCells 0 = .ok (.aload_n 0, 1) := by decide +kernel
theorem dX3_hasCells_1 : decode cX3_hasCells 1 = .ok (.iload_n 1, 1) := by decide +kernel
theorem dX3_hasCells_2 : decode cX3_hasCells 2 = .ok (.invokevirtual 31, 3) := by decide +kernel
theorem dX3_hasCells_5 : decode cX3_hasCells 5 = .ok (.ifCond .eq 37, 3) := by decide +kernel
theorem dX3_hasCells_8 : decode cX3_hasCells 8 = .ok (.iload_n 2, 1) := by decide +kernel
theorem dX3_hasCells_9 : decode cX3_hasCells 9 = .ok (.ifCond .lt 33, 3) := by decide +kernel
theorem dX3_hasCells_12 : decode cX3_hasCells 12 = .ok (.iload_n 3, 1) := by decide +kernel
theorem dX3_hasCells_13 : decode cX3_hasCells 13 = .ok (.ifCond .lt 29, 3) := by decide +kernel
theorem dX3_hasCells_16 : decode cX3_hasCells 16 = .ok (.iload_n 2, 1) := by decide +kernel
theorem dX3_hasCells_17 : decode cX3_hasCells 17 = .ok (.aload_n 0, 1) := by decide +kernel
theorem dX3_hasCells_18 : decode cX3_hasCells 18 = .ok (.getfield 19, 3) := by decide +kernel
theorem dX3_hasCells_21 : decode cX3_hasCells 21 = .ok (.iload_n 1, 1) := by decide +kernel
theorem dX3_hasCells_22 : decode cX3_hasCells 22 = .ok (.iaload, 1) := by decide +kernel
theorem dX3_hasCells_23 : decode cX3_hasCells 23 = .ok (.if_icmp .gt 19, 3) := by decide +kernel
theorem dX3_hasCells_26 : decode cX3_hasCells 26 = .ok (.iload_n 3, 1) := by decide +kernel
theorem dX3_hasCells_27 : decode cX3_hasCells 27 = .ok (.aload_n 0, 1) := by decide +kernel
theorem dX3_hasCells_28 : decode cX3_hasCells 28 = .ok (.getfield 19, 3) := by decide +kernel
theorem dX3_hasCells_31 : decode cX3_hasCells 31 = .ok (.iload_n 1, 1) := by decide +kernel
theorem dX3_hasCells_32 : decode cX3_hasCells 32 = .ok (.iaload, 1) := by decide +kernel
theorem dX3_hasCells_33 : decode cX3_hasCells 33 = .ok (.iload_n 2, 1) := by decide +kernel
theorem dX3_hasCells_34 : decode cX3_hasCells 34 = .ok (.isub, 1) := by decide +kernel
theorem dX3_hasCells_35 : decode cX3_hasCells 35 = .ok (.if_icmp .gt 7, 3) := by decide +kernel
theorem dX3_hasCells_38 : decode cX3_hasCells 38 = .ok (.iconst 1, 1) := by decide +kernel
theorem dX3_hasCells_39 : decode cX3_hasCells 39 = .ok (.goto 4, 3) := by decide +kernel
theorem dX3_hasCells_42 : decode cX3_hasCells 42 = .ok (.iconst 0, 1) := by decide +kernel
theorem dX3_hasCells_43 : decode cX3_hasCells 43 = .ok (.ireturn, 1) := by decide +kernel
theorem dX3_faultOfTaking_0 : decode cX3_faultOfTaking 0 = .ok (.aload_n 0, 1) := by decide +kernel
theorem dX3_faultOfTaking_1 : decode cX3_faultOfTaking 1 = .ok (.iload_n 1, 1) := by decide +kernel
theorem dX3_faultOfTaking_2 : decode cX3_faultOfTaking 2 = .ok (.invokevirtual 31, 3) := by decide +kernel
theorem dX3_faultOfTaking_5 : decode cX3_faultOfTaking 5 = .ok (.ifCond .ne 5, 3) := by decide +kernel
theorem dX3_faultOfTaking_8 : decode cX3_faultOfTaking 8 = .ok (.iconst 1, 1) := by decide +kernel
theorem dX3_faultOfTaking_9 : decode cX3_faultOfTaking 9 = .ok (.ireturn, 1) := by decide +kernel
theorem dX3_faultOfTaking_10 : decode cX3_faultOfTaking 10 = .ok (.aload_n 0, 1) := by decide +kernel
theorem dX3_faultOfTaking_11 : decode cX3_faultOfTaking 11 = .ok (.iload_n 1, 1) := by decide +kernel
theorem dX3_faultOfTaking_12 : decode cX3_faultOfTaking 12 = .ok (.invokevirtual 34, 3) := by decide +kernel
theorem dX3_faultOfTaking_15 : decode cX3_faultOfTaking 15 = .ok (.iload_n 2, 1) := by decide +kernel
theorem dX3_faultOfTaking_16 : decode cX3_faultOfTaking 16 = .ok (.if_icmp .eq 5, 3) := by decide +kernel
theorem dX3_faultOfTaking_19 : decode cX3_faultOfTaking 19 = .ok (.iconst 2, 1) := by decide +kernel
theorem dX3_faultOfTaking_20 : decode cX3_faultOfTaking 20 = .ok (.ireturn, 1) := by decide +kernel
theorem dX3_faultOfTaking_21 : decode cX3_faultOfTaking 21 = .ok (.iload 4, 2) := by decide +kernel
theorem dX3_faultOfTaking_23 : decode cX3_faultOfTaking 23 = .ok (.ifCond .ge 5, 3) := by decide +kernel
theorem dX3_faultOfTaking_26 : decode cX3_faultOfTaking 26 = .ok (.iconst 4, 1) := by decide +kernel
theorem dX3_faultOfTaking_27 : decode cX3_faultOfTaking 27 = .ok (.ireturn, 1) := by decide +kernel
theorem dX3_faultOfTaking_28 : decode cX3_faultOfTaking 28 = .ok (.aload_n 0, 1) := by decide +kernel
theorem dX3_faultOfTaking_29 : decode cX3_faultOfTaking 29 = .ok (.iload_n 1, 1) := by decide +kernel
theorem dX3_faultOfTaking_30 : decode cX3_faultOfTaking 30 = .ok (.iload_n 3, 1) := by decide +kernel
theorem dX3_faultOfTaking_31 : decode cX3_faultOfTaking 31 = .ok (.iload 4, 2) := by decide +kernel
theorem dX3_faultOfTaking_33 : decode cX3_faultOfTaking 33 = .ok (.invokevirtual 38, 3) := by decide +kernel
theorem dX3_faultOfTaking_36 : decode cX3_faultOfTaking 36 = .ok (.ifCond .eq 7, 3) := by decide +kernel
theorem dX3_faultOfTaking_39 : decode cX3_faultOfTaking 39 = .ok (.iconst 0, 1) := by decide +kernel
theorem dX3_faultOfTaking_40 : decode cX3_faultOfTaking 40 = .ok (.goto 4, 3) := by decide +kernel
theorem dX3_faultOfTaking_43 : decode cX3_faultOfTaking 43 = .ok (.iconst 3, 1) := by decide +kernel
theorem dX3_faultOfTaking_44 : decode cX3_faultOfTaking 44 = .ok (.ireturn, 1) := by decide +kernel
theorem dX3_renew_0 : decode cX3_renew 0 = .ok (.aload_n 0, 1) := by decide +kernel
theorem dX3_renew_1 : decode cX3_renew 1 = .ok (.iload_n 1, 1) := by decide +kernel
theorem dX3_renew_2 : decode cX3_renew 2 = .ok (.invokevirtual 27, 3) := by decide +kernel
theorem dX3_renew_5 : decode cX3_renew 5 = .ok (.ifCond .eq 13, 3) := by decide +kernel
theorem dX3_renew_8 : decode cX3_renew 8 = .ok (.iload_n 3, 1) := by decide +kernel
theorem dX3_renew_9 : decode cX3_renew 9 = .ok (.ifCond .lt 9, 3) := by decide +kernel
theorem dX3_renew_12 : decode cX3_renew 12 = .ok (.iload_n 3, 1) := by decide +kernel
theorem dX3_renew_13 : decode cX3_renew 13 = .ok (.bipush 40, 2) := by decide +kernel
theorem dX3_renew_15 : decode cX3_renew 15 = .ok (.if_icmp .le 4, 3) := by decide +kernel
theorem dX3_renew_18 : decode cX3_renew 18 = .ok (.return_, 1) := by decide +kernel
theorem dX3_renew_19 : decode cX3_renew 19 = .ok (.aload_n 0, 1) := by decide +kernel
theorem dX3_renew_20 : decode cX3_renew 20 = .ok (.getfield 9, 3) := by decide +kernel
theorem dX3_renew_23 : decode cX3_renew 23 = .ok (.iload_n 1, 1) := by decide +kernel
theorem dX3_renew_24 : decode cX3_renew 24 = .ok (.iconst 1, 1) := by decide +kernel
theorem dX3_renew_25 : decode cX3_renew 25 = .ok (.bastore, 1) := by decide +kernel
theorem dX3_renew_26 : decode cX3_renew 26 = .ok (.aload_n 0, 1) := by decide +kernel
theorem dX3_renew_27 : decode cX3_renew 27 = .ok (.getfield 15, 3) := by decide +kernel
theorem dX3_renew_30 : decode cX3_renew 30 = .ok (.iload_n 1, 1) := by decide +kernel
theorem dX3_renew_31 : decode cX3_renew 31 = .ok (.iload_n 2, 1) := by decide +kernel
theorem dX3_renew_32 : decode cX3_renew 32 = .ok (.iastore, 1) := by decide +kernel
theorem dX3_renew_33 : decode cX3_renew 33 = .ok (.aload_n 0, 1) := by decide +kernel
theorem dX3_renew_34 : decode cX3_renew 34 = .ok (.getfield 19, 3) := by decide +kernel
theorem dX3_renew_37 : decode cX3_renew 37 = .ok (.iload_n 1, 1) := by decide +kernel
theorem dX3_renew_38 : decode cX3_renew 38 = .ok (.iload_n 3, 1) := by decide +kernel
theorem dX3_renew_39 : decode cX3_renew 39 = .ok (.iastore, 1) := by decide +kernel
theorem dX3_renew_40 : decode cX3_renew 40 = .ok (.iconst 0, 1) := by decide +kernel
theorem dX3_renew_41 : decode cX3_renew 41 = .ok (.istore 4, 2) := by decide +kernel
theorem dX3_renew_43 : decode cX3_renew 43 = .ok (.iload 4, 2) := by decide +kernel
theorem dX3_renew_45 : decode cX3_renew 45 = .ok (.iload_n 3, 1) := by decide +kernel
theorem dX3_renew_46 : decode cX3_renew 46 = .ok (.if_icmp .ge 19, 3) := by decide +kernel
theorem dX3_renew_49 : decode cX3_renew 49 = .ok (.aload_n 0, 1) := by decide +kernel
theorem dX3_renew_50 : decode cX3_renew 50 = .ok (.getfield 24, 3) := by decide +kernel
theorem dX3_renew_53 : decode cX3_renew 53 = .ok (.iload_n 1, 1) := by decide +kernel
theorem dX3_renew_54 : decode cX3_renew 54 = .ok (.aaload, 1) := by decide +kernel
theorem dX3_renew_55 : decode cX3_renew 55 = .ok (.iload 4, 2) := by decide +kernel
theorem dX3_renew_57 : decode cX3_renew 57 = .ok (.iconst 0, 1) := by decide +kernel
theorem dX3_renew_58 : decode cX3_renew 58 = .ok (.iastore, 1) := by decide +kernel
theorem dX3_renew_59 : decode cX3_renew 59 = .ok (.iinc 4 1, 3) := by decide +kernel
theorem dX3_renew_62 : decode cX3_renew 62 = .ok (.goto (-19), 3) := by decide +kernel
theorem dX3_renew_65 : decode cX3_renew 65 = .ok (.return_, 1) := by decide +kernel
theorem dX3_empty_0 : decode cX3_empty 0 = .ok (.aload_n 0, 1) := by decide +kernel
theorem dX3_empty_1 : decode cX3_empty 1 = .ok (.iload_n 1, 1) := by decide +kernel
theorem dX3_empty_2 : decode cX3_empty 2 = .ok (.invokevirtual 31, 3) := by decide +kernel
theorem dX3_empty_5 : decode cX3_empty 5 = .ok (.istore_n 2, 1) := by decide +kernel
theorem dX3_empty_6 : decode cX3_empty 6 = .ok (.iload_n 2, 1) := by decide +kernel
theorem dX3_empty_7 : decode cX3_empty 7 = .ok (.ifCond .eq 10, 3) := by decide +kernel
theorem dX3_empty_10 : decode cX3_empty 10 = .ok (.aload_n 0, 1) := by decide +kernel
theorem dX3_empty_11 : decode cX3_empty 11 = .ok (.getfield 9, 3) := by decide +kernel
theorem dX3_empty_14 : decode cX3_empty 14 = .ok (.iload_n 1, 1) := by decide +kernel
theorem dX3_empty_15 : decode cX3_empty 15 = .ok (.iconst 0, 1) := by decide +kernel
theorem dX3_empty_16 : decode cX3_empty 16 = .ok (.bastore, 1) := by decide +kernel
theorem dX3_empty_17 : decode cX3_empty 17 = .ok (.iload_n 2, 1) := by decide +kernel
theorem dX3_empty_18 : decode cX3_empty 18 = .ok (.ireturn, 1) := by decide +kernel
theorem dX3_cellOf_0 : decode cX3_cellOf 0 = .ok (.aload_n 0, 1) := by decide +kernel
theorem dX3_cellOf_1 : decode cX3_cellOf 1 = .ok (.iload_n 1, 1) := by decide +kernel
theorem dX3_cellOf_2 : decode cX3_cellOf 2 = .ok (.iload_n 2, 1) := by decide +kernel
theorem dX3_cellOf_3 : decode cX3_cellOf 3 = .ok (.iconst 1, 1) := by decide +kernel
theorem dX3_cellOf_4 : decode cX3_cellOf 4 = .ok (.invokevirtual 38, 3) := by decide +kernel
theorem dX3_cellOf_7 : decode cX3_cellOf 7 = .ok (.ifCond .eq 14, 3) := by decide +kernel
theorem dX3_cellOf_10 : decode cX3_cellOf 10 = .ok (.aload_n 0, 1) := by decide +kernel
theorem dX3_cellOf_11 : decode cX3_cellOf 11 = .ok (.getfield 24, 3) := by decide +kernel
theorem dX3_cellOf_14 : decode cX3_cellOf 14 = .ok (.iload_n 1, 1) := by decide +kernel
theorem dX3_cellOf_15 : decode cX3_cellOf 15 = .ok (.aaload, 1) := by decide +kernel
theorem dX3_cellOf_16 : decode cX3_cellOf 16 = .ok (.iload_n 2, 1) := by decide +kernel
theorem dX3_cellOf_17 : decode cX3_cellOf 17 = .ok (.iaload, 1) := by decide +kernel
theorem dX3_cellOf_18 : decode cX3_cellOf 18 = .ok (.goto 4, 3) := by decide +kernel
theorem dX3_cellOf_21 : decode cX3_cellOf 21 = .ok (.iconst 0, 1) := by decide +kernel
theorem dX3_cellOf_22 : decode cX3_cellOf 22 = .ok (.ireturn, 1) := by decide +kernel
theorem dX3_setCell_0 : decode cX3_setCell 0 = .ok (.aload_n 0, 1) := by decide +kernel
theorem dX3_setCell_1 : decode cX3_setCell 1 = .ok (.iload_n 1, 1) := by decide +kernel
theorem dX3_setCell_2 : decode cX3_setCell 2 = .ok (.iload_n 2, 1) := by decide +kernel
theorem dX3_setCell_3 : decode cX3_setCell 3 = .ok (.iconst 1, 1) := by decide +kernel
theorem dX3_setCell_4 : decode cX3_setCell 4 = .ok (.invokevirtual 38, 3) := by decide +kernel
theorem dX3_setCell_7 : decode cX3_setCell 7 = .ok (.ifCond .eq 21, 3) := by decide +kernel
theorem dX3_setCell_10 : decode cX3_setCell 10 = .ok (.aload_n 0, 1) := by decide +kernel
theorem dX3_setCell_11 : decode cX3_setCell 11 = .ok (.getfield 24, 3) := by decide +kernel
theorem dX3_setCell_14 : decode cX3_setCell 14 = .ok (.iload_n 1, 1) := by decide +kernel
theorem dX3_setCell_15 : decode cX3_setCell 15 = .ok (.aaload, 1) := by decide +kernel
theorem dX3_setCell_16 : decode cX3_setCell 16 = .ok (.iload_n 2, 1) := by decide +kernel
theorem dX3_setCell_17 : decode cX3_setCell 17 = .ok (.aload_n 0, 1) := by decide +kernel
theorem dX3_setCell_18 : decode cX3_setCell 18 = .ok (.getfield 15, 3) := by decide +kernel
theorem dX3_setCell_21 : decode cX3_setCell 21 = .ok (.iload_n 1, 1) := by decide +kernel
theorem dX3_setCell_22 : decode cX3_setCell 22 = .ok (.iaload, 1) := by decide +kernel
theorem dX3_setCell_23 : decode cX3_setCell 23 = .ok (.iload_n 3, 1) := by decide +kernel
theorem dX3_setCell_24 : decode cX3_setCell 24 = .ok (.invokestatic 42, 3) := by decide +kernel
theorem dX3_setCell_27 : decode cX3_setCell 27 = .ok (.iastore, 1) := by decide +kernel
theorem dX3_setCell_28 : decode cX3_setCell 28 = .ok (.return_, 1) := by decide +kernel
theorem dX3_cut_0 : decode cX3_cut 0 = .ok (.iload_n 0, 1) := by decide +kernel
theorem dX3_cut_1 : decode cX3_cut 1 = .ok (.lookupswitch 33 #[(0, 27), (1, 30)], 27) := by decide +kernel
theorem dX3_cut_28 : decode cX3_cut 28 = .ok (.iload_n 1, 1) := by decide +kernel
theorem dX3_cut_29 : decode cX3_cut 29 = .ok (.i2b, 1) := by decide +kernel
theorem dX3_cut_30 : decode cX3_cut 30 = .ok (.ireturn, 1) := by decide +kernel
theorem dX3_cut_31 : decode cX3_cut 31 = .ok (.iload_n 1, 1) := by decide +kernel
theorem dX3_cut_32 : decode cX3_cut 32 = .ok (.i2s, 1) := by decide +kernel
theorem dX3_cut_33 : decode cX3_cut 33 = .ok (.ireturn, 1) := by decide +kernel
theorem dX3_cut_34 : decode cX3_cut 34 = .ok (.iload_n 1, 1) := by decide +kernel
theorem dX3_cut_35 : decode cX3_cut 35 = .ok (.ireturn, 1) := by decide +kernel
theorem dX3_copyCells_0 : decode cX3_copyCells 0 = .ok (.aload_n 0, 1) := by decide +kernel
theorem dX3_copyCells_1 : decode cX3_copyCells 1 = .ok (.iload_n 1, 1) := by decide +kernel
theorem dX3_copyCells_2 : decode cX3_copyCells 2 = .ok (.iload_n 2, 1) := by decide +kernel
theorem dX3_copyCells_3 : decode cX3_copyCells 3 = .ok (.iload 5, 2) := by decide +kernel
theorem dX3_copyCells_5 : decode cX3_copyCells 5 = .ok (.invokevirtual 38, 3) := by decide +kernel
theorem dX3_copyCells_8 : decode cX3_copyCells 8 = .ok (.ifCond .eq 35, 3) := by decide +kernel
theorem dX3_copyCells_11 : decode cX3_copyCells 11 = .ok (.aload_n 0, 1) := by decide +kernel
theorem dX3_copyCells_12 : decode cX3_copyCells 12 = .ok (.iload_n 3, 1) := by decide +kernel
theorem dX3_copyCells_13 : decode cX3_copyCells 13 = .ok (.iload 4, 2) := by decide +kernel
theorem dX3_copyCells_15 : decode cX3_copyCells 15 = .ok (.iload 5, 2) := by decide +kernel
theorem dX3_copyCells_17 : decode cX3_copyCells 17 = .ok (.invokevirtual 38, 3) := by decide +kernel
theorem dX3_copyCells_20 : decode cX3_copyCells 20 = .ok (.ifCond .eq 23, 3) := by decide +kernel
theorem dX3_copyCells_23 : decode cX3_copyCells 23 = .ok (.aload_n 0, 1) := by decide +kernel
theorem dX3_copyCells_24 : decode cX3_copyCells 24 = .ok (.getfield 24, 3) := by decide +kernel
theorem dX3_copyCells_27 : decode cX3_copyCells 27 = .ok (.iload_n 1, 1) := by decide +kernel
theorem dX3_copyCells_28 : decode cX3_copyCells 28 = .ok (.aaload, 1) := by decide +kernel
theorem dX3_copyCells_29 : decode cX3_copyCells 29 = .ok (.iload_n 2, 1) := by decide +kernel
theorem dX3_copyCells_30 : decode cX3_copyCells 30 = .ok (.aload_n 0, 1) := by decide +kernel
theorem dX3_copyCells_31 : decode cX3_copyCells 31 = .ok (.getfield 24, 3) := by decide +kernel
theorem dX3_copyCells_34 : decode cX3_copyCells 34 = .ok (.iload_n 3, 1) := by decide +kernel
theorem dX3_copyCells_35 : decode cX3_copyCells 35 = .ok (.aaload, 1) := by decide +kernel
theorem dX3_copyCells_36 : decode cX3_copyCells 36 = .ok (.iload 4, 2) := by decide +kernel
theorem dX3_copyCells_38 : decode cX3_copyCells 38 = .ok (.iload 5, 2) := by decide +kernel
theorem dX3_copyCells_40 : decode cX3_copyCells 40 = .ok (.invokestatic 46, 3) := by decide +kernel
theorem dX3_copyCells_43 : decode cX3_copyCells 43 = .ok (.return_, 1) := by decide +kernel
theorem dX4_init_0 : decode cX4_init 0 = .ok (.aload_n 0, 1) := by decide +kernel
theorem dX4_init_1 : decode cX4_init 1 = .ok (.invokespecial 3, 3) := by decide +kernel
theorem dX4_init_4 : decode cX4_init 4 = .ok (.aload_n 0, 1) := by decide +kernel
theorem dX4_init_5 : decode cX4_init 5 = .ok (.iconst 0, 1) := by decide +kernel
theorem dX4_init_6 : decode cX4_init 6 = .ok (.putfield 9, 3) := by decide +kernel
theorem dX4_init_9 : decode cX4_init 9 = .ok (.aload_n 0, 1) := by decide +kernel
theorem dX4_init_10 : decode cX4_init 10 = .ok (.bipush 8, 2) := by decide +kernel
theorem dX4_init_12 : decode cX4_init 12 = .ok (.newarray .int, 2) := by decide +kernel
theorem dX4_init_14 : decode cX4_init 14 = .ok (.putfield 15, 3) := by decide +kernel
theorem dX4_init_17 : decode cX4_init 17 = .ok (.aload_n 0, 1) := by decide +kernel
theorem dX4_init_18 : decode cX4_init 18 = .ok (.bipush 8, 2) := by decide +kernel
theorem dX4_init_20 : decode cX4_init 20 = .ok (.newarray .int, 2) := by decide +kernel
theorem dX4_init_22 : decode cX4_init 22 = .ok (.putfield 19, 3) := by decide +kernel
theorem dX4_init_25 : decode cX4_init 25 = .ok (.aload_n 0, 1) := by decide +kernel
theorem dX4_init_26 : decode cX4_init 26 = .ok (.sipush 256, 3) := by decide +kernel
theorem dX4_init_29 : decode cX4_init 29 = .ok (.newarray .int, 2) := by decide +kernel
theorem dX4_init_31 : decode cX4_init 31 = .ok (.putfield 22, 3) := by decide +kernel
theorem dX4_init_34 : decode cX4_init 34 = .ok (.return_, 1) := by decide +kernel
theorem dX4_lay_0 : decode cX4_lay 0 = .ok (.aload_n 0, 1) := by decide +kernel
theorem dX4_lay_1 : decode cX4_lay 1 = .ok (.aload_n 3, 1) := by decide +kernel
theorem dX4_lay_2 : decode cX4_lay 2 = .ok (.invokevirtual 25, 3) := by decide +kernel
theorem dX4_lay_5 : decode cX4_lay 5 = .ok (.bipush 8, 2) := by decide +kernel
theorem dX4_lay_7 : decode cX4_lay 7 = .ok (.invokestatic 30, 3) := by decide +kernel
theorem dX4_lay_10 : decode cX4_lay 10 = .ok (.putfield 9, 3) := by decide +kernel
theorem dX4_lay_13 : decode cX4_lay 13 = .ok (.iconst 0, 1) := by decide +kernel
theorem dX4_lay_14 : decode cX4_lay 14 = .ok (.istore 4, 2) := by decide +kernel
theorem dX4_lay_16 : decode cX4_lay 16 = .ok (.iload 4, 2) := by decide +kernel
theorem dX4_lay_18 : decode cX4_lay 18 = .ok (.aload_n 0, 1) := by decide +kernel
theorem dX4_lay_19 : decode cX4_lay 19 = .ok (.getfield 9, 3) := by decide +kernel
theorem dX4_lay_22 : decode cX4_lay 22 = .ok (.if_icmp .ge 111, 3) := by decide +kernel
theorem dX4_lay_25 : decode cX4_lay 25 = .ok (.aload_n 0, 1) := by decide +kernel
theorem dX4_lay_26 : decode cX4_lay 26 = .ok (.getfield 15, 3) := by decide +kernel
theorem dX4_lay_29 : decode cX4_lay 29 = .ok (.iload 4, 2) := by decide +kernel
theorem dX4_lay_31 : decode cX4_lay 31 = .ok (.iconst 0, 1) := by decide +kernel
theorem dX4_lay_32 : decode cX4_lay 32 = .ok (.iastore, 1) := by decide +kernel
theorem dX4_lay_33 : decode cX4_lay 33 = .ok (.aload_n 0, 1) := by decide +kernel
theorem dX4_lay_34 : decode cX4_lay 34 = .ok (.getfield 19, 3) := by decide +kernel
theorem dX4_lay_37 : decode cX4_lay 37 = .ok (.iload 4, 2) := by decide +kernel
theorem dX4_lay_39 : decode cX4_lay 39 = .ok (.iconst 0, 1) := by decide +kernel
theorem dX4_lay_40 : decode cX4_lay 40 = .ok (.iastore, 1) := by decide +kernel
theorem dX4_lay_41 : decode cX4_lay 41 = .ok (.iconst 0, 1) := by decide +kernel
theorem dX4_lay_42 : decode cX4_lay 42 = .ok (.istore 5, 2) := by decide +kernel
theorem dX4_lay_44 : decode cX4_lay 44 = .ok (.iload 5, 2) := by decide +kernel
theorem dX4_lay_46 : decode cX4_lay 46 = .ok (.aload_n 0, 1) := by decide +kernel
theorem dX4_lay_47 : decode cX4_lay 47 = .ok (.getfield 9, 3) := by decide +kernel
theorem dX4_lay_50 : decode cX4_lay 50 = .ok (.if_icmp .ge 77, 3) := by decide +kernel
theorem dX4_lay_53 : decode cX4_lay 53 = .ok (.aload_n 1, 1) := by decide +kernel
theorem dX4_lay_54 : decode cX4_lay 54 = .ok (.iload_n 2, 1) := by decide +kernel
theorem dX4_lay_55 : decode cX4_lay 55 = .ok (.aload_n 3, 1) := by decide +kernel
theorem dX4_lay_56 : decode cX4_lay 56 = .ok (.iload 4, 2) := by decide +kernel
theorem dX4_lay_58 : decode cX4_lay 58 = .ok (.invokevirtual 36, 3) := by decide +kernel
theorem dX4_lay_61 : decode cX4_lay 61 = .ok (.aload_n 3, 1) := by decide +kernel
theorem dX4_lay_62 : decode cX4_lay 62 = .ok (.iload 5, 2) := by decide +kernel
theorem dX4_lay_64 : decode cX4_lay 64 = .ok (.invokevirtual 36, 3) := by decide +kernel
theorem dX4_lay_67 : decode cX4_lay 67 = .ok (.invokevirtual 40, 3) := by decide +kernel
theorem dX4_lay_70 : decode cX4_lay 70 = .ok (.ifCond .eq 17, 3) := by decide +kernel
theorem dX4_lay_73 : decode cX4_lay 73 = .ok (.aload_n 0, 1) := by decide +kernel
theorem dX4_lay_74 : decode cX4_lay 74 = .ok (.getfield 15, 3) := by decide +kernel
theorem dX4_lay_77 : decode cX4_lay 77 = .ok (.iload 4, 2) := by decide +kernel
theorem dX4_lay_79 : decode cX4_lay 79 = .ok (.dup2, 1) := by decide +kernel
theorem dX4_lay_80 : decode cX4_lay 80 = .ok (.iaload, 1) := by decide +kernel
theorem dX4_lay_81 : decode cX4_lay 81 = .ok (.iconst 1, 1) := by decide +kernel
theorem dX4_lay_82 : decode cX4_lay 82 = .ok (.iload 5, 2) := by decide +kernel
theorem dX4_lay_84 : decode cX4_lay 84 = .ok (.ishl, 1) := by decide +kernel
theorem dX4_lay_85 : decode cX4_lay 85 = .ok (.ior, 1) := by decide +kernel
theorem dX4_lay_86 : decode cX4_lay 86 = .ok (.iastore, 1) := by decide +kernel
theorem dX4_lay_87 : decode cX4_lay 87 = .ok (.aload_n 1, 1) := by decide +kernel
theorem dX4_lay_88 : decode cX4_lay 88 = .ok (.iload_n 2, 1) := by decide +kernel
theorem dX4_lay_89 : decode cX4_lay 89 = .ok (.aload_n 3, 1) := by decide +kernel
theorem dX4_lay_90 : decode cX4_lay 90 = .ok (.iload 4, 2) := by decide +kernel
theorem dX4_lay_92 : decode cX4_lay 92 = .ok (.invokevirtual 36, 3) := by decide +kernel
theorem dX4_lay_95 : decode cX4_lay 95 = .ok (.aload_n 3, 1) := by decide +kernel
theorem dX4_lay_96 : decode cX4_lay 96 = .ok (.iload 5, 2) := by decide +kernel
theorem dX4_lay_98 : decode cX4_lay 98 = .ok (.invokevirtual 36, 3) := by decide +kernel
theorem dX4_lay_101 : decode cX4_lay 101 = .ok (.invokevirtual 46, 3) := by decide +kernel
theorem dX4_lay_104 : decode cX4_lay 104 = .ok (.ifCond .eq 17, 3) := by decide +kernel
theorem dX4_lay_107 : decode cX4_lay 107 = .ok (.aload_n 0, 1) := by decide +kernel
theorem dX4_lay_108 : decode cX4_lay 108 = .ok (.getfield 19, 3) := by decide +kernel
theorem dX4_lay_111 : decode cX4_lay 111 = .ok (.iload 4, 2) := by decide +kernel
theorem dX4_lay_113 : decode cX4_lay 113 = .ok (.dup2, 1) := by decide +kernel
theorem dX4_lay_114 : decode cX4_lay 114 = .ok (.iaload, 1) := by decide +kernel
theorem dX4_lay_115 : decode cX4_lay 115 = .ok (.iconst 1, 1) := by decide +kernel
theorem dX4_lay_116 : decode cX4_lay 116 = .ok (.iload 5, 2) := by decide +kernel
theorem dX4_lay_118 : decode cX4_lay 118 = .ok (.ishl, 1) := by decide +kernel
theorem dX4_lay_119 : decode cX4_lay 119 = .ok (.ior, 1) := by decide +kernel
theorem dX4_lay_120 : decode cX4_lay 120 = .ok (.iastore, 1) := by decide +kernel
theorem dX4_lay_121 : decode cX4_lay 121 = .ok (.iinc 5 1, 3) := by decide +kernel
theorem dX4_lay_124 : decode cX4_lay 124 = .ok (.goto (-80), 3) := by decide +kernel
theorem dX4_lay_127 : decode cX4_lay 127 = .ok (.iinc 4 1, 3) := by decide +kernel
theorem dX4_lay_130 : decode cX4_lay 130 = .ok (.goto (-114), 3) := by decide +kernel
theorem dX4_lay_133 : decode cX4_lay 133 = .ok (.return_, 1) := by decide +kernel
theorem dX4_has_0 : decode cX4_has 0 = .ok (.iload_n 1, 1) := by decide +kernel
theorem dX4_has_1 : decode cX4_has 1 = .ok (.ifCond .lt 21, 3) := by decide +kernel
theorem dX4_has_4 : decode cX4_has 4 = .ok (.iload_n 1, 1) := by decide +kernel
theorem dX4_has_5 : decode cX4_has 5 = .ok (.aload_n 0, 1) := by decide +kernel
theorem dX4_has_6 : decode cX4_has 6 = .ok (.getfield 9, 3) := by decide +kernel
theorem dX4_has_9 : decode cX4_has 9 = .ok (.if_icmp .ge 13, 3) := by decide +kernel
theorem dX4_has_12 : decode cX4_has 12 = .ok (.iload_n 1, 1) := by decide +kernel
theorem dX4_has_13 : decode cX4_has 13 = .ok (.bipush 8, 2) := by decide +kernel
theorem dX4_has_15 : decode cX4_has 15 = .ok (.if_icmp .ge 7, 3) := by decide +kernel
theorem dX4_has_18 : decode cX4_has 18 = .ok (.iconst 1, 1) := by decide +kernel
theorem dX4_has_19 : decode cX4_has 19 = .ok (.goto 4, 3) := by decide +kernel
theorem dX4_has_22 : decode cX4_has 22 = .ok (.iconst 0, 1) := by decide +kernel
theorem dX4_has_23 : decode cX4_has 23 = .ok (.ireturn, 1) := by decide +kernel
theorem dX4_alikeTo_0 : decode cX4_alikeTo 0 = .ok (.aload_n 0, 1) := by decide +kernel
theorem dX4_alikeTo_1 : decode cX4_alikeTo 1 = .ok (.iload_n 1, 1) := by decide +kernel
theorem dX4_alikeTo_2 : decode cX4_alikeTo 2 = .ok (.invokevirtual 49, 3) := by decide +kernel
theorem dX4_alikeTo_5 : decode cX4_alikeTo 5 = .ok (.ifCond .eq 12, 3) := by decide +kernel
theorem dX4_alikeTo_8 : decode cX4_alikeTo 8 = .ok (.aload_n 0, 1) := by decide +kernel
theorem dX4_alikeTo_9 : decode cX4_alikeTo 9 = .ok (.getfield 19, 3) := by decide +kernel
theorem dX4_alikeTo_12 : decode cX4_alikeTo 12 = .ok (.iload_n 1, 1) := by decide +kernel
theorem dX4_alikeTo_13 : decode cX4_alikeTo 13 = .ok (.iaload, 1) := by decide +kernel
theorem dX4_alikeTo_14 : decode cX4_alikeTo 14 = .ok (.goto 4, 3) := by decide +kernel
theorem dX4_alikeTo_17 : decode cX4_alikeTo 17 = .ok (.iconst 0, 1) := by decide +kernel
theorem dX4_alikeTo_18 : decode cX4_alikeTo 18 = .ok (.ireturn, 1) := by decide +kernel
theorem dX4_lighterThan_0 : decode cX4_lighterThan 0 = .ok (.aload_n 0, 1) := by decide +kernel
theorem dX4_lighterThan_1 : decode cX4_lighterThan 1 = .ok (.iload_n 1, 1) := by decide +kernel
theorem dX4_lighterThan_2 : decode cX4_lighterThan 2 = .ok (.invokevirtual 49, 3) := by decide +kernel
theorem dX4_lighterThan_5 : decode cX4_lighterThan 5 = .ok (.ifCond .eq 12, 3) := by decide +kernel
theorem dX4_lighterThan_8 : decode cX4_lighterThan 8 = .ok (.aload_n 0, 1) := by decide +kernel
theorem dX4_lighterThan_9 : decode cX4_lighterThan 9 = .ok (.getfield 15, 3) := by decide +kernel
theorem dX4_lighterThan_12 : decode cX4_lighterThan 12 = .ok (.iload_n 1, 1) := by decide +kernel
theorem dX4_lighterThan_13 : decode cX4_lighterThan 13 = .ok (.iaload, 1) := by decide +kernel
theorem dX4_lighterThan_14 : decode cX4_lighterThan 14 = .ok (.goto 4, 3) := by decide +kernel
theorem dX4_lighterThan_17 : decode cX4_lighterThan 17 = .ok (.iconst 0, 1) := by decide +kernel
theorem dX4_lighterThan_18 : decode cX4_lighterThan 18 = .ok (.ireturn, 1) := by decide +kernel
theorem dX4_othersAlikeTo_0 : decode cX4_othersAlikeTo 0 = .ok (.aload_n 0, 1) := by decide +kernel
theorem dX4_othersAlikeTo_1 : decode cX4_othersAlikeTo 1 = .ok (.iload_n 1, 1) := by decide +kernel
theorem dX4_othersAlikeTo_2 : decode cX4_othersAlikeTo 2 = .ok (.invokevirtual 53, 3) := by decide +kernel
theorem dX4_othersAlikeTo_5 : decode cX4_othersAlikeTo 5 = .ok (.invokestatic 56, 3) := by decide +kernel
theorem dX4_othersAlikeTo_8 : decode cX4_othersAlikeTo 8 = .ok (.iconst 1, 1) := by decide +kernel
theorem dX4_othersAlikeTo_9 : decode cX4_othersAlikeTo 9 = .ok (.isub, 1) := by decide +kernel
theorem dX4_othersAlikeTo_10 : decode cX4_othersAlikeTo 10 = .ok (.ireturn, 1) := by decide +kernel
theorem dX4_allThings_0 : decode cX4_allThings 0 = .ok (.iconst 1, 1) := by decide +kernel
theorem dX4_allThings_1 : decode cX4_allThings 1 = .ok (.aload_n 0, 1) := by decide +kernel
theorem dX4_allThings_2 : decode cX4_allThings 2 = .ok (.getfield 9, 3) := by decide +kernel
theorem dX4_allThings_5 : decode cX4_allThings 5 = .ok (.ishl, 1) := by decide +kernel
theorem dX4_allThings_6 : decode cX4_allThings 6 = .ok (.iconst 1, 1) := by decide +kernel
theorem dX4_allThings_7 : decode cX4_allThings 7 = .ok (.isub, 1) := by decide +kernel
theorem dX4_allThings_8 : decode cX4_allThings 8 = .ok (.ireturn, 1) := by decide +kernel
theorem dX4_isFinerThan_0 : decode cX4_isFinerThan 0 = .ok (.iconst 0, 1) := by decide +kernel
theorem dX4_isFinerThan_1 : decode cX4_isFinerThan 1 = .ok (.istore_n 2, 1) := by decide +kernel
theorem dX4_isFinerThan_2 : decode cX4_isFinerThan 2 = .ok (.iconst 0, 1) := by decide +kernel
theorem dX4_isFinerThan_3 : decode cX4_isFinerThan 3 = .ok (.istore_n 3, 1) := by decide +kernel
theorem dX4_isFinerThan_4 : decode cX4_isFinerThan 4 = .ok (.iload_n 3, 1) := by decide +kernel
theorem dX4_isFinerThan_5 : decode cX4_isFinerThan 5 = .ok (.aload_n 0, 1) := by decide +kernel
theorem dX4_isFinerThan_6 : decode cX4_isFinerThan 6 = .ok (.getfield 9, 3) := by decide +kernel
theorem dX4_isFinerThan_9 : decode cX4_isFinerThan 9 = .ok (.if_icmp .ge 52, 3) := by decide +kernel
theorem dX4_isFinerThan_12 : decode cX4_isFinerThan 12 = .ok (.aload_n 1, 1) := by decide +kernel
theorem dX4_isFinerThan_13 : decode cX4_isFinerThan 13 = .ok (.iload_n 3, 1) := by decide +kernel
theorem dX4_isFinerThan_14 : decode cX4_isFinerThan 14 = .ok (.invokevirtual 61, 3) := by decide +kernel
theorem dX4_isFinerThan_17 : decode cX4_isFinerThan 17 = .ok (.aload_n 0, 1) := by decide +kernel
theorem dX4_isFinerThan_18 : decode cX4_isFinerThan 18 = .ok (.getfield 15, 3) := by decide +kernel
theorem dX4_isFinerThan_21 : decode cX4_isFinerThan 21 = .ok (.iload_n 3, 1) := by decide +kernel
theorem dX4_isFinerThan_22 : decode cX4_isFinerThan 22 = .ok (.iaload, 1) := by decide +kernel
theorem dX4_isFinerThan_23 : decode cX4_isFinerThan 23 = .ok (.iconst (-1), 1) := by decide +kernel
theorem dX4_isFinerThan_24 : decode cX4_isFinerThan 24 = .ok (.ixor, 1) := by decide +kernel
theorem dX4_isFinerThan_25 : decode cX4_isFinerThan 25 = .ok (.iand, 1) := by decide +kernel
theorem dX4_isFinerThan_26 : decode cX4_isFinerThan 26 = .ok (.ifCond .eq 5, 3) := by decide +kernel
theorem dX4_isFinerThan_29 : decode cX4_isFinerThan 29 = .ok (.iconst 0, 1) := by decide +kernel
theorem dX4_isFinerThan_30 : decode cX4_isFinerThan 30 = .ok (.ireturn, 1) := by decide +kernel
theorem dX4_isFinerThan_31 : decode cX4_isFinerThan 31 = .ok (.iload_n 2, 1) := by decide +kernel
theorem dX4_isFinerThan_32 : decode cX4_isFinerThan 32 = .ok (.ifCond .ne 17, 3) := by decide +kernel
theorem dX4_isFinerThan_35 : decode cX4_isFinerThan 35 = .ok (.aload_n 1, 1) := by decide +kernel
theorem dX4_isFinerThan_36 : decode cX4_isFinerThan 36 = .ok (.iload_n 3, 1) := by decide +kernel
theorem dX4_isFinerThan_37 : decode cX4_isFinerThan 37 = .ok (.invokevirtual 61, 3) := by decide +kernel
theorem dX4_isFinerThan_40 : decode cX4_isFinerThan 40 = .ok (.aload_n 0, 1) := by decide +kernel
theorem dX4_isFinerThan_41 : decode cX4_isFinerThan 41 = .ok (.getfield 15, 3) := by decide +kernel
theorem dX4_isFinerThan_44 : decode cX4_isFinerThan 44 = .ok (.iload_n 3, 1) := by decide +kernel
theorem dX4_isFinerThan_45 : decode cX4_isFinerThan 45 = .ok (.iaload, 1) := by decide +kernel
theorem dX4_isFinerThan_46 : decode cX4_isFinerThan 46 = .ok (.if_icmp .eq 7, 3) := by decide +kernel
theorem dX4_isFinerThan_49 : decode cX4_isFinerThan 49 = .ok (.iconst 1, 1) := by decide +kernel
theorem dX4_isFinerThan_50 : decode cX4_isFinerThan 50 = .ok (.goto 4, 3) := by decide +kernel
theorem dX4_isFinerThan_53 : decode cX4_isFinerThan 53 = .ok (.iconst 0, 1) := by decide +kernel
theorem dX4_isFinerThan_54 : decode cX4_isFinerThan 54 = .ok (.istore_n 2, 1) := by decide +kernel
theorem dX4_isFinerThan_55 : decode cX4_isFinerThan 55 = .ok (.iinc 3 1, 3) := by decide +kernel
theorem dX4_isFinerThan_58 : decode cX4_isFinerThan 58 = .ok (.goto (-54), 3) := by decide +kernel
theorem dX4_isFinerThan_61 : decode cX4_isFinerThan 61 = .ok (.iload_n 2, 1) := by decide +kernel
theorem dX4_isFinerThan_62 : decode cX4_isFinerThan 62 = .ok (.ireturn, 1) := by decide +kernel
theorem dX4_within_0 : decode cX4_within 0 = .ok (.iconst 1, 1) := by decide +kernel
theorem dX4_within_1 : decode cX4_within 1 = .ok (.iload_n 1, 1) := by decide +kernel
theorem dX4_within_2 : decode cX4_within 2 = .ok (.ishl, 1) := by decide +kernel
theorem dX4_within_3 : decode cX4_within 3 = .ok (.istore_n 3, 1) := by decide +kernel
theorem dX4_within_4 : decode cX4_within 4 = .ok (.iconst 0, 1) := by decide +kernel
theorem dX4_within_5 : decode cX4_within 5 = .ok (.istore 4, 2) := by decide +kernel
theorem dX4_within_7 : decode cX4_within 7 = .ok (.iload 4, 2) := by decide +kernel
theorem dX4_within_9 : decode cX4_within 9 = .ok (.iload_n 2, 1) := by decide +kernel
theorem dX4_within_10 : decode cX4_within 10 = .ok (.if_icmp .ge 26, 3) := by decide +kernel
theorem dX4_within_13 : decode cX4_within 13 = .ok (.iload 4, 2) := by decide +kernel
theorem dX4_within_15 : decode cX4_within 15 = .ok (.aload_n 0, 1) := by decide +kernel
theorem dX4_within_16 : decode cX4_within 16 = .ok (.getfield 9, 3) := by decide +kernel
theorem dX4_within_19 : decode cX4_within 19 = .ok (.if_icmp .ge 17, 3) := by decide +kernel
theorem dX4_within_22 : decode cX4_within 22 = .ok (.iload_n 3, 1) := by decide +kernel
theorem dX4_within_23 : decode cX4_within 23 = .ok (.aload_n 0, 1) := by decide +kernel
theorem dX4_within_24 : decode cX4_within 24 = .ok (.iload_n 3, 1) := by decide +kernel
theorem dX4_within_25 : decode cX4_within 25 = .ok (.invokevirtual 64, 3) := by decide +kernel
theorem dX4_within_28 : decode cX4_within 28 = .ok (.ior, 1) := by decide +kernel
theorem dX4_within_29 : decode cX4_within 29 = .ok (.istore_n 3, 1) := by decide +kernel
theorem dX4_within_30 : decode cX4_within 30 = .ok (.iinc 4 1, 3) := by decide +kernel
theorem dX4_within_33 : decode cX4_within 33 = .ok (.goto (-26), 3) := by decide +kernel
theorem dX4_within_36 : decode cX4_within 36 = .ok (.iload_n 3, 1) := by decide +kernel
theorem dX4_within_37 : decode cX4_within 37 = .ok (.ireturn, 1) := by decide +kernel
theorem dX4_alikeToAny_0 : decode cX4_alikeToAny 0 = .ok (.iconst 0, 1) := by decide +kernel
theorem dX4_alikeToAny_1 : decode cX4_alikeToAny 1 = .ok (.istore_n 2, 1) := by decide +kernel
theorem dX4_alikeToAny_2 : decode cX4_alikeToAny 2 = .ok (.iconst 0, 1) := by decide +kernel
theorem dX4_alikeToAny_3 : decode cX4_alikeToAny 3 = .ok (.istore_n 3, 1) := by decide +kernel
theorem dX4_alikeToAny_4 : decode cX4_alikeToAny 4 = .ok (.iload_n 3, 1) := by decide +kernel
theorem dX4_alikeToAny_5 : decode cX4_alikeToAny 5 = .ok (.aload_n 0, 1) := by decide +kernel
theorem dX4_alikeToAny_6 : decode cX4_alikeToAny 6 = .ok (.getfield 9, 3) := by decide +kernel
theorem dX4_alikeToAny_9 : decode cX4_alikeToAny 9 = .ok (.if_icmp .ge 30, 3) := by decide +kernel
theorem dX4_alikeToAny_12 : decode cX4_alikeToAny 12 = .ok (.iload_n 2, 1) := by decide +kernel
theorem dX4_alikeToAny_13 : decode cX4_alikeToAny 13 = .ok (.iload_n 1, 1) := by decide +kernel
theorem dX4_alikeToAny_14 : decode cX4_alikeToAny 14 = .ok (.iload_n 3, 1) := by decide +kernel
theorem dX4_alikeToAny_15 : decode cX4_alikeToAny 15 = .ok (.invokestatic 67, 3) := by decide +kernel
theorem dX4_alikeToAny_18 : decode cX4_alikeToAny 18 = .ok (.ifCond .eq 12, 3) := by decide +kernel
theorem dX4_alikeToAny_21 : decode cX4_alikeToAny 21 = .ok (.aload_n 0, 1) := by decide +kernel
theorem dX4_alikeToAny_22 : decode cX4_alikeToAny 22 = .ok (.getfield 19, 3) := by decide +kernel
theorem dX4_alikeToAny_25 : decode cX4_alikeToAny 25 = .ok (.iload_n 3, 1) := by decide +kernel
theorem dX4_alikeToAny_26 : decode cX4_alikeToAny 26 = .ok (.iaload, 1) := by decide +kernel
theorem dX4_alikeToAny_27 : decode cX4_alikeToAny 27 = .ok (.goto 4, 3) := by decide +kernel
theorem dX4_alikeToAny_30 : decode cX4_alikeToAny 30 = .ok (.iconst 0, 1) := by decide +kernel
theorem dX4_alikeToAny_31 : decode cX4_alikeToAny 31 = .ok (.ior, 1) := by decide +kernel
theorem dX4_alikeToAny_32 : decode cX4_alikeToAny 32 = .ok (.istore_n 2, 1) := by decide +kernel
theorem dX4_alikeToAny_33 : decode cX4_alikeToAny 33 = .ok (.iinc 3 1, 3) := by decide +kernel
theorem dX4_alikeToAny_36 : decode cX4_alikeToAny 36 = .ok (.goto (-32), 3) := by decide +kernel
theorem dX4_alikeToAny_39 : decode cX4_alikeToAny 39 = .ok (.iload_n 2, 1) := by decide +kernel
theorem dX4_alikeToAny_40 : decode cX4_alikeToAny 40 = .ok (.ireturn, 1) := by decide +kernel
theorem dX4_fewestSwaps_0 : decode cX4_fewestSwaps 0 = .ok (.iconst 0, 1) := by decide +kernel
theorem dX4_fewestSwaps_1 : decode cX4_fewestSwaps 1 = .ok (.istore_n 3, 1) := by decide +kernel
theorem dX4_fewestSwaps_2 : decode cX4_fewestSwaps 2 = .ok (.iload_n 3, 1) := by decide +kernel
theorem dX4_fewestSwaps_3 : decode cX4_fewestSwaps 3 = .ok (.aload_n 0, 1) := by decide +kernel
theorem dX4_fewestSwaps_4 : decode cX4_fewestSwaps 4 = .ok (.getfield 9, 3) := by decide +kernel
theorem dX4_fewestSwaps_7 : decode cX4_fewestSwaps 7 = .ok (.if_icmp .ge 24, 3) := by decide +kernel
theorem dX4_fewestSwaps_10 : decode cX4_fewestSwaps 10 = .ok (.aload_n 0, 1) := by decide +kernel
theorem dX4_fewestSwaps_11 : decode cX4_fewestSwaps 11 = .ok (.iload_n 2, 1) := by decide +kernel
theorem dX4_fewestSwaps_12 : decode cX4_fewestSwaps 12 = .ok (.iload_n 3, 1) := by decide +kernel
theorem dX4_fewestSwaps_13 : decode cX4_fewestSwaps 13 = .ok (.invokevirtual 71, 3) := by decide +kernel
theorem dX4_fewestSwaps_16 : decode cX4_fewestSwaps 16 = .ok (.iload_n 1, 1) := by decide +kernel
theorem dX4_fewestSwaps_17 : decode cX4_fewestSwaps 17 = .ok (.invokestatic 67, 3) := by decide +kernel
theorem dX4_fewestSwaps_20 : decode cX4_fewestSwaps 20 = .ok (.ifCond .eq 5, 3) := by decide +kernel
theorem dX4_fewestSwaps_23 : decode cX4_fewestSwaps 23 = .ok (.iload_n 3, 1) := by decide +kernel
theorem dX4_fewestSwaps_24 : decode cX4_fewestSwaps 24 = .ok (.ireturn, 1) := by decide +kernel
theorem dX4_fewestSwaps_25 : decode cX4_fewestSwaps 25 = .ok (.iinc 3 1, 3) := by decide +kernel
theorem dX4_fewestSwaps_28 : decode cX4_fewestSwaps 28 = .ok (.goto (-26), 3) := by decide +kernel
theorem dX4_fewestSwaps_31 : decode cX4_fewestSwaps 31 = .ok (.bipush (-9), 2) := by decide +kernel
theorem dX4_fewestSwaps_33 : decode cX4_fewestSwaps 33 = .ok (.ireturn, 1) := by decide +kernel
theorem dX4_behindSwaps_0 : decode cX4_behindSwaps 0 = .ok (.aload_n 0, 1) := by decide +kernel
theorem dX4_behindSwaps_1 : decode cX4_behindSwaps 1 = .ok (.iload_n 1, 1) := by decide +kernel
theorem dX4_behindSwaps_2 : decode cX4_behindSwaps 2 = .ok (.iload_n 2, 1) := by decide +kernel
theorem dX4_behindSwaps_3 : decode cX4_behindSwaps 3 = .ok (.invokevirtual 74, 3) := by decide +kernel
theorem dX4_behindSwaps_6 : decode cX4_behindSwaps 6 = .ok (.istore 4, 2) := by decide +kernel
theorem dX4_behindSwaps_8 : decode cX4_behindSwaps 8 = .ok (.iload 4, 2) := by decide +kernel
theorem dX4_behindSwaps_10 : decode cX4_behindSwaps 10 = .ok (.bipush (-9), 2) := by decide +kernel
theorem dX4_behindSwaps_12 : decode cX4_behindSwaps 12 = .ok (.if_icmp .eq 9, 3) := by decide +kernel
theorem dX4_behindSwaps_15 : decode cX4_behindSwaps 15 = .ok (.iload_n 3, 1) := by decide +kernel
theorem dX4_behindSwaps_16 : decode cX4_behindSwaps 16 = .ok (.iload 4, 2) := by decide +kernel
theorem dX4_behindSwaps_18 : decode cX4_behindSwaps 18 = .ok (.if_icmp .le 6, 3) := by decide +kernel
theorem dX4_behindSwaps_21 : decode cX4_behindSwaps 21 = .ok (.bipush (-9), 2) := by decide +kernel
theorem dX4_behindSwaps_23 : decode cX4_behindSwaps 23 = .ok (.ireturn, 1) := by decide +kernel
theorem dX4_behindSwaps_24 : decode cX4_behindSwaps 24 = .ok (.iload_n 1, 1) := by decide +kernel
theorem dX4_behindSwaps_25 : decode cX4_behindSwaps 25 = .ok (.istore 5, 2) := by decide +kernel
theorem dX4_behindSwaps_27 : decode cX4_behindSwaps 27 = .ok (.iconst 1, 1) := by decide +kernel
theorem dX4_behindSwaps_28 : decode cX4_behindSwaps 28 = .ok (.istore 6, 2) := by decide +kernel
theorem dX4_behindSwaps_30 : decode cX4_behindSwaps 30 = .ok (.iload 6, 2) := by decide +kernel
theorem dX4_behindSwaps_32 : decode cX4_behindSwaps 32 = .ok (.iload_n 3, 1) := by decide +kernel
theorem dX4_behindSwaps_33 : decode cX4_behindSwaps 33 = .ok (.if_icmp .gt 32, 3) := by decide +kernel
theorem dX4_behindSwaps_36 : decode cX4_behindSwaps 36 = .ok (.aload_n 0, 1) := by decide +kernel
theorem dX4_behindSwaps_37 : decode cX4_behindSwaps 37 = .ok (.aload_n 0, 1) := by decide +kernel
theorem dX4_behindSwaps_38 : decode cX4_behindSwaps 38 = .ok (.iload 5, 2) := by decide +kernel
theorem dX4_behindSwaps_40 : decode cX4_behindSwaps 40 = .ok (.invokevirtual 53, 3) := by decide +kernel
theorem dX4_behindSwaps_43 : decode cX4_behindSwaps 43 = .ok (.aload_n 0, 1) := by decide +kernel
theorem dX4_behindSwaps_44 : decode cX4_behindSwaps 44 = .ok (.iload_n 2, 1) := by decide +kernel
theorem dX4_behindSwaps_45 : decode cX4_behindSwaps 45 = .ok (.iload 4, 2) := by decide +kernel
theorem dX4_behindSwaps_47 : decode cX4_behindSwaps 47 = .ok (.iload 6, 2) := by decide +kernel
theorem dX4_behindSwaps_49 : decode cX4_behindSwaps 49 = .ok (.isub, 1) := by decide +kernel
theorem dX4_behindSwaps_50 : decode cX4_behindSwaps 50 = .ok (.invokevirtual 71, 3) := by decide +kernel
theorem dX4_behindSwaps_53 : decode cX4_behindSwaps 53 = .ok (.iand, 1) := by decide +kernel
theorem dX4_behindSwaps_54 : decode cX4_behindSwaps 54 = .ok (.invokevirtual 77, 3) := by decide +kernel
theorem dX4_behindSwaps_57 : decode cX4_behindSwaps 57 = .ok (.istore 5, 2) := by decide +kernel
theorem dX4_behindSwaps_59 : decode cX4_behindSwaps 59 = .ok (.iinc 6 1, 3) := by decide +kernel
theorem dX4_behindSwaps_62 : decode cX4_behindSwaps 62 = .ok (.goto (-32), 3) := by decide +kernel
theorem dX4_behindSwaps_65 : decode cX4_behindSwaps 65 = .ok (.iload 5, 2) := by decide +kernel
theorem dX4_behindSwaps_67 : decode cX4_behindSwaps 67 = .ok (.ireturn, 1) := by decide +kernel
theorem dX4_leastIn_0 : decode cX4_leastIn 0 = .ok (.iconst 0, 1) := by decide +kernel
theorem dX4_leastIn_1 : decode cX4_leastIn 1 = .ok (.istore_n 2, 1) := by decide +kernel
theorem dX4_leastIn_2 : decode cX4_leastIn 2 = .ok (.iload_n 2, 1) := by decide +kernel
theorem dX4_leastIn_3 : decode cX4_leastIn 3 = .ok (.aload_n 0, 1) := by decide +kernel
theorem dX4_leastIn_4 : decode cX4_leastIn 4 = .ok (.getfield 9, 3) := by decide +kernel
theorem dX4_leastIn_7 : decode cX4_leastIn 7 = .ok (.if_icmp .ge 19, 3) := by decide +kernel
theorem dX4_leastIn_10 : decode cX4_leastIn 10 = .ok (.iload_n 1, 1) := by decide +kernel
theorem dX4_leastIn_11 : decode cX4_leastIn 11 = .ok (.iload_n 2, 1) := by decide +kernel
theorem dX4_leastIn_12 : decode cX4_leastIn 12 = .ok (.invokestatic 67, 3) := by decide +kernel
theorem dX4_leastIn_15 : decode cX4_leastIn 15 = .ok (.ifCond .eq 5, 3) := by decide +kernel
theorem dX4_leastIn_18 : decode cX4_leastIn 18 = .ok (.iload_n 2, 1) := by decide +kernel
theorem dX4_leastIn_19 : decode cX4_leastIn 19 = .ok (.ireturn, 1) := by decide +kernel
theorem dX4_leastIn_20 : decode cX4_leastIn 20 = .ok (.iinc 2 1, 3) := by decide +kernel
theorem dX4_leastIn_23 : decode cX4_leastIn 23 = .ok (.goto (-21), 3) := by decide +kernel
theorem dX4_leastIn_26 : decode cX4_leastIn 26 = .ok (.bipush (-9), 2) := by decide +kernel
theorem dX4_leastIn_28 : decode cX4_leastIn 28 = .ok (.ireturn, 1) := by decide +kernel
theorem dX4_countOrders_0 : decode cX4_countOrders 0 = .ok (.aload_n 0, 1) := by decide +kernel
theorem dX4_countOrders_1 : decode cX4_countOrders 1 = .ok (.invokevirtual 80, 3) := by decide +kernel
theorem dX4_countOrders_4 : decode cX4_countOrders 4 = .ok (.istore_n 1, 1) := by decide +kernel
theorem dX4_countOrders_5 : decode cX4_countOrders 5 = .ok (.iconst 1, 1) := by decide +kernel
theorem dX4_countOrders_6 : decode cX4_countOrders 6 = .ok (.istore_n 2, 1) := by decide +kernel
theorem dX4_countOrders_7 : decode cX4_countOrders 7 = .ok (.iload_n 2, 1) := by decide +kernel
theorem dX4_countOrders_8 : decode cX4_countOrders 8 = .ok (.iload_n 1, 1) := by decide +kernel
theorem dX4_countOrders_9 : decode cX4_countOrders 9 = .ok (.if_icmp .gt 93, 3) := by decide +kernel
theorem dX4_countOrders_12 : decode cX4_countOrders 12 = .ok (.iload_n 2, 1) := by decide +kernel
theorem dX4_countOrders_13 : decode cX4_countOrders 13 = .ok (.sipush 256, 3) := by decide +kernel
theorem dX4_countOrders_16 : decode cX4_countOrders 16 = .ok (.if_icmp .ge 86, 3) := by decide +kernel
theorem dX4_countOrders_19 : decode cX4_countOrders 19 = .ok (.aload_n 0, 1) := by decide +kernel
theorem dX4_countOrders_20 : decode cX4_countOrders 20 = .ok (.getfield 22, 3) := by decide +kernel
theorem dX4_countOrders_23 : decode cX4_countOrders 23 = .ok (.iload_n 2, 1) := by decide +kernel
theorem dX4_countOrders_24 : decode cX4_countOrders 24 = .ok (.iconst 0, 1) := by decide +kernel
theorem dX4_countOrders_25 : decode cX4_countOrders 25 = .ok (.iastore, 1) := by decide +kernel
theorem dX4_countOrders_26 : decode cX4_countOrders 26 = .ok (.iconst 0, 1) := by decide +kernel
theorem dX4_countOrders_27 : decode cX4_countOrders 27 = .ok (.istore_n 3, 1) := by decide +kernel
theorem dX4_countOrders_28 : decode cX4_countOrders 28 = .ok (.iload_n 3, 1) := by decide +kernel
theorem dX4_countOrders_29 : decode cX4_countOrders 29 = .ok (.aload_n 0, 1) := by decide +kernel
theorem dX4_countOrders_30 : decode cX4_countOrders 30 = .ok (.getfield 9, 3) := by decide +kernel
theorem dX4_countOrders_33 : decode cX4_countOrders 33 = .ok (.if_icmp .ge 63, 3) := by decide +kernel
theorem dX4_countOrders_36 : decode cX4_countOrders 36 = .ok (.iload_n 2, 1) := by decide +kernel
theorem dX4_countOrders_37 : decode cX4_countOrders 37 = .ok (.iconst 1, 1) := by decide +kernel
theorem dX4_countOrders_38 : decode cX4_countOrders 38 = .ok (.iload_n 3, 1) := by decide +kernel
theorem dX4_countOrders_39 : decode cX4_countOrders 39 = .ok (.ishl, 1) := by decide +kernel
theorem dX4_countOrders_40 : decode cX4_countOrders 40 = .ok (.iconst (-1), 1) := by decide +kernel
theorem dX4_countOrders_41 : decode cX4_countOrders 41 = .ok (.ixor, 1) := by decide +kernel
theorem dX4_countOrders_42 : decode cX4_countOrders 42 = .ok (.iand, 1) := by decide +kernel
theorem dX4_countOrders_43 : decode cX4_countOrders 43 = .ok (.istore 4, 2) := by decide +kernel
theorem dX4_countOrders_45 : decode cX4_countOrders 45 = .ok (.iload 4, 2) := by decide +kernel
theorem dX4_countOrders_47 : decode cX4_countOrders 47 = .ok (.iload_n 2, 1) := by decide +kernel
theorem dX4_countOrders_48 : decode cX4_countOrders 48 = .ok (.if_icmp .eq 42, 3) := by decide +kernel
theorem dX4_countOrders_51 : decode cX4_countOrders 51 = .ok (.aload_n 0, 1) := by decide +kernel
theorem dX4_countOrders_52 : decode cX4_countOrders 52 = .ok (.getfield 15, 3) := by decide +kernel
theorem dX4_countOrders_55 : decode cX4_countOrders 55 = .ok (.iload_n 3, 1) := by decide +kernel
theorem dX4_countOrders_56 : decode cX4_countOrders 56 = .ok (.iaload, 1) := by decide +kernel
theorem dX4_countOrders_57 : decode cX4_countOrders 57 = .ok (.iload 4, 2) := by decide +kernel
theorem dX4_countOrders_59 : decode cX4_countOrders 59 = .ok (.iconst (-1), 1) := by decide +kernel
theorem dX4_countOrders_60 : decode cX4_countOrders 60 = .ok (.ixor, 1) := by decide +kernel
theorem dX4_countOrders_61 : decode cX4_countOrders 61 = .ok (.iand, 1) := by decide +kernel
theorem dX4_countOrders_62 : decode cX4_countOrders 62 = .ok (.ifCond .ne 28, 3) := by decide +kernel
theorem dX4_countOrders_65 : decode cX4_countOrders 65 = .ok (.aload_n 0, 1) := by decide +kernel
theorem dX4_countOrders_66 : decode cX4_countOrders 66 = .ok (.getfield 22, 3) := by decide +kernel
theorem dX4_countOrders_69 : decode cX4_countOrders 69 = .ok (.iload_n 2, 1) := by decide +kernel
theorem dX4_countOrders_70 : decode cX4_countOrders 70 = .ok (.dup2, 1) := by decide +kernel
theorem dX4_countOrders_71 : decode cX4_countOrders 71 = .ok (.iaload, 1) := by decide +kernel
theorem dX4_countOrders_72 : decode cX4_countOrders 72 = .ok (.iload 4, 2) := by decide +kernel
theorem dX4_countOrders_74 : decode cX4_countOrders 74 = .ok (.ifCond .ne 7, 3) := by decide +kernel
theorem dX4_countOrders_77 : decode cX4_countOrders 77 = .ok (.iconst 1, 1) := by decide +kernel
theorem dX4_countOrders_78 : decode cX4_countOrders 78 = .ok (.goto 10, 3) := by decide +kernel
theorem dX4_countOrders_81 : decode cX4_countOrders 81 = .ok (.aload_n 0, 1) := by decide +kernel
theorem dX4_countOrders_82 : decode cX4_countOrders 82 = .ok (.getfield 22, 3) := by decide +kernel
theorem dX4_countOrders_85 : decode cX4_countOrders 85 = .ok (.iload 4, 2) := by decide +kernel
theorem dX4_countOrders_87 : decode cX4_countOrders 87 = .ok (.iaload, 1) := by decide +kernel
theorem dX4_countOrders_88 : decode cX4_countOrders 88 = .ok (.iadd, 1) := by decide +kernel
theorem dX4_countOrders_89 : decode cX4_countOrders 89 = .ok (.iastore, 1) := by decide +kernel
theorem dX4_countOrders_90 : decode cX4_countOrders 90 = .ok (.iinc 3 1, 3) := by decide +kernel
theorem dX4_countOrders_93 : decode cX4_countOrders 93 = .ok (.goto (-65), 3) := by decide +kernel
theorem dX4_countOrders_96 : decode cX4_countOrders 96 = .ok (.iinc 2 1, 3) := by decide +kernel
theorem dX4_countOrders_99 : decode cX4_countOrders 99 = .ok (.goto (-92), 3) := by decide +kernel
theorem dX4_countOrders_102 : decode cX4_countOrders 102 = .ok (.aload_n 0, 1) := by decide +kernel
theorem dX4_countOrders_103 : decode cX4_countOrders 103 = .ok (.getfield 22, 3) := by decide +kernel
theorem dX4_countOrders_106 : decode cX4_countOrders 106 = .ok (.iload_n 1, 1) := by decide +kernel
theorem dX4_countOrders_107 : decode cX4_countOrders 107 = .ok (.iaload, 1) := by decide +kernel
theorem dX4_countOrders_108 : decode cX4_countOrders 108 = .ok (.ireturn, 1) := by decide +kernel
theorem dX4_placeInFirstOrder_0 : decode cX4_placeInFirstOrder 0 = .ok (.iconst 0, 1) := by decide +kernel
theorem dX4_placeInFirstOrder_1 : decode cX4_placeInFirstOrder 1 = .ok (.istore_n 2, 1) := by decide +kernel
theorem dX4_placeInFirstOrder_2 : decode cX4_placeInFirstOrder 2 = .ok (.bipush (-9), 2) := by decide +kernel
theorem dX4_placeInFirstOrder_4 : decode cX4_placeInFirstOrder 4 = .ok (.istore_n 3, 1) := by decide +kernel
theorem dX4_placeInFirstOrder_5 : decode cX4_placeInFirstOrder 5 = .ok (.iconst 0, 1) := by decide +kernel
theorem dX4_placeInFirstOrder_6 : decode cX4_placeInFirstOrder 6 = .ok (.istore 4, 2) := by decide +kernel
theorem dX4_placeInFirstOrder_8 : decode cX4_placeInFirstOrder 8 = .ok (.iload 4, 2) := by decide +kernel
theorem dX4_placeInFirstOrder_10 : decode cX4_placeInFirstOrder 10 = .ok (.iload_n 1, 1) := by decide +kernel
theorem dX4_placeInFirstOrder_11 : decode cX4_placeInFirstOrder 11 = .ok (.if_icmp .gt 35, 3) := by decide +kernel
theorem dX4_placeInFirstOrder_14 : decode cX4_placeInFirstOrder 14 = .ok (.aload_n 0, 1) := by decide +kernel
theorem dX4_placeInFirstOrder_15 : decode cX4_placeInFirstOrder 15 = .ok (.aload_n 0, 1) := by decide +kernel
theorem dX4_placeInFirstOrder_16 : decode cX4_placeInFirstOrder 16 = .ok (.iload_n 2, 1) := by decide +kernel
theorem dX4_placeInFirstOrder_17 : decode cX4_placeInFirstOrder 17 = .ok (.invokevirtual 83, 3) := by decide +kernel
theorem dX4_placeInFirstOrder_20 : decode cX4_placeInFirstOrder 20 = .ok (.invokevirtual 77, 3) := by decide +kernel
theorem dX4_placeInFirstOrder_23 : decode cX4_placeInFirstOrder 23 = .ok (.istore_n 3, 1) := by decide +kernel
theorem dX4_placeInFirstOrder_24 : decode cX4_placeInFirstOrder 24 = .ok (.iload_n 2, 1) := by decide +kernel
theorem dX4_placeInFirstOrder_25 : decode cX4_placeInFirstOrder 25 = .ok (.iload_n 3, 1) := by decide +kernel
theorem dX4_placeInFirstOrder_26 : decode cX4_placeInFirstOrder 26 = .ok (.bipush (-9), 2) := by decide +kernel
theorem dX4_placeInFirstOrder_28 : decode cX4_placeInFirstOrder 28 = .ok (.if_icmp .ne 7, 3) := by decide +kernel
theorem dX4_placeInFirstOrder_31 : decode cX4_placeInFirstOrder 31 = .ok (.iconst 0, 1) := by decide +kernel
theorem dX4_placeInFirstOrder_32 : decode cX4_placeInFirstOrder 32 = .ok (.goto 6, 3) := by decide +kernel
theorem dX4_placeInFirstOrder_35 : decode cX4_placeInFirstOrder 35 = .ok (.iconst 1, 1) := by decide +kernel
theorem dX4_placeInFirstOrder_36 : decode cX4_placeInFirstOrder 36 = .ok (.iload_n 3, 1) := by decide +kernel
theorem dX4_placeInFirstOrder_37 : decode cX4_placeInFirstOrder 37 = .ok (.ishl, 1) := by decide +kernel
theorem dX4_placeInFirstOrder_38 : decode cX4_placeInFirstOrder 38 = .ok (.ior, 1) := by decide +kernel
theorem dX4_placeInFirstOrder_39 : decode cX4_placeInFirstOrder 39 = .ok (.istore_n 2, 1) := by decide +kernel
theorem dX4_placeInFirstOrder_40 : decode cX4_placeInFirstOrder 40 = .ok (.iinc 4 1, 3) := by decide +kernel
theorem dX4_placeInFirstOrder_43 : decode cX4_placeInFirstOrder 43 = .ok (.goto (-35), 3) := by decide +kernel
theorem dX4_placeInFirstOrder_46 : decode cX4_placeInFirstOrder 46 = .ok (.iload_n 3, 1) := by decide +kernel
theorem dX4_placeInFirstOrder_47 : decode cX4_placeInFirstOrder 47 = .ok (.ireturn, 1) := by decide +kernel
theorem dX4_fittingBehind_0 : decode cX4_fittingBehind 0 = .ok (.iconst 0, 1) := by decide +kernel
theorem dX4_fittingBehind_1 : decode cX4_fittingBehind 1 = .ok (.istore_n 2, 1) := by decide +kernel
theorem dX4_fittingBehind_2 : decode cX4_fittingBehind 2 = .ok (.iconst 0, 1) := by decide +kernel
theorem dX4_fittingBehind_3 : decode cX4_fittingBehind 3 = .ok (.istore_n 3, 1) := by decide +kernel
theorem dX4_fittingBehind_4 : decode cX4_fittingBehind 4 = .ok (.iload_n 3, 1) := by decide +kernel
theorem dX4_fittingBehind_5 : decode cX4_fittingBehind 5 = .ok (.aload_n 0, 1) := by decide +kernel
theorem dX4_fittingBehind_6 : decode cX4_fittingBehind 6 = .ok (.getfield 9, 3) := by decide +kernel
theorem dX4_fittingBehind_9 : decode cX4_fittingBehind 9 = .ok (.if_icmp .ge 36, 3) := by decide +kernel
theorem dX4_fittingBehind_12 : decode cX4_fittingBehind 12 = .ok (.iload_n 1, 1) := by decide +kernel
theorem dX4_fittingBehind_13 : decode cX4_fittingBehind 13 = .ok (.iload_n 3, 1) := by decide +kernel
theorem dX4_fittingBehind_14 : decode cX4_fittingBehind 14 = .ok (.invokestatic 67, 3) := by decide +kernel
theorem dX4_fittingBehind_17 : decode cX4_fittingBehind 17 = .ok (.ifCond .ne 22, 3) := by decide +kernel
theorem dX4_fittingBehind_20 : decode cX4_fittingBehind 20 = .ok (.aload_n 0, 1) := by decide +kernel
theorem dX4_fittingBehind_21 : decode cX4_fittingBehind 21 = .ok (.getfield 15, 3) := by decide +kernel
theorem dX4_fittingBehind_24 : decode cX4_fittingBehind 24 = .ok (.iload_n 3, 1) := by decide +kernel
theorem dX4_fittingBehind_25 : decode cX4_fittingBehind 25 = .ok (.iaload, 1) := by decide +kernel
theorem dX4_fittingBehind_26 : decode cX4_fittingBehind 26 = .ok (.iload_n 1, 1) := by decide +kernel
theorem dX4_fittingBehind_27 : decode cX4_fittingBehind 27 = .ok (.iconst (-1), 1) := by decide +kernel
theorem dX4_fittingBehind_28 : decode cX4_fittingBehind 28 = .ok (.ixor, 1) := by decide +kernel
theorem dX4_fittingBehind_29 : decode cX4_fittingBehind 29 = .ok (.iand, 1) := by decide +kernel
theorem dX4_fittingBehind_30 : decode cX4_fittingBehind 30 = .ok (.ifCond .ne 9, 3) := by decide +kernel
theorem dX4_fittingBehind_33 : decode cX4_fittingBehind 33 = .ok (.iload_n 2, 1) := by decide +kernel
theorem dX4_fittingBehind_34 : decode cX4_fittingBehind 34 = .ok (.iconst 1, 1) := by decide +kernel
theorem dX4_fittingBehind_35 : decode cX4_fittingBehind 35 = .ok (.iload_n 3, 1) := by decide +kernel
theorem dX4_fittingBehind_36 : decode cX4_fittingBehind 36 = .ok (.ishl, 1) := by decide +kernel
theorem dX4_fittingBehind_37 : decode cX4_fittingBehind 37 = .ok (.ior, 1) := by decide +kernel
theorem dX4_fittingBehind_38 : decode cX4_fittingBehind 38 = .ok (.istore_n 2, 1) := by decide +kernel
theorem dX4_fittingBehind_39 : decode cX4_fittingBehind 39 = .ok (.iinc 3 1, 3) := by decide +kernel
theorem dX4_fittingBehind_42 : decode cX4_fittingBehind 42 = .ok (.goto (-38), 3) := by decide +kernel
theorem dX4_fittingBehind_45 : decode cX4_fittingBehind 45 = .ok (.iload_n 2, 1) := by decide +kernel
theorem dX4_fittingBehind_46 : decode cX4_fittingBehind 46 = .ok (.ireturn, 1) := by decide +kernel
theorem dX4_longestChain_0 : decode cX4_longestChain 0 = .ok (.aload_n 0, 1) := by decide +kernel
theorem dX4_longestChain_1 : decode cX4_longestChain 1 = .ok (.invokevirtual 80, 3) := by decide +kernel
theorem dX4_longestChain_4 : decode cX4_longestChain 4 = .ok (.istore_n 1, 1) := by decide +kernel
theorem dX4_longestChain_5 : decode cX4_longestChain 5 = .ok (.iconst 0, 1) := by decide +kernel
theorem dX4_longestChain_6 : decode cX4_longestChain 6 = .ok (.istore_n 2, 1) := by decide +kernel
theorem dX4_longestChain_7 : decode cX4_longestChain 7 = .ok (.iconst 0, 1) := by decide +kernel
theorem dX4_longestChain_8 : decode cX4_longestChain 8 = .ok (.istore_n 3, 1) := by decide +kernel
theorem dX4_longestChain_9 : decode cX4_longestChain 9 = .ok (.iload_n 3, 1) := by decide +kernel
theorem dX4_longestChain_10 : decode cX4_longestChain 10 = .ok (.aload_n 0, 1) := by decide +kernel
theorem dX4_longestChain_11 : decode cX4_longestChain 11 = .ok (.getfield 9, 3) := by decide +kernel
theorem dX4_longestChain_14 : decode cX4_longestChain 14 = .ok (.if_icmp .ge 22, 3) := by decide +kernel
theorem dX4_longestChain_17 : decode cX4_longestChain 17 = .ok (.iload_n 1, 1) := by decide +kernel
theorem dX4_longestChain_18 : decode cX4_longestChain 18 = .ok (.ifCond .eq 18, 3) := by decide +kernel
theorem dX4_longestChain_21 : decode cX4_longestChain 21 = .ok (.iinc 2 1, 3) := by decide +kernel
theorem dX4_longestChain_24 : decode cX4_longestChain 24 = .ok (.aload_n 0, 1) := by decide +kernel
theorem dX4_longestChain_25 : decode cX4_longestChain 25 = .ok (.iload_n 1, 1) := by decide +kernel
theorem dX4_longestChain_26 : decode cX4_longestChain 26 = .ok (.invokevirtual 86, 3) := by decide +kernel
theorem dX4_longestChain_29 : decode cX4_longestChain 29 = .ok (.istore_n 1, 1) := by decide +kernel
theorem dX4_longestChain_30 : decode cX4_longestChain 30 = .ok (.iinc 3 1, 3) := by decide +kernel
theorem dX4_longestChain_33 : decode cX4_longestChain 33 = .ok (.goto (-24), 3) := by decide +kernel
theorem dX4_longestChain_36 : decode cX4_longestChain 36 = .ok (.iload_n 2, 1) := by decide +kernel
theorem dX4_longestChain_37 : decode cX4_longestChain 37 = .ok (.ireturn, 1) := by decide +kernel
theorem dX4_heavierThanAny_0 : decode cX4_heavierThanAny 0 = .ok (.iconst 0, 1) := by decide +kernel
theorem dX4_heavierThanAny_1 : decode cX4_heavierThanAny 1 = .ok (.istore_n 2, 1) := by decide +kernel
theorem dX4_heavierThanAny_2 : decode cX4_heavierThanAny 2 = .ok (.iconst 0, 1) := by decide +kernel
theorem dX4_heavierThanAny_3 : decode cX4_heavierThanAny 3 = .ok (.istore_n 3, 1) := by decide +kernel
theorem dX4_heavierThanAny_4 : decode cX4_heavierThanAny 4 = .ok (.iload_n 3, 1) := by decide +kernel
theorem dX4_heavierThanAny_5 : decode cX4_heavierThanAny 5 = .ok (.aload_n 0, 1) := by decide +kernel
theorem dX4_heavierThanAny_6 : decode cX4_heavierThanAny 6 = .ok (.getfield 9, 3) := by decide +kernel
theorem dX4_heavierThanAny_9 : decode cX4_heavierThanAny 9 = .ok (.if_icmp .ge 26, 3) := by decide +kernel
theorem dX4_heavierThanAny_12 : decode cX4_heavierThanAny 12 = .ok (.aload_n 0, 1) := by decide +kernel
theorem dX4_heavierThanAny_13 : decode cX4_heavierThanAny 13 = .ok (.getfield 15, 3) := by decide +kernel
theorem dX4_heavierThanAny_16 : decode cX4_heavierThanAny 16 = .ok (.iload_n 3, 1) := by decide +kernel
theorem dX4_heavierThanAny_17 : decode cX4_heavierThanAny 17 = .ok (.iaload, 1) := by decide +kernel
theorem dX4_heavierThanAny_18 : decode cX4_heavierThanAny 18 = .ok (.iload_n 1, 1) := by decide +kernel
theorem dX4_heavierThanAny_19 : decode cX4_heavierThanAny 19 = .ok (.iand, 1) := by decide +kernel
theorem dX4_heavierThanAny_20 : decode cX4_heavierThanAny 20 = .ok (.ifCond .eq 9, 3) := by decide +kernel
theorem dX4_heavierThanAny_23 : decode cX4_heavierThanAny 23 = .ok (.iload_n 2, 1) := by decide +kernel
theorem dX4_heavierThanAny_24 : decode cX4_heavierThanAny 24 = .ok (.iconst 1, 1) := by decide +kernel
theorem dX4_heavierThanAny_25 : decode cX4_heavierThanAny 25 = .ok (.iload_n 3, 1) := by decide +kernel
theorem dX4_heavierThanAny_26 : decode cX4_heavierThanAny 26 = .ok (.ishl, 1) := by decide +kernel
theorem dX4_heavierThanAny_27 : decode cX4_heavierThanAny 27 = .ok (.ior, 1) := by decide +kernel
theorem dX4_heavierThanAny_28 : decode cX4_heavierThanAny 28 = .ok (.istore_n 2, 1) := by decide +kernel
theorem dX4_heavierThanAny_29 : decode cX4_heavierThanAny 29 = .ok (.iinc 3 1, 3) := by decide +kernel
theorem dX4_heavierThanAny_32 : decode cX4_heavierThanAny 32 = .ok (.goto (-28), 3) := by decide +kernel
theorem dX4_heavierThanAny_35 : decode cX4_heavierThanAny 35 = .ok (.iload_n 2, 1) := by decide +kernel
theorem dX4_heavierThanAny_36 : decode cX4_heavierThanAny 36 = .ok (.ireturn, 1) := by decide +kernel
theorem dX4_greatestCrowd_0 : decode cX4_greatestCrowd 0 = .ok (.iconst 0, 1) := by decide +kernel
theorem dX4_greatestCrowd_1 : decode cX4_greatestCrowd 1 = .ok (.istore_n 1, 1) := by decide +kernel
theorem dX4_greatestCrowd_2 : decode cX4_greatestCrowd 2 = .ok (.iconst 1, 1) := by decide +kernel
theorem dX4_greatestCrowd_3 : decode cX4_greatestCrowd 3 = .ok (.istore_n 2, 1) := by decide +kernel
theorem dX4_greatestCrowd_4 : decode cX4_greatestCrowd 4 = .ok (.iload_n 2, 1) := by decide +kernel
theorem dX4_greatestCrowd_5 : decode cX4_greatestCrowd 5 = .ok (.aload_n 0, 1) := by decide +kernel
theorem dX4_greatestCrowd_6 : decode cX4_greatestCrowd 6 = .ok (.invokevirtual 80, 3) := by decide +kernel
theorem dX4_greatestCrowd_9 : decode cX4_greatestCrowd 9 = .ok (.if_icmp .gt 30, 3) := by decide +kernel
theorem dX4_greatestCrowd_12 : decode cX4_greatestCrowd 12 = .ok (.iload_n 2, 1) := by decide +kernel
theorem dX4_greatestCrowd_13 : decode cX4_greatestCrowd 13 = .ok (.invokestatic 56, 3) := by decide +kernel
theorem dX4_greatestCrowd_16 : decode cX4_greatestCrowd 16 = .ok (.iload_n 1, 1) := by decide +kernel
theorem dX4_greatestCrowd_17 : decode cX4_greatestCrowd 17 = .ok (.invokestatic 56, 3) := by decide +kernel
theorem dX4_greatestCrowd_20 : decode cX4_greatestCrowd 20 = .ok (.if_icmp .le 13, 3) := by decide +kernel
theorem dX4_greatestCrowd_23 : decode cX4_greatestCrowd 23 = .ok (.aload_n 0, 1) := by decide +kernel
theorem dX4_greatestCrowd_24 : decode cX4_greatestCrowd 24 = .ok (.iload_n 2, 1) := by decide +kernel
theorem dX4_greatestCrowd_25 : decode cX4_greatestCrowd 25 = .ok (.invokevirtual 89, 3) := by decide +kernel
theorem dX4_greatestCrowd_28 : decode cX4_greatestCrowd 28 = .ok (.ifCond .eq 5, 3) := by decide +kernel
theorem dX4_greatestCrowd_31 : decode cX4_greatestCrowd 31 = .ok (.iload_n 2, 1) := by decide +kernel
theorem dX4_greatestCrowd_32 : decode cX4_greatestCrowd 32 = .ok (.istore_n 1, 1) := by decide +kernel
theorem dX4_greatestCrowd_33 : decode cX4_greatestCrowd 33 = .ok (.iinc 2 1, 3) := by decide +kernel
theorem dX4_greatestCrowd_36 : decode cX4_greatestCrowd 36 = .ok (.goto (-32), 3) := by decide +kernel
theorem dX4_greatestCrowd_39 : decode cX4_greatestCrowd 39 = .ok (.iload_n 1, 1) := by decide +kernel
theorem dX4_greatestCrowd_40 : decode cX4_greatestCrowd 40 = .ok (.ireturn, 1) := by decide +kernel
theorem dX4_areAllAlike_0 : decode cX4_areAllAlike 0 = .ok (.iconst 0, 1) := by decide +kernel
theorem dX4_areAllAlike_1 : decode cX4_areAllAlike 1 = .ok (.istore_n 2, 1) := by decide +kernel
theorem dX4_areAllAlike_2 : decode cX4_areAllAlike 2 = .ok (.iload_n 2, 1) := by decide +kernel
theorem dX4_areAllAlike_3 : decode cX4_areAllAlike 3 = .ok (.aload_n 0, 1) := by decide +kernel
theorem dX4_areAllAlike_4 : decode cX4_areAllAlike 4 = .ok (.getfield 9, 3) := by decide +kernel
theorem dX4_areAllAlike_7 : decode cX4_areAllAlike 7 = .ok (.if_icmp .ge 32, 3) := by decide +kernel
theorem dX4_areAllAlike_10 : decode cX4_areAllAlike 10 = .ok (.iload_n 1, 1) := by decide +kernel
theorem dX4_areAllAlike_11 : decode cX4_areAllAlike 11 = .ok (.iload_n 2, 1) := by decide +kernel
theorem dX4_areAllAlike_12 : decode cX4_areAllAlike 12 = .ok (.invokestatic 67, 3) := by decide +kernel
theorem dX4_areAllAlike_15 : decode cX4_areAllAlike 15 = .ok (.ifCond .eq 18, 3) := by decide +kernel
theorem dX4_areAllAlike_18 : decode cX4_areAllAlike 18 = .ok (.iload_n 1, 1) := by decide +kernel
theorem dX4_areAllAlike_19 : decode cX4_areAllAlike 19 = .ok (.aload_n 0, 1) := by decide +kernel
theorem dX4_areAllAlike_20 : decode cX4_areAllAlike 20 = .ok (.getfield 19, 3) := by decide +kernel
theorem dX4_areAllAlike_23 : decode cX4_areAllAlike 23 = .ok (.iload_n 2, 1) := by decide +kernel
theorem dX4_areAllAlike_24 : decode cX4_areAllAlike 24 = .ok (.iaload, 1) := by decide +kernel
theorem dX4_areAllAlike_25 : decode cX4_areAllAlike 25 = .ok (.iconst (-1), 1) := by decide +kernel
theorem dX4_areAllAlike_26 : decode cX4_areAllAlike 26 = .ok (.ixor, 1) := by decide +kernel
theorem dX4_areAllAlike_27 : decode cX4_areAllAlike 27 = .ok (.iand, 1) := by decide +kernel
theorem dX4_areAllAlike_28 : decode cX4_areAllAlike 28 = .ok (.ifCond .eq 5, 3) := by decide +kernel
theorem dX4_areAllAlike_31 : decode cX4_areAllAlike 31 = .ok (.iconst 0, 1) := by decide +kernel
theorem dX4_areAllAlike_32 : decode cX4_areAllAlike 32 = .ok (.ireturn, 1) := by decide +kernel
theorem dX4_areAllAlike_33 : decode cX4_areAllAlike 33 = .ok (.iinc 2 1, 3) := by decide +kernel
theorem dX4_areAllAlike_36 : decode cX4_areAllAlike 36 = .ok (.goto (-34), 3) := by decide +kernel
theorem dX4_areAllAlike_39 : decode cX4_areAllAlike 39 = .ok (.iconst 1, 1) := by decide +kernel
theorem dX4_areAllAlike_40 : decode cX4_areAllAlike 40 = .ok (.ireturn, 1) := by decide +kernel
theorem dX4_countTold_0 : decode cX4_countTold 0 = .ok (.iconst 0, 1) := by decide +kernel
theorem dX4_countTold_1 : decode cX4_countTold 1 = .ok (.istore_n 1, 1) := by decide +kernel
theorem dX4_countTold_2 : decode cX4_countTold 2 = .ok (.iconst 0, 1) := by decide +kernel
theorem dX4_countTold_3 : decode cX4_countTold 3 = .ok (.istore_n 2, 1) := by decide +kernel
theorem dX4_countTold_4 : decode cX4_countTold 4 = .ok (.iload_n 2, 1) := by decide +kernel
theorem dX4_countTold_5 : decode cX4_countTold 5 = .ok (.aload_n 0, 1) := by decide +kernel
theorem dX4_countTold_6 : decode cX4_countTold 6 = .ok (.getfield 9, 3) := by decide +kernel
theorem dX4_countTold_9 : decode cX4_countTold 9 = .ok (.if_icmp .ge 21, 3) := by decide +kernel
theorem dX4_countTold_12 : decode cX4_countTold 12 = .ok (.iload_n 1, 1) := by decide +kernel
theorem dX4_countTold_13 : decode cX4_countTold 13 = .ok (.aload_n 0, 1) := by decide +kernel
theorem dX4_countTold_14 : decode cX4_countTold 14 = .ok (.getfield 15, 3) := by decide +kernel
theorem dX4_countTold_17 : decode cX4_countTold 17 = .ok (.iload_n 2, 1) := by decide +kernel
theorem dX4_countTold_18 : decode cX4_countTold 18 = .ok (.iaload, 1) := by decide +kernel
theorem dX4_countTold_19 : decode cX4_countTold 19 = .ok (.invokestatic 56, 3) := by decide +kernel
theorem dX4_countTold_22 : decode cX4_countTold 22 = .ok (.iadd, 1) := by decide +kernel
theorem dX4_countTold_23 : decode cX4_countTold 23 = .ok (.istore_n 1, 1) := by decide +kernel
theorem dX4_countTold_24 : decode cX4_countTold 24 = .ok (.iinc 2 1, 3) := by decide +kernel
theorem dX4_countTold_27 : decode cX4_countTold 27 = .ok (.goto (-23), 3) := by decide +kernel
theorem dX4_countTold_30 : decode cX4_countTold 30 = .ok (.iload_n 1, 1) := by decide +kernel
theorem dX4_countTold_31 : decode cX4_countTold 31 = .ok (.ireturn, 1) := by decide +kernel
theorem dX5_firstFault_0 : decode cX5_firstFault 0 = .ok (.iconst 0, 1) := by decide +kernel
theorem dX5_firstFault_1 : decode cX5_firstFault 1 = .ok (.istore 4, 2) := by decide +kernel
theorem dX5_firstFault_3 : decode cX5_firstFault 3 = .ok (.iload 4, 2) := by decide +kernel
theorem dX5_firstFault_5 : decode cX5_firstFault 5 = .ok (.iload_n 3, 1) := by decide +kernel
theorem dX5_firstFault_6 : decode cX5_firstFault 6 = .ok (.if_icmp .ge 23, 3) := by decide +kernel
theorem dX5_firstFault_9 : decode cX5_firstFault 9 = .ok (.aload_n 0, 1) := by decide +kernel
theorem dX5_firstFault_10 : decode cX5_firstFault 10 = .ok (.iload_n 1, 1) := by decide +kernel
theorem dX5_firstFault_11 : decode cX5_firstFault 11 = .ok (.iload_n 2, 1) := by decide +kernel
theorem dX5_firstFault_12 : decode cX5_firstFault 12 = .ok (.iload 4, 2) := by decide +kernel
theorem dX5_firstFault_14 : decode cX5_firstFault 14 = .ok (.invokestatic 9, 3) := by decide +kernel
theorem dX5_firstFault_17 : decode cX5_firstFault 17 = .ok (.ifCond .ne 6, 3) := by decide +kernel
theorem dX5_firstFault_20 : decode cX5_firstFault 20 = .ok (.iload 4, 2) := by decide +kernel
theorem dX5_firstFault_22 : decode cX5_firstFault 22 = .ok (.ireturn, 1) := by decide +kernel
theorem dX5_firstFault_23 : decode cX5_firstFault 23 = .ok (.iinc 4 1, 3) := by decide +kernel
theorem dX5_firstFault_26 : decode cX5_firstFault 26 = .ok (.goto (-23), 3) := by decide +kernel
theorem dX5_firstFault_29 : decode cX5_firstFault 29 = .ok (.iload_n 3, 1) := by decide +kernel
theorem dX5_firstFault_30 : decode cX5_firstFault 30 = .ok (.iconst 4, 1) := by decide +kernel
theorem dX5_firstFault_31 : decode cX5_firstFault 31 = .ok (.irem, 1) := by decide +kernel
theorem dX5_firstFault_32 : decode cX5_firstFault 32 = .ok (.iconst 3, 1) := by decide +kernel
theorem dX5_firstFault_33 : decode cX5_firstFault 33 = .ok (.if_icmp .ne 7, 3) := by decide +kernel
theorem dX5_firstFault_36 : decode cX5_firstFault 36 = .ok (.iconst 1, 1) := by decide +kernel
theorem dX5_firstFault_37 : decode cX5_firstFault 37 = .ok (.goto 4, 3) := by decide +kernel
theorem dX5_firstFault_40 : decode cX5_firstFault 40 = .ok (.iconst 0, 1) := by decide +kernel
theorem dX5_firstFault_41 : decode cX5_firstFault 41 = .ok (.istore 4, 2) := by decide +kernel
theorem dX5_firstFault_43 : decode cX5_firstFault 43 = .ok (.iload_n 3, 1) := by decide +kernel
theorem dX5_firstFault_44 : decode cX5_firstFault 44 = .ok (.bipush 7, 2) := by decide +kernel
theorem dX5_firstFault_46 : decode cX5_firstFault 46 = .ok (.if_icmp .lt 7, 3) := by decide +kernel
theorem dX5_firstFault_49 : decode cX5_firstFault 49 = .ok (.iconst 1, 1) := by decide +kernel
theorem dX5_firstFault_50 : decode cX5_firstFault 50 = .ok (.goto 4, 3) := by decide +kernel
theorem dX5_firstFault_53 : decode cX5_firstFault 53 = .ok (.iconst 0, 1) := by decide +kernel
theorem dX5_firstFault_54 : decode cX5_firstFault 54 = .ok (.istore 5, 2) := by decide +kernel
theorem dX5_firstFault_56 : decode cX5_firstFault 56 = .ok (.iload 4, 2) := by decide +kernel
theorem dX5_firstFault_58 : decode cX5_firstFault 58 = .ok (.ifCond .eq 12, 3) := by decide +kernel
theorem dX5_firstFault_61 : decode cX5_firstFault 61 = .ok (.iload 5, 2) := by decide +kernel
theorem dX5_firstFault_63 : decode cX5_firstFault 63 = .ok (.ifCond .eq 7, 3) := by decide +kernel
theorem dX5_firstFault_66 : decode cX5_firstFault 66 = .ok (.iconst (-1), 1) := by decide +kernel
theorem dX5_firstFault_67 : decode cX5_firstFault 67 = .ok (.goto 4, 3) := by decide +kernel
theorem dX5_firstFault_70 : decode cX5_firstFault 70 = .ok (.iload_n 3, 1) := by decide +kernel
theorem dX5_firstFault_71 : decode cX5_firstFault 71 = .ok (.ireturn, 1) := by decide +kernel
theorem dX5_goesOn_0 : decode cX5_goesOn 0 = .ok (.aload_n 0, 1) := by decide +kernel
theorem dX5_goesOn_1 : decode cX5_goesOn 1 = .ok (.iload_n 1, 1) := by decide +kernel
theorem dX5_goesOn_2 : decode cX5_goesOn 2 = .ok (.iload_n 2, 1) := by decide +kernel
theorem dX5_goesOn_3 : decode cX5_goesOn 3 = .ok (.iload_n 3, 1) := by decide +kernel
theorem dX5_goesOn_4 : decode cX5_goesOn 4 = .ok (.iadd, 1) := by decide +kernel
theorem dX5_goesOn_5 : decode cX5_goesOn 5 = .ok (.invokevirtual 15, 3) := by decide +kernel
theorem dX5_goesOn_8 : decode cX5_goesOn 8 = .ok (.istore 4, 2) := by decide +kernel
theorem dX5_goesOn_10 : decode cX5_goesOn 10 = .ok (.iload_n 3, 1) := by decide +kernel
theorem dX5_goesOn_11 : decode cX5_goesOn 11 = .ok (.iconst 4, 1) := by decide +kernel
theorem dX5_goesOn_12 : decode cX5_goesOn 12 = .ok (.irem, 1) := by decide +kernel
theorem dX5_goesOn_13 : decode cX5_goesOn 13 = .ok (.istore 5, 2) := by decide +kernel
theorem dX5_goesOn_15 : decode cX5_goesOn 15 = .ok (.iload 5, 2) := by decide +kernel
theorem dX5_goesOn_17 : decode cX5_goesOn 17 = .ok (.iconst 3, 1) := by decide +kernel
theorem dX5_goesOn_18 : decode cX5_goesOn 18 = .ok (.if_icmp .ne 22, 3) := by decide +kernel
theorem dX5_goesOn_21 : decode cX5_goesOn 21 = .ok (.iload 4, 2) := by decide +kernel
theorem dX5_goesOn_23 : decode cX5_goesOn 23 = .ok (.bipush 59, 2) := by decide +kernel
theorem dX5_goesOn_25 : decode cX5_goesOn 25 = .ok (.if_icmp .ne 13, 3) := by decide +kernel
theorem dX5_goesOn_28 : decode cX5_goesOn 28 = .ok (.iload_n 3, 1) := by decide +kernel
theorem dX5_goesOn_29 : decode cX5_goesOn 29 = .ok (.bipush 31, 2) := by decide +kernel
theorem dX5_goesOn_31 : decode cX5_goesOn 31 = .ok (.if_icmp .ge 7, 3) := by decide +kernel
theorem dX5_goesOn_34 : decode cX5_goesOn 34 = .ok (.iconst 1, 1) := by decide +kernel
theorem dX5_goesOn_35 : decode cX5_goesOn 35 = .ok (.goto 4, 3) := by decide +kernel
theorem dX5_goesOn_38 : decode cX5_goesOn 38 = .ok (.iconst 0, 1) := by decide +kernel
theorem dX5_goesOn_39 : decode cX5_goesOn 39 = .ok (.ireturn, 1) := by decide +kernel
theorem dX5_goesOn_40 : decode cX5_goesOn 40 = .ok (.iload 4, 2) := by decide +kernel
theorem dX5_goesOn_42 : decode cX5_goesOn 42 = .ok (.bipush 48, 2) := by decide +kernel
theorem dX5_goesOn_44 : decode cX5_goesOn 44 = .ok (.if_icmp .lt 10, 3) := by decide +kernel
theorem dX5_goesOn_47 : decode cX5_goesOn 47 = .ok (.iload 4, 2) := by decide +kernel
theorem dX5_goesOn_49 : decode cX5_goesOn 49 = .ok (.bipush 57, 2) := by decide +kernel
theorem dX5_goesOn_51 : decode cX5_goesOn 51 = .ok (.if_icmp .le 5, 3) := by decide +kernel
theorem dX5_goesOn_54 : decode cX5_goesOn 54 = .ok (.iconst 0, 1) := by decide +kernel
theorem dX5_goesOn_55 : decode cX5_goesOn 55 = .ok (.ireturn, 1) := by decide +kernel
theorem dX5_goesOn_56 : decode cX5_goesOn 56 = .ok (.iload 5, 2) := by decide +kernel
theorem dX5_goesOn_58 : decode cX5_goesOn 58 = .ok (.iconst 2, 1) := by decide +kernel
theorem dX5_goesOn_59 : decode cX5_goesOn 59 = .ok (.if_icmp .ne 16, 3) := by decide +kernel
theorem dX5_goesOn_62 : decode cX5_goesOn 62 = .ok (.aload_n 0, 1) := by decide +kernel
theorem dX5_goesOn_63 : decode cX5_goesOn 63 = .ok (.iload_n 1, 1) := by decide +kernel
theorem dX5_goesOn_64 : decode cX5_goesOn 64 = .ok (.iload_n 2, 1) := by decide +kernel
theorem dX5_goesOn_65 : decode cX5_goesOn 65 = .ok (.iload_n 3, 1) := by decide +kernel
theorem dX5_goesOn_66 : decode cX5_goesOn 66 = .ok (.iadd, 1) := by decide +kernel
theorem dX5_goesOn_67 : decode cX5_goesOn 67 = .ok (.iconst 2, 1) := by decide +kernel
theorem dX5_goesOn_68 : decode cX5_goesOn 68 = .ok (.isub, 1) := by decide +kernel
theorem dX5_goesOn_69 : decode cX5_goesOn 69 = .ok (.invokestatic 21, 3) := by decide +kernel
theorem dX5_goesOn_72 : decode cX5_goesOn 72 = .ok (.ifCond .eq 7, 3) := by decide +kernel
theorem dX5_goesOn_75 : decode cX5_goesOn 75 = .ok (.iconst 1, 1) := by decide +kernel
theorem dX5_goesOn_76 : decode cX5_goesOn 76 = .ok (.goto 4, 3) := by decide +kernel
theorem dX5_goesOn_79 : decode cX5_goesOn 79 = .ok (.iconst 0, 1) := by decide +kernel
theorem dX5_goesOn_80 : decode cX5_goesOn 80 = .ok (.ireturn, 1) := by decide +kernel
theorem dX5_read_0 : decode cX5_read 0 = .ok (.aload 4, 2) := by decide +kernel
theorem dX5_read_2 : decode cX5_read 2 = .ok (.invokevirtual 25, 3) := by decide +kernel
theorem dX5_read_5 : decode cX5_read 5 = .ok (.iconst 0, 1) := by decide +kernel
theorem dX5_read_6 : decode cX5_read 6 = .ok (.istore 5, 2) := by decide +kernel
theorem dX5_read_8 : decode cX5_read 8 = .ok (.iload 5, 2) := by decide +kernel
theorem dX5_read_10 : decode cX5_read 10 = .ok (.iload_n 3, 1) := by decide +kernel
theorem dX5_read_11 : decode cX5_read 11 = .ok (.if_icmp .ge 23, 3) := by decide +kernel
theorem dX5_read_14 : decode cX5_read 14 = .ok (.aload 4, 2) := by decide +kernel
theorem dX5_read_16 : decode cX5_read 16 = .ok (.aload_n 0, 1) := by decide +kernel
theorem dX5_read_17 : decode cX5_read 17 = .ok (.iload_n 1, 1) := by decide +kernel
theorem dX5_read_18 : decode cX5_read 18 = .ok (.iload_n 2, 1) := by decide +kernel
theorem dX5_read_19 : decode cX5_read 19 = .ok (.iload 5, 2) := by decide +kernel
theorem dX5_read_21 : decode cX5_read 21 = .ok (.iadd, 1) := by decide +kernel
theorem dX5_read_22 : decode cX5_read 22 = .ok (.invokestatic 21, 3) := by decide +kernel
theorem dX5_read_25 : decode cX5_read 25 = .ok (.invokevirtual 30, 3) := by decide +kernel
theorem dX5_read_28 : decode cX5_read 28 = .ok (.iinc 5 4, 3) := by decide +kernel
theorem dX5_read_31 : decode cX5_read 31 = .ok (.goto (-23), 3) := by decide +kernel
theorem dX5_read_34 : decode cX5_read 34 = .ok (.return_, 1) := by decide +kernel
theorem dX5_number_0 : decode cX5_number 0 = .ok (.iconst 0, 1) := by decide +kernel
theorem dX5_number_1 : decode cX5_number 1 = .ok (.istore_n 3, 1) := by decide +kernel
theorem dX5_number_2 : decode cX5_number 2 = .ok (.iconst 0, 1) := by decide +kernel
theorem dX5_number_3 : decode cX5_number 3 = .ok (.istore 4, 2) := by decide +kernel
theorem dX5_number_5 : decode cX5_number 5 = .ok (.iload 4, 2) := by decide +kernel
theorem dX5_number_7 : decode cX5_number 7 = .ok (.iconst 3, 1) := by decide +kernel
theorem dX5_number_8 : decode cX5_number 8 = .ok (.if_icmp .ge 27, 3) := by decide +kernel
theorem dX5_number_11 : decode cX5_number 11 = .ok (.bipush 10, 2) := by decide +kernel
theorem dX5_number_13 : decode cX5_number 13 = .ok (.iload_n 3, 1) := by decide +kernel
theorem dX5_number_14 : decode cX5_number 14 = .ok (.imul, 1) := by decide +kernel
theorem dX5_number_15 : decode cX5_number 15 = .ok (.aload_n 0, 1) := by decide +kernel
theorem dX5_number_16 : decode cX5_number 16 = .ok (.iload_n 1, 1) := by decide +kernel
theorem dX5_number_17 : decode cX5_number 17 = .ok (.iload_n 2, 1) := by decide +kernel
theorem dX5_number_18 : decode cX5_number 18 = .ok (.iload 4, 2) := by decide +kernel
theorem dX5_number_20 : decode cX5_number 20 = .ok (.iadd, 1) := by decide +kernel
theorem dX5_number_21 : decode cX5_number 21 = .ok (.invokevirtual 15, 3) := by decide +kernel
theorem dX5_number_24 : decode cX5_number 24 = .ok (.iadd, 1) := by decide +kernel
theorem dX5_number_25 : decode cX5_number 25 = .ok (.bipush 48, 2) := by decide +kernel
theorem dX5_number_27 : decode cX5_number 27 = .ok (.isub, 1) := by decide +kernel
theorem dX5_number_28 : decode cX5_number 28 = .ok (.istore_n 3, 1) := by decide +kernel
theorem dX5_number_29 : decode cX5_number 29 = .ok (.iinc 4 1, 3) := by decide +kernel
theorem dX5_number_32 : decode cX5_number 32 = .ok (.goto (-27), 3) := by decide +kernel
theorem dX5_number_35 : decode cX5_number 35 = .ok (.iload_n 3, 1) := by decide +kernel
theorem dX5_number_36 : decode cX5_number 36 = .ok (.ireturn, 1) := by decide +kernel
theorem dX6_init_0 : decode cX6_init 0 = .ok (.aload_n 0, 1) := by decide +kernel
theorem dX6_init_1 : decode cX6_init 1 = .ok (.invokespecial 3, 3) := by decide +kernel
theorem dX6_init_4 : decode cX6_init 4 = .ok (.aload_n 0, 1) := by decide +kernel
theorem dX6_init_5 : decode cX6_init 5 = .ok (.iconst 0, 1) := by decide +kernel
theorem dX6_init_6 : decode cX6_init 6 = .ok (.putfield 9, 3) := by decide +kernel
theorem dX6_init_9 : decode cX6_init 9 = .ok (.aload_n 0, 1) := by decide +kernel
theorem dX6_init_10 : decode cX6_init 10 = .ok (.bipush 8, 2) := by decide +kernel
theorem dX6_init_12 : decode cX6_init 12 = .ok (.newarray .int, 2) := by decide +kernel
theorem dX6_init_14 : decode cX6_init 14 = .ok (.putfield 15, 3) := by decide +kernel
theorem dX6_init_17 : decode cX6_init 17 = .ok (.return_, 1) := by decide +kernel
theorem dX6_count_0 : decode cX6_count 0 = .ok (.aload_n 0, 1) := by decide +kernel
theorem dX6_count_1 : decode cX6_count 1 = .ok (.getfield 9, 3) := by decide +kernel
theorem dX6_count_4 : decode cX6_count 4 = .ok (.ireturn, 1) := by decide +kernel
theorem dX6_has_0 : decode cX6_has 0 = .ok (.iload_n 1, 1) := by decide +kernel
theorem dX6_has_1 : decode cX6_has 1 = .ok (.ifCond .lt 24, 3) := by decide +kernel
theorem dX6_has_4 : decode cX6_has 4 = .ok (.iload_n 1, 1) := by decide +kernel
theorem dX6_has_5 : decode cX6_has 5 = .ok (.aload_n 0, 1) := by decide +kernel
theorem dX6_has_6 : decode cX6_has 6 = .ok (.getfield 9, 3) := by decide +kernel
theorem dX6_has_9 : decode cX6_has 9 = .ok (.if_icmp .ge 16, 3) := by decide +kernel
theorem dX6_has_12 : decode cX6_has 12 = .ok (.iload_n 1, 1) := by decide +kernel
theorem dX6_has_13 : decode cX6_has 13 = .ok (.aload_n 0, 1) := by decide +kernel
theorem dX6_has_14 : decode cX6_has 14 = .ok (.getfield 15, 3) := by decide +kernel
theorem dX6_has_17 : decode cX6_has 17 = .ok (.arraylength, 1) := by decide +kernel
theorem dX6_has_18 : decode cX6_has 18 = .ok (.if_icmp .ge 7, 3) := by decide +kernel
theorem dX6_has_21 : decode cX6_has 21 = .ok (.iconst 1, 1) := by decide +kernel
theorem dX6_has_22 : decode cX6_has 22 = .ok (.goto 4, 3) := by decide +kernel
theorem dX6_has_25 : decode cX6_has 25 = .ok (.iconst 0, 1) := by decide +kernel
theorem dX6_has_26 : decode cX6_has 26 = .ok (.ireturn, 1) := by decide +kernel
theorem dX6_weightOf_0 : decode cX6_weightOf 0 = .ok (.aload_n 0, 1) := by decide +kernel
theorem dX6_weightOf_1 : decode cX6_weightOf 1 = .ok (.iload_n 1, 1) := by decide +kernel
theorem dX6_weightOf_2 : decode cX6_weightOf 2 = .ok (.invokevirtual 19, 3) := by decide +kernel
theorem dX6_weightOf_5 : decode cX6_weightOf 5 = .ok (.ifCond .eq 12, 3) := by decide +kernel
theorem dX6_weightOf_8 : decode cX6_weightOf 8 = .ok (.aload_n 0, 1) := by decide +kernel
theorem dX6_weightOf_9 : decode cX6_weightOf 9 = .ok (.getfield 15, 3) := by decide +kernel
theorem dX6_weightOf_12 : decode cX6_weightOf 12 = .ok (.iload_n 1, 1) := by decide +kernel
theorem dX6_weightOf_13 : decode cX6_weightOf 13 = .ok (.iaload, 1) := by decide +kernel
theorem dX6_weightOf_14 : decode cX6_weightOf 14 = .ok (.goto 4, 3) := by decide +kernel
theorem dX6_weightOf_17 : decode cX6_weightOf 17 = .ok (.iconst 0, 1) := by decide +kernel
theorem dX6_weightOf_18 : decode cX6_weightOf 18 = .ok (.ireturn, 1) := by decide +kernel
theorem dX6_setWeight_0 : decode cX6_setWeight 0 = .ok (.aload_n 0, 1) := by decide +kernel
theorem dX6_setWeight_1 : decode cX6_setWeight 1 = .ok (.iload_n 1, 1) := by decide +kernel
theorem dX6_setWeight_2 : decode cX6_setWeight 2 = .ok (.invokevirtual 19, 3) := by decide +kernel
theorem dX6_setWeight_5 : decode cX6_setWeight 5 = .ok (.ifCond .eq 10, 3) := by decide +kernel
theorem dX6_setWeight_8 : decode cX6_setWeight 8 = .ok (.aload_n 0, 1) := by decide +kernel
theorem dX6_setWeight_9 : decode cX6_setWeight 9 = .ok (.getfield 15, 3) := by decide +kernel
theorem dX6_setWeight_12 : decode cX6_setWeight 12 = .ok (.iload_n 1, 1) := by decide +kernel
theorem dX6_setWeight_13 : decode cX6_setWeight 13 = .ok (.iload_n 2, 1) := by decide +kernel
theorem dX6_setWeight_14 : decode cX6_setWeight 14 = .ok (.iastore, 1) := by decide +kernel
theorem dX6_setWeight_15 : decode cX6_setWeight 15 = .ok (.return_, 1) := by decide +kernel
theorem dX6_clear_0 : decode cX6_clear 0 = .ok (.aload_n 0, 1) := by decide +kernel
theorem dX6_clear_1 : decode cX6_clear 1 = .ok (.iconst 0, 1) := by decide +kernel
theorem dX6_clear_2 : decode cX6_clear 2 = .ok (.putfield 9, 3) := by decide +kernel
theorem dX6_clear_5 : decode cX6_clear 5 = .ok (.return_, 1) := by decide +kernel
theorem dX6_add_0 : decode cX6_add 0 = .ok (.aload_n 0, 1) := by decide +kernel
theorem dX6_add_1 : decode cX6_add 1 = .ok (.getfield 9, 3) := by decide +kernel
theorem dX6_add_4 : decode cX6_add 4 = .ok (.aload_n 0, 1) := by decide +kernel
theorem dX6_add_5 : decode cX6_add 5 = .ok (.getfield 15, 3) := by decide +kernel
theorem dX6_add_8 : decode cX6_add 8 = .ok (.arraylength, 1) := by decide +kernel
theorem dX6_add_9 : decode cX6_add 9 = .ok (.if_icmp .ge 23, 3) := by decide +kernel
theorem dX6_add_12 : decode cX6_add 12 = .ok (.aload_n 0, 1) := by decide +kernel
theorem dX6_add_13 : decode cX6_add 13 = .ok (.getfield 15, 3) := by decide +kernel
theorem dX6_add_16 : decode cX6_add 16 = .ok (.aload_n 0, 1) := by decide +kernel
theorem dX6_add_17 : decode cX6_add 17 = .ok (.getfield 9, 3) := by decide +kernel
theorem dX6_add_20 : decode cX6_add 20 = .ok (.iload_n 1, 1) := by decide +kernel
theorem dX6_add_21 : decode cX6_add 21 = .ok (.iastore, 1) := by decide +kernel
theorem dX6_add_22 : decode cX6_add 22 = .ok (.aload_n 0, 1) := by decide +kernel
theorem dX6_add_23 : decode cX6_add 23 = .ok (.dup, 1) := by decide +kernel
theorem dX6_add_24 : decode cX6_add 24 = .ok (.getfield 9, 3) := by decide +kernel
theorem dX6_add_27 : decode cX6_add 27 = .ok (.iconst 1, 1) := by decide +kernel
theorem dX6_add_28 : decode cX6_add 28 = .ok (.iadd, 1) := by decide +kernel
theorem dX6_add_29 : decode cX6_add 29 = .ok (.putfield 9, 3) := by decide +kernel
theorem dX6_add_32 : decode cX6_add 32 = .ok (.return_, 1) := by decide +kernel
theorem dX6_weightTogether_0 : decode cX6_weightTogether 0 = .ok (.iconst 0, 1) := by decide +kernel
theorem dX6_weightTogether_1 : decode cX6_weightTogether 1 = .ok (.istore_n 2, 1) := by decide +kernel
theorem dX6_weightTogether_2 : decode cX6_weightTogether 2 = .ok (.iconst 0, 1) := by decide +kernel
theorem dX6_weightTogether_3 : decode cX6_weightTogether 3 = .ok (.istore_n 3, 1) := by decide +kernel
theorem dX6_weightTogether_4 : decode cX6_weightTogether 4 = .ok (.iload_n 3, 1) := by decide +kernel
theorem dX6_weightTogether_5 : decode cX6_weightTogether 5 = .ok (.aload_n 0, 1) := by decide +kernel
theorem dX6_weightTogether_6 : decode cX6_weightTogether 6 = .ok (.getfield 9, 3) := by decide +kernel
theorem dX6_weightTogether_9 : decode cX6_weightTogether 9 = .ok (.if_icmp .ge 29, 3) := by decide +kernel
theorem dX6_weightTogether_12 : decode cX6_weightTogether 12 = .ok (.iload_n 2, 1) := by decide +kernel
theorem dX6_weightTogether_13 : decode cX6_weightTogether 13 = .ok (.iload_n 1, 1) := by decide +kernel
theorem dX6_weightTogether_14 : decode cX6_weightTogether 14 = .ok (.iload_n 3, 1) := by decide +kernel
theorem dX6_weightTogether_15 : decode cX6_weightTogether 15 = .ok (.invokestatic 23, 3) := by decide +kernel
theorem dX6_weightTogether_18 : decode cX6_weightTogether 18 = .ok (.ifCond .eq 11, 3) := by decide +kernel
theorem dX6_weightTogether_21 : decode cX6_weightTogether 21 = .ok (.aload_n 0, 1) := by decide +kernel
theorem dX6_weightTogether_22 : decode cX6_weightTogether 22 = .ok (.iload_n 3, 1) := by decide +kernel
theorem dX6_weightTogether_23 : decode cX6_weightTogether 23 = .ok (.invokevirtual 27, 3) := by decide +kernel
theorem dX6_weightTogether_26 : decode cX6_weightTogether 26 = .ok (.goto 4, 3) := by decide +kernel
theorem dX6_weightTogether_29 : decode cX6_weightTogether 29 = .ok (.iconst 0, 1) := by decide +kernel
theorem dX6_weightTogether_30 : decode cX6_weightTogether 30 = .ok (.iadd, 1) := by decide +kernel
theorem dX6_weightTogether_31 : decode cX6_weightTogether 31 = .ok (.istore_n 2, 1) := by decide +kernel
theorem dX6_weightTogether_32 : decode cX6_weightTogether 32 = .ok (.iinc 3 1, 3) := by decide +kernel
theorem dX6_weightTogether_35 : decode cX6_weightTogether 35 = .ok (.goto (-31), 3) := by decide +kernel
theorem dX6_weightTogether_38 : decode cX6_weightTogether 38 = .ok (.iload_n 2, 1) := by decide +kernel
theorem dX6_weightTogether_39 : decode cX6_weightTogether 39 = .ok (.ireturn, 1) := by decide +kernel
theorem dX6_greatestOf_0 : decode cX6_greatestOf 0 = .ok (.iconst 0, 1) := by decide +kernel
theorem dX6_greatestOf_1 : decode cX6_greatestOf 1 = .ok (.istore_n 2, 1) := by decide +kernel
theorem dX6_greatestOf_2 : decode cX6_greatestOf 2 = .ok (.iconst 0, 1) := by decide +kernel
theorem dX6_greatestOf_3 : decode cX6_greatestOf 3 = .ok (.istore_n 3, 1) := by decide +kernel
theorem dX6_greatestOf_4 : decode cX6_greatestOf 4 = .ok (.iload_n 3, 1) := by decide +kernel
theorem dX6_greatestOf_5 : decode cX6_greatestOf 5 = .ok (.aload_n 0, 1) := by decide +kernel
theorem dX6_greatestOf_6 : decode cX6_greatestOf 6 = .ok (.getfield 9, 3) := by decide +kernel
theorem dX6_greatestOf_9 : decode cX6_greatestOf 9 = .ok (.if_icmp .ge 31, 3) := by decide +kernel
theorem dX6_greatestOf_12 : decode cX6_greatestOf 12 = .ok (.iload_n 1, 1) := by decide +kernel
theorem dX6_greatestOf_13 : decode cX6_greatestOf 13 = .ok (.iload_n 3, 1) := by decide +kernel
theorem dX6_greatestOf_14 : decode cX6_greatestOf 14 = .ok (.invokestatic 23, 3) := by decide +kernel
theorem dX6_greatestOf_17 : decode cX6_greatestOf 17 = .ok (.ifCond .eq 15, 3) := by decide +kernel
theorem dX6_greatestOf_20 : decode cX6_greatestOf 20 = .ok (.iload_n 2, 1) := by decide +kernel
theorem dX6_greatestOf_21 : decode cX6_greatestOf 21 = .ok (.aload_n 0, 1) := by decide +kernel
theorem dX6_greatestOf_22 : decode cX6_greatestOf 22 = .ok (.iload_n 3, 1) := by decide +kernel
theorem dX6_greatestOf_23 : decode cX6_greatestOf 23 = .ok (.invokevirtual 27, 3) := by decide +kernel
theorem dX6_greatestOf_26 : decode cX6_greatestOf 26 = .ok (.invokestatic 31, 3) := by decide +kernel
theorem dX6_greatestOf_29 : decode cX6_greatestOf 29 = .ok (.goto 4, 3) := by decide +kernel
theorem dX6_greatestOf_32 : decode cX6_greatestOf 32 = .ok (.iload_n 2, 1) := by decide +kernel
theorem dX6_greatestOf_33 : decode cX6_greatestOf 33 = .ok (.istore_n 2, 1) := by decide +kernel
theorem dX6_greatestOf_34 : decode cX6_greatestOf 34 = .ok (.iinc 3 1, 3) := by decide +kernel
theorem dX6_greatestOf_37 : decode cX6_greatestOf 37 = .ok (.goto (-33), 3) := by decide +kernel
theorem dX6_greatestOf_40 : decode cX6_greatestOf 40 = .ok (.iload_n 2, 1) := by decide +kernel
theorem dX6_greatestOf_41 : decode cX6_greatestOf 41 = .ok (.ireturn, 1) := by decide +kernel
theorem dX7_init_0 : decode cX7_init 0 = .ok (.aload_n 0, 1) := by decide +kernel
theorem dX7_init_1 : decode cX7_init 1 = .ok (.invokespecial 5, 3) := by decide +kernel
theorem dX7_init_4 : decode cX7_init 4 = .ok (.aload_n 0, 1) := by decide +kernel
theorem dX7_init_5 : decode cX7_init 5 = .ok (.new 11, 3) := by decide +kernel
theorem dX7_init_8 : decode cX7_init 8 = .ok (.dup, 1) := by decide +kernel
theorem dX7_init_9 : decode cX7_init 9 = .ok (.invokespecial 13, 3) := by decide +kernel
theorem dX7_init_12 : decode cX7_init 12 = .ok (.putfield 14, 3) := by decide +kernel
theorem dX7_init_15 : decode cX7_init 15 = .ok (.aload_n 0, 1) := by decide +kernel
theorem dX7_init_16 : decode cX7_init 16 = .ok (.new 18, 3) := by decide +kernel
theorem dX7_init_19 : decode cX7_init 19 = .ok (.dup, 1) := by decide +kernel
theorem dX7_init_20 : decode cX7_init 20 = .ok (.invokespecial 20, 3) := by decide +kernel
theorem dX7_init_23 : decode cX7_init 23 = .ok (.putfield 21, 3) := by decide +kernel
theorem dX7_init_26 : decode cX7_init 26 = .ok (.aload_n 0, 1) := by decide +kernel
theorem dX7_init_27 : decode cX7_init 27 = .ok (.new 25, 3) := by decide +kernel
theorem dX7_init_30 : decode cX7_init 30 = .ok (.dup, 1) := by decide +kernel
theorem dX7_init_31 : decode cX7_init 31 = .ok (.invokespecial 27, 3) := by decide +kernel
theorem dX7_init_34 : decode cX7_init 34 = .ok (.putfield 28, 3) := by decide +kernel
theorem dX7_init_37 : decode cX7_init 37 = .ok (.aload_n 0, 1) := by decide +kernel
theorem dX7_init_38 : decode cX7_init 38 = .ok (.new 32, 3) := by decide +kernel
theorem dX7_init_41 : decode cX7_init 41 = .ok (.dup, 1) := by decide +kernel
theorem dX7_init_42 : decode cX7_init 42 = .ok (.invokespecial 34, 3) := by decide +kernel
theorem dX7_init_45 : decode cX7_init 45 = .ok (.putfield 35, 3) := by decide +kernel
theorem dX7_init_48 : decode cX7_init 48 = .ok (.aload_n 0, 1) := by decide +kernel
theorem dX7_init_49 : decode cX7_init 49 = .ok (.new 39, 3) := by decide +kernel
theorem dX7_init_52 : decode cX7_init 52 = .ok (.dup, 1) := by decide +kernel
theorem dX7_init_53 : decode cX7_init 53 = .ok (.invokespecial 41, 3) := by decide +kernel
theorem dX7_init_56 : decode cX7_init 56 = .ok (.putfield 42, 3) := by decide +kernel
theorem dX7_init_59 : decode cX7_init 59 = .ok (.aload_n 0, 1) := by decide +kernel
theorem dX7_init_60 : decode cX7_init 60 = .ok (.new 39, 3) := by decide +kernel
theorem dX7_init_63 : decode cX7_init 63 = .ok (.dup, 1) := by decide +kernel
theorem dX7_init_64 : decode cX7_init 64 = .ok (.invokespecial 41, 3) := by decide +kernel
theorem dX7_init_67 : decode cX7_init 67 = .ok (.putfield 46, 3) := by decide +kernel
theorem dX7_init_70 : decode cX7_init 70 = .ok (.aload_n 0, 1) := by decide +kernel
theorem dX7_init_71 : decode cX7_init 71 = .ok (.new 49, 3) := by decide +kernel
theorem dX7_init_74 : decode cX7_init 74 = .ok (.dup, 1) := by decide +kernel
theorem dX7_init_75 : decode cX7_init 75 = .ok (.invokespecial 51, 3) := by decide +kernel
theorem dX7_init_78 : decode cX7_init 78 = .ok (.putfield 52, 3) := by decide +kernel
theorem dX7_init_81 : decode cX7_init 81 = .ok (.aload_n 0, 1) := by decide +kernel
theorem dX7_init_82 : decode cX7_init 82 = .ok (.iconst 0, 1) := by decide +kernel
theorem dX7_init_83 : decode cX7_init 83 = .ok (.putfield 56, 3) := by decide +kernel
theorem dX7_init_86 : decode cX7_init 86 = .ok (.aload_n 0, 1) := by decide +kernel
theorem dX7_init_87 : decode cX7_init 87 = .ok (.iconst 0, 1) := by decide +kernel
theorem dX7_init_88 : decode cX7_init 88 = .ok (.putfield 60, 3) := by decide +kernel
theorem dX7_init_91 : decode cX7_init 91 = .ok (.return_, 1) := by decide +kernel
theorem dX7_market_0 : decode cX7_market 0 = .ok (.aload_n 0, 1) := by decide +kernel
theorem dX7_market_1 : decode cX7_market 1 = .ok (.iconst 0, 1) := by decide +kernel
theorem dX7_market_2 : decode cX7_market 2 = .ok (.putfield 60, 3) := by decide +kernel
theorem dX7_market_5 : decode cX7_market 5 = .ok (.aload_n 0, 1) := by decide +kernel
theorem dX7_market_6 : decode cX7_market 6 = .ok (.getfield 35, 3) := by decide +kernel
theorem dX7_market_9 : decode cX7_market 9 = .ok (.iload_n 1, 1) := by decide +kernel
theorem dX7_market_10 : decode cX7_market 10 = .ok (.invokevirtual 63, 3) := by decide +kernel
theorem dX7_market_13 : decode cX7_market 13 = .ok (.ifCond .ne 5, 3) := by decide +kernel
theorem dX7_market_16 : decode cX7_market 16 = .ok (.iconst (-1), 1) := by decide +kernel
theorem dX7_market_17 : decode cX7_market 17 = .ok (.ireturn, 1) := by decide +kernel
theorem dX7_market_18 : decode cX7_market 18 = .ok (.iload_n 2, 1) := by decide +kernel
theorem dX7_market_19 : decode cX7_market 19 = .ok (.invokestatic 67, 3) := by decide +kernel
theorem dX7_market_22 : decode cX7_market 22 = .ok (.ifCond .ne 6, 3) := by decide +kernel
theorem dX7_market_25 : decode cX7_market 25 = .ok (.bipush (-2), 2) := by decide +kernel
theorem dX7_market_27 : decode cX7_market 27 = .ok (.ireturn, 1) := by decide +kernel
theorem dX7_market_28 : decode cX7_market 28 = .ok (.aload_n 0, 1) := by decide +kernel
theorem dX7_market_29 : decode cX7_market 29 = .ok (.getfield 35, 3) := by decide +kernel
theorem dX7_market_32 : decode cX7_market 32 = .ok (.iload_n 1, 1) := by decide +kernel
theorem dX7_market_33 : decode cX7_market 33 = .ok (.iload_n 2, 1) := by decide +kernel
theorem dX7_market_34 : decode cX7_market 34 = .ok (.iload_n 3, 1) := by decide +kernel
theorem dX7_market_35 : decode cX7_market 35 = .ok (.iload 4, 2) := by decide +kernel
theorem dX7_market_37 : decode cX7_market 37 = .ok (.invokevirtual 70, 3) := by decide +kernel
theorem dX7_market_40 : decode cX7_market 40 = .ok (.istore 5, 2) := by decide +kernel
theorem dX7_market_42 : decode cX7_market 42 = .ok (.iload 5, 2) := by decide +kernel
theorem dX7_market_44 : decode cX7_market 44 = .ok (.ifCond .eq 10, 3) := by decide +kernel
theorem dX7_market_47 : decode cX7_market 47 = .ok (.aload_n 0, 1) := by decide +kernel
theorem dX7_market_48 : decode cX7_market 48 = .ok (.iload 5, 2) := by decide +kernel
theorem dX7_market_50 : decode cX7_market 50 = .ok (.invokevirtual 74, 3) := by decide +kernel
theorem dX7_market_53 : decode cX7_market 53 = .ok (.ireturn, 1) := by decide +kernel
theorem dX7_market_54 : decode cX7_market 54 = .ok (.aload_n 0, 1) := by decide +kernel
theorem dX7_market_55 : decode cX7_market 55 = .ok (.getfield 35, 3) := by decide +kernel
theorem dX7_market_58 : decode cX7_market 58 = .ok (.iload_n 1, 1) := by decide +kernel
theorem dX7_market_59 : decode cX7_market 59 = .ok (.iload_n 3, 1) := by decide +kernel
theorem dX7_market_60 : decode cX7_market 60 = .ok (.iload 4, 2) := by decide +kernel
theorem dX7_market_62 : decode cX7_market 62 = .ok (.invokestatic 78, 3) := by decide +kernel
theorem dX7_market_65 : decode cX7_market 65 = .ok (.istore 6, 2) := by decide +kernel
theorem dX7_market_67 : decode cX7_market 67 = .ok (.iload 6, 2) := by decide +kernel
theorem dX7_market_69 : decode cX7_market 69 = .ok (.iconst (-1), 1) := by decide +kernel
theorem dX7_market_70 : decode cX7_market 70 = .ok (.if_icmp .eq 9, 3) := by decide +kernel
theorem dX7_market_73 : decode cX7_market 73 = .ok (.bipush (-100), 2) := by decide +kernel
theorem dX7_market_75 : decode cX7_market 75 = .ok (.iload 6, 2) := by decide +kernel
theorem dX7_market_77 : decode cX7_market 77 = .ok (.isub, 1) := by decide +kernel
theorem dX7_market_78 : decode cX7_market 78 = .ok (.ireturn, 1) := by decide +kernel
theorem dX7_market_79 : decode cX7_market 79 = .ok (.aload_n 0, 1) := by decide +kernel
theorem dX7_market_80 : decode cX7_market 80 = .ok (.getfield 21, 3) := by decide +kernel
theorem dX7_market_83 : decode cX7_market 83 = .ok (.invokevirtual 84, 3) := by decide +kernel
theorem dX7_market_86 : decode cX7_market 86 = .ok (.aload_n 0, 1) := by decide +kernel
theorem dX7_market_87 : decode cX7_market 87 = .ok (.getfield 28, 3) := by decide +kernel
theorem dX7_market_90 : decode cX7_market 90 = .ok (.invokevirtual 87, 3) := by decide +kernel
theorem dX7_market_93 : decode cX7_market 93 = .ok (.aload_n 0, 1) := by decide +kernel
theorem dX7_market_94 : decode cX7_market 94 = .ok (.getfield 35, 3) := by decide +kernel
theorem dX7_market_97 : decode cX7_market 97 = .ok (.iload_n 1, 1) := by decide +kernel
theorem dX7_market_98 : decode cX7_market 98 = .ok (.iload_n 3, 1) := by decide +kernel
theorem dX7_market_99 : decode cX7_market 99 = .ok (.iload 4, 2) := by decide +kernel
theorem dX7_market_101 : decode cX7_market 101 = .ok (.aload_n 0, 1) := by decide +kernel
theorem dX7_market_102 : decode cX7_market 102 = .ok (.getfield 14, 3) := by decide +kernel
theorem dX7_market_105 : decode cX7_market 105 = .ok (.invokestatic 88, 3) := by decide +kernel
theorem dX7_market_108 : decode cX7_market 108 = .ok (.aload_n 0, 1) := by decide +kernel
theorem dX7_market_109 : decode cX7_market 109 = .ok (.getfield 14, 3) := by decide +kernel
theorem dX7_market_112 : decode cX7_market 112 = .ok (.invokevirtual 92, 3) := by decide +kernel
theorem dX7_market_115 : decode cX7_market 115 = .ok (.ireturn, 1) := by decide +kernel
theorem dX7_weight_0 : decode cX7_weight 0 = .ok (.aload_n 0, 1) := by decide +kernel
theorem dX7_weight_1 : decode cX7_weight 1 = .ok (.getfield 14, 3) := by decide +kernel
theorem dX7_weight_4 : decode cX7_weight 4 = .ok (.iload_n 1, 1) := by decide +kernel
theorem dX7_weight_5 : decode cX7_weight 5 = .ok (.invokevirtual 96, 3) := by decide +kernel
theorem dX7_weight_8 : decode cX7_weight 8 = .ok (.ifCond .eq 14, 3) := by decide +kernel
theorem dX7_weight_11 : decode cX7_weight 11 = .ok (.aload_n 0, 1) := by decide +kernel
theorem dX7_weight_12 : decode cX7_weight 12 = .ok (.getfield 14, 3) := by decide +kernel
theorem dX7_weight_15 : decode cX7_weight 15 = .ok (.iload_n 1, 1) := by decide +kernel
theorem dX7_weight_16 : decode cX7_weight 16 = .ok (.invokevirtual 97, 3) := by decide +kernel
theorem dX7_weight_19 : decode cX7_weight 19 = .ok (.goto 4, 3) := by decide +kernel
theorem dX7_weight_22 : decode cX7_weight 22 = .ok (.iconst (-1), 1) := by decide +kernel
theorem dX7_weight_23 : decode cX7_weight 23 = .ok (.ireturn, 1) := by decide +kernel
theorem dX7_weigh_0 : decode cX7_weigh 0 = .ok (.aload_n 0, 1) := by decide +kernel
theorem dX7_weigh_1 : decode cX7_weigh 1 = .ok (.getfield 14, 3) := by decide +kernel
theorem dX7_weigh_4 : decode cX7_weigh 4 = .ok (.iload_n 1, 1) := by decide +kernel
theorem dX7_weigh_5 : decode cX7_weigh 5 = .ok (.invokevirtual 96, 3) := by decide +kernel
theorem dX7_weigh_8 : decode cX7_weigh 8 = .ok (.ifCond .ne 5, 3) := by decide +kernel
theorem dX7_weigh_11 : decode cX7_weigh 11 = .ok (.iconst (-1), 1) := by decide +kernel
theorem dX7_weigh_12 : decode cX7_weigh 12 = .ok (.ireturn, 1) := by decide +kernel
theorem dX7_weigh_13 : decode cX7_weigh 13 = .ok (.iload_n 2, 1) := by decide +kernel
theorem dX7_weigh_14 : decode cX7_weigh 14 = .ok (.iconst 1, 1) := by decide +kernel
theorem dX7_weigh_15 : decode cX7_weigh 15 = .ok (.if_icmp .lt 10, 3) := by decide +kernel
theorem dX7_weigh_18 : decode cX7_weigh 18 = .ok (.iload_n 2, 1) := by decide +kernel
theorem dX7_weigh_19 : decode cX7_weigh 19 = .ok (.sipush 999, 3) := by decide +kernel
theorem dX7_weigh_22 : decode cX7_weigh 22 = .ok (.if_icmp .le 6, 3) := by decide +kernel
theorem dX7_weigh_25 : decode cX7_weigh 25 = .ok (.bipush (-2), 2) := by decide +kernel
theorem dX7_weigh_27 : decode cX7_weigh 27 = .ok (.ireturn, 1) := by decide +kernel
theorem dX7_weigh_28 : decode cX7_weigh 28 = .ok (.aload_n 0, 1) := by decide +kernel
theorem dX7_weigh_29 : decode cX7_weigh 29 = .ok (.getfield 14, 3) := by decide +kernel
theorem dX7_weigh_32 : decode cX7_weigh 32 = .ok (.iload_n 1, 1) := by decide +kernel
theorem dX7_weigh_33 : decode cX7_weigh 33 = .ok (.invokevirtual 97, 3) := by decide +kernel
theorem dX7_weigh_36 : decode cX7_weigh 36 = .ok (.istore_n 3, 1) := by decide +kernel
theorem dX7_weigh_37 : decode cX7_weigh 37 = .ok (.aload_n 0, 1) := by decide +kernel
theorem dX7_weigh_38 : decode cX7_weigh 38 = .ok (.getfield 14, 3) := by decide +kernel
theorem dX7_weigh_41 : decode cX7_weigh 41 = .ok (.iload_n 1, 1) := by decide +kernel
theorem dX7_weigh_42 : decode cX7_weigh 42 = .ok (.iload_n 2, 1) := by decide +kernel
theorem dX7_weigh_43 : decode cX7_weigh 43 = .ok (.invokevirtual 100, 3) := by decide +kernel
theorem dX7_weigh_46 : decode cX7_weigh 46 = .ok (.iload_n 3, 1) := by decide +kernel
theorem dX7_weigh_47 : decode cX7_weigh 47 = .ok (.ireturn, 1) := by decide +kernel
theorem dX7_hand_0 : decode cX7_hand 0 = .ok (.iload_n 1, 1) := by decide +kernel
theorem dX7_hand_1 : decode cX7_hand 1 = .ok (.invokestatic 104, 3) := by decide +kernel
theorem dX7_hand_4 : decode cX7_hand 4 = .ok (.ifCond .eq 14, 3) := by decide +kernel
theorem dX7_hand_7 : decode cX7_hand 7 = .ok (.iload_n 2, 1) := by decide +kernel
theorem dX7_hand_8 : decode cX7_hand 8 = .ok (.iconst 1, 1) := by decide +kernel
theorem dX7_hand_9 : decode cX7_hand 9 = .ok (.if_icmp .lt 9, 3) := by decide +kernel
theorem dX7_hand_12 : decode cX7_hand 12 = .ok (.iload_n 2, 1) := by decide +kernel
theorem dX7_hand_13 : decode cX7_hand 13 = .ok (.bipush 20, 2) := by decide +kernel
theorem dX7_hand_15 : decode cX7_hand 15 = .ok (.if_icmp .le 6, 3) := by decide +kernel
theorem dX7_hand_18 : decode cX7_hand 18 = .ok (.bipush (-2), 2) := by decide +kernel
theorem dX7_hand_20 : decode cX7_hand 20 = .ok (.ireturn, 1) := by decide +kernel
theorem dX7_hand_21 : decode cX7_hand 21 = .ok (.aload_n 0, 1) := by decide +kernel
theorem dX7_hand_22 : decode cX7_hand 22 = .ok (.getfield 14, 3) := by decide +kernel
theorem dX7_hand_25 : decode cX7_hand 25 = .ok (.invokevirtual 92, 3) := by decide +kernel
theorem dX7_hand_28 : decode cX7_hand 28 = .ok (.ifCond .ne 6, 3) := by decide +kernel
theorem dX7_hand_31 : decode cX7_hand 31 = .ok (.bipush (-3), 2) := by decide +kernel
theorem dX7_hand_33 : decode cX7_hand 33 = .ok (.ireturn, 1) := by decide +kernel
theorem dX7_hand_34 : decode cX7_hand 34 = .ok (.aload_n 0, 1) := by decide +kernel
theorem dX7_hand_35 : decode cX7_hand 35 = .ok (.getfield 21, 3) := by decide +kernel
theorem dX7_hand_38 : decode cX7_hand 38 = .ok (.iload_n 1, 1) := by decide +kernel
theorem dX7_hand_39 : decode cX7_hand 39 = .ok (.iload_n 2, 1) := by decide +kernel
theorem dX7_hand_40 : decode cX7_hand 40 = .ok (.invokevirtual 107, 3) := by decide +kernel
theorem dX7_hand_43 : decode cX7_hand 43 = .ok (.ireturn, 1) := by decide +kernel
theorem dX7_ofHand_0 : decode cX7_ofHand 0 = .ok (.aload_n 0, 1) := by decide +kernel
theorem dX7_ofHand_1 : decode cX7_ofHand 1 = .ok (.getfield 21, 3) := by decide +kernel
theorem dX7_ofHand_4 : decode cX7_ofHand 4 = .ok (.iload_n 1, 1) := by decide +kernel
theorem dX7_ofHand_5 : decode cX7_ofHand 5 = .ok (.invokevirtual 111, 3) := by decide +kernel
theorem dX7_ofHand_8 : decode cX7_ofHand 8 = .ok (.ifCond .ne 5, 3) := by decide +kernel
theorem dX7_ofHand_11 : decode cX7_ofHand 11 = .ok (.iconst (-1), 1) := by decide +kernel
theorem dX7_ofHand_12 : decode cX7_ofHand 12 = .ok (.ireturn, 1) := by decide +kernel
theorem dX7_ofHand_13 : decode cX7_ofHand 13 = .ok (.iload_n 2, 1) := by decide +kernel
theorem dX7_ofHand_14 : decode cX7_ofHand 14 = .ok (.invokestatic 112, 3) := by decide +kernel
theorem dX7_ofHand_17 : decode cX7_ofHand 17 = .ok (.ifCond .ne 6, 3) := by decide +kernel
theorem dX7_ofHand_20 : decode cX7_ofHand 20 = .ok (.bipush (-2), 2) := by decide +kernel
theorem dX7_ofHand_22 : decode cX7_ofHand 22 = .ok (.ireturn, 1) := by decide +kernel
theorem dX7_ofHand_23 : decode cX7_ofHand 23 = .ok (.iload_n 2, 1) := by decide +kernel
theorem dX7_ofHand_24 : decode cX7_ofHand 24 = .ok (.ifCond .ne 14, 3) := by decide +kernel
theorem dX7_ofHand_27 : decode cX7_ofHand 27 = .ok (.aload_n 0, 1) := by decide +kernel
theorem dX7_ofHand_28 : decode cX7_ofHand 28 = .ok (.getfield 21, 3) := by decide +kernel
theorem dX7_ofHand_31 : decode cX7_ofHand 31 = .ok (.iload_n 1, 1) := by decide +kernel
theorem dX7_ofHand_32 : decode cX7_ofHand 32 = .ok (.invokevirtual 115, 3) := by decide +kernel
theorem dX7_ofHand_35 : decode cX7_ofHand 35 = .ok (.goto 11, 3) := by decide +kernel
theorem dX7_ofHand_38 : decode cX7_ofHand 38 = .ok (.aload_n 0, 1) := by decide +kernel
theorem dX7_ofHand_39 : decode cX7_ofHand 39 = .ok (.getfield 21, 3) := by decide +kernel
theorem dX7_ofHand_42 : decode cX7_ofHand 42 = .ok (.iload_n 1, 1) := by decide +kernel
theorem dX7_ofHand_43 : decode cX7_ofHand 43 = .ok (.invokevirtual 118, 3) := by decide +kernel
theorem dX7_ofHand_46 : decode cX7_ofHand 46 = .ok (.ireturn, 1) := by decide +kernel
theorem dX7_tells_0 : decode cX7_tells 0 = .ok (.aload_n 0, 1) := by decide +kernel
theorem dX7_tells_1 : decode cX7_tells 1 = .ok (.getfield 21, 3) := by decide +kernel
theorem dX7_tells_4 : decode cX7_tells 4 = .ok (.iload_n 1, 1) := by decide +kernel
theorem dX7_tells_5 : decode cX7_tells 5 = .ok (.invokevirtual 111, 3) := by decide +kernel
theorem dX7_tells_8 : decode cX7_tells 8 = .ok (.ifCond .ne 5, 3) := by decide +kernel
theorem dX7_tells_11 : decode cX7_tells 11 = .ok (.iconst (-1), 1) := by decide +kernel
theorem dX7_tells_12 : decode cX7_tells 12 = .ok (.ireturn, 1) := by decide +kernel
theorem dX7_tells_13 : decode cX7_tells 13 = .ok (.iload_n 2, 1) := by decide +kernel
theorem dX7_tells_14 : decode cX7_tells 14 = .ok (.iconst 1, 1) := by decide +kernel
theorem dX7_tells_15 : decode cX7_tells 15 = .ok (.if_icmp .lt 22, 3) := by decide +kernel
theorem dX7_tells_18 : decode cX7_tells 18 = .ok (.iload_n 2, 1) := by decide +kernel
theorem dX7_tells_19 : decode cX7_tells 19 = .ok (.sipush 9999, 3) := by decide +kernel
theorem dX7_tells_22 : decode cX7_tells 22 = .ok (.if_icmp .gt 15, 3) := by decide +kernel
theorem dX7_tells_25 : decode cX7_tells 25 = .ok (.iload_n 3, 1) := by decide +kernel
theorem dX7_tells_26 : decode cX7_tells 26 = .ok (.iconst 1, 1) := by decide +kernel
theorem dX7_tells_27 : decode cX7_tells 27 = .ok (.if_icmp .lt 10, 3) := by decide +kernel
theorem dX7_tells_30 : decode cX7_tells 30 = .ok (.iload_n 3, 1) := by decide +kernel
theorem dX7_tells_31 : decode cX7_tells 31 = .ok (.sipush 9999, 3) := by decide +kernel
theorem dX7_tells_34 : decode cX7_tells 34 = .ok (.if_icmp .le 6, 3) := by decide +kernel
theorem dX7_tells_37 : decode cX7_tells 37 = .ok (.bipush (-2), 2) := by decide +kernel
theorem dX7_tells_39 : decode cX7_tells 39 = .ok (.ireturn, 1) := by decide +kernel
theorem dX7_tells_40 : decode cX7_tells 40 = .ok (.aload_n 0, 1) := by decide +kernel
theorem dX7_tells_41 : decode cX7_tells 41 = .ok (.getfield 21, 3) := by decide +kernel
theorem dX7_tells_44 : decode cX7_tells 44 = .ok (.iload_n 1, 1) := by decide +kernel
theorem dX7_tells_45 : decode cX7_tells 45 = .ok (.iload_n 2, 1) := by decide +kernel
theorem dX7_tells_46 : decode cX7_tells 46 = .ok (.iload_n 3, 1) := by decide +kernel
theorem dX7_tells_47 : decode cX7_tells 47 = .ok (.invokevirtual 121, 3) := by decide +kernel
theorem dX7_tells_50 : decode cX7_tells 50 = .ok (.ifCond .eq 7, 3) := by decide +kernel
theorem dX7_tells_53 : decode cX7_tells 53 = .ok (.iconst 1, 1) := by decide +kernel
theorem dX7_tells_54 : decode cX7_tells 54 = .ok (.goto 4, 3) := by decide +kernel
theorem dX7_tells_57 : decode cX7_tells 57 = .ok (.iconst 0, 1) := by decide +kernel
theorem dX7_tells_58 : decode cX7_tells 58 = .ok (.ireturn, 1) := by decide +kernel
theorem dX7_alike_0 : decode cX7_alike 0 = .ok (.aload_n 0, 1) := by decide +kernel
theorem dX7_alike_1 : decode cX7_alike 1 = .ok (.getfield 21, 3) := by decide +kernel
theorem dX7_alike_4 : decode cX7_alike 4 = .ok (.iload_n 1, 1) := by decide +kernel
theorem dX7_alike_5 : decode cX7_alike 5 = .ok (.invokevirtual 111, 3) := by decide +kernel
theorem dX7_alike_8 : decode cX7_alike 8 = .ok (.ifCond .eq 14, 3) := by decide +kernel
theorem dX7_alike_11 : decode cX7_alike 11 = .ok (.aload_n 0, 1) := by decide +kernel
theorem dX7_alike_12 : decode cX7_alike 12 = .ok (.getfield 14, 3) := by decide +kernel
theorem dX7_alike_15 : decode cX7_alike 15 = .ok (.iload_n 2, 1) := by decide +kernel
theorem dX7_alike_16 : decode cX7_alike 16 = .ok (.invokevirtual 96, 3) := by decide +kernel
theorem dX7_alike_19 : decode cX7_alike 19 = .ok (.ifCond .ne 5, 3) := by decide +kernel
theorem dX7_alike_22 : decode cX7_alike 22 = .ok (.iconst (-1), 1) := by decide +kernel
theorem dX7_alike_23 : decode cX7_alike 23 = .ok (.ireturn, 1) := by decide +kernel
theorem dX7_alike_24 : decode cX7_alike 24 = .ok (.aload_n 0, 1) := by decide +kernel
theorem dX7_alike_25 : decode cX7_alike 25 = .ok (.getfield 42, 3) := by decide +kernel
theorem dX7_alike_28 : decode cX7_alike 28 = .ok (.aload_n 0, 1) := by decide +kernel
theorem dX7_alike_29 : decode cX7_alike 29 = .ok (.getfield 21, 3) := by decide +kernel
theorem dX7_alike_32 : decode cX7_alike 32 = .ok (.iload_n 1, 1) := by decide +kernel
theorem dX7_alike_33 : decode cX7_alike 33 = .ok (.aload_n 0, 1) := by decide +kernel
theorem dX7_alike_34 : decode cX7_alike 34 = .ok (.getfield 14, 3) := by decide +kernel
theorem dX7_alike_37 : decode cX7_alike 37 = .ok (.invokevirtual 125, 3) := by decide +kernel
theorem dX7_alike_40 : decode cX7_alike 40 = .ok (.aload_n 0, 1) := by decide +kernel
theorem dX7_alike_41 : decode cX7_alike 41 = .ok (.getfield 42, 3) := by decide +kernel
theorem dX7_alike_44 : decode cX7_alike 44 = .ok (.iload_n 2, 1) := by decide +kernel
theorem dX7_alike_45 : decode cX7_alike 45 = .ok (.invokevirtual 129, 3) := by decide +kernel
theorem dX7_alike_48 : decode cX7_alike 48 = .ok (.ireturn, 1) := by decide +kernel
theorem dX7_finer_0 : decode cX7_finer 0 = .ok (.aload_n 0, 1) := by decide +kernel
theorem dX7_finer_1 : decode cX7_finer 1 = .ok (.getfield 21, 3) := by decide +kernel
theorem dX7_finer_4 : decode cX7_finer 4 = .ok (.iload_n 1, 1) := by decide +kernel
theorem dX7_finer_5 : decode cX7_finer 5 = .ok (.invokevirtual 111, 3) := by decide +kernel
theorem dX7_finer_8 : decode cX7_finer 8 = .ok (.ifCond .eq 14, 3) := by decide +kernel
theorem dX7_finer_11 : decode cX7_finer 11 = .ok (.aload_n 0, 1) := by decide +kernel
theorem dX7_finer_12 : decode cX7_finer 12 = .ok (.getfield 21, 3) := by decide +kernel
theorem dX7_finer_15 : decode cX7_finer 15 = .ok (.iload_n 2, 1) := by decide +kernel
theorem dX7_finer_16 : decode cX7_finer 16 = .ok (.invokevirtual 111, 3) := by decide +kernel
theorem dX7_finer_19 : decode cX7_finer 19 = .ok (.ifCond .ne 5, 3) := by decide +kernel
theorem dX7_finer_22 : decode cX7_finer 22 = .ok (.iconst (-1), 1) := by decide +kernel
theorem dX7_finer_23 : decode cX7_finer 23 = .ok (.ireturn, 1) := by decide +kernel
theorem dX7_finer_24 : decode cX7_finer 24 = .ok (.aload_n 0, 1) := by decide +kernel
theorem dX7_finer_25 : decode cX7_finer 25 = .ok (.getfield 42, 3) := by decide +kernel
theorem dX7_finer_28 : decode cX7_finer 28 = .ok (.aload_n 0, 1) := by decide +kernel
theorem dX7_finer_29 : decode cX7_finer 29 = .ok (.getfield 21, 3) := by decide +kernel
theorem dX7_finer_32 : decode cX7_finer 32 = .ok (.iload_n 1, 1) := by decide +kernel
theorem dX7_finer_33 : decode cX7_finer 33 = .ok (.aload_n 0, 1) := by decide +kernel
theorem dX7_finer_34 : decode cX7_finer 34 = .ok (.getfield 14, 3) := by decide +kernel
theorem dX7_finer_37 : decode cX7_finer 37 = .ok (.invokevirtual 125, 3) := by decide +kernel
theorem dX7_finer_40 : decode cX7_finer 40 = .ok (.aload_n 0, 1) := by decide +kernel
theorem dX7_finer_41 : decode cX7_finer 41 = .ok (.getfield 46, 3) := by decide +kernel
theorem dX7_finer_44 : decode cX7_finer 44 = .ok (.aload_n 0, 1) := by decide +kernel
theorem dX7_finer_45 : decode cX7_finer 45 = .ok (.getfield 21, 3) := by decide +kernel
theorem dX7_finer_48 : decode cX7_finer 48 = .ok (.iload_n 2, 1) := by decide +kernel
theorem dX7_finer_49 : decode cX7_finer 49 = .ok (.aload_n 0, 1) := by decide +kernel
theorem dX7_finer_50 : decode cX7_finer 50 = .ok (.getfield 14, 3) := by decide +kernel
theorem dX7_finer_53 : decode cX7_finer 53 = .ok (.invokevirtual 125, 3) := by decide +kernel
theorem dX7_finer_56 : decode cX7_finer 56 = .ok (.aload_n 0, 1) := by decide +kernel
theorem dX7_finer_57 : decode cX7_finer 57 = .ok (.getfield 42, 3) := by decide +kernel
theorem dX7_finer_60 : decode cX7_finer 60 = .ok (.aload_n 0, 1) := by decide +kernel
theorem dX7_finer_61 : decode cX7_finer 61 = .ok (.getfield 46, 3) := by decide +kernel
theorem dX7_finer_64 : decode cX7_finer 64 = .ok (.invokevirtual 132, 3) := by decide +kernel
theorem dX7_finer_67 : decode cX7_finer 67 = .ok (.ifCond .eq 7, 3) := by decide +kernel
theorem dX7_finer_70 : decode cX7_finer 70 = .ok (.iconst 1, 1) := by decide +kernel
theorem dX7_finer_71 : decode cX7_finer 71 = .ok (.goto 4, 3) := by decide +kernel
theorem dX7_finer_74 : decode cX7_finer 74 = .ok (.iconst 0, 1) := by decide +kernel
theorem dX7_finer_75 : decode cX7_finer 75 = .ok (.ireturn, 1) := by decide +kernel
theorem dX7_way_0 : decode cX7_way 0 = .ok (.aload_n 0, 1) := by decide +kernel
theorem dX7_way_1 : decode cX7_way 1 = .ok (.getfield 21, 3) := by decide +kernel
theorem dX7_way_4 : decode cX7_way 4 = .ok (.iload_n 1, 1) := by decide +kernel
theorem dX7_way_5 : decode cX7_way 5 = .ok (.invokevirtual 111, 3) := by decide +kernel
theorem dX7_way_8 : decode cX7_way 8 = .ok (.ifCond .eq 31, 3) := by decide +kernel
theorem dX7_way_11 : decode cX7_way 11 = .ok (.aload_n 0, 1) := by decide +kernel
theorem dX7_way_12 : decode cX7_way 12 = .ok (.getfield 14, 3) := by decide +kernel
theorem dX7_way_15 : decode cX7_way 15 = .ok (.iload_n 2, 1) := by decide +kernel
theorem dX7_way_16 : decode cX7_way 16 = .ok (.invokevirtual 96, 3) := by decide +kernel
theorem dX7_way_19 : decode cX7_way 19 = .ok (.ifCond .eq 20, 3) := by decide +kernel
theorem dX7_way_22 : decode cX7_way 22 = .ok (.aload_n 0, 1) := by decide +kernel
theorem dX7_way_23 : decode cX7_way 23 = .ok (.getfield 14, 3) := by decide +kernel
theorem dX7_way_26 : decode cX7_way 26 = .ok (.iload_n 3, 1) := by decide +kernel
theorem dX7_way_27 : decode cX7_way 27 = .ok (.invokevirtual 96, 3) := by decide +kernel
theorem dX7_way_30 : decode cX7_way 30 = .ok (.ifCond .eq 9, 3) := by decide +kernel
theorem dX7_way_33 : decode cX7_way 33 = .ok (.iload 4, 2) := by decide +kernel
theorem dX7_way_35 : decode cX7_way 35 = .ok (.iconst (-1), 1) := by decide +kernel
theorem dX7_way_36 : decode cX7_way 36 = .ok (.if_icmp .ge 5, 3) := by decide +kernel
theorem dX7_way_39 : decode cX7_way 39 = .ok (.iconst (-1), 1) := by decide +kernel
theorem dX7_way_40 : decode cX7_way 40 = .ok (.ireturn, 1) := by decide +kernel
theorem dX7_way_41 : decode cX7_way 41 = .ok (.aload_n 0, 1) := by decide +kernel
theorem dX7_way_42 : decode cX7_way 42 = .ok (.getfield 42, 3) := by decide +kernel
theorem dX7_way_45 : decode cX7_way 45 = .ok (.aload_n 0, 1) := by decide +kernel
theorem dX7_way_46 : decode cX7_way 46 = .ok (.getfield 21, 3) := by decide +kernel
theorem dX7_way_49 : decode cX7_way 49 = .ok (.iload_n 1, 1) := by decide +kernel
theorem dX7_way_50 : decode cX7_way 50 = .ok (.aload_n 0, 1) := by decide +kernel
theorem dX7_way_51 : decode cX7_way 51 = .ok (.getfield 14, 3) := by decide +kernel
theorem dX7_way_54 : decode cX7_way 54 = .ok (.invokevirtual 125, 3) := by decide +kernel
theorem dX7_way_57 : decode cX7_way 57 = .ok (.iload 4, 2) := by decide +kernel
theorem dX7_way_59 : decode cX7_way 59 = .ok (.iconst (-1), 1) := by decide +kernel
theorem dX7_way_60 : decode cX7_way 60 = .ok (.if_icmp .ne 15, 3) := by decide +kernel
theorem dX7_way_63 : decode cX7_way 63 = .ok (.aload_n 0, 1) := by decide +kernel
theorem dX7_way_64 : decode cX7_way 64 = .ok (.getfield 42, 3) := by decide +kernel
theorem dX7_way_67 : decode cX7_way 67 = .ok (.iload_n 2, 1) := by decide +kernel
theorem dX7_way_68 : decode cX7_way 68 = .ok (.iload_n 3, 1) := by decide +kernel
theorem dX7_way_69 : decode cX7_way 69 = .ok (.invokevirtual 136, 3) := by decide +kernel
theorem dX7_way_72 : decode cX7_way 72 = .ok (.goto 14, 3) := by decide +kernel
theorem dX7_way_75 : decode cX7_way 75 = .ok (.aload_n 0, 1) := by decide +kernel
theorem dX7_way_76 : decode cX7_way 76 = .ok (.getfield 42, 3) := by decide +kernel
theorem dX7_way_79 : decode cX7_way 79 = .ok (.iload_n 2, 1) := by decide +kernel
theorem dX7_way_80 : decode cX7_way 80 = .ok (.iload_n 3, 1) := by decide +kernel
theorem dX7_way_81 : decode cX7_way 81 = .ok (.iload 4, 2) := by decide +kernel
theorem dX7_way_83 : decode cX7_way 83 = .ok (.invokevirtual 139, 3) := by decide +kernel
theorem dX7_way_86 : decode cX7_way 86 = .ok (.ireturn, 1) := by decide +kernel
theorem dX7_noon_0 : decode cX7_noon 0 = .ok (.aload_n 0, 1) := by decide +kernel
theorem dX7_noon_1 : decode cX7_noon 1 = .ok (.getfield 21, 3) := by decide +kernel
theorem dX7_noon_4 : decode cX7_noon 4 = .ok (.iload_n 1, 1) := by decide +kernel
theorem dX7_noon_5 : decode cX7_noon 5 = .ok (.invokevirtual 111, 3) := by decide +kernel
theorem dX7_noon_8 : decode cX7_noon 8 = .ok (.ifCond .eq 14, 3) := by decide +kernel
theorem dX7_noon_11 : decode cX7_noon 11 = .ok (.aload_n 0, 1) := by decide +kernel
theorem dX7_noon_12 : decode cX7_noon 12 = .ok (.getfield 14, 3) := by decide +kernel
theorem dX7_noon_15 : decode cX7_noon 15 = .ok (.iload_n 2, 1) := by decide +kernel
theorem dX7_noon_16 : decode cX7_noon 16 = .ok (.invokevirtual 96, 3) := by decide +kernel
theorem dX7_noon_19 : decode cX7_noon 19 = .ok (.ifCond .ne 5, 3) := by decide +kernel
theorem dX7_noon_22 : decode cX7_noon 22 = .ok (.iconst (-1), 1) := by decide +kernel
theorem dX7_noon_23 : decode cX7_noon 23 = .ok (.ireturn, 1) := by decide +kernel
theorem dX7_noon_24 : decode cX7_noon 24 = .ok (.iload_n 3, 1) := by decide +kernel
theorem dX7_noon_25 : decode cX7_noon 25 = .ok (.ifCond .lt 9, 3) := by decide +kernel
theorem dX7_noon_28 : decode cX7_noon 28 = .ok (.iload_n 3, 1) := by decide +kernel
theorem dX7_noon_29 : decode cX7_noon 29 = .ok (.bipush 99, 2) := by decide +kernel
theorem dX7_noon_31 : decode cX7_noon 31 = .ok (.if_icmp .le 6, 3) := by decide +kernel
theorem dX7_noon_34 : decode cX7_noon 34 = .ok (.bipush (-2), 2) := by decide +kernel
theorem dX7_noon_36 : decode cX7_noon 36 = .ok (.ireturn, 1) := by decide +kernel
theorem dX7_noon_37 : decode cX7_noon 37 = .ok (.aload_n 0, 1) := by decide +kernel
theorem dX7_noon_38 : decode cX7_noon 38 = .ok (.getfield 42, 3) := by decide +kernel
theorem dX7_noon_41 : decode cX7_noon 41 = .ok (.aload_n 0, 1) := by decide +kernel
theorem dX7_noon_42 : decode cX7_noon 42 = .ok (.getfield 21, 3) := by decide +kernel
theorem dX7_noon_45 : decode cX7_noon 45 = .ok (.iload_n 1, 1) := by decide +kernel
theorem dX7_noon_46 : decode cX7_noon 46 = .ok (.aload_n 0, 1) := by decide +kernel
theorem dX7_noon_47 : decode cX7_noon 47 = .ok (.getfield 14, 3) := by decide +kernel
theorem dX7_noon_50 : decode cX7_noon 50 = .ok (.invokevirtual 125, 3) := by decide +kernel
theorem dX7_noon_53 : decode cX7_noon 53 = .ok (.aload_n 0, 1) := by decide +kernel
theorem dX7_noon_54 : decode cX7_noon 54 = .ok (.getfield 42, 3) := by decide +kernel
theorem dX7_noon_57 : decode cX7_noon 57 = .ok (.iload_n 2, 1) := by decide +kernel
theorem dX7_noon_58 : decode cX7_noon 58 = .ok (.iload_n 3, 1) := by decide +kernel
theorem dX7_noon_59 : decode cX7_noon 59 = .ok (.invokevirtual 143, 3) := by decide +kernel
theorem dX7_noon_62 : decode cX7_noon 62 = .ok (.ireturn, 1) := by decide +kernel
theorem dX7_gain_0 : decode cX7_gain 0 = .ok (.aload_n 0, 1) := by decide +kernel
theorem dX7_gain_1 : decode cX7_gain 1 = .ok (.getfield 21, 3) := by decide +kernel
theorem dX7_gain_4 : decode cX7_gain 4 = .ok (.iload_n 1, 1) := by decide +kernel
theorem dX7_gain_5 : decode cX7_gain 5 = .ok (.invokevirtual 111, 3) := by decide +kernel
theorem dX7_gain_8 : decode cX7_gain 8 = .ok (.ifCond .eq 25, 3) := by decide +kernel
theorem dX7_gain_11 : decode cX7_gain 11 = .ok (.aload_n 0, 1) := by decide +kernel
theorem dX7_gain_12 : decode cX7_gain 12 = .ok (.getfield 21, 3) := by decide +kernel
theorem dX7_gain_15 : decode cX7_gain 15 = .ok (.iload_n 2, 1) := by decide +kernel
theorem dX7_gain_16 : decode cX7_gain 16 = .ok (.invokevirtual 111, 3) := by decide +kernel
theorem dX7_gain_19 : decode cX7_gain 19 = .ok (.ifCond .eq 14, 3) := by decide +kernel
theorem dX7_gain_22 : decode cX7_gain 22 = .ok (.aload_n 0, 1) := by decide +kernel
theorem dX7_gain_23 : decode cX7_gain 23 = .ok (.getfield 14, 3) := by decide +kernel
theorem dX7_gain_26 : decode cX7_gain 26 = .ok (.iload_n 3, 1) := by decide +kernel
theorem dX7_gain_27 : decode cX7_gain 27 = .ok (.invokevirtual 96, 3) := by decide +kernel
theorem dX7_gain_30 : decode cX7_gain 30 = .ok (.ifCond .ne 5, 3) := by decide +kernel
theorem dX7_gain_33 : decode cX7_gain 33 = .ok (.iconst (-1), 1) := by decide +kernel
theorem dX7_gain_34 : decode cX7_gain 34 = .ok (.ireturn, 1) := by decide +kernel
theorem dX7_gain_35 : decode cX7_gain 35 = .ok (.iload 4, 2) := by decide +kernel
theorem dX7_gain_37 : decode cX7_gain 37 = .ok (.ifCond .lt 18, 3) := by decide +kernel
theorem dX7_gain_40 : decode cX7_gain 40 = .ok (.iload 4, 2) := by decide +kernel
theorem dX7_gain_42 : decode cX7_gain 42 = .ok (.bipush 8, 2) := by decide +kernel
theorem dX7_gain_44 : decode cX7_gain 44 = .ok (.if_icmp .gt 11, 3) := by decide +kernel
theorem dX7_gain_47 : decode cX7_gain 47 = .ok (.iload 5, 2) := by decide +kernel
theorem dX7_gain_49 : decode cX7_gain 49 = .ok (.invokestatic 112, 3) := by decide +kernel
theorem dX7_gain_52 : decode cX7_gain 52 = .ok (.ifCond .ne 6, 3) := by decide +kernel
theorem dX7_gain_55 : decode cX7_gain 55 = .ok (.bipush (-2), 2) := by decide +kernel
theorem dX7_gain_57 : decode cX7_gain 57 = .ok (.ireturn, 1) := by decide +kernel
theorem dX7_gain_58 : decode cX7_gain 58 = .ok (.aload_n 0, 1) := by decide +kernel
theorem dX7_gain_59 : decode cX7_gain 59 = .ok (.getfield 42, 3) := by decide +kernel
theorem dX7_gain_62 : decode cX7_gain 62 = .ok (.aload_n 0, 1) := by decide +kernel
theorem dX7_gain_63 : decode cX7_gain 63 = .ok (.getfield 21, 3) := by decide +kernel
theorem dX7_gain_66 : decode cX7_gain 66 = .ok (.iload_n 1, 1) := by decide +kernel
theorem dX7_gain_67 : decode cX7_gain 67 = .ok (.aload_n 0, 1) := by decide +kernel
theorem dX7_gain_68 : decode cX7_gain 68 = .ok (.getfield 14, 3) := by decide +kernel
theorem dX7_gain_71 : decode cX7_gain 71 = .ok (.invokevirtual 125, 3) := by decide +kernel
theorem dX7_gain_74 : decode cX7_gain 74 = .ok (.aload_n 0, 1) := by decide +kernel
theorem dX7_gain_75 : decode cX7_gain 75 = .ok (.getfield 46, 3) := by decide +kernel
theorem dX7_gain_78 : decode cX7_gain 78 = .ok (.aload_n 0, 1) := by decide +kernel
theorem dX7_gain_79 : decode cX7_gain 79 = .ok (.getfield 21, 3) := by decide +kernel
theorem dX7_gain_82 : decode cX7_gain 82 = .ok (.iload_n 2, 1) := by decide +kernel
theorem dX7_gain_83 : decode cX7_gain 83 = .ok (.aload_n 0, 1) := by decide +kernel
theorem dX7_gain_84 : decode cX7_gain 84 = .ok (.getfield 14, 3) := by decide +kernel
theorem dX7_gain_87 : decode cX7_gain 87 = .ok (.invokevirtual 125, 3) := by decide +kernel
theorem dX7_gain_90 : decode cX7_gain 90 = .ok (.iconst 1, 1) := by decide +kernel
theorem dX7_gain_91 : decode cX7_gain 91 = .ok (.iload_n 3, 1) := by decide +kernel
theorem dX7_gain_92 : decode cX7_gain 92 = .ok (.ishl, 1) := by decide +kernel
theorem dX7_gain_93 : decode cX7_gain 93 = .ok (.istore 6, 2) := by decide +kernel
theorem dX7_gain_95 : decode cX7_gain 95 = .ok (.aload_n 0, 1) := by decide +kernel
theorem dX7_gain_96 : decode cX7_gain 96 = .ok (.getfield 14, 3) := by decide +kernel
theorem dX7_gain_99 : decode cX7_gain 99 = .ok (.iload_n 3, 1) := by decide +kernel
theorem dX7_gain_100 : decode cX7_gain 100 = .ok (.invokevirtual 97, 3) := by decide +kernel
theorem dX7_gain_103 : decode cX7_gain 103 = .ok (.istore 7, 2) := by decide +kernel
theorem dX7_gain_105 : decode cX7_gain 105 = .ok (.iconst 0, 1) := by decide +kernel
theorem dX7_gain_106 : decode cX7_gain 106 = .ok (.istore 8, 2) := by decide +kernel
theorem dX7_gain_108 : decode cX7_gain 108 = .ok (.iconst 1, 1) := by decide +kernel
theorem dX7_gain_109 : decode cX7_gain 109 = .ok (.istore 9, 2) := by decide +kernel
theorem dX7_gain_111 : decode cX7_gain 111 = .ok (.iload 9, 2) := by decide +kernel
theorem dX7_gain_113 : decode cX7_gain 113 = .ok (.iload 4, 2) := by decide +kernel
theorem dX7_gain_115 : decode cX7_gain 115 = .ok (.if_icmp .gt 43, 3) := by decide +kernel
theorem dX7_gain_118 : decode cX7_gain 118 = .ok (.aload_n 0, 1) := by decide +kernel
theorem dX7_gain_119 : decode cX7_gain 119 = .ok (.iload 6, 2) := by decide +kernel
theorem dX7_gain_121 : decode cX7_gain 121 = .ok (.invokevirtual 146, 3) := by decide +kernel
theorem dX7_gain_124 : decode cX7_gain 124 = .ok (.istore 6, 2) := by decide +kernel
theorem dX7_gain_126 : decode cX7_gain 126 = .ok (.aload_n 0, 1) := by decide +kernel
theorem dX7_gain_127 : decode cX7_gain 127 = .ok (.getfield 14, 3) := by decide +kernel
theorem dX7_gain_130 : decode cX7_gain 130 = .ok (.iload 6, 2) := by decide +kernel
theorem dX7_gain_132 : decode cX7_gain 132 = .ok (.invokevirtual 149, 3) := by decide +kernel
theorem dX7_gain_135 : decode cX7_gain 135 = .ok (.istore 10, 2) := by decide +kernel
theorem dX7_gain_137 : decode cX7_gain 137 = .ok (.iload 10, 2) := by decide +kernel
theorem dX7_gain_139 : decode cX7_gain 139 = .ok (.iload 7, 2) := by decide +kernel
theorem dX7_gain_141 : decode cX7_gain 141 = .ok (.if_icmp .le 11, 3) := by decide +kernel
theorem dX7_gain_144 : decode cX7_gain 144 = .ok (.iload 10, 2) := by decide +kernel
theorem dX7_gain_146 : decode cX7_gain 146 = .ok (.istore 7, 2) := by decide +kernel
theorem dX7_gain_148 : decode cX7_gain 148 = .ok (.iload 9, 2) := by decide +kernel
theorem dX7_gain_150 : decode cX7_gain 150 = .ok (.istore 8, 2) := by decide +kernel
theorem dX7_gain_152 : decode cX7_gain 152 = .ok (.iinc 9 1, 3) := by decide +kernel
theorem dX7_gain_155 : decode cX7_gain 155 = .ok (.goto (-44), 3) := by decide +kernel
theorem dX7_gain_158 : decode cX7_gain 158 = .ok (.iload 5, 2) := by decide +kernel
theorem dX7_gain_160 : decode cX7_gain 160 = .ok (.ifCond .ne 8, 3) := by decide +kernel
theorem dX7_gain_163 : decode cX7_gain 163 = .ok (.iload 7, 2) := by decide +kernel
theorem dX7_gain_165 : decode cX7_gain 165 = .ok (.goto 5, 3) := by decide +kernel
theorem dX7_gain_168 : decode cX7_gain 168 = .ok (.iload 8, 2) := by decide +kernel
theorem dX7_gain_170 : decode cX7_gain 170 = .ok (.ireturn, 1) := by decide +kernel
theorem dX7_swappedUp_0 : decode cX7_swappedUp 0 = .ok (.iconst 0, 1) := by decide +kernel
theorem dX7_swappedUp_1 : decode cX7_swappedUp 1 = .ok (.istore_n 2, 1) := by decide +kernel
theorem dX7_swappedUp_2 : decode cX7_swappedUp 2 = .ok (.iconst 0, 1) := by decide +kernel
theorem dX7_swappedUp_3 : decode cX7_swappedUp 3 = .ok (.istore_n 3, 1) := by decide +kernel
theorem dX7_swappedUp_4 : decode cX7_swappedUp 4 = .ok (.iload_n 3, 1) := by decide +kernel
theorem dX7_swappedUp_5 : decode cX7_swappedUp 5 = .ok (.aload_n 0, 1) := by decide +kernel
theorem dX7_swappedUp_6 : decode cX7_swappedUp 6 = .ok (.getfield 14, 3) := by decide +kernel
theorem dX7_swappedUp_9 : decode cX7_swappedUp 9 = .ok (.invokevirtual 92, 3) := by decide +kernel
theorem dX7_swappedUp_12 : decode cX7_swappedUp 12 = .ok (.if_icmp .ge 37, 3) := by decide +kernel
theorem dX7_swappedUp_15 : decode cX7_swappedUp 15 = .ok (.iload_n 1, 1) := by decide +kernel
theorem dX7_swappedUp_16 : decode cX7_swappedUp 16 = .ok (.aload_n 0, 1) := by decide +kernel
theorem dX7_swappedUp_17 : decode cX7_swappedUp 17 = .ok (.getfield 42, 3) := by decide +kernel
theorem dX7_swappedUp_20 : decode cX7_swappedUp 20 = .ok (.iload_n 3, 1) := by decide +kernel
theorem dX7_swappedUp_21 : decode cX7_swappedUp 21 = .ok (.invokevirtual 129, 3) := by decide +kernel
theorem dX7_swappedUp_24 : decode cX7_swappedUp 24 = .ok (.iand, 1) := by decide +kernel
theorem dX7_swappedUp_25 : decode cX7_swappedUp 25 = .ok (.aload_n 0, 1) := by decide +kernel
theorem dX7_swappedUp_26 : decode cX7_swappedUp 26 = .ok (.getfield 46, 3) := by decide +kernel
theorem dX7_swappedUp_29 : decode cX7_swappedUp 29 = .ok (.iload_n 3, 1) := by decide +kernel
theorem dX7_swappedUp_30 : decode cX7_swappedUp 30 = .ok (.invokevirtual 152, 3) := by decide +kernel
theorem dX7_swappedUp_33 : decode cX7_swappedUp 33 = .ok (.iand, 1) := by decide +kernel
theorem dX7_swappedUp_34 : decode cX7_swappedUp 34 = .ok (.ifCond .eq 9, 3) := by decide +kernel
theorem dX7_swappedUp_37 : decode cX7_swappedUp 37 = .ok (.iload_n 2, 1) := by decide +kernel
theorem dX7_swappedUp_38 : decode cX7_swappedUp 38 = .ok (.iconst 1, 1) := by decide +kernel
theorem dX7_swappedUp_39 : decode cX7_swappedUp 39 = .ok (.iload_n 3, 1) := by decide +kernel
theorem dX7_swappedUp_40 : decode cX7_swappedUp 40 = .ok (.ishl, 1) := by decide +kernel
theorem dX7_swappedUp_41 : decode cX7_swappedUp 41 = .ok (.ior, 1) := by decide +kernel
theorem dX7_swappedUp_42 : decode cX7_swappedUp 42 = .ok (.istore_n 2, 1) := by decide +kernel
theorem dX7_swappedUp_43 : decode cX7_swappedUp 43 = .ok (.iinc 3 1, 3) := by decide +kernel
theorem dX7_swappedUp_46 : decode cX7_swappedUp 46 = .ok (.goto (-42), 3) := by decide +kernel
theorem dX7_swappedUp_49 : decode cX7_swappedUp 49 = .ok (.iload_n 2, 1) := by decide +kernel
theorem dX7_swappedUp_50 : decode cX7_swappedUp 50 = .ok (.ireturn, 1) := by decide +kernel
theorem dX7_saying_0 : decode cX7_saying 0 = .ok (.aload_n 0, 1) := by decide +kernel
theorem dX7_saying_1 : decode cX7_saying 1 = .ok (.getfield 21, 3) := by decide +kernel
theorem dX7_saying_4 : decode cX7_saying 4 = .ok (.iload_n 1, 1) := by decide +kernel
theorem dX7_saying_5 : decode cX7_saying 5 = .ok (.invokevirtual 111, 3) := by decide +kernel
theorem dX7_saying_8 : decode cX7_saying 8 = .ok (.ifCond .eq 30, 3) := by decide +kernel
theorem dX7_saying_11 : decode cX7_saying 11 = .ok (.aload_n 0, 1) := by decide +kernel
theorem dX7_saying_12 : decode cX7_saying 12 = .ok (.getfield 14, 3) := by decide +kernel
theorem dX7_saying_15 : decode cX7_saying 15 = .ok (.iload_n 2, 1) := by decide +kernel
theorem dX7_saying_16 : decode cX7_saying 16 = .ok (.invokevirtual 96, 3) := by decide +kernel
theorem dX7_saying_19 : decode cX7_saying 19 = .ok (.ifCond .eq 19, 3) := by decide +kernel
theorem dX7_saying_22 : decode cX7_saying 22 = .ok (.aload_n 0, 1) := by decide +kernel
theorem dX7_saying_23 : decode cX7_saying 23 = .ok (.getfield 14, 3) := by decide +kernel
theorem dX7_saying_26 : decode cX7_saying 26 = .ok (.iload_n 3, 1) := by decide +kernel
theorem dX7_saying_27 : decode cX7_saying 27 = .ok (.invokevirtual 96, 3) := by decide +kernel
theorem dX7_saying_30 : decode cX7_saying 30 = .ok (.ifCond .eq 8, 3) := by decide +kernel
theorem dX7_saying_33 : decode cX7_saying 33 = .ok (.iload_n 2, 1) := by decide +kernel
theorem dX7_saying_34 : decode cX7_saying 34 = .ok (.iload_n 3, 1) := by decide +kernel
theorem dX7_saying_35 : decode cX7_saying 35 = .ok (.if_icmp .ne 5, 3) := by decide +kernel
theorem dX7_saying_38 : decode cX7_saying 38 = .ok (.iconst (-1), 1) := by decide +kernel
theorem dX7_saying_39 : decode cX7_saying 39 = .ok (.ireturn, 1) := by decide +kernel
theorem dX7_saying_40 : decode cX7_saying 40 = .ok (.iload 4, 2) := by decide +kernel
theorem dX7_saying_42 : decode cX7_saying 42 = .ok (.ifCond .eq 12, 3) := by decide +kernel
theorem dX7_saying_45 : decode cX7_saying 45 = .ok (.iload 4, 2) := by decide +kernel
theorem dX7_saying_47 : decode cX7_saying 47 = .ok (.iconst 1, 1) := by decide +kernel
theorem dX7_saying_48 : decode cX7_saying 48 = .ok (.if_icmp .eq 6, 3) := by decide +kernel
theorem dX7_saying_51 : decode cX7_saying 51 = .ok (.bipush (-2), 2) := by decide +kernel
theorem dX7_saying_53 : decode cX7_saying 53 = .ok (.ireturn, 1) := by decide +kernel
theorem dX7_saying_54 : decode cX7_saying 54 = .ok (.aload_n 0, 1) := by decide +kernel
theorem dX7_saying_55 : decode cX7_saying 55 = .ok (.getfield 28, 3) := by decide +kernel
theorem dX7_saying_58 : decode cX7_saying 58 = .ok (.iload_n 1, 1) := by decide +kernel
theorem dX7_saying_59 : decode cX7_saying 59 = .ok (.iload_n 2, 1) := by decide +kernel
theorem dX7_saying_60 : decode cX7_saying 60 = .ok (.iload_n 3, 1) := by decide +kernel
theorem dX7_saying_61 : decode cX7_saying 61 = .ok (.iload 4, 2) := by decide +kernel
theorem dX7_saying_63 : decode cX7_saying 63 = .ok (.invokevirtual 155, 3) := by decide +kernel
theorem dX7_saying_66 : decode cX7_saying 66 = .ok (.ireturn, 1) := by decide +kernel
theorem dX7_back_0 : decode cX7_back 0 = .ok (.iload_n 1, 1) := by decide +kernel
theorem dX7_back_1 : decode cX7_back 1 = .ok (.ifCond .lt 14, 3) := by decide +kernel
theorem dX7_back_4 : decode cX7_back 4 = .ok (.iload_n 1, 1) := by decide +kernel
theorem dX7_back_5 : decode cX7_back 5 = .ok (.aload_n 0, 1) := by decide +kernel
theorem dX7_back_6 : decode cX7_back 6 = .ok (.getfield 28, 3) := by decide +kernel
theorem dX7_back_9 : decode cX7_back 9 = .ok (.invokevirtual 157, 3) := by decide +kernel
theorem dX7_back_12 : decode cX7_back 12 = .ok (.if_icmp .le 6, 3) := by decide +kernel
theorem dX7_back_15 : decode cX7_back 15 = .ok (.bipush (-2), 2) := by decide +kernel
theorem dX7_back_17 : decode cX7_back 17 = .ok (.ireturn, 1) := by decide +kernel
theorem dX7_back_18 : decode cX7_back 18 = .ok (.aload_n 0, 1) := by decide +kernel
theorem dX7_back_19 : decode cX7_back 19 = .ok (.getfield 28, 3) := by decide +kernel
theorem dX7_back_22 : decode cX7_back 22 = .ok (.iload_n 1, 1) := by decide +kernel
theorem dX7_back_23 : decode cX7_back 23 = .ok (.invokevirtual 158, 3) := by decide +kernel
theorem dX7_back_26 : decode cX7_back 26 = .ok (.ireturn, 1) := by decide +kernel
theorem dX7_untrue_0 : decode cX7_untrue 0 = .ok (.iconst 0, 1) := by decide +kernel
theorem dX7_untrue_1 : decode cX7_untrue 1 = .ok (.istore_n 1, 1) := by decide +kernel
theorem dX7_untrue_2 : decode cX7_untrue 2 = .ok (.iconst 0, 1) := by decide +kernel
theorem dX7_untrue_3 : decode cX7_untrue 3 = .ok (.istore_n 2, 1) := by decide +kernel
theorem dX7_untrue_4 : decode cX7_untrue 4 = .ok (.iload_n 2, 1) := by decide +kernel
theorem dX7_untrue_5 : decode cX7_untrue 5 = .ok (.aload_n 0, 1) := by decide +kernel
theorem dX7_untrue_6 : decode cX7_untrue 6 = .ok (.getfield 28, 3) := by decide +kernel
theorem dX7_untrue_9 : decode cX7_untrue 9 = .ok (.invokevirtual 157, 3) := by decide +kernel
theorem dX7_untrue_12 : decode cX7_untrue 12 = .ok (.if_icmp .ge 66, 3) := by decide +kernel
theorem dX7_untrue_15 : decode cX7_untrue 15 = .ok (.aload_n 0, 1) := by decide +kernel
theorem dX7_untrue_16 : decode cX7_untrue 16 = .ok (.getfield 14, 3) := by decide +kernel
theorem dX7_untrue_19 : decode cX7_untrue 19 = .ok (.aload_n 0, 1) := by decide +kernel
theorem dX7_untrue_20 : decode cX7_untrue 20 = .ok (.getfield 28, 3) := by decide +kernel
theorem dX7_untrue_23 : decode cX7_untrue 23 = .ok (.iload_n 2, 1) := by decide +kernel
theorem dX7_untrue_24 : decode cX7_untrue 24 = .ok (.invokevirtual 161, 3) := by decide +kernel
theorem dX7_untrue_27 : decode cX7_untrue 27 = .ok (.invokevirtual 97, 3) := by decide +kernel
theorem dX7_untrue_30 : decode cX7_untrue 30 = .ok (.istore_n 3, 1) := by decide +kernel
theorem dX7_untrue_31 : decode cX7_untrue 31 = .ok (.aload_n 0, 1) := by decide +kernel
theorem dX7_untrue_32 : decode cX7_untrue 32 = .ok (.getfield 14, 3) := by decide +kernel
theorem dX7_untrue_35 : decode cX7_untrue 35 = .ok (.aload_n 0, 1) := by decide +kernel
theorem dX7_untrue_36 : decode cX7_untrue 36 = .ok (.getfield 28, 3) := by decide +kernel
theorem dX7_untrue_39 : decode cX7_untrue 39 = .ok (.iload_n 2, 1) := by decide +kernel
theorem dX7_untrue_40 : decode cX7_untrue 40 = .ok (.invokevirtual 164, 3) := by decide +kernel
theorem dX7_untrue_43 : decode cX7_untrue 43 = .ok (.invokevirtual 97, 3) := by decide +kernel
theorem dX7_untrue_46 : decode cX7_untrue 46 = .ok (.istore 4, 2) := by decide +kernel
theorem dX7_untrue_48 : decode cX7_untrue 48 = .ok (.aload_n 0, 1) := by decide +kernel
theorem dX7_untrue_49 : decode cX7_untrue 49 = .ok (.getfield 28, 3) := by decide +kernel
theorem dX7_untrue_52 : decode cX7_untrue 52 = .ok (.iload_n 2, 1) := by decide +kernel
theorem dX7_untrue_53 : decode cX7_untrue 53 = .ok (.aload_n 0, 1) := by decide +kernel
theorem dX7_untrue_54 : decode cX7_untrue 54 = .ok (.getfield 21, 3) := by decide +kernel
theorem dX7_untrue_57 : decode cX7_untrue 57 = .ok (.iload_n 3, 1) := by decide +kernel
theorem dX7_untrue_58 : decode cX7_untrue 58 = .ok (.iload 4, 2) := by decide +kernel
theorem dX7_untrue_60 : decode cX7_untrue 60 = .ok (.invokevirtual 167, 3) := by decide +kernel
theorem dX7_untrue_63 : decode cX7_untrue 63 = .ok (.ifCond .eq 9, 3) := by decide +kernel
theorem dX7_untrue_66 : decode cX7_untrue 66 = .ok (.iload_n 1, 1) := by decide +kernel
theorem dX7_untrue_67 : decode cX7_untrue 67 = .ok (.iconst 1, 1) := by decide +kernel
theorem dX7_untrue_68 : decode cX7_untrue 68 = .ok (.iload_n 2, 1) := by decide +kernel
theorem dX7_untrue_69 : decode cX7_untrue 69 = .ok (.ishl, 1) := by decide +kernel
theorem dX7_untrue_70 : decode cX7_untrue 70 = .ok (.ior, 1) := by decide +kernel
theorem dX7_untrue_71 : decode cX7_untrue 71 = .ok (.istore_n 1, 1) := by decide +kernel
theorem dX7_untrue_72 : decode cX7_untrue 72 = .ok (.iinc 2 1, 3) := by decide +kernel
theorem dX7_untrue_75 : decode cX7_untrue 75 = .ok (.goto (-71), 3) := by decide +kernel
theorem dX7_untrue_78 : decode cX7_untrue 78 = .ok (.iload_n 1, 1) := by decide +kernel
theorem dX7_untrue_79 : decode cX7_untrue 79 = .ok (.ireturn, 1) := by decide +kernel
theorem dX7_leaves_0 : decode cX7_leaves 0 = .ok (.aload_n 0, 1) := by decide +kernel
theorem dX7_leaves_1 : decode cX7_leaves 1 = .ok (.getfield 14, 3) := by decide +kernel
theorem dX7_leaves_4 : decode cX7_leaves 4 = .ok (.iload_n 1, 1) := by decide +kernel
theorem dX7_leaves_5 : decode cX7_leaves 5 = .ok (.invokevirtual 96, 3) := by decide +kernel
theorem dX7_leaves_8 : decode cX7_leaves 8 = .ok (.ifCond .ne 5, 3) := by decide +kernel
theorem dX7_leaves_11 : decode cX7_leaves 11 = .ok (.iconst (-1), 1) := by decide +kernel
theorem dX7_leaves_12 : decode cX7_leaves 12 = .ok (.ireturn, 1) := by decide +kernel
theorem dX7_leaves_13 : decode cX7_leaves 13 = .ok (.iload_n 2, 1) := by decide +kernel
theorem dX7_leaves_14 : decode cX7_leaves 14 = .ok (.ifCond .lt 8, 3) := by decide +kernel
theorem dX7_leaves_17 : decode cX7_leaves 17 = .ok (.iload_n 2, 1) := by decide +kernel
theorem dX7_leaves_18 : decode cX7_leaves 18 = .ok (.iconst 2, 1) := by decide +kernel
theorem dX7_leaves_19 : decode cX7_leaves 19 = .ok (.if_icmp .le 6, 3) := by decide +kernel
theorem dX7_leaves_22 : decode cX7_leaves 22 = .ok (.bipush (-2), 2) := by decide +kernel
theorem dX7_leaves_24 : decode cX7_leaves 24 = .ok (.ireturn, 1) := by decide +kernel
theorem dX7_leaves_25 : decode cX7_leaves 25 = .ok (.iconst 0, 1) := by decide +kernel
theorem dX7_leaves_26 : decode cX7_leaves 26 = .ok (.istore_n 3, 1) := by decide +kernel
theorem dX7_leaves_27 : decode cX7_leaves 27 = .ok (.bipush (-9), 2) := by decide +kernel
theorem dX7_leaves_29 : decode cX7_leaves 29 = .ok (.istore 4, 2) := by decide +kernel
theorem dX7_leaves_31 : decode cX7_leaves 31 = .ok (.bipush (-9), 2) := by decide +kernel
theorem dX7_leaves_33 : decode cX7_leaves 33 = .ok (.istore 5, 2) := by decide +kernel
theorem dX7_leaves_35 : decode cX7_leaves 35 = .ok (.iconst 1, 1) := by decide +kernel
theorem dX7_leaves_36 : decode cX7_leaves 36 = .ok (.istore 6, 2) := by decide +kernel
theorem dX7_leaves_38 : decode cX7_leaves 38 = .ok (.iload 6, 2) := by decide +kernel
theorem dX7_leaves_40 : decode cX7_leaves 40 = .ok (.sipush 999, 3) := by decide +kernel
theorem dX7_leaves_43 : decode cX7_leaves 43 = .ok (.if_icmp .gt 42, 3) := by decide +kernel
theorem dX7_leaves_46 : decode cX7_leaves 46 = .ok (.aload_n 0, 1) := by decide +kernel
theorem dX7_leaves_47 : decode cX7_leaves 47 = .ok (.iload_n 1, 1) := by decide +kernel
theorem dX7_leaves_48 : decode cX7_leaves 48 = .ok (.iload 6, 2) := by decide +kernel
theorem dX7_leaves_50 : decode cX7_leaves 50 = .ok (.invokevirtual 171, 3) := by decide +kernel
theorem dX7_leaves_53 : decode cX7_leaves 53 = .ok (.ifCond .ne 26, 3) := by decide +kernel
theorem dX7_leaves_56 : decode cX7_leaves 56 = .ok (.iinc 3 1, 3) := by decide +kernel
theorem dX7_leaves_59 : decode cX7_leaves 59 = .ok (.iload 4, 2) := by decide +kernel
theorem dX7_leaves_61 : decode cX7_leaves 61 = .ok (.bipush (-9), 2) := by decide +kernel
theorem dX7_leaves_63 : decode cX7_leaves 63 = .ok (.if_icmp .ne 8, 3) := by decide +kernel
theorem dX7_leaves_66 : decode cX7_leaves 66 = .ok (.iload 6, 2) := by decide +kernel
theorem dX7_leaves_68 : decode cX7_leaves 68 = .ok (.goto 5, 3) := by decide +kernel
theorem dX7_leaves_71 : decode cX7_leaves 71 = .ok (.iload 4, 2) := by decide +kernel
theorem dX7_leaves_73 : decode cX7_leaves 73 = .ok (.istore 4, 2) := by decide +kernel
theorem dX7_leaves_75 : decode cX7_leaves 75 = .ok (.iload 6, 2) := by decide +kernel
theorem dX7_leaves_77 : decode cX7_leaves 77 = .ok (.istore 5, 2) := by decide +kernel
theorem dX7_leaves_79 : decode cX7_leaves 79 = .ok (.iinc 6 1, 3) := by decide +kernel
theorem dX7_leaves_82 : decode cX7_leaves 82 = .ok (.goto (-44), 3) := by decide +kernel
theorem dX7_leaves_85 : decode cX7_leaves 85 = .ok (.iload_n 2, 1) := by decide +kernel
theorem dX7_leaves_86 : decode cX7_leaves 86 = .ok (.ifCond .ne 5, 3) := by decide +kernel
theorem dX7_leaves_89 : decode cX7_leaves 89 = .ok (.iload_n 3, 1) := by decide +kernel
theorem dX7_leaves_90 : decode cX7_leaves 90 = .ok (.ireturn, 1) := by decide +kernel
theorem dX7_leaves_91 : decode cX7_leaves 91 = .ok (.iload_n 2, 1) := by decide +kernel
theorem dX7_leaves_92 : decode cX7_leaves 92 = .ok (.iconst 1, 1) := by decide +kernel
theorem dX7_leaves_93 : decode cX7_leaves 93 = .ok (.if_icmp .ne 8, 3) := by decide +kernel
theorem dX7_leaves_96 : decode cX7_leaves 96 = .ok (.iload 4, 2) := by decide +kernel
theorem dX7_leaves_98 : decode cX7_leaves 98 = .ok (.goto 5, 3) := by decide +kernel
theorem dX7_leaves_101 : decode cX7_leaves 101 = .ok (.iload 5, 2) := by decide +kernel
theorem dX7_leaves_103 : decode cX7_leaves 103 = .ok (.ireturn, 1) := by decide +kernel
theorem dX7_breaks_0 : decode cX7_breaks 0 = .ok (.aload_n 0, 1) := by decide +kernel
theorem dX7_breaks_1 : decode cX7_breaks 1 = .ok (.getfield 14, 3) := by decide +kernel
theorem dX7_breaks_4 : decode cX7_breaks 4 = .ok (.iload_n 1, 1) := by decide +kernel
theorem dX7_breaks_5 : decode cX7_breaks 5 = .ok (.invokevirtual 96, 3) := by decide +kernel
theorem dX7_breaks_8 : decode cX7_breaks 8 = .ok (.ifCond .ne 5, 3) := by decide +kernel
theorem dX7_breaks_11 : decode cX7_breaks 11 = .ok (.iconst (-1), 1) := by decide +kernel
theorem dX7_breaks_12 : decode cX7_breaks 12 = .ok (.ireturn, 1) := by decide +kernel
theorem dX7_breaks_13 : decode cX7_breaks 13 = .ok (.iload_n 2, 1) := by decide +kernel
theorem dX7_breaks_14 : decode cX7_breaks 14 = .ok (.invokestatic 112, 3) := by decide +kernel
theorem dX7_breaks_17 : decode cX7_breaks 17 = .ok (.ifCond .ne 6, 3) := by decide +kernel
theorem dX7_breaks_20 : decode cX7_breaks 20 = .ok (.bipush (-2), 2) := by decide +kernel
theorem dX7_breaks_22 : decode cX7_breaks 22 = .ok (.ireturn, 1) := by decide +kernel
theorem dX7_breaks_23 : decode cX7_breaks 23 = .ok (.bipush 11, 2) := by decide +kernel
theorem dX7_breaks_25 : decode cX7_breaks 25 = .ok (.istore_n 3, 1) := by decide +kernel
theorem dX7_breaks_26 : decode cX7_breaks 26 = .ok (.iconst 1, 1) := by decide +kernel
theorem dX7_breaks_27 : decode cX7_breaks 27 = .ok (.istore 4, 2) := by decide +kernel
theorem dX7_breaks_29 : decode cX7_breaks 29 = .ok (.iconst 1, 1) := by decide +kernel
theorem dX7_breaks_30 : decode cX7_breaks 30 = .ok (.istore 5, 2) := by decide +kernel
theorem dX7_breaks_32 : decode cX7_breaks 32 = .ok (.iload 5, 2) := by decide +kernel
theorem dX7_breaks_34 : decode cX7_breaks 34 = .ok (.sipush 999, 3) := by decide +kernel
theorem dX7_breaks_37 : decode cX7_breaks 37 = .ok (.if_icmp .gt 31, 3) := by decide +kernel
theorem dX7_breaks_40 : decode cX7_breaks 40 = .ok (.aload_n 0, 1) := by decide +kernel
theorem dX7_breaks_41 : decode cX7_breaks 41 = .ok (.iload_n 1, 1) := by decide +kernel
theorem dX7_breaks_42 : decode cX7_breaks 42 = .ok (.iload 5, 2) := by decide +kernel
theorem dX7_breaks_44 : decode cX7_breaks 44 = .ok (.invokevirtual 171, 3) := by decide +kernel
theorem dX7_breaks_47 : decode cX7_breaks 47 = .ok (.istore 6, 2) := by decide +kernel
theorem dX7_breaks_49 : decode cX7_breaks 49 = .ok (.iload 6, 2) := by decide +kernel
theorem dX7_breaks_51 : decode cX7_breaks 51 = .ok (.iload_n 3, 1) := by decide +kernel
theorem dX7_breaks_52 : decode cX7_breaks 52 = .ok (.if_icmp .ge 10, 3) := by decide +kernel
theorem dX7_breaks_55 : decode cX7_breaks 55 = .ok (.iload 6, 2) := by decide +kernel
theorem dX7_breaks_57 : decode cX7_breaks 57 = .ok (.istore_n 3, 1) := by decide +kernel
theorem dX7_breaks_58 : decode cX7_breaks 58 = .ok (.iload 5, 2) := by decide +kernel
theorem dX7_breaks_60 : decode cX7_breaks 60 = .ok (.istore 4, 2) := by decide +kernel
theorem dX7_breaks_62 : decode cX7_breaks 62 = .ok (.iinc 5 1, 3) := by decide +kernel
theorem dX7_breaks_65 : decode cX7_breaks 65 = .ok (.goto (-33), 3) := by decide +kernel
theorem dX7_breaks_68 : decode cX7_breaks 68 = .ok (.iload_n 2, 1) := by decide +kernel
theorem dX7_breaks_69 : decode cX7_breaks 69 = .ok (.ifCond .ne 7, 3) := by decide +kernel
theorem dX7_breaks_72 : decode cX7_breaks 72 = .ok (.iload_n 3, 1) := by decide +kernel
theorem dX7_breaks_73 : decode cX7_breaks 73 = .ok (.goto 5, 3) := by decide +kernel
theorem dX7_breaks_76 : decode cX7_breaks 76 = .ok (.iload 4, 2) := by decide +kernel
theorem dX7_breaks_78 : decode cX7_breaks 78 = .ok (.ireturn, 1) := by decide +kernel
theorem dX7_falseByWeight_0 : decode cX7_falseByWeight 0 = .ok (.iconst 0, 1) := by decide +kernel
theorem dX7_falseByWeight_1 : decode cX7_falseByWeight 1 = .ok (.istore_n 3, 1) := by decide +kernel
theorem dX7_falseByWeight_2 : decode cX7_falseByWeight 2 = .ok (.iconst 0, 1) := by decide +kernel
theorem dX7_falseByWeight_3 : decode cX7_falseByWeight 3 = .ok (.istore 4, 2) := by decide +kernel
theorem dX7_falseByWeight_5 : decode cX7_falseByWeight 5 = .ok (.iload 4, 2) := by decide +kernel
theorem dX7_falseByWeight_7 : decode cX7_falseByWeight 7 = .ok (.aload_n 0, 1) := by decide +kernel
theorem dX7_falseByWeight_8 : decode cX7_falseByWeight 8 = .ok (.getfield 28, 3) := by decide +kernel
theorem dX7_falseByWeight_11 : decode cX7_falseByWeight 11 = .ok (.invokevirtual 157, 3) := by decide +kernel
theorem dX7_falseByWeight_14 : decode cX7_falseByWeight 14 = .ok (.if_icmp .ge 111, 3) := by decide +kernel
theorem dX7_falseByWeight_17 : decode cX7_falseByWeight 17 = .ok (.aload_n 0, 1) := by decide +kernel
theorem dX7_falseByWeight_18 : decode cX7_falseByWeight 18 = .ok (.getfield 28, 3) := by decide +kernel
theorem dX7_falseByWeight_21 : decode cX7_falseByWeight 21 = .ok (.iload 4, 2) := by decide +kernel
theorem dX7_falseByWeight_23 : decode cX7_falseByWeight 23 = .ok (.invokevirtual 161, 3) := by decide +kernel
theorem dX7_falseByWeight_26 : decode cX7_falseByWeight 26 = .ok (.istore 5, 2) := by decide +kernel
theorem dX7_falseByWeight_28 : decode cX7_falseByWeight 28 = .ok (.aload_n 0, 1) := by decide +kernel
theorem dX7_falseByWeight_29 : decode cX7_falseByWeight 29 = .ok (.getfield 28, 3) := by decide +kernel
theorem dX7_falseByWeight_32 : decode cX7_falseByWeight 32 = .ok (.iload 4, 2) := by decide +kernel
theorem dX7_falseByWeight_34 : decode cX7_falseByWeight 34 = .ok (.invokevirtual 164, 3) := by decide +kernel
theorem dX7_falseByWeight_37 : decode cX7_falseByWeight 37 = .ok (.istore 6, 2) := by decide +kernel
theorem dX7_falseByWeight_39 : decode cX7_falseByWeight 39 = .ok (.iload 5, 2) := by decide +kernel
theorem dX7_falseByWeight_41 : decode cX7_falseByWeight 41 = .ok (.iload_n 1, 1) := by decide +kernel
theorem dX7_falseByWeight_42 : decode cX7_falseByWeight 42 = .ok (.if_icmp .eq 12, 3) := by decide +kernel
theorem dX7_falseByWeight_45 : decode cX7_falseByWeight 45 = .ok (.iload 6, 2) := by decide +kernel
theorem dX7_falseByWeight_47 : decode cX7_falseByWeight 47 = .ok (.iload_n 1, 1) := by decide +kernel
theorem dX7_falseByWeight_48 : decode cX7_falseByWeight 48 = .ok (.if_icmp .eq 6, 3) := by decide +kernel
theorem dX7_falseByWeight_51 : decode cX7_falseByWeight 51 = .ok (.goto 68, 3) := by decide +kernel
theorem dX7_falseByWeight_54 : decode cX7_falseByWeight 54 = .ok (.iload 5, 2) := by decide +kernel
theorem dX7_falseByWeight_56 : decode cX7_falseByWeight 56 = .ok (.iload_n 1, 1) := by decide +kernel
theorem dX7_falseByWeight_57 : decode cX7_falseByWeight 57 = .ok (.if_icmp .ne 7, 3) := by decide +kernel
theorem dX7_falseByWeight_60 : decode cX7_falseByWeight 60 = .ok (.iload_n 2, 1) := by decide +kernel
theorem dX7_falseByWeight_61 : decode cX7_falseByWeight 61 = .ok (.goto 12, 3) := by decide +kernel
theorem dX7_falseByWeight_64 : decode cX7_falseByWeight 64 = .ok (.aload_n 0, 1) := by decide +kernel
theorem dX7_falseByWeight_65 : decode cX7_falseByWeight 65 = .ok (.getfield 14, 3) := by decide +kernel
theorem dX7_falseByWeight_68 : decode cX7_falseByWeight 68 = .ok (.iload 5, 2) := by decide +kernel
theorem dX7_falseByWeight_70 : decode cX7_falseByWeight 70 = .ok (.invokevirtual 97, 3) := by decide +kernel
theorem dX7_falseByWeight_73 : decode cX7_falseByWeight 73 = .ok (.istore 7, 2) := by decide +kernel
theorem dX7_falseByWeight_75 : decode cX7_falseByWeight 75 = .ok (.iload 6, 2) := by decide +kernel
theorem dX7_falseByWeight_77 : decode cX7_falseByWeight 77 = .ok (.iload_n 1, 1) := by decide +kernel
theorem dX7_falseByWeight_78 : decode cX7_falseByWeight 78 = .ok (.if_icmp .ne 7, 3) := by decide +kernel
theorem dX7_falseByWeight_81 : decode cX7_falseByWeight 81 = .ok (.iload_n 2, 1) := by decide +kernel
theorem dX7_falseByWeight_82 : decode cX7_falseByWeight 82 = .ok (.goto 12, 3) := by decide +kernel
theorem dX7_falseByWeight_85 : decode cX7_falseByWeight 85 = .ok (.aload_n 0, 1) := by decide +kernel
theorem dX7_falseByWeight_86 : decode cX7_falseByWeight 86 = .ok (.getfield 14, 3) := by decide +kernel
theorem dX7_falseByWeight_89 : decode cX7_falseByWeight 89 = .ok (.iload 6, 2) := by decide +kernel
theorem dX7_falseByWeight_91 : decode cX7_falseByWeight 91 = .ok (.invokevirtual 97, 3) := by decide +kernel
theorem dX7_falseByWeight_94 : decode cX7_falseByWeight 94 = .ok (.istore 8, 2) := by decide +kernel
theorem dX7_falseByWeight_96 : decode cX7_falseByWeight 96 = .ok (.aload_n 0, 1) := by decide +kernel
theorem dX7_falseByWeight_97 : decode cX7_falseByWeight 97 = .ok (.getfield 28, 3) := by decide +kernel
theorem dX7_falseByWeight_100 : decode cX7_falseByWeight 100 = .ok (.iload 4, 2) := by decide +kernel
theorem dX7_falseByWeight_102 : decode cX7_falseByWeight 102 = .ok (.aload_n 0, 1) := by decide +kernel
theorem dX7_falseByWeight_103 : decode cX7_falseByWeight 103 = .ok (.getfield 21, 3) := by decide +kernel
theorem dX7_falseByWeight_106 : decode cX7_falseByWeight 106 = .ok (.iload 7, 2) := by decide +kernel
theorem dX7_falseByWeight_108 : decode cX7_falseByWeight 108 = .ok (.iload 8, 2) := by decide +kernel
theorem dX7_falseByWeight_110 : decode cX7_falseByWeight 110 = .ok (.invokevirtual 167, 3) := by decide +kernel
theorem dX7_falseByWeight_113 : decode cX7_falseByWeight 113 = .ok (.ifCond .eq 6, 3) := by decide +kernel
theorem dX7_falseByWeight_116 : decode cX7_falseByWeight 116 = .ok (.iinc 3 1, 3) := by decide +kernel
theorem dX7_falseByWeight_119 : decode cX7_falseByWeight 119 = .ok (.iinc 4 1, 3) := by decide +kernel
theorem dX7_falseByWeight_122 : decode cX7_falseByWeight 122 = .ok (.goto (-117), 3) := by decide +kernel
theorem dX7_falseByWeight_125 : decode cX7_falseByWeight 125 = .ok (.iload_n 3, 1) := by decide +kernel
theorem dX7_falseByWeight_126 : decode cX7_falseByWeight 126 = .ok (.ireturn, 1) := by decide +kernel
theorem dX7_rows_0 : decode cX7_rows 0 = .ok (.aload_n 0, 1) := by decide +kernel
theorem dX7_rows_1 : decode cX7_rows 1 = .ok (.getfield 21, 3) := by decide +kernel
theorem dX7_rows_4 : decode cX7_rows 4 = .ok (.iload_n 1, 1) := by decide +kernel
theorem dX7_rows_5 : decode cX7_rows 5 = .ok (.invokevirtual 111, 3) := by decide +kernel
theorem dX7_rows_8 : decode cX7_rows 8 = .ok (.ifCond .eq 19, 3) := by decide +kernel
theorem dX7_rows_11 : decode cX7_rows 11 = .ok (.iload_n 2, 1) := by decide +kernel
theorem dX7_rows_12 : decode cX7_rows 12 = .ok (.iconst (-1), 1) := by decide +kernel
theorem dX7_rows_13 : decode cX7_rows 13 = .ok (.if_icmp .lt 14, 3) := by decide +kernel
theorem dX7_rows_16 : decode cX7_rows 16 = .ok (.iload_n 2, 1) := by decide +kernel
theorem dX7_rows_17 : decode cX7_rows 17 = .ok (.aload_n 0, 1) := by decide +kernel
theorem dX7_rows_18 : decode cX7_rows 18 = .ok (.getfield 14, 3) := by decide +kernel
theorem dX7_rows_21 : decode cX7_rows 21 = .ok (.invokevirtual 92, 3) := by decide +kernel
theorem dX7_rows_24 : decode cX7_rows 24 = .ok (.if_icmp .lt 5, 3) := by decide +kernel
theorem dX7_rows_27 : decode cX7_rows 27 = .ok (.iconst (-1), 1) := by decide +kernel
theorem dX7_rows_28 : decode cX7_rows 28 = .ok (.ireturn, 1) := by decide +kernel
theorem dX7_rows_29 : decode cX7_rows 29 = .ok (.aload_n 0, 1) := by decide +kernel
theorem dX7_rows_30 : decode cX7_rows 30 = .ok (.getfield 42, 3) := by decide +kernel
theorem dX7_rows_33 : decode cX7_rows 33 = .ok (.aload_n 0, 1) := by decide +kernel
theorem dX7_rows_34 : decode cX7_rows 34 = .ok (.getfield 21, 3) := by decide +kernel
theorem dX7_rows_37 : decode cX7_rows 37 = .ok (.iload_n 1, 1) := by decide +kernel
theorem dX7_rows_38 : decode cX7_rows 38 = .ok (.aload_n 0, 1) := by decide +kernel
theorem dX7_rows_39 : decode cX7_rows 39 = .ok (.getfield 14, 3) := by decide +kernel
theorem dX7_rows_42 : decode cX7_rows 42 = .ok (.invokevirtual 125, 3) := by decide +kernel
theorem dX7_rows_45 : decode cX7_rows 45 = .ok (.iload_n 2, 1) := by decide +kernel
theorem dX7_rows_46 : decode cX7_rows 46 = .ok (.iconst (-1), 1) := by decide +kernel
theorem dX7_rows_47 : decode cX7_rows 47 = .ok (.if_icmp .ne 13, 3) := by decide +kernel
theorem dX7_rows_50 : decode cX7_rows 50 = .ok (.aload_n 0, 1) := by decide +kernel
theorem dX7_rows_51 : decode cX7_rows 51 = .ok (.getfield 42, 3) := by decide +kernel
theorem dX7_rows_54 : decode cX7_rows 54 = .ok (.invokevirtual 174, 3) := by decide +kernel
theorem dX7_rows_57 : decode cX7_rows 57 = .ok (.goto 11, 3) := by decide +kernel
theorem dX7_rows_60 : decode cX7_rows 60 = .ok (.aload_n 0, 1) := by decide +kernel
theorem dX7_rows_61 : decode cX7_rows 61 = .ok (.getfield 42, 3) := by decide +kernel
theorem dX7_rows_64 : decode cX7_rows 64 = .ok (.iload_n 2, 1) := by decide +kernel
theorem dX7_rows_65 : decode cX7_rows 65 = .ok (.invokevirtual 177, 3) := by decide +kernel
theorem dX7_rows_68 : decode cX7_rows 68 = .ok (.ireturn, 1) := by decide +kernel
theorem dX7_longest_0 : decode cX7_longest 0 = .ok (.aload_n 0, 1) := by decide +kernel
theorem dX7_longest_1 : decode cX7_longest 1 = .ok (.getfield 21, 3) := by decide +kernel
theorem dX7_longest_4 : decode cX7_longest 4 = .ok (.iload_n 1, 1) := by decide +kernel
theorem dX7_longest_5 : decode cX7_longest 5 = .ok (.invokevirtual 111, 3) := by decide +kernel
theorem dX7_longest_8 : decode cX7_longest 8 = .ok (.ifCond .ne 5, 3) := by decide +kernel
theorem dX7_longest_11 : decode cX7_longest 11 = .ok (.iconst (-1), 1) := by decide +kernel
theorem dX7_longest_12 : decode cX7_longest 12 = .ok (.ireturn, 1) := by decide +kernel
theorem dX7_longest_13 : decode cX7_longest 13 = .ok (.aload_n 0, 1) := by decide +kernel
theorem dX7_longest_14 : decode cX7_longest 14 = .ok (.getfield 42, 3) := by decide +kernel
theorem dX7_longest_17 : decode cX7_longest 17 = .ok (.aload_n 0, 1) := by decide +kernel
theorem dX7_longest_18 : decode cX7_longest 18 = .ok (.getfield 21, 3) := by decide +kernel
theorem dX7_longest_21 : decode cX7_longest 21 = .ok (.iload_n 1, 1) := by decide +kernel
theorem dX7_longest_22 : decode cX7_longest 22 = .ok (.aload_n 0, 1) := by decide +kernel
theorem dX7_longest_23 : decode cX7_longest 23 = .ok (.getfield 14, 3) := by decide +kernel
theorem dX7_longest_26 : decode cX7_longest 26 = .ok (.invokevirtual 125, 3) := by decide +kernel
theorem dX7_longest_29 : decode cX7_longest 29 = .ok (.aload_n 0, 1) := by decide +kernel
theorem dX7_longest_30 : decode cX7_longest 30 = .ok (.getfield 42, 3) := by decide +kernel
theorem dX7_longest_33 : decode cX7_longest 33 = .ok (.invokevirtual 180, 3) := by decide +kernel
theorem dX7_longest_36 : decode cX7_longest 36 = .ok (.ireturn, 1) := by decide +kernel
theorem dX7_crowd_0 : decode cX7_crowd 0 = .ok (.aload_n 0, 1) := by decide +kernel
theorem dX7_crowd_1 : decode cX7_crowd 1 = .ok (.getfield 21, 3) := by decide +kernel
theorem dX7_crowd_4 : decode cX7_crowd 4 = .ok (.iload_n 1, 1) := by decide +kernel
theorem dX7_crowd_5 : decode cX7_crowd 5 = .ok (.invokevirtual 111, 3) := by decide +kernel
theorem dX7_crowd_8 : decode cX7_crowd 8 = .ok (.ifCond .ne 5, 3) := by decide +kernel
theorem dX7_crowd_11 : decode cX7_crowd 11 = .ok (.iconst (-1), 1) := by decide +kernel
theorem dX7_crowd_12 : decode cX7_crowd 12 = .ok (.ireturn, 1) := by decide +kernel
theorem dX7_crowd_13 : decode cX7_crowd 13 = .ok (.aload_n 0, 1) := by decide +kernel
theorem dX7_crowd_14 : decode cX7_crowd 14 = .ok (.getfield 42, 3) := by decide +kernel
theorem dX7_crowd_17 : decode cX7_crowd 17 = .ok (.aload_n 0, 1) := by decide +kernel
theorem dX7_crowd_18 : decode cX7_crowd 18 = .ok (.getfield 21, 3) := by decide +kernel
theorem dX7_crowd_21 : decode cX7_crowd 21 = .ok (.iload_n 1, 1) := by decide +kernel
theorem dX7_crowd_22 : decode cX7_crowd 22 = .ok (.aload_n 0, 1) := by decide +kernel
theorem dX7_crowd_23 : decode cX7_crowd 23 = .ok (.getfield 14, 3) := by decide +kernel
theorem dX7_crowd_26 : decode cX7_crowd 26 = .ok (.invokevirtual 125, 3) := by decide +kernel
theorem dX7_crowd_29 : decode cX7_crowd 29 = .ok (.aload_n 0, 1) := by decide +kernel
theorem dX7_crowd_30 : decode cX7_crowd 30 = .ok (.getfield 42, 3) := by decide +kernel
theorem dX7_crowd_33 : decode cX7_crowd 33 = .ok (.invokevirtual 183, 3) := by decide +kernel
theorem dX7_crowd_36 : decode cX7_crowd 36 = .ok (.ireturn, 1) := by decide +kernel
theorem dX7_measure_0 : decode cX7_measure 0 = .ok (.aload_n 0, 1) := by decide +kernel
theorem dX7_measure_1 : decode cX7_measure 1 = .ok (.getfield 21, 3) := by decide +kernel
theorem dX7_measure_4 : decode cX7_measure 4 = .ok (.iload_n 1, 1) := by decide +kernel
theorem dX7_measure_5 : decode cX7_measure 5 = .ok (.invokevirtual 111, 3) := by decide +kernel
theorem dX7_measure_8 : decode cX7_measure 8 = .ok (.ifCond .ne 5, 3) := by decide +kernel
theorem dX7_measure_11 : decode cX7_measure 11 = .ok (.iconst (-1), 1) := by decide +kernel
theorem dX7_measure_12 : decode cX7_measure 12 = .ok (.ireturn, 1) := by decide +kernel
theorem dX7_measure_13 : decode cX7_measure 13 = .ok (.iload_n 2, 1) := by decide +kernel
theorem dX7_measure_14 : decode cX7_measure 14 = .ok (.invokestatic 112, 3) := by decide +kernel
theorem dX7_measure_17 : decode cX7_measure 17 = .ok (.ifCond .ne 6, 3) := by decide +kernel
theorem dX7_measure_20 : decode cX7_measure 20 = .ok (.bipush (-2), 2) := by decide +kernel
theorem dX7_measure_22 : decode cX7_measure 22 = .ok (.ireturn, 1) := by decide +kernel
theorem dX7_measure_23 : decode cX7_measure 23 = .ok (.aload_n 0, 1) := by decide +kernel
theorem dX7_measure_24 : decode cX7_measure 24 = .ok (.getfield 42, 3) := by decide +kernel
theorem dX7_measure_27 : decode cX7_measure 27 = .ok (.aload_n 0, 1) := by decide +kernel
theorem dX7_measure_28 : decode cX7_measure 28 = .ok (.getfield 21, 3) := by decide +kernel
theorem dX7_measure_31 : decode cX7_measure 31 = .ok (.iload_n 1, 1) := by decide +kernel
theorem dX7_measure_32 : decode cX7_measure 32 = .ok (.aload_n 0, 1) := by decide +kernel
theorem dX7_measure_33 : decode cX7_measure 33 = .ok (.getfield 14, 3) := by decide +kernel
theorem dX7_measure_36 : decode cX7_measure 36 = .ok (.invokevirtual 125, 3) := by decide +kernel
theorem dX7_measure_39 : decode cX7_measure 39 = .ok (.iconst 0, 1) := by decide +kernel
theorem dX7_measure_40 : decode cX7_measure 40 = .ok (.istore_n 3, 1) := by decide +kernel
theorem dX7_measure_41 : decode cX7_measure 41 = .ok (.iconst 1, 1) := by decide +kernel
theorem dX7_measure_42 : decode cX7_measure 42 = .ok (.istore 4, 2) := by decide +kernel
theorem dX7_measure_44 : decode cX7_measure 44 = .ok (.iload 4, 2) := by decide +kernel
theorem dX7_measure_46 : decode cX7_measure 46 = .ok (.aload_n 0, 1) := by decide +kernel
theorem dX7_measure_47 : decode cX7_measure 47 = .ok (.getfield 14, 3) := by decide +kernel
theorem dX7_measure_50 : decode cX7_measure 50 = .ok (.invokevirtual 92, 3) := by decide +kernel
theorem dX7_measure_53 : decode cX7_measure 53 = .ok (.if_icmp .ge 32, 3) := by decide +kernel
theorem dX7_measure_56 : decode cX7_measure 56 = .ok (.aload_n 0, 1) := by decide +kernel
theorem dX7_measure_57 : decode cX7_measure 57 = .ok (.getfield 42, 3) := by decide +kernel
theorem dX7_measure_60 : decode cX7_measure 60 = .ok (.iload 4, 2) := by decide +kernel
theorem dX7_measure_62 : decode cX7_measure 62 = .ok (.invokevirtual 186, 3) := by decide +kernel
theorem dX7_measure_65 : decode cX7_measure 65 = .ok (.aload_n 0, 1) := by decide +kernel
theorem dX7_measure_66 : decode cX7_measure 66 = .ok (.getfield 42, 3) := by decide +kernel
theorem dX7_measure_69 : decode cX7_measure 69 = .ok (.iload_n 3, 1) := by decide +kernel
theorem dX7_measure_70 : decode cX7_measure 70 = .ok (.invokevirtual 186, 3) := by decide +kernel
theorem dX7_measure_73 : decode cX7_measure 73 = .ok (.if_icmp .le 6, 3) := by decide +kernel
theorem dX7_measure_76 : decode cX7_measure 76 = .ok (.iload 4, 2) := by decide +kernel
theorem dX7_measure_78 : decode cX7_measure 78 = .ok (.istore_n 3, 1) := by decide +kernel
theorem dX7_measure_79 : decode cX7_measure 79 = .ok (.iinc 4 1, 3) := by decide +kernel
theorem dX7_measure_82 : decode cX7_measure 82 = .ok (.goto (-38), 3) := by decide +kernel
theorem dX7_measure_85 : decode cX7_measure 85 = .ok (.iload_n 2, 1) := by decide +kernel
theorem dX7_measure_86 : decode cX7_measure 86 = .ok (.ifCond .ne 7, 3) := by decide +kernel
theorem dX7_measure_89 : decode cX7_measure 89 = .ok (.iload_n 3, 1) := by decide +kernel
theorem dX7_measure_90 : decode cX7_measure 90 = .ok (.goto 11, 3) := by decide +kernel
theorem dX7_measure_93 : decode cX7_measure 93 = .ok (.aload_n 0, 1) := by decide +kernel
theorem dX7_measure_94 : decode cX7_measure 94 = .ok (.getfield 42, 3) := by decide +kernel
theorem dX7_measure_97 : decode cX7_measure 97 = .ok (.iload_n 3, 1) := by decide +kernel
theorem dX7_measure_98 : decode cX7_measure 98 = .ok (.invokevirtual 186, 3) := by decide +kernel
theorem dX7_measure_101 : decode cX7_measure 101 = .ok (.ireturn, 1) := by decide +kernel
theorem dX7_copies_0 : decode cX7_copies 0 = .ok (.aload_n 0, 1) := by decide +kernel
theorem dX7_copies_1 : decode cX7_copies 1 = .ok (.iconst 0, 1) := by decide +kernel
theorem dX7_copies_2 : decode cX7_copies 2 = .ok (.putfield 60, 3) := by decide +kernel
theorem dX7_copies_5 : decode cX7_copies 5 = .ok (.aload_n 0, 1) := by decide +kernel
theorem dX7_copies_6 : decode cX7_copies 6 = .ok (.getfield 35, 3) := by decide +kernel
theorem dX7_copies_9 : decode cX7_copies 9 = .ok (.iload_n 2, 1) := by decide +kernel
theorem dX7_copies_10 : decode cX7_copies 10 = .ok (.invokevirtual 63, 3) := by decide +kernel
theorem dX7_copies_13 : decode cX7_copies 13 = .ok (.ifCond .ne 5, 3) := by decide +kernel
theorem dX7_copies_16 : decode cX7_copies 16 = .ok (.iconst (-1), 1) := by decide +kernel
theorem dX7_copies_17 : decode cX7_copies 17 = .ok (.ireturn, 1) := by decide +kernel
theorem dX7_copies_18 : decode cX7_copies 18 = .ok (.iload_n 3, 1) := by decide +kernel
theorem dX7_copies_19 : decode cX7_copies 19 = .ok (.invokestatic 67, 3) := by decide +kernel
theorem dX7_copies_22 : decode cX7_copies 22 = .ok (.ifCond .eq 23, 3) := by decide +kernel
theorem dX7_copies_25 : decode cX7_copies 25 = .ok (.iload_n 1, 1) := by decide +kernel
theorem dX7_copies_26 : decode cX7_copies 26 = .ok (.iconst 1, 1) := by decide +kernel
theorem dX7_copies_27 : decode cX7_copies 27 = .ok (.if_icmp .lt 18, 3) := by decide +kernel
theorem dX7_copies_30 : decode cX7_copies 30 = .ok (.iload_n 1, 1) := by decide +kernel
theorem dX7_copies_31 : decode cX7_copies 31 = .ok (.sipush 999, 3) := by decide +kernel
theorem dX7_copies_34 : decode cX7_copies 34 = .ok (.if_icmp .gt 11, 3) := by decide +kernel
theorem dX7_copies_37 : decode cX7_copies 37 = .ok (.iload 6, 2) := by decide +kernel
theorem dX7_copies_39 : decode cX7_copies 39 = .ok (.invokestatic 112, 3) := by decide +kernel
theorem dX7_copies_42 : decode cX7_copies 42 = .ok (.ifCond .ne 6, 3) := by decide +kernel
theorem dX7_copies_45 : decode cX7_copies 45 = .ok (.bipush (-2), 2) := by decide +kernel
theorem dX7_copies_47 : decode cX7_copies 47 = .ok (.ireturn, 1) := by decide +kernel
theorem dX7_copies_48 : decode cX7_copies 48 = .ok (.aload_n 0, 1) := by decide +kernel
theorem dX7_copies_49 : decode cX7_copies 49 = .ok (.iload_n 2, 1) := by decide +kernel
theorem dX7_copies_50 : decode cX7_copies 50 = .ok (.iload_n 3, 1) := by decide +kernel
theorem dX7_copies_51 : decode cX7_copies 51 = .ok (.iload 4, 2) := by decide +kernel
theorem dX7_copies_53 : decode cX7_copies 53 = .ok (.iload 5, 2) := by decide +kernel
theorem dX7_copies_55 : decode cX7_copies 55 = .ok (.invokevirtual 189, 3) := by decide +kernel
theorem dX7_copies_58 : decode cX7_copies 58 = .ok (.istore 7, 2) := by decide +kernel
theorem dX7_copies_60 : decode cX7_copies 60 = .ok (.iload 7, 2) := by decide +kernel
theorem dX7_copies_62 : decode cX7_copies 62 = .ok (.ifCond .eq 6, 3) := by decide +kernel
theorem dX7_copies_65 : decode cX7_copies 65 = .ok (.iload 7, 2) := by decide +kernel
theorem dX7_copies_67 : decode cX7_copies 67 = .ok (.ireturn, 1) := by decide +kernel
theorem dX7_copies_68 : decode cX7_copies 68 = .ok (.iload 6, 2) := by decide +kernel
theorem dX7_copies_70 : decode cX7_copies 70 = .ok (.ifCond .ne 18, 3) := by decide +kernel
theorem dX7_copies_73 : decode cX7_copies 73 = .ok (.aload_n 0, 1) := by decide +kernel
theorem dX7_copies_74 : decode cX7_copies 74 = .ok (.getfield 52, 3) := by decide +kernel
theorem dX7_copies_77 : decode cX7_copies 77 = .ok (.aload_n 0, 1) := by decide +kernel
theorem dX7_copies_78 : decode cX7_copies 78 = .ok (.getfield 21, 3) := by decide +kernel
theorem dX7_copies_81 : decode cX7_copies 81 = .ok (.iload_n 1, 1) := by decide +kernel
theorem dX7_copies_82 : decode cX7_copies 82 = .ok (.invokevirtual 192, 3) := by decide +kernel
theorem dX7_copies_85 : decode cX7_copies 85 = .ok (.goto 15, 3) := by decide +kernel
theorem dX7_copies_88 : decode cX7_copies 88 = .ok (.aload_n 0, 1) := by decide +kernel
theorem dX7_copies_89 : decode cX7_copies 89 = .ok (.getfield 52, 3) := by decide +kernel
theorem dX7_copies_92 : decode cX7_copies 92 = .ok (.aload_n 0, 1) := by decide +kernel
theorem dX7_copies_93 : decode cX7_copies 93 = .ok (.getfield 21, 3) := by decide +kernel
theorem dX7_copies_96 : decode cX7_copies 96 = .ok (.iload_n 1, 1) := by decide +kernel
theorem dX7_copies_97 : decode cX7_copies 97 = .ok (.invokevirtual 196, 3) := by decide +kernel
theorem dX7_copies_100 : decode cX7_copies 100 = .ok (.ireturn, 1) := by decide +kernel
theorem dX7_bestRow_0 : decode cX7_bestRow 0 = .ok (.aload_n 0, 1) := by decide +kernel
theorem dX7_bestRow_1 : decode cX7_bestRow 1 = .ok (.iconst 0, 1) := by decide +kernel
theorem dX7_bestRow_2 : decode cX7_bestRow 2 = .ok (.putfield 60, 3) := by decide +kernel
theorem dX7_bestRow_5 : decode cX7_bestRow 5 = .ok (.aload_n 0, 1) := by decide +kernel
theorem dX7_bestRow_6 : decode cX7_bestRow 6 = .ok (.getfield 35, 3) := by decide +kernel
theorem dX7_bestRow_9 : decode cX7_bestRow 9 = .ok (.iload_n 2, 1) := by decide +kernel
theorem dX7_bestRow_10 : decode cX7_bestRow 10 = .ok (.invokevirtual 63, 3) := by decide +kernel
theorem dX7_bestRow_13 : decode cX7_bestRow 13 = .ok (.ifCond .ne 5, 3) := by decide +kernel
theorem dX7_bestRow_16 : decode cX7_bestRow 16 = .ok (.iconst (-1), 1) := by decide +kernel
theorem dX7_bestRow_17 : decode cX7_bestRow 17 = .ok (.ireturn, 1) := by decide +kernel
theorem dX7_bestRow_18 : decode cX7_bestRow 18 = .ok (.iload_n 3, 1) := by decide +kernel
theorem dX7_bestRow_19 : decode cX7_bestRow 19 = .ok (.invokestatic 67, 3) := by decide +kernel
theorem dX7_bestRow_22 : decode cX7_bestRow 22 = .ok (.ifCond .eq 15, 3) := by decide +kernel
theorem dX7_bestRow_25 : decode cX7_bestRow 25 = .ok (.iload_n 1, 1) := by decide +kernel
theorem dX7_bestRow_26 : decode cX7_bestRow 26 = .ok (.iconst 1, 1) := by decide +kernel
theorem dX7_bestRow_27 : decode cX7_bestRow 27 = .ok (.if_icmp .lt 10, 3) := by decide +kernel
theorem dX7_bestRow_30 : decode cX7_bestRow 30 = .ok (.iload_n 1, 1) := by decide +kernel
theorem dX7_bestRow_31 : decode cX7_bestRow 31 = .ok (.sipush 999, 3) := by decide +kernel
theorem dX7_bestRow_34 : decode cX7_bestRow 34 = .ok (.if_icmp .le 6, 3) := by decide +kernel
theorem dX7_bestRow_37 : decode cX7_bestRow 37 = .ok (.bipush (-2), 2) := by decide +kernel
theorem dX7_bestRow_39 : decode cX7_bestRow 39 = .ok (.ireturn, 1) := by decide +kernel
theorem dX7_bestRow_40 : decode cX7_bestRow 40 = .ok (.aload_n 0, 1) := by decide +kernel
theorem dX7_bestRow_41 : decode cX7_bestRow 41 = .ok (.iload_n 2, 1) := by decide +kernel
theorem dX7_bestRow_42 : decode cX7_bestRow 42 = .ok (.iload_n 3, 1) := by decide +kernel
theorem dX7_bestRow_43 : decode cX7_bestRow 43 = .ok (.iload 4, 2) := by decide +kernel
theorem dX7_bestRow_45 : decode cX7_bestRow 45 = .ok (.iload 5, 2) := by decide +kernel
theorem dX7_bestRow_47 : decode cX7_bestRow 47 = .ok (.invokevirtual 189, 3) := by decide +kernel
theorem dX7_bestRow_50 : decode cX7_bestRow 50 = .ok (.istore 7, 2) := by decide +kernel
theorem dX7_bestRow_52 : decode cX7_bestRow 52 = .ok (.iload 7, 2) := by decide +kernel
theorem dX7_bestRow_54 : decode cX7_bestRow 54 = .ok (.ifCond .eq 6, 3) := by decide +kernel
theorem dX7_bestRow_57 : decode cX7_bestRow 57 = .ok (.iload 7, 2) := by decide +kernel
theorem dX7_bestRow_59 : decode cX7_bestRow 59 = .ok (.ireturn, 1) := by decide +kernel
theorem dX7_bestRow_60 : decode cX7_bestRow 60 = .ok (.iload 6, 2) := by decide +kernel
theorem dX7_bestRow_62 : decode cX7_bestRow 62 = .ok (.iconst (-1), 1) := by decide +kernel
theorem dX7_bestRow_63 : decode cX7_bestRow 63 = .ok (.if_icmp .lt 10, 3) := by decide +kernel
theorem dX7_bestRow_66 : decode cX7_bestRow 66 = .ok (.iload 6, 2) := by decide +kernel
theorem dX7_bestRow_68 : decode cX7_bestRow 68 = .ok (.iload 5, 2) := by decide +kernel
theorem dX7_bestRow_70 : decode cX7_bestRow 70 = .ok (.if_icmp .lt 5, 3) := by decide +kernel
theorem dX7_bestRow_73 : decode cX7_bestRow 73 = .ok (.iconst (-1), 1) := by decide +kernel
theorem dX7_bestRow_74 : decode cX7_bestRow 74 = .ok (.ireturn, 1) := by decide +kernel
theorem dX7_bestRow_75 : decode cX7_bestRow 75 = .ok (.aload_n 0, 1) := by decide +kernel
theorem dX7_bestRow_76 : decode cX7_bestRow 76 = .ok (.getfield 52, 3) := by decide +kernel
theorem dX7_bestRow_79 : decode cX7_bestRow 79 = .ok (.aload_n 0, 1) := by decide +kernel
theorem dX7_bestRow_80 : decode cX7_bestRow 80 = .ok (.getfield 21, 3) := by decide +kernel
theorem dX7_bestRow_83 : decode cX7_bestRow 83 = .ok (.iload_n 1, 1) := by decide +kernel
theorem dX7_bestRow_84 : decode cX7_bestRow 84 = .ok (.invokevirtual 199, 3) := by decide +kernel
theorem dX7_bestRow_87 : decode cX7_bestRow 87 = .ok (.istore 8, 2) := by decide +kernel
theorem dX7_bestRow_89 : decode cX7_bestRow 89 = .ok (.iload 6, 2) := by decide +kernel
theorem dX7_bestRow_91 : decode cX7_bestRow 91 = .ok (.iconst (-1), 1) := by decide +kernel
theorem dX7_bestRow_92 : decode cX7_bestRow 92 = .ok (.if_icmp .ne 8, 3) := by decide +kernel
theorem dX7_bestRow_95 : decode cX7_bestRow 95 = .ok (.iload 8, 2) := by decide +kernel
theorem dX7_bestRow_97 : decode cX7_bestRow 97 = .ok (.goto 12, 3) := by decide +kernel
theorem dX7_bestRow_100 : decode cX7_bestRow 100 = .ok (.aload_n 0, 1) := by decide +kernel
theorem dX7_bestRow_101 : decode cX7_bestRow 101 = .ok (.getfield 52, 3) := by decide +kernel
theorem dX7_bestRow_104 : decode cX7_bestRow 104 = .ok (.iload 6, 2) := by decide +kernel
theorem dX7_bestRow_106 : decode cX7_bestRow 106 = .ok (.invokevirtual 202, 3) := by decide +kernel
theorem dX7_bestRow_109 : decode cX7_bestRow 109 = .ok (.ireturn, 1) := by decide +kernel
theorem dX7_takeHandRow_0 : decode cX7_takeHandRow 0 = .ok (.aload_n 0, 1) := by decide +kernel
theorem dX7_takeHandRow_1 : decode cX7_takeHandRow 1 = .ok (.getfield 35, 3) := by decide +kernel
theorem dX7_takeHandRow_4 : decode cX7_takeHandRow 4 = .ok (.iload_n 1, 1) := by decide +kernel
theorem dX7_takeHandRow_5 : decode cX7_takeHandRow 5 = .ok (.iload_n 2, 1) := by decide +kernel
theorem dX7_takeHandRow_6 : decode cX7_takeHandRow 6 = .ok (.iload_n 3, 1) := by decide +kernel
theorem dX7_takeHandRow_7 : decode cX7_takeHandRow 7 = .ok (.iload 4, 2) := by decide +kernel
theorem dX7_takeHandRow_9 : decode cX7_takeHandRow 9 = .ok (.invokevirtual 70, 3) := by decide +kernel
theorem dX7_takeHandRow_12 : decode cX7_takeHandRow 12 = .ok (.istore 5, 2) := by decide +kernel
theorem dX7_takeHandRow_14 : decode cX7_takeHandRow 14 = .ok (.iload 5, 2) := by decide +kernel
theorem dX7_takeHandRow_16 : decode cX7_takeHandRow 16 = .ok (.ifCond .eq 10, 3) := by decide +kernel
theorem dX7_takeHandRow_19 : decode cX7_takeHandRow 19 = .ok (.aload_n 0, 1) := by decide +kernel
theorem dX7_takeHandRow_20 : decode cX7_takeHandRow 20 = .ok (.iload 5, 2) := by decide +kernel
theorem dX7_takeHandRow_22 : decode cX7_takeHandRow 22 = .ok (.invokevirtual 74, 3) := by decide +kernel
theorem dX7_takeHandRow_25 : decode cX7_takeHandRow 25 = .ok (.ireturn, 1) := by decide +kernel
theorem dX7_takeHandRow_26 : decode cX7_takeHandRow 26 = .ok (.iload 4, 2) := by decide +kernel
theorem dX7_takeHandRow_28 : decode cX7_takeHandRow 28 = .ok (.iconst 1, 1) := by decide +kernel
theorem dX7_takeHandRow_29 : decode cX7_takeHandRow 29 = .ok (.if_icmp .lt 9, 3) := by decide +kernel
theorem dX7_takeHandRow_32 : decode cX7_takeHandRow 32 = .ok (.iload 4, 2) := by decide +kernel
theorem dX7_takeHandRow_34 : decode cX7_takeHandRow 34 = .ok (.iconst 5, 1) := by decide +kernel
theorem dX7_takeHandRow_35 : decode cX7_takeHandRow 35 = .ok (.if_icmp .le 6, 3) := by decide +kernel
theorem dX7_takeHandRow_38 : decode cX7_takeHandRow 38 = .ok (.bipush (-2), 2) := by decide +kernel
theorem dX7_takeHandRow_40 : decode cX7_takeHandRow 40 = .ok (.ireturn, 1) := by decide +kernel
theorem dX7_takeHandRow_41 : decode cX7_takeHandRow 41 = .ok (.aload_n 0, 1) := by decide +kernel
theorem dX7_takeHandRow_42 : decode cX7_takeHandRow 42 = .ok (.getfield 52, 3) := by decide +kernel
theorem dX7_takeHandRow_45 : decode cX7_takeHandRow 45 = .ok (.invokevirtual 205, 3) := by decide +kernel
theorem dX7_takeHandRow_48 : decode cX7_takeHandRow 48 = .ok (.iconst 0, 1) := by decide +kernel
theorem dX7_takeHandRow_49 : decode cX7_takeHandRow 49 = .ok (.istore 6, 2) := by decide +kernel
theorem dX7_takeHandRow_51 : decode cX7_takeHandRow 51 = .ok (.iload 6, 2) := by decide +kernel
theorem dX7_takeHandRow_53 : decode cX7_takeHandRow 53 = .ok (.iload 4, 2) := by decide +kernel
theorem dX7_takeHandRow_55 : decode cX7_takeHandRow 55 = .ok (.if_icmp .ge 46, 3) := by decide +kernel
theorem dX7_takeHandRow_58 : decode cX7_takeHandRow 58 = .ok (.aload_n 0, 1) := by decide +kernel
theorem dX7_takeHandRow_59 : decode cX7_takeHandRow 59 = .ok (.getfield 35, 3) := by decide +kernel
theorem dX7_takeHandRow_62 : decode cX7_takeHandRow 62 = .ok (.iload_n 1, 1) := by decide +kernel
theorem dX7_takeHandRow_63 : decode cX7_takeHandRow 63 = .ok (.iload_n 3, 1) := by decide +kernel
theorem dX7_takeHandRow_64 : decode cX7_takeHandRow 64 = .ok (.iload 6, 2) := by decide +kernel
theorem dX7_takeHandRow_66 : decode cX7_takeHandRow 66 = .ok (.iadd, 1) := by decide +kernel
theorem dX7_takeHandRow_67 : decode cX7_takeHandRow 67 = .ok (.invokevirtual 206, 3) := by decide +kernel
theorem dX7_takeHandRow_70 : decode cX7_takeHandRow 70 = .ok (.istore 7, 2) := by decide +kernel
theorem dX7_takeHandRow_72 : decode cX7_takeHandRow 72 = .ok (.aload_n 0, 1) := by decide +kernel
theorem dX7_takeHandRow_73 : decode cX7_takeHandRow 73 = .ok (.getfield 21, 3) := by decide +kernel
theorem dX7_takeHandRow_76 : decode cX7_takeHandRow 76 = .ok (.iload 7, 2) := by decide +kernel
theorem dX7_takeHandRow_78 : decode cX7_takeHandRow 78 = .ok (.invokevirtual 111, 3) := by decide +kernel
theorem dX7_takeHandRow_81 : decode cX7_takeHandRow 81 = .ok (.ifCond .ne 5, 3) := by decide +kernel
theorem dX7_takeHandRow_84 : decode cX7_takeHandRow 84 = .ok (.iconst (-1), 1) := by decide +kernel
theorem dX7_takeHandRow_85 : decode cX7_takeHandRow 85 = .ok (.ireturn, 1) := by decide +kernel
theorem dX7_takeHandRow_86 : decode cX7_takeHandRow 86 = .ok (.aload_n 0, 1) := by decide +kernel
theorem dX7_takeHandRow_87 : decode cX7_takeHandRow 87 = .ok (.getfield 52, 3) := by decide +kernel
theorem dX7_takeHandRow_90 : decode cX7_takeHandRow 90 = .ok (.iload 7, 2) := by decide +kernel
theorem dX7_takeHandRow_92 : decode cX7_takeHandRow 92 = .ok (.invokevirtual 209, 3) := by decide +kernel
theorem dX7_takeHandRow_95 : decode cX7_takeHandRow 95 = .ok (.iinc 6 1, 3) := by decide +kernel
theorem dX7_takeHandRow_98 : decode cX7_takeHandRow 98 = .ok (.goto (-47), 3) := by decide +kernel
theorem dX7_takeHandRow_101 : decode cX7_takeHandRow 101 = .ok (.iconst 0, 1) := by decide +kernel
theorem dX7_takeHandRow_102 : decode cX7_takeHandRow 102 = .ok (.ireturn, 1) := by decide +kernel
theorem dX7_even_0 : decode cX7_even 0 = .ok (.aload_n 0, 1) := by decide +kernel
theorem dX7_even_1 : decode cX7_even 1 = .ok (.getfield 21, 3) := by decide +kernel
theorem dX7_even_4 : decode cX7_even 4 = .ok (.iload_n 1, 1) := by decide +kernel
theorem dX7_even_5 : decode cX7_even 5 = .ok (.invokevirtual 111, 3) := by decide +kernel
theorem dX7_even_8 : decode cX7_even 8 = .ok (.ifCond .ne 5, 3) := by decide +kernel
theorem dX7_even_11 : decode cX7_even 11 = .ok (.iconst (-1), 1) := by decide +kernel
theorem dX7_even_12 : decode cX7_even 12 = .ok (.ireturn, 1) := by decide +kernel
theorem dX7_even_13 : decode cX7_even 13 = .ok (.iload_n 2, 1) := by decide +kernel
theorem dX7_even_14 : decode cX7_even 14 = .ok (.invokestatic 112, 3) := by decide +kernel
theorem dX7_even_17 : decode cX7_even 17 = .ok (.ifCond .ne 6, 3) := by decide +kernel
theorem dX7_even_20 : decode cX7_even 20 = .ok (.bipush (-2), 2) := by decide +kernel
theorem dX7_even_22 : decode cX7_even 22 = .ok (.ireturn, 1) := by decide +kernel
theorem dX7_even_23 : decode cX7_even 23 = .ok (.bipush (-9), 2) := by decide +kernel
theorem dX7_even_25 : decode cX7_even 25 = .ok (.istore_n 3, 1) := by decide +kernel
theorem dX7_even_26 : decode cX7_even 26 = .ok (.bipush (-9), 2) := by decide +kernel
theorem dX7_even_28 : decode cX7_even 28 = .ok (.istore 4, 2) := by decide +kernel
theorem dX7_even_30 : decode cX7_even 30 = .ok (.iconst 0, 1) := by decide +kernel
theorem dX7_even_31 : decode cX7_even 31 = .ok (.istore 5, 2) := by decide +kernel
theorem dX7_even_33 : decode cX7_even 33 = .ok (.iconst 1, 1) := by decide +kernel
theorem dX7_even_34 : decode cX7_even 34 = .ok (.istore 6, 2) := by decide +kernel
theorem dX7_even_36 : decode cX7_even 36 = .ok (.iload 6, 2) := by decide +kernel
theorem dX7_even_38 : decode cX7_even 38 = .ok (.iconst 1, 1) := by decide +kernel
theorem dX7_even_39 : decode cX7_even 39 = .ok (.aload_n 0, 1) := by decide +kernel
theorem dX7_even_40 : decode cX7_even 40 = .ok (.getfield 14, 3) := by decide +kernel
theorem dX7_even_43 : decode cX7_even 43 = .ok (.invokevirtual 92, 3) := by decide +kernel
theorem dX7_even_46 : decode cX7_even 46 = .ok (.ishl, 1) := by decide +kernel
theorem dX7_even_47 : decode cX7_even 47 = .ok (.if_icmp .ge 106, 3) := by decide +kernel
theorem dX7_even_50 : decode cX7_even 50 = .ok (.aload_n 0, 1) := by decide +kernel
theorem dX7_even_51 : decode cX7_even 51 = .ok (.getfield 14, 3) := by decide +kernel
theorem dX7_even_54 : decode cX7_even 54 = .ok (.iload 6, 2) := by decide +kernel
theorem dX7_even_56 : decode cX7_even 56 = .ok (.invokevirtual 212, 3) := by decide +kernel
theorem dX7_even_59 : decode cX7_even 59 = .ok (.istore 7, 2) := by decide +kernel
theorem dX7_even_61 : decode cX7_even 61 = .ok (.iload 6, 2) := by decide +kernel
theorem dX7_even_63 : decode cX7_even 63 = .ok (.iconst 1, 1) := by decide +kernel
theorem dX7_even_64 : decode cX7_even 64 = .ok (.iadd, 1) := by decide +kernel
theorem dX7_even_65 : decode cX7_even 65 = .ok (.istore 8, 2) := by decide +kernel
theorem dX7_even_67 : decode cX7_even 67 = .ok (.iload 8, 2) := by decide +kernel
theorem dX7_even_69 : decode cX7_even 69 = .ok (.iconst 1, 1) := by decide +kernel
theorem dX7_even_70 : decode cX7_even 70 = .ok (.aload_n 0, 1) := by decide +kernel
theorem dX7_even_71 : decode cX7_even 71 = .ok (.getfield 14, 3) := by decide +kernel
theorem dX7_even_74 : decode cX7_even 74 = .ok (.invokevirtual 92, 3) := by decide +kernel
theorem dX7_even_77 : decode cX7_even 77 = .ok (.ishl, 1) := by decide +kernel
theorem dX7_even_78 : decode cX7_even 78 = .ok (.if_icmp .ge 69, 3) := by decide +kernel
theorem dX7_even_81 : decode cX7_even 81 = .ok (.iload 6, 2) := by decide +kernel
theorem dX7_even_83 : decode cX7_even 83 = .ok (.iload 8, 2) := by decide +kernel
theorem dX7_even_85 : decode cX7_even 85 = .ok (.iand, 1) := by decide +kernel
theorem dX7_even_86 : decode cX7_even 86 = .ok (.ifCond .ne 55, 3) := by decide +kernel
theorem dX7_even_89 : decode cX7_even 89 = .ok (.iload 6, 2) := by decide +kernel
theorem dX7_even_91 : decode cX7_even 91 = .ok (.iload 8, 2) := by decide +kernel
theorem dX7_even_93 : decode cX7_even 93 = .ok (.ior, 1) := by decide +kernel
theorem dX7_even_94 : decode cX7_even 94 = .ok (.invokestatic 215, 3) := by decide +kernel
theorem dX7_even_97 : decode cX7_even 97 = .ok (.iload 5, 2) := by decide +kernel
theorem dX7_even_99 : decode cX7_even 99 = .ok (.if_icmp .le 42, 3) := by decide +kernel
theorem dX7_even_102 : decode cX7_even 102 = .ok (.aload_n 0, 1) := by decide +kernel
theorem dX7_even_103 : decode cX7_even 103 = .ok (.getfield 21, 3) := by decide +kernel
theorem dX7_even_106 : decode cX7_even 106 = .ok (.iload_n 1, 1) := by decide +kernel
theorem dX7_even_107 : decode cX7_even 107 = .ok (.iload 7, 2) := by decide +kernel
theorem dX7_even_109 : decode cX7_even 109 = .ok (.aload_n 0, 1) := by decide +kernel
theorem dX7_even_110 : decode cX7_even 110 = .ok (.getfield 14, 3) := by decide +kernel
theorem dX7_even_113 : decode cX7_even 113 = .ok (.iload 8, 2) := by decide +kernel
theorem dX7_even_115 : decode cX7_even 115 = .ok (.invokevirtual 212, 3) := by decide +kernel
theorem dX7_even_118 : decode cX7_even 118 = .ok (.invokevirtual 220, 3) := by decide +kernel
theorem dX7_even_121 : decode cX7_even 121 = .ok (.ifCond .eq 20, 3) := by decide +kernel
theorem dX7_even_124 : decode cX7_even 124 = .ok (.iload 6, 2) := by decide +kernel
theorem dX7_even_126 : decode cX7_even 126 = .ok (.istore_n 3, 1) := by decide +kernel
theorem dX7_even_127 : decode cX7_even 127 = .ok (.iload 8, 2) := by decide +kernel
theorem dX7_even_129 : decode cX7_even 129 = .ok (.istore 4, 2) := by decide +kernel
theorem dX7_even_131 : decode cX7_even 131 = .ok (.iload 6, 2) := by decide +kernel
theorem dX7_even_133 : decode cX7_even 133 = .ok (.iload 8, 2) := by decide +kernel
theorem dX7_even_135 : decode cX7_even 135 = .ok (.ior, 1) := by decide +kernel
theorem dX7_even_136 : decode cX7_even 136 = .ok (.invokestatic 215, 3) := by decide +kernel
theorem dX7_even_139 : decode cX7_even 139 = .ok (.istore 5, 2) := by decide +kernel
theorem dX7_even_141 : decode cX7_even 141 = .ok (.iinc 8 1, 3) := by decide +kernel
theorem dX7_even_144 : decode cX7_even 144 = .ok (.goto (-77), 3) := by decide +kernel
theorem dX7_even_147 : decode cX7_even 147 = .ok (.iinc 6 1, 3) := by decide +kernel
theorem dX7_even_150 : decode cX7_even 150 = .ok (.goto (-114), 3) := by decide +kernel
theorem dX7_even_153 : decode cX7_even 153 = .ok (.iload_n 2, 1) := by decide +kernel
theorem dX7_even_154 : decode cX7_even 154 = .ok (.ifCond .ne 7, 3) := by decide +kernel
theorem dX7_even_157 : decode cX7_even 157 = .ok (.iload_n 3, 1) := by decide +kernel
theorem dX7_even_158 : decode cX7_even 158 = .ok (.goto 5, 3) := by decide +kernel
theorem dX7_even_161 : decode cX7_even 161 = .ok (.iload 4, 2) := by decide +kernel
theorem dX7_even_163 : decode cX7_even 163 = .ok (.ireturn, 1) := by decide +kernel
theorem dX7_odds_0 : decode cX7_odds 0 = .ok (.aload_n 0, 1) := by decide +kernel
theorem dX7_odds_1 : decode cX7_odds 1 = .ok (.getfield 21, 3) := by decide +kernel
theorem dX7_odds_4 : decode cX7_odds 4 = .ok (.iload_n 1, 1) := by decide +kernel
theorem dX7_odds_5 : decode cX7_odds 5 = .ok (.invokevirtual 111, 3) := by decide +kernel
theorem dX7_odds_8 : decode cX7_odds 8 = .ok (.ifCond .eq 10, 3) := by decide +kernel
theorem dX7_odds_11 : decode cX7_odds 11 = .ok (.iload_n 2, 1) := by decide +kernel
theorem dX7_odds_12 : decode cX7_odds 12 = .ok (.invokestatic 112, 3) := by decide +kernel
theorem dX7_odds_15 : decode cX7_odds 15 = .ok (.ifCond .ne 7, 3) := by decide +kernel
theorem dX7_odds_18 : decode cX7_odds 18 = .ok (.ldc2_w 223, 3) := by decide +kernel
theorem dX7_odds_21 : decode cX7_odds 21 = .ok (.lreturn, 1) := by decide +kernel
theorem dX7_odds_22 : decode cX7_odds 22 = .ok (.aload_n 0, 1) := by decide +kernel
theorem dX7_odds_23 : decode cX7_odds 23 = .ok (.getfield 42, 3) := by decide +kernel
theorem dX7_odds_26 : decode cX7_odds 26 = .ok (.aload_n 0, 1) := by decide +kernel
theorem dX7_odds_27 : decode cX7_odds 27 = .ok (.getfield 21, 3) := by decide +kernel
theorem dX7_odds_30 : decode cX7_odds 30 = .ok (.iload_n 1, 1) := by decide +kernel
theorem dX7_odds_31 : decode cX7_odds 31 = .ok (.aload_n 0, 1) := by decide +kernel
theorem dX7_odds_32 : decode cX7_odds 32 = .ok (.getfield 14, 3) := by decide +kernel
theorem dX7_odds_35 : decode cX7_odds 35 = .ok (.invokevirtual 125, 3) := by decide +kernel
theorem dX7_odds_38 : decode cX7_odds 38 = .ok (.aload_n 0, 1) := by decide +kernel
theorem dX7_odds_39 : decode cX7_odds 39 = .ok (.getfield 42, 3) := by decide +kernel
theorem dX7_odds_42 : decode cX7_odds 42 = .ok (.invokevirtual 225, 3) := by decide +kernel
theorem dX7_odds_45 : decode cX7_odds 45 = .ok (.istore_n 3, 1) := by decide +kernel
theorem dX7_odds_46 : decode cX7_odds 46 = .ok (.aload_n 0, 1) := by decide +kernel
theorem dX7_odds_47 : decode cX7_odds 47 = .ok (.getfield 14, 3) := by decide +kernel
theorem dX7_odds_50 : decode cX7_odds 50 = .ok (.invokevirtual 92, 3) := by decide +kernel
theorem dX7_odds_53 : decode cX7_odds 53 = .ok (.aload_n 0, 1) := by decide +kernel
theorem dX7_odds_54 : decode cX7_odds 54 = .ok (.getfield 14, 3) := by decide +kernel
theorem dX7_odds_57 : decode cX7_odds 57 = .ok (.invokevirtual 92, 3) := by decide +kernel
theorem dX7_odds_60 : decode cX7_odds 60 = .ok (.iconst 1, 1) := by decide +kernel
theorem dX7_odds_61 : decode cX7_odds 61 = .ok (.isub, 1) := by decide +kernel
theorem dX7_odds_62 : decode cX7_odds 62 = .ok (.imul, 1) := by decide +kernel
theorem dX7_odds_63 : decode cX7_odds 63 = .ok (.iconst 2, 1) := by decide +kernel
theorem dX7_odds_64 : decode cX7_odds 64 = .ok (.idiv, 1) := by decide +kernel
theorem dX7_odds_65 : decode cX7_odds 65 = .ok (.istore 4, 2) := by decide +kernel
theorem dX7_odds_67 : decode cX7_odds 67 = .ok (.iload_n 3, 1) := by decide +kernel
theorem dX7_odds_68 : decode cX7_odds 68 = .ok (.iload 4, 2) := by decide +kernel
theorem dX7_odds_70 : decode cX7_odds 70 = .ok (.invokestatic 228, 3) := by decide +kernel
theorem dX7_odds_73 : decode cX7_odds 73 = .ok (.istore 5, 2) := by decide +kernel
theorem dX7_odds_75 : decode cX7_odds 75 = .ok (.iload 5, 2) := by decide +kernel
theorem dX7_odds_77 : decode cX7_odds 77 = .ok (.iconst 1, 1) := by decide +kernel
theorem dX7_odds_78 : decode cX7_odds 78 = .ok (.if_icmp .ge 7, 3) := by decide +kernel
theorem dX7_odds_81 : decode cX7_odds 81 = .ok (.ldc2_w 223, 3) := by decide +kernel
theorem dX7_odds_84 : decode cX7_odds 84 = .ok (.lreturn, 1) := by decide +kernel
theorem dX7_odds_85 : decode cX7_odds 85 = .ok (.iload_n 2, 1) := by decide +kernel
theorem dX7_odds_86 : decode cX7_odds 86 = .ok (.ifCond .ne 11, 3) := by decide +kernel
theorem dX7_odds_89 : decode cX7_odds 89 = .ok (.iload_n 3, 1) := by decide +kernel
theorem dX7_odds_90 : decode cX7_odds 90 = .ok (.iload 5, 2) := by decide +kernel
theorem dX7_odds_92 : decode cX7_odds 92 = .ok (.idiv, 1) := by decide +kernel
theorem dX7_odds_93 : decode cX7_odds 93 = .ok (.i2l, 1) := by decide +kernel
theorem dX7_odds_94 : decode cX7_odds 94 = .ok (.goto 9, 3) := by decide +kernel
theorem dX7_odds_97 : decode cX7_odds 97 = .ok (.iload 4, 2) := by decide +kernel
theorem dX7_odds_99 : decode cX7_odds 99 = .ok (.iload 5, 2) := by decide +kernel
theorem dX7_odds_101 : decode cX7_odds 101 = .ok (.idiv, 1) := by decide +kernel
theorem dX7_odds_102 : decode cX7_odds 102 = .ok (.i2l, 1) := by decide +kernel
theorem dX7_odds_103 : decode cX7_odds 103 = .ok (.lreturn, 1) := by decide +kernel
theorem dX7_commonDivisor_0 : decode cX7_commonDivisor 0 = .ok (.iload_n 1, 1) := by decide +kernel
theorem dX7_commonDivisor_1 : decode cX7_commonDivisor 1 = .ok (.istore_n 2, 1) := by decide +kernel
theorem dX7_commonDivisor_2 : decode cX7_commonDivisor 2 = .ok (.iload_n 2, 1) := by decide +kernel
theorem dX7_commonDivisor_3 : decode cX7_commonDivisor 3 = .ok (.iconst 1, 1) := by decide +kernel
theorem dX7_commonDivisor_4 : decode cX7_commonDivisor 4 = .ok (.if_icmp .le 23, 3) := by decide +kernel
theorem dX7_commonDivisor_7 : decode cX7_commonDivisor 7 = .ok (.iload_n 0, 1) := by decide +kernel
theorem dX7_commonDivisor_8 : decode cX7_commonDivisor 8 = .ok (.iload_n 2, 1) := by decide +kernel
theorem dX7_commonDivisor_9 : decode cX7_commonDivisor 9 = .ok (.irem, 1) := by decide +kernel
theorem dX7_commonDivisor_10 : decode cX7_commonDivisor 10 = .ok (.ifCond .ne 11, 3) := by decide +kernel
theorem dX7_commonDivisor_13 : decode cX7_commonDivisor 13 = .ok (.iload_n 1, 1) := by decide +kernel
theorem dX7_commonDivisor_14 : decode cX7_commonDivisor 14 = .ok (.iload_n 2, 1) := by decide +kernel
theorem dX7_commonDivisor_15 : decode cX7_commonDivisor 15 = .ok (.irem, 1) := by decide +kernel
theorem dX7_commonDivisor_16 : decode cX7_commonDivisor 16 = .ok (.ifCond .ne 5, 3) := by decide +kernel
theorem dX7_commonDivisor_19 : decode cX7_commonDivisor 19 = .ok (.iload_n 2, 1) := by decide +kernel
theorem dX7_commonDivisor_20 : decode cX7_commonDivisor 20 = .ok (.ireturn, 1) := by decide +kernel
theorem dX7_commonDivisor_21 : decode cX7_commonDivisor 21 = .ok (.iinc 2 (-1), 3) := by decide +kernel
theorem dX7_commonDivisor_24 : decode cX7_commonDivisor 24 = .ok (.goto (-22), 3) := by decide +kernel
theorem dX7_commonDivisor_27 : decode cX7_commonDivisor 27 = .ok (.iconst 1, 1) := by decide +kernel
theorem dX7_commonDivisor_28 : decode cX7_commonDivisor 28 = .ok (.ireturn, 1) := by decide +kernel
theorem dX7_sheet_0 : decode cX7_sheet 0 = .ok (.aload_n 0, 1) := by decide +kernel
theorem dX7_sheet_1 : decode cX7_sheet 1 = .ok (.iconst 0, 1) := by decide +kernel
theorem dX7_sheet_2 : decode cX7_sheet 2 = .ok (.putfield 60, 3) := by decide +kernel
theorem dX7_sheet_5 : decode cX7_sheet 5 = .ok (.aload_n 0, 1) := by decide +kernel
theorem dX7_sheet_6 : decode cX7_sheet 6 = .ok (.getfield 35, 3) := by decide +kernel
theorem dX7_sheet_9 : decode cX7_sheet 9 = .ok (.iload_n 1, 1) := by decide +kernel
theorem dX7_sheet_10 : decode cX7_sheet 10 = .ok (.invokevirtual 63, 3) := by decide +kernel
theorem dX7_sheet_13 : decode cX7_sheet 13 = .ok (.ifCond .ne 5, 3) := by decide +kernel
theorem dX7_sheet_16 : decode cX7_sheet 16 = .ok (.iconst (-1), 1) := by decide +kernel
theorem dX7_sheet_17 : decode cX7_sheet 17 = .ok (.ireturn, 1) := by decide +kernel
theorem dX7_sheet_18 : decode cX7_sheet 18 = .ok (.iload_n 2, 1) := by decide +kernel
theorem dX7_sheet_19 : decode cX7_sheet 19 = .ok (.invokestatic 67, 3) := by decide +kernel
theorem dX7_sheet_22 : decode cX7_sheet 22 = .ok (.ifCond .eq 9, 3) := by decide +kernel
theorem dX7_sheet_25 : decode cX7_sheet 25 = .ok (.iload_n 3, 1) := by decide +kernel
theorem dX7_sheet_26 : decode cX7_sheet 26 = .ok (.bipush 40, 2) := by decide +kernel
theorem dX7_sheet_28 : decode cX7_sheet 28 = .ok (.if_icmp .le 6, 3) := by decide +kernel
theorem dX7_sheet_31 : decode cX7_sheet 31 = .ok (.bipush (-2), 2) := by decide +kernel
theorem dX7_sheet_33 : decode cX7_sheet 33 = .ok (.ireturn, 1) := by decide +kernel
theorem dX7_sheet_34 : decode cX7_sheet 34 = .ok (.iload_n 3, 1) := by decide +kernel
theorem dX7_sheet_35 : decode cX7_sheet 35 = .ok (.ifCond .ge 9, 3) := by decide +kernel
theorem dX7_sheet_38 : decode cX7_sheet 38 = .ok (.aload_n 0, 1) := by decide +kernel
theorem dX7_sheet_39 : decode cX7_sheet 39 = .ok (.iconst 4, 1) := by decide +kernel
theorem dX7_sheet_40 : decode cX7_sheet 40 = .ok (.invokevirtual 74, 3) := by decide +kernel
theorem dX7_sheet_43 : decode cX7_sheet 43 = .ok (.ireturn, 1) := by decide +kernel
theorem dX7_sheet_44 : decode cX7_sheet 44 = .ok (.aload_n 0, 1) := by decide +kernel
theorem dX7_sheet_45 : decode cX7_sheet 45 = .ok (.getfield 35, 3) := by decide +kernel
theorem dX7_sheet_48 : decode cX7_sheet 48 = .ok (.iload_n 1, 1) := by decide +kernel
theorem dX7_sheet_49 : decode cX7_sheet 49 = .ok (.iload_n 2, 1) := by decide +kernel
theorem dX7_sheet_50 : decode cX7_sheet 50 = .ok (.iload_n 3, 1) := by decide +kernel
theorem dX7_sheet_51 : decode cX7_sheet 51 = .ok (.invokevirtual 231, 3) := by decide +kernel
theorem dX7_sheet_54 : decode cX7_sheet 54 = .ok (.iconst 1, 1) := by decide +kernel
theorem dX7_sheet_55 : decode cX7_sheet 55 = .ok (.ireturn, 1) := by decide +kernel
theorem dX7_lose_0 : decode cX7_lose 0 = .ok (.aload_n 0, 1) := by decide +kernel
theorem dX7_lose_1 : decode cX7_lose 1 = .ok (.getfield 35, 3) := by decide +kernel
theorem dX7_lose_4 : decode cX7_lose 4 = .ok (.iload_n 1, 1) := by decide +kernel
theorem dX7_lose_5 : decode cX7_lose 5 = .ok (.invokevirtual 63, 3) := by decide +kernel
theorem dX7_lose_8 : decode cX7_lose 8 = .ok (.ifCond .ne 5, 3) := by decide +kernel
theorem dX7_lose_11 : decode cX7_lose 11 = .ok (.iconst (-1), 1) := by decide +kernel
theorem dX7_lose_12 : decode cX7_lose 12 = .ok (.ireturn, 1) := by decide +kernel
theorem dX7_lose_13 : decode cX7_lose 13 = .ok (.aload_n 0, 1) := by decide +kernel
theorem dX7_lose_14 : decode cX7_lose 14 = .ok (.getfield 35, 3) := by decide +kernel
theorem dX7_lose_17 : decode cX7_lose 17 = .ok (.iload_n 1, 1) := by decide +kernel
theorem dX7_lose_18 : decode cX7_lose 18 = .ok (.invokevirtual 235, 3) := by decide +kernel
theorem dX7_lose_21 : decode cX7_lose 21 = .ok (.ifCond .eq 7, 3) := by decide +kernel
theorem dX7_lose_24 : decode cX7_lose 24 = .ok (.iconst 1, 1) := by decide +kernel
theorem dX7_lose_25 : decode cX7_lose 25 = .ok (.goto 4, 3) := by decide +kernel
theorem dX7_lose_28 : decode cX7_lose 28 = .ok (.iconst 0, 1) := by decide +kernel
theorem dX7_lose_29 : decode cX7_lose 29 = .ok (.ireturn, 1) := by decide +kernel
theorem dX7_put_0 : decode cX7_put 0 = .ok (.aload_n 0, 1) := by decide +kernel
theorem dX7_put_1 : decode cX7_put 1 = .ok (.iconst 0, 1) := by decide +kernel
theorem dX7_put_2 : decode cX7_put 2 = .ok (.putfield 60, 3) := by decide +kernel
theorem dX7_put_5 : decode cX7_put 5 = .ok (.aload_n 0, 1) := by decide +kernel
theorem dX7_put_6 : decode cX7_put 6 = .ok (.getfield 35, 3) := by decide +kernel
theorem dX7_put_9 : decode cX7_put 9 = .ok (.iload_n 1, 1) := by decide +kernel
theorem dX7_put_10 : decode cX7_put 10 = .ok (.invokevirtual 63, 3) := by decide +kernel
theorem dX7_put_13 : decode cX7_put 13 = .ok (.ifCond .ne 5, 3) := by decide +kernel
theorem dX7_put_16 : decode cX7_put 16 = .ok (.iconst (-1), 1) := by decide +kernel
theorem dX7_put_17 : decode cX7_put 17 = .ok (.ireturn, 1) := by decide +kernel
theorem dX7_put_18 : decode cX7_put 18 = .ok (.aload_n 0, 1) := by decide +kernel
theorem dX7_put_19 : decode cX7_put 19 = .ok (.getfield 35, 3) := by decide +kernel
theorem dX7_put_22 : decode cX7_put 22 = .ok (.iload_n 1, 1) := by decide +kernel
theorem dX7_put_23 : decode cX7_put 23 = .ok (.invokevirtual 238, 3) := by decide +kernel
theorem dX7_put_26 : decode cX7_put 26 = .ok (.ifCond .ne 9, 3) := by decide +kernel
theorem dX7_put_29 : decode cX7_put 29 = .ok (.aload_n 0, 1) := by decide +kernel
theorem dX7_put_30 : decode cX7_put 30 = .ok (.iconst 1, 1) := by decide +kernel
theorem dX7_put_31 : decode cX7_put 31 = .ok (.invokevirtual 74, 3) := by decide +kernel
theorem dX7_put_34 : decode cX7_put 34 = .ok (.ireturn, 1) := by decide +kernel
theorem dX7_put_35 : decode cX7_put 35 = .ok (.aload_n 0, 1) := by decide +kernel
theorem dX7_put_36 : decode cX7_put 36 = .ok (.getfield 35, 3) := by decide +kernel
theorem dX7_put_39 : decode cX7_put 39 = .ok (.iload_n 1, 1) := by decide +kernel
theorem dX7_put_40 : decode cX7_put 40 = .ok (.iload_n 2, 1) := by decide +kernel
theorem dX7_put_41 : decode cX7_put 41 = .ok (.iconst 1, 1) := by decide +kernel
theorem dX7_put_42 : decode cX7_put 42 = .ok (.invokevirtual 241, 3) := by decide +kernel
theorem dX7_put_45 : decode cX7_put 45 = .ok (.ifCond .ne 9, 3) := by decide +kernel
theorem dX7_put_48 : decode cX7_put 48 = .ok (.aload_n 0, 1) := by decide +kernel
theorem dX7_put_49 : decode cX7_put 49 = .ok (.iconst 3, 1) := by decide +kernel
theorem dX7_put_50 : decode cX7_put 50 = .ok (.invokevirtual 74, 3) := by decide +kernel
theorem dX7_put_53 : decode cX7_put 53 = .ok (.ireturn, 1) := by decide +kernel
theorem dX7_put_54 : decode cX7_put 54 = .ok (.aload_n 0, 1) := by decide +kernel
theorem dX7_put_55 : decode cX7_put 55 = .ok (.getfield 35, 3) := by decide +kernel
theorem dX7_put_58 : decode cX7_put 58 = .ok (.iload_n 1, 1) := by decide +kernel
theorem dX7_put_59 : decode cX7_put 59 = .ok (.iload_n 2, 1) := by decide +kernel
theorem dX7_put_60 : decode cX7_put 60 = .ok (.iload_n 3, 1) := by decide +kernel
theorem dX7_put_61 : decode cX7_put 61 = .ok (.invokevirtual 244, 3) := by decide +kernel
theorem dX7_put_64 : decode cX7_put 64 = .ok (.iconst 1, 1) := by decide +kernel
theorem dX7_put_65 : decode cX7_put 65 = .ok (.ireturn, 1) := by decide +kernel
theorem dX7_cell_0 : decode cX7_cell 0 = .ok (.aload_n 0, 1) := by decide +kernel
theorem dX7_cell_1 : decode cX7_cell 1 = .ok (.iconst 0, 1) := by decide +kernel
theorem dX7_cell_2 : decode cX7_cell 2 = .ok (.putfield 60, 3) := by decide +kernel
theorem dX7_cell_5 : decode cX7_cell 5 = .ok (.aload_n 0, 1) := by decide +kernel
theorem dX7_cell_6 : decode cX7_cell 6 = .ok (.getfield 35, 3) := by decide +kernel
theorem dX7_cell_9 : decode cX7_cell 9 = .ok (.iload_n 1, 1) := by decide +kernel
theorem dX7_cell_10 : decode cX7_cell 10 = .ok (.invokevirtual 63, 3) := by decide +kernel
theorem dX7_cell_13 : decode cX7_cell 13 = .ok (.ifCond .eq 10, 3) := by decide +kernel
theorem dX7_cell_16 : decode cX7_cell 16 = .ok (.iload_n 3, 1) := by decide +kernel
theorem dX7_cell_17 : decode cX7_cell 17 = .ok (.invokestatic 67, 3) := by decide +kernel
theorem dX7_cell_20 : decode cX7_cell 20 = .ok (.ifCond .ne 7, 3) := by decide +kernel
theorem dX7_cell_23 : decode cX7_cell 23 = .ok (.ldc2_w 223, 3) := by decide +kernel
theorem dX7_cell_26 : decode cX7_cell 26 = .ok (.lreturn, 1) := by decide +kernel
theorem dX7_cell_27 : decode cX7_cell 27 = .ok (.aload_n 0, 1) := by decide +kernel
theorem dX7_cell_28 : decode cX7_cell 28 = .ok (.aload_n 0, 1) := by decide +kernel
theorem dX7_cell_29 : decode cX7_cell 29 = .ok (.getfield 35, 3) := by decide +kernel
theorem dX7_cell_32 : decode cX7_cell 32 = .ok (.iload_n 1, 1) := by decide +kernel
theorem dX7_cell_33 : decode cX7_cell 33 = .ok (.iload_n 3, 1) := by decide +kernel
theorem dX7_cell_34 : decode cX7_cell 34 = .ok (.iload_n 2, 1) := by decide +kernel
theorem dX7_cell_35 : decode cX7_cell 35 = .ok (.iconst 1, 1) := by decide +kernel
theorem dX7_cell_36 : decode cX7_cell 36 = .ok (.invokevirtual 70, 3) := by decide +kernel
theorem dX7_cell_39 : decode cX7_cell 39 = .ok (.putfield 60, 3) := by decide +kernel
theorem dX7_cell_42 : decode cX7_cell 42 = .ok (.aload_n 0, 1) := by decide +kernel
theorem dX7_cell_43 : decode cX7_cell 43 = .ok (.getfield 60, 3) := by decide +kernel
theorem dX7_cell_46 : decode cX7_cell 46 = .ok (.ifCond .ne 16, 3) := by decide +kernel
theorem dX7_cell_49 : decode cX7_cell 49 = .ok (.aload_n 0, 1) := by decide +kernel
theorem dX7_cell_50 : decode cX7_cell 50 = .ok (.getfield 35, 3) := by decide +kernel
theorem dX7_cell_53 : decode cX7_cell 53 = .ok (.iload_n 1, 1) := by decide +kernel
theorem dX7_cell_54 : decode cX7_cell 54 = .ok (.iload_n 2, 1) := by decide +kernel
theorem dX7_cell_55 : decode cX7_cell 55 = .ok (.invokevirtual 206, 3) := by decide +kernel
theorem dX7_cell_58 : decode cX7_cell 58 = .ok (.i2l, 1) := by decide +kernel
theorem dX7_cell_59 : decode cX7_cell 59 = .ok (.goto 6, 3) := by decide +kernel
theorem dX7_cell_62 : decode cX7_cell 62 = .ok (.ldc2_w 223, 3) := by decide +kernel
theorem dX7_cell_65 : decode cX7_cell 65 = .ok (.lreturn, 1) := by decide +kernel
theorem dX7_copy_0 : decode cX7_copy 0 = .ok (.aload_n 0, 1) := by decide +kernel
theorem dX7_copy_1 : decode cX7_copy 1 = .ok (.iconst 0, 1) := by decide +kernel
theorem dX7_copy_2 : decode cX7_copy 2 = .ok (.putfield 60, 3) := by decide +kernel
theorem dX7_copy_5 : decode cX7_copy 5 = .ok (.aload_n 0, 1) := by decide +kernel
theorem dX7_copy_6 : decode cX7_copy 6 = .ok (.getfield 35, 3) := by decide +kernel
theorem dX7_copy_9 : decode cX7_copy 9 = .ok (.iload_n 1, 1) := by decide +kernel
theorem dX7_copy_10 : decode cX7_copy 10 = .ok (.invokevirtual 63, 3) := by decide +kernel
theorem dX7_copy_13 : decode cX7_copy 13 = .ok (.ifCond .eq 14, 3) := by decide +kernel
theorem dX7_copy_16 : decode cX7_copy 16 = .ok (.aload_n 0, 1) := by decide +kernel
theorem dX7_copy_17 : decode cX7_copy 17 = .ok (.getfield 35, 3) := by decide +kernel
theorem dX7_copy_20 : decode cX7_copy 20 = .ok (.iload_n 3, 1) := by decide +kernel
theorem dX7_copy_21 : decode cX7_copy 21 = .ok (.invokevirtual 63, 3) := by decide +kernel
theorem dX7_copy_24 : decode cX7_copy 24 = .ok (.ifCond .ne 5, 3) := by decide +kernel
theorem dX7_copy_27 : decode cX7_copy 27 = .ok (.iconst (-1), 1) := by decide +kernel
theorem dX7_copy_28 : decode cX7_copy 28 = .ok (.ireturn, 1) := by decide +kernel
theorem dX7_copy_29 : decode cX7_copy 29 = .ok (.aload_n 0, 1) := by decide +kernel
theorem dX7_copy_30 : decode cX7_copy 30 = .ok (.getfield 35, 3) := by decide +kernel
theorem dX7_copy_33 : decode cX7_copy 33 = .ok (.iload_n 1, 1) := by decide +kernel
theorem dX7_copy_34 : decode cX7_copy 34 = .ok (.invokevirtual 238, 3) := by decide +kernel
theorem dX7_copy_37 : decode cX7_copy 37 = .ok (.ifCond .eq 14, 3) := by decide +kernel
theorem dX7_copy_40 : decode cX7_copy 40 = .ok (.aload_n 0, 1) := by decide +kernel
theorem dX7_copy_41 : decode cX7_copy 41 = .ok (.getfield 35, 3) := by decide +kernel
theorem dX7_copy_44 : decode cX7_copy 44 = .ok (.iload_n 3, 1) := by decide +kernel
theorem dX7_copy_45 : decode cX7_copy 45 = .ok (.invokevirtual 238, 3) := by decide +kernel
theorem dX7_copy_48 : decode cX7_copy 48 = .ok (.ifCond .ne 9, 3) := by decide +kernel
theorem dX7_copy_51 : decode cX7_copy 51 = .ok (.aload_n 0, 1) := by decide +kernel
theorem dX7_copy_52 : decode cX7_copy 52 = .ok (.iconst 1, 1) := by decide +kernel
theorem dX7_copy_53 : decode cX7_copy 53 = .ok (.invokevirtual 74, 3) := by decide +kernel
theorem dX7_copy_56 : decode cX7_copy 56 = .ok (.ireturn, 1) := by decide +kernel
theorem dX7_copy_57 : decode cX7_copy 57 = .ok (.aload_n 0, 1) := by decide +kernel
theorem dX7_copy_58 : decode cX7_copy 58 = .ok (.getfield 35, 3) := by decide +kernel
theorem dX7_copy_61 : decode cX7_copy 61 = .ok (.iload_n 1, 1) := by decide +kernel
theorem dX7_copy_62 : decode cX7_copy 62 = .ok (.invokevirtual 247, 3) := by decide +kernel
theorem dX7_copy_65 : decode cX7_copy 65 = .ok (.aload_n 0, 1) := by decide +kernel
theorem dX7_copy_66 : decode cX7_copy 66 = .ok (.getfield 35, 3) := by decide +kernel
theorem dX7_copy_69 : decode cX7_copy 69 = .ok (.iload_n 3, 1) := by decide +kernel
theorem dX7_copy_70 : decode cX7_copy 70 = .ok (.invokevirtual 247, 3) := by decide +kernel
theorem dX7_copy_73 : decode cX7_copy 73 = .ok (.if_icmp .eq 9, 3) := by decide +kernel
theorem dX7_copy_76 : decode cX7_copy 76 = .ok (.aload_n 0, 1) := by decide +kernel
theorem dX7_copy_77 : decode cX7_copy 77 = .ok (.iconst 2, 1) := by decide +kernel
theorem dX7_copy_78 : decode cX7_copy 78 = .ok (.invokevirtual 74, 3) := by decide +kernel
theorem dX7_copy_81 : decode cX7_copy 81 = .ok (.ireturn, 1) := by decide +kernel
theorem dX7_copy_82 : decode cX7_copy 82 = .ok (.aload_n 0, 1) := by decide +kernel
theorem dX7_copy_83 : decode cX7_copy 83 = .ok (.getfield 35, 3) := by decide +kernel
theorem dX7_copy_86 : decode cX7_copy 86 = .ok (.iload_n 1, 1) := by decide +kernel
theorem dX7_copy_87 : decode cX7_copy 87 = .ok (.iload_n 2, 1) := by decide +kernel
theorem dX7_copy_88 : decode cX7_copy 88 = .ok (.iload 5, 2) := by decide +kernel
theorem dX7_copy_90 : decode cX7_copy 90 = .ok (.invokevirtual 241, 3) := by decide +kernel
theorem dX7_copy_93 : decode cX7_copy 93 = .ok (.ifCond .eq 18, 3) := by decide +kernel
theorem dX7_copy_96 : decode cX7_copy 96 = .ok (.aload_n 0, 1) := by decide +kernel
theorem dX7_copy_97 : decode cX7_copy 97 = .ok (.getfield 35, 3) := by decide +kernel
theorem dX7_copy_100 : decode cX7_copy 100 = .ok (.iload_n 3, 1) := by decide +kernel
theorem dX7_copy_101 : decode cX7_copy 101 = .ok (.iload 4, 2) := by decide +kernel
theorem dX7_copy_103 : decode cX7_copy 103 = .ok (.iload 5, 2) := by decide +kernel
theorem dX7_copy_105 : decode cX7_copy 105 = .ok (.invokevirtual 241, 3) := by decide +kernel
theorem dX7_copy_108 : decode cX7_copy 108 = .ok (.ifCond .ne 9, 3) := by decide +kernel
theorem dX7_copy_111 : decode cX7_copy 111 = .ok (.aload_n 0, 1) := by decide +kernel
theorem dX7_copy_112 : decode cX7_copy 112 = .ok (.iconst 3, 1) := by decide +kernel
theorem dX7_copy_113 : decode cX7_copy 113 = .ok (.invokevirtual 74, 3) := by decide +kernel
theorem dX7_copy_116 : decode cX7_copy 116 = .ok (.ireturn, 1) := by decide +kernel
theorem dX7_copy_117 : decode cX7_copy 117 = .ok (.aload_n 0, 1) := by decide +kernel
theorem dX7_copy_118 : decode cX7_copy 118 = .ok (.getfield 35, 3) := by decide +kernel
theorem dX7_copy_121 : decode cX7_copy 121 = .ok (.iload_n 1, 1) := by decide +kernel
theorem dX7_copy_122 : decode cX7_copy 122 = .ok (.iload_n 2, 1) := by decide +kernel
theorem dX7_copy_123 : decode cX7_copy 123 = .ok (.iload_n 3, 1) := by decide +kernel
theorem dX7_copy_124 : decode cX7_copy 124 = .ok (.iload 4, 2) := by decide +kernel
theorem dX7_copy_126 : decode cX7_copy 126 = .ok (.iload 5, 2) := by decide +kernel
theorem dX7_copy_128 : decode cX7_copy 128 = .ok (.invokevirtual 250, 3) := by decide +kernel
theorem dX7_copy_131 : decode cX7_copy 131 = .ok (.iload 5, 2) := by decide +kernel
theorem dX7_copy_133 : decode cX7_copy 133 = .ok (.ireturn, 1) := by decide +kernel
theorem dX7_tell_0 : decode cX7_tell 0 = .ok (.aload_n 0, 1) := by decide +kernel
theorem dX7_tell_1 : decode cX7_tell 1 = .ok (.getfield 21, 3) := by decide +kernel
theorem dX7_tell_4 : decode cX7_tell 4 = .ok (.iload_n 1, 1) := by decide +kernel
theorem dX7_tell_5 : decode cX7_tell 5 = .ok (.invokevirtual 111, 3) := by decide +kernel
theorem dX7_tell_8 : decode cX7_tell 8 = .ok (.ifCond .ne 5, 3) := by decide +kernel
theorem dX7_tell_11 : decode cX7_tell 11 = .ok (.iconst (-1), 1) := by decide +kernel
theorem dX7_tell_12 : decode cX7_tell 12 = .ok (.ireturn, 1) := by decide +kernel
theorem dX7_tell_13 : decode cX7_tell 13 = .ok (.aload_n 0, 1) := by decide +kernel
theorem dX7_tell_14 : decode cX7_tell 14 = .ok (.getfield 21, 3) := by decide +kernel
theorem dX7_tell_17 : decode cX7_tell 17 = .ok (.iload_n 1, 1) := by decide +kernel
theorem dX7_tell_18 : decode cX7_tell 18 = .ok (.invokevirtual 118, 3) := by decide +kernel
theorem dX7_tell_21 : decode cX7_tell 21 = .ok (.istore_n 2, 1) := by decide +kernel
theorem dX7_tell_22 : decode cX7_tell 22 = .ok (.aload_n 0, 1) := by decide +kernel
theorem dX7_tell_23 : decode cX7_tell 23 = .ok (.getfield 21, 3) := by decide +kernel
theorem dX7_tell_26 : decode cX7_tell 26 = .ok (.iload_n 1, 1) := by decide +kernel
theorem dX7_tell_27 : decode cX7_tell 27 = .ok (.invokevirtual 115, 3) := by decide +kernel
theorem dX7_tell_30 : decode cX7_tell 30 = .ok (.lookupswitch 38 #[(1, 32), (2, 26)], 26) := by decide +kernel
theorem dX7_tell_56 : decode cX7_tell 56 = .ok (.aload_n 0, 1) := by decide +kernel
theorem dX7_tell_57 : decode cX7_tell 57 = .ok (.iload_n 2, 1) := by decide +kernel
theorem dX7_tell_58 : decode cX7_tell 58 = .ok (.invokevirtual 254, 3) := by decide +kernel
theorem dX7_tell_61 : decode cX7_tell 61 = .ok (.ireturn, 1) := by decide +kernel
theorem dX7_tell_62 : decode cX7_tell 62 = .ok (.aload_n 0, 1) := by decide +kernel
theorem dX7_tell_63 : decode cX7_tell 63 = .ok (.iload_n 2, 1) := by decide +kernel
theorem dX7_tell_64 : decode cX7_tell 64 = .ok (.invokevirtual 257, 3) := by decide +kernel
theorem dX7_tell_67 : decode cX7_tell 67 = .ok (.ireturn, 1) := by decide +kernel
theorem dX7_tell_68 : decode cX7_tell 68 = .ok (.aload_n 0, 1) := by decide +kernel
theorem dX7_tell_69 : decode cX7_tell 69 = .ok (.iload_n 2, 1) := by decide +kernel
theorem dX7_tell_70 : decode cX7_tell 70 = .ok (.invokevirtual 260, 3) := by decide +kernel
theorem dX7_tell_73 : decode cX7_tell 73 = .ok (.ireturn, 1) := by decide +kernel
theorem dX7_shake_0 : decode cX7_shake 0 = .ok (.aload_n 0, 1) := by decide +kernel
theorem dX7_shake_1 : decode cX7_shake 1 = .ok (.getfield 21, 3) := by decide +kernel
theorem dX7_shake_4 : decode cX7_shake 4 = .ok (.iload_n 1, 1) := by decide +kernel
theorem dX7_shake_5 : decode cX7_shake 5 = .ok (.invokevirtual 111, 3) := by decide +kernel
theorem dX7_shake_8 : decode cX7_shake 8 = .ok (.ifCond .ne 5, 3) := by decide +kernel
theorem dX7_shake_11 : decode cX7_shake 11 = .ok (.iconst (-1), 1) := by decide +kernel
theorem dX7_shake_12 : decode cX7_shake 12 = .ok (.ireturn, 1) := by decide +kernel
theorem dX7_shake_13 : decode cX7_shake 13 = .ok (.aload_n 0, 1) := by decide +kernel
theorem dX7_shake_14 : decode cX7_shake 14 = .ok (.getfield 21, 3) := by decide +kernel
theorem dX7_shake_17 : decode cX7_shake 17 = .ok (.iload_n 1, 1) := by decide +kernel
theorem dX7_shake_18 : decode cX7_shake 18 = .ok (.invokevirtual 115, 3) := by decide +kernel
theorem dX7_shake_21 : decode cX7_shake 21 = .ok (.iconst 2, 1) := by decide +kernel
theorem dX7_shake_22 : decode cX7_shake 22 = .ok (.if_icmp .ne 10, 3) := by decide +kernel
theorem dX7_shake_25 : decode cX7_shake 25 = .ok (.aload_n 0, 1) := by decide +kernel
theorem dX7_shake_26 : decode cX7_shake 26 = .ok (.invokevirtual 263, 3) := by decide +kernel
theorem dX7_shake_29 : decode cX7_shake 29 = .ok (.goto 8, 3) := by decide +kernel
theorem dX7_shake_32 : decode cX7_shake 32 = .ok (.aload_n 0, 1) := by decide +kernel
theorem dX7_shake_33 : decode cX7_shake 33 = .ok (.iload_n 1, 1) := by decide +kernel
theorem dX7_shake_34 : decode cX7_shake 34 = .ok (.invokevirtual 266, 3) := by decide +kernel
theorem dX7_shake_37 : decode cX7_shake 37 = .ok (.ireturn, 1) := by decide +kernel
theorem dX7_as_0 : decode cX7_as 0 = .ok (.aload_n 0, 1) := by decide +kernel
theorem dX7_as_1 : decode cX7_as 1 = .ok (.iconst 0, 1) := by decide +kernel
theorem dX7_as_2 : decode cX7_as 2 = .ok (.putfield 60, 3) := by decide +kernel
theorem dX7_as_5 : decode cX7_as 5 = .ok (.aload_n 0, 1) := by decide +kernel
theorem dX7_as_6 : decode cX7_as 6 = .ok (.getfield 21, 3) := by decide +kernel
theorem dX7_as_9 : decode cX7_as 9 = .ok (.iload_n 1, 1) := by decide +kernel
theorem dX7_as_10 : decode cX7_as 10 = .ok (.invokevirtual 111, 3) := by decide +kernel
theorem dX7_as_13 : decode cX7_as 13 = .ok (.ifCond .ne 5, 3) := by decide +kernel
theorem dX7_as_16 : decode cX7_as 16 = .ok (.iconst (-1), 1) := by decide +kernel
theorem dX7_as_17 : decode cX7_as 17 = .ok (.ireturn, 1) := by decide +kernel
theorem dX7_as_18 : decode cX7_as 18 = .ok (.iload_n 2, 1) := by decide +kernel
theorem dX7_as_19 : decode cX7_as 19 = .ok (.invokestatic 104, 3) := by decide +kernel
theorem dX7_as_22 : decode cX7_as 22 = .ok (.ifCond .ne 6, 3) := by decide +kernel
theorem dX7_as_25 : decode cX7_as 25 = .ok (.bipush (-2), 2) := by decide +kernel
theorem dX7_as_27 : decode cX7_as 27 = .ok (.ireturn, 1) := by decide +kernel
theorem dX7_as_28 : decode cX7_as 28 = .ok (.iload_n 2, 1) := by decide +kernel
theorem dX7_as_29 : decode cX7_as 29 = .ok (.aload_n 0, 1) := by decide +kernel
theorem dX7_as_30 : decode cX7_as 30 = .ok (.getfield 21, 3) := by decide +kernel
theorem dX7_as_33 : decode cX7_as 33 = .ok (.iload_n 1, 1) := by decide +kernel
theorem dX7_as_34 : decode cX7_as 34 = .ok (.invokevirtual 115, 3) := by decide +kernel
theorem dX7_as_37 : decode cX7_as 37 = .ok (.if_icmp .gt 7, 3) := by decide +kernel
theorem dX7_as_40 : decode cX7_as 40 = .ok (.iconst 1, 1) := by decide +kernel
theorem dX7_as_41 : decode cX7_as 41 = .ok (.goto 8, 3) := by decide +kernel
theorem dX7_as_44 : decode cX7_as 44 = .ok (.aload_n 0, 1) := by decide +kernel
theorem dX7_as_45 : decode cX7_as 45 = .ok (.iconst 2, 1) := by decide +kernel
theorem dX7_as_46 : decode cX7_as 46 = .ok (.invokevirtual 74, 3) := by decide +kernel
theorem dX7_as_49 : decode cX7_as 49 = .ok (.ireturn, 1) := by decide +kernel
theorem dX7_trace_0 : decode cX7_trace 0 = .ok (.aload_n 0, 1) := by decide +kernel
theorem dX7_trace_1 : decode cX7_trace 1 = .ok (.getfield 56, 3) := by decide +kernel
theorem dX7_trace_4 : decode cX7_trace 4 = .ok (.ireturn, 1) := by decide +kernel
theorem dX7_fault_0 : decode cX7_fault 0 = .ok (.aload_n 0, 1) := by decide +kernel
theorem dX7_fault_1 : decode cX7_fault 1 = .ok (.getfield 60, 3) := by decide +kernel
theorem dX7_fault_4 : decode cX7_fault 4 = .ok (.ireturn, 1) := by decide +kernel
theorem dX7_many_0 : decode cX7_many 0 = .ok (.iload_n 1, 1) := by decide +kernel
theorem dX7_many_1 : decode cX7_many 1 = .ok (.tableswitch 51 0 2 #[27, 35, 43], 27) := by decide +kernel
theorem dX7_many_28 : decode cX7_many 28 = .ok (.aload_n 0, 1) := by decide +kernel
theorem dX7_many_29 : decode cX7_many 29 = .ok (.getfield 14, 3) := by decide +kernel
theorem dX7_many_32 : decode cX7_many 32 = .ok (.invokevirtual 92, 3) := by decide +kernel
theorem dX7_many_35 : decode cX7_many 35 = .ok (.ireturn, 1) := by decide +kernel
theorem dX7_many_36 : decode cX7_many 36 = .ok (.aload_n 0, 1) := by decide +kernel
theorem dX7_many_37 : decode cX7_many 37 = .ok (.getfield 21, 3) := by decide +kernel
theorem dX7_many_40 : decode cX7_many 40 = .ok (.invokevirtual 269, 3) := by decide +kernel
theorem dX7_many_43 : decode cX7_many 43 = .ok (.ireturn, 1) := by decide +kernel
theorem dX7_many_44 : decode cX7_many 44 = .ok (.aload_n 0, 1) := by decide +kernel
theorem dX7_many_45 : decode cX7_many 45 = .ok (.getfield 28, 3) := by decide +kernel
theorem dX7_many_48 : decode cX7_many 48 = .ok (.invokevirtual 157, 3) := by decide +kernel
theorem dX7_many_51 : decode cX7_many 51 = .ok (.ireturn, 1) := by decide +kernel
theorem dX7_many_52 : decode cX7_many 52 = .ok (.bipush (-2), 2) := by decide +kernel
theorem dX7_many_54 : decode cX7_many 54 = .ok (.ireturn, 1) := by decide +kernel
theorem dX7_handBody_0 : decode cX7_handBody 0 = .ok (.aload_n 0, 1) := by decide +kernel
theorem dX7_handBody_1 : decode cX7_handBody 1 = .ok (.iconst 1, 1) := by decide +kernel
theorem dX7_handBody_2 : decode cX7_handBody 2 = .ok (.invokevirtual 270, 3) := by decide +kernel
theorem dX7_handBody_5 : decode cX7_handBody 5 = .ok (.iload_n 1, 1) := by decide +kernel
theorem dX7_handBody_6 : decode cX7_handBody 6 = .ok (.ireturn, 1) := by decide +kernel
theorem dX7_steadyBody_0 : decode cX7_steadyBody 0 = .ok (.aload_n 0, 1) := by decide +kernel
theorem dX7_steadyBody_1 : decode cX7_steadyBody 1 = .ok (.iconst 2, 1) := by decide +kernel
theorem dX7_steadyBody_2 : decode cX7_steadyBody 2 = .ok (.invokevirtual 270, 3) := by decide +kernel
theorem dX7_steadyBody_5 : decode cX7_steadyBody 5 = .ok (.aload_n 0, 1) := by decide +kernel
theorem dX7_steadyBody_6 : decode cX7_steadyBody 6 = .ok (.iload_n 1, 1) := by decide +kernel
theorem dX7_steadyBody_7 : decode cX7_steadyBody 7 = .ok (.invokevirtual 260, 3) := by decide +kernel
theorem dX7_steadyBody_10 : decode cX7_steadyBody 10 = .ok (.bipush 100, 2) := by decide +kernel
theorem dX7_steadyBody_12 : decode cX7_steadyBody 12 = .ok (.iadd, 1) := by decide +kernel
theorem dX7_steadyBody_13 : decode cX7_steadyBody 13 = .ok (.ireturn, 1) := by decide +kernel
theorem dX7_smithBody_0 : decode cX7_smithBody 0 = .ok (.aload_n 0, 1) := by decide +kernel
theorem dX7_smithBody_1 : decode cX7_smithBody 1 = .ok (.iconst 3, 1) := by decide +kernel
theorem dX7_smithBody_2 : decode cX7_smithBody 2 = .ok (.invokevirtual 270, 3) := by decide +kernel
theorem dX7_smithBody_5 : decode cX7_smithBody 5 = .ok (.aload_n 0, 1) := by decide +kernel
theorem dX7_smithBody_6 : decode cX7_smithBody 6 = .ok (.iload_n 1, 1) := by decide +kernel
theorem dX7_smithBody_7 : decode cX7_smithBody 7 = .ok (.invokevirtual 257, 3) := by decide +kernel
theorem dX7_smithBody_10 : decode cX7_smithBody 10 = .ok (.istore_n 2, 1) := by decide +kernel
theorem dX7_smithBody_11 : decode cX7_smithBody 11 = .ok (.iload_n 2, 1) := by decide +kernel
theorem dX7_smithBody_12 : decode cX7_smithBody 12 = .ok (.aload_n 0, 1) := by decide +kernel
theorem dX7_smithBody_13 : decode cX7_smithBody 13 = .ok (.iload_n 1, 1) := by decide +kernel
theorem dX7_smithBody_14 : decode cX7_smithBody 14 = .ok (.invokevirtual 260, 3) := by decide +kernel
theorem dX7_smithBody_17 : decode cX7_smithBody 17 = .ok (.iadd, 1) := by decide +kernel
theorem dX7_smithBody_18 : decode cX7_smithBody 18 = .ok (.ireturn, 1) := by decide +kernel
theorem dX7_lentBody_0 : decode cX7_lentBody 0 = .ok (.aload_n 0, 1) := by decide +kernel
theorem dX7_lentBody_1 : decode cX7_lentBody 1 = .ok (.iconst 4, 1) := by decide +kernel
theorem dX7_lentBody_2 : decode cX7_lentBody 2 = .ok (.invokevirtual 270, 3) := by decide +kernel
theorem dX7_lentBody_5 : decode cX7_lentBody 5 = .ok (.iload_n 1, 1) := by decide +kernel
theorem dX7_lentBody_6 : decode cX7_lentBody 6 = .ok (.ireturn, 1) := by decide +kernel
theorem dX7_smithsOwnBody_0 : decode cX7_smithsOwnBody 0 = .ok (.aload_n 0, 1) := by decide +kernel
theorem dX7_smithsOwnBody_1 : decode cX7_smithsOwnBody 1 = .ok (.iconst 5, 1) := by decide +kernel
theorem dX7_smithsOwnBody_2 : decode cX7_smithsOwnBody 2 = .ok (.invokevirtual 270, 3) := by decide +kernel
theorem dX7_smithsOwnBody_5 : decode cX7_smithsOwnBody 5 = .ok (.bipush 60, 2) := by decide +kernel
theorem dX7_smithsOwnBody_7 : decode cX7_smithsOwnBody 7 = .ok (.ireturn, 1) := by decide +kernel
theorem dX7_leaveTrace_0 : decode cX7_leaveTrace 0 = .ok (.aload_n 0, 1) := by decide +kernel
theorem dX7_leaveTrace_1 : decode cX7_leaveTrace 1 = .ok (.bipush 31, 2) := by decide +kernel
theorem dX7_leaveTrace_3 : decode cX7_leaveTrace 3 = .ok (.aload_n 0, 1) := by decide +kernel
theorem dX7_leaveTrace_4 : decode cX7_leaveTrace 4 = .ok (.getfield 56, 3) := by decide +kernel
theorem dX7_leaveTrace_7 : decode cX7_leaveTrace 7 = .ok (.imul, 1) := by decide +kernel
theorem dX7_leaveTrace_8 : decode cX7_leaveTrace 8 = .ok (.iload_n 1, 1) := by decide +kernel
theorem dX7_leaveTrace_9 : decode cX7_leaveTrace 9 = .ok (.iadd, 1) := by decide +kernel
theorem dX7_leaveTrace_10 : decode cX7_leaveTrace 10 = .ok (.putfield 56, 3) := by decide +kernel
theorem dX7_leaveTrace_13 : decode cX7_leaveTrace 13 = .ok (.return_, 1) := by decide +kernel
theorem dX7_faulty_0 : decode cX7_faulty 0 = .ok (.aload_n 0, 1) := by decide +kernel
theorem dX7_faulty_1 : decode cX7_faulty 1 = .ok (.iload_n 1, 1) := by decide +kernel
theorem dX7_faulty_2 : decode cX7_faulty 2 = .ok (.putfield 60, 3) := by decide +kernel
theorem dX7_faulty_5 : decode cX7_faulty 5 = .ok (.bipush (-10), 2) := by decide +kernel
theorem dX7_faulty_7 : decode cX7_faulty 7 = .ok (.iload_n 1, 1) := by decide +kernel
theorem dX7_faulty_8 : decode cX7_faulty 8 = .ok (.isub, 1) := by decide +kernel
theorem dX7_faulty_9 : decode cX7_faulty 9 = .ok (.ireturn, 1) := by decide +kernel
theorem dX7_isSort_0 : decode cX7_isSort 0 = .ok (.iload_n 0, 1) := by decide +kernel
theorem dX7_isSort_1 : decode cX7_isSort 1 = .ok (.ifCond .lt 12, 3) := by decide +kernel
theorem dX7_isSort_4 : decode cX7_isSort 4 = .ok (.iload_n 0, 1) := by decide +kernel
theorem dX7_isSort_5 : decode cX7_isSort 5 = .ok (.iconst 2, 1) := by decide +kernel
theorem dX7_isSort_6 : decode cX7_isSort 6 = .ok (.if_icmp .gt 7, 3) := by decide +kernel
theorem dX7_isSort_9 : decode cX7_isSort 9 = .ok (.iconst 1, 1) := by decide +kernel
theorem dX7_isSort_10 : decode cX7_isSort 10 = .ok (.goto 4, 3) := by decide +kernel
theorem dX7_isSort_13 : decode cX7_isSort 13 = .ok (.iconst 0, 1) := by decide +kernel
theorem dX7_isSort_14 : decode cX7_isSort 14 = .ok (.ireturn, 1) := by decide +kernel
theorem dX7_isKind_0 : decode cX7_isKind 0 = .ok (.iload_n 0, 1) := by decide +kernel
theorem dX7_isKind_1 : decode cX7_isKind 1 = .ok (.ifCond .lt 12, 3) := by decide +kernel
theorem dX7_isKind_4 : decode cX7_isKind 4 = .ok (.iload_n 0, 1) := by decide +kernel
theorem dX7_isKind_5 : decode cX7_isKind 5 = .ok (.iconst 2, 1) := by decide +kernel
theorem dX7_isKind_6 : decode cX7_isKind 6 = .ok (.if_icmp .gt 7, 3) := by decide +kernel
theorem dX7_isKind_9 : decode cX7_isKind 9 = .ok (.iconst 1, 1) := by decide +kernel
theorem dX7_isKind_10 : decode cX7_isKind 10 = .ok (.goto 4, 3) := by decide +kernel
theorem dX7_isKind_13 : decode cX7_isKind 13 = .ok (.iconst 0, 1) := by decide +kernel
theorem dX7_isKind_14 : decode cX7_isKind 14 = .ok (.ireturn, 1) := by decide +kernel
theorem dX7_isFirstOrSecond_0 : decode cX7_isFirstOrSecond 0 = .ok (.iload_n 0, 1) := by decide +kernel
theorem dX7_isFirstOrSecond_1 : decode cX7_isFirstOrSecond 1 = .ok (.ifCond .eq 8, 3) := by decide +kernel
theorem dX7_isFirstOrSecond_4 : decode cX7_isFirstOrSecond 4 = .ok (.iload_n 0, 1) := by decide +kernel
theorem dX7_isFirstOrSecond_5 : decode cX7_isFirstOrSecond 5 = .ok (.iconst 1, 1) := by decide +kernel
theorem dX7_isFirstOrSecond_6 : decode cX7_isFirstOrSecond 6 = .ok (.if_icmp .ne 7, 3) := by decide +kernel
theorem dX7_isFirstOrSecond_9 : decode cX7_isFirstOrSecond 9 = .ok (.iconst 1, 1) := by decide +kernel
theorem dX7_isFirstOrSecond_10 : decode cX7_isFirstOrSecond 10 = .ok (.goto 4, 3) := by decide +kernel
theorem dX7_isFirstOrSecond_13 : decode cX7_isFirstOrSecond 13 = .ok (.iconst 0, 1) := by decide +kernel
theorem dX7_isFirstOrSecond_14 : decode cX7_isFirstOrSecond 14 = .ok (.ireturn, 1) := by decide +kernel
theorem dX7_isIn_0 : decode cX7_isIn 0 = .ok (.iload_n 0, 1) := by decide +kernel
theorem dX7_isIn_1 : decode cX7_isIn 1 = .ok (.iload_n 1, 1) := by decide +kernel
theorem dX7_isIn_2 : decode cX7_isIn 2 = .ok (.ishr, 1) := by decide +kernel
theorem dX7_isIn_3 : decode cX7_isIn 3 = .ok (.iconst 1, 1) := by decide +kernel
theorem dX7_isIn_4 : decode cX7_isIn 4 = .ok (.iand, 1) := by decide +kernel
theorem dX7_isIn_5 : decode cX7_isIn 5 = .ok (.iconst 1, 1) := by decide +kernel
theorem dX7_isIn_6 : decode cX7_isIn 6 = .ok (.if_icmp .ne 7, 3) := by decide +kernel
theorem dX7_isIn_9 : decode cX7_isIn 9 = .ok (.iconst 1, 1) := by decide +kernel
theorem dX7_isIn_10 : decode cX7_isIn 10 = .ok (.goto 4, 3) := by decide +kernel
theorem dX7_isIn_13 : decode cX7_isIn 13 = .ok (.iconst 0, 1) := by decide +kernel
theorem dX7_isIn_14 : decode cX7_isIn 14 = .ok (.ireturn, 1) := by decide +kernel
theorem dX8_init_0 : decode cX8_init 0 = .ok (.aload_n 0, 1) := by decide +kernel
theorem dX8_init_1 : decode cX8_init 1 = .ok (.invokespecial 1, 3) := by decide +kernel
theorem dX8_init_4 : decode cX8_init 4 = .ok (.aload_n 0, 1) := by decide +kernel
theorem dX8_init_5 : decode cX8_init 5 = .ok (.iconst 4, 1) := by decide +kernel
theorem dX8_init_6 : decode cX8_init 6 = .ok (.newarray .int, 2) := by decide +kernel
theorem dX8_init_8 : decode cX8_init 8 = .ok (.dup, 1) := by decide +kernel
theorem dX8_init_9 : decode cX8_init 9 = .ok (.iconst 0, 1) := by decide +kernel
theorem dX8_init_10 : decode cX8_init 10 = .ok (.bipush (-9), 2) := by decide +kernel
theorem dX8_init_12 : decode cX8_init 12 = .ok (.iastore, 1) := by decide +kernel
theorem dX8_init_13 : decode cX8_init 13 = .ok (.dup, 1) := by decide +kernel
theorem dX8_init_14 : decode cX8_init 14 = .ok (.iconst 1, 1) := by decide +kernel
theorem dX8_init_15 : decode cX8_init 15 = .ok (.bipush (-9), 2) := by decide +kernel
theorem dX8_init_17 : decode cX8_init 17 = .ok (.iastore, 1) := by decide +kernel
theorem dX8_init_18 : decode cX8_init 18 = .ok (.dup, 1) := by decide +kernel
theorem dX8_init_19 : decode cX8_init 19 = .ok (.iconst 2, 1) := by decide +kernel
theorem dX8_init_20 : decode cX8_init 20 = .ok (.bipush (-9), 2) := by decide +kernel
theorem dX8_init_22 : decode cX8_init 22 = .ok (.iastore, 1) := by decide +kernel
theorem dX8_init_23 : decode cX8_init 23 = .ok (.dup, 1) := by decide +kernel
theorem dX8_init_24 : decode cX8_init 24 = .ok (.iconst 3, 1) := by decide +kernel
theorem dX8_init_25 : decode cX8_init 25 = .ok (.bipush (-9), 2) := by decide +kernel
theorem dX8_init_27 : decode cX8_init 27 = .ok (.iastore, 1) := by decide +kernel
theorem dX8_init_28 : decode cX8_init 28 = .ok (.putfield 9, 3) := by decide +kernel
theorem dX8_init_31 : decode cX8_init 31 = .ok (.aload_n 0, 1) := by decide +kernel
theorem dX8_init_32 : decode cX8_init 32 = .ok (.iconst 4, 1) := by decide +kernel
theorem dX8_init_33 : decode cX8_init 33 = .ok (.newarray .int, 2) := by decide +kernel
theorem dX8_init_35 : decode cX8_init 35 = .ok (.putfield 13, 3) := by decide +kernel
theorem dX8_init_38 : decode cX8_init 38 = .ok (.aload_n 0, 1) := by decide +kernel
theorem dX8_init_39 : decode cX8_init 39 = .ok (.sipush 160, 3) := by decide +kernel
theorem dX8_init_42 : decode cX8_init 42 = .ok (.newarray .int, 2) := by decide +kernel
theorem dX8_init_44 : decode cX8_init 44 = .ok (.putfield 16, 3) := by decide +kernel
theorem dX8_init_47 : decode cX8_init 47 = .ok (.aload_n 0, 1) := by decide +kernel
theorem dX8_init_48 : decode cX8_init 48 = .ok (.bipush 8, 2) := by decide +kernel
theorem dX8_init_50 : decode cX8_init 50 = .ok (.newarray .int, 2) := by decide +kernel
theorem dX8_init_52 : decode cX8_init 52 = .ok (.putfield 19, 3) := by decide +kernel
theorem dX8_init_55 : decode cX8_init 55 = .ok (.aload_n 0, 1) := by decide +kernel
theorem dX8_init_56 : decode cX8_init 56 = .ok (.bipush 8, 2) := by decide +kernel
theorem dX8_init_58 : decode cX8_init 58 = .ok (.newarray .int, 2) := by decide +kernel
theorem dX8_init_60 : decode cX8_init 60 = .ok (.putfield 22, 3) := by decide +kernel
theorem dX8_init_63 : decode cX8_init 63 = .ok (.aload_n 0, 1) := by decide +kernel
theorem dX8_init_64 : decode cX8_init 64 = .ok (.bipush 6, 2) := by decide +kernel
theorem dX8_init_66 : decode cX8_init 66 = .ok (.newarray .int, 2) := by decide +kernel
theorem dX8_init_68 : decode cX8_init 68 = .ok (.putfield 25, 3) := by decide +kernel
theorem dX8_init_71 : decode cX8_init 71 = .ok (.aload_n 0, 1) := by decide +kernel
theorem dX8_init_72 : decode cX8_init 72 = .ok (.bipush 6, 2) := by decide +kernel
theorem dX8_init_74 : decode cX8_init 74 = .ok (.newarray .int, 2) := by decide +kernel
theorem dX8_init_76 : decode cX8_init 76 = .ok (.putfield 28, 3) := by decide +kernel
theorem dX8_init_79 : decode cX8_init 79 = .ok (.aload_n 0, 1) := by decide +kernel
theorem dX8_init_80 : decode cX8_init 80 = .ok (.bipush 8, 2) := by decide +kernel
theorem dX8_init_82 : decode cX8_init 82 = .ok (.newarray .int, 2) := by decide +kernel
theorem dX8_init_84 : decode cX8_init 84 = .ok (.putfield 31, 3) := by decide +kernel
theorem dX8_init_87 : decode cX8_init 87 = .ok (.aload_n 0, 1) := by decide +kernel
theorem dX8_init_88 : decode cX8_init 88 = .ok (.bipush 10, 2) := by decide +kernel
theorem dX8_init_90 : decode cX8_init 90 = .ok (.newarray .int, 2) := by decide +kernel
theorem dX8_init_92 : decode cX8_init 92 = .ok (.putfield 34, 3) := by decide +kernel
theorem dX8_init_95 : decode cX8_init 95 = .ok (.aload_n 0, 1) := by decide +kernel
theorem dX8_init_96 : decode cX8_init 96 = .ok (.bipush 10, 2) := by decide +kernel
theorem dX8_init_98 : decode cX8_init 98 = .ok (.newarray .int, 2) := by decide +kernel
theorem dX8_init_100 : decode cX8_init 100 = .ok (.putfield 37, 3) := by decide +kernel
theorem dX8_init_103 : decode cX8_init 103 = .ok (.aload_n 0, 1) := by decide +kernel
theorem dX8_init_104 : decode cX8_init 104 = .ok (.bipush 10, 2) := by decide +kernel
theorem dX8_init_106 : decode cX8_init 106 = .ok (.newarray .int, 2) := by decide +kernel
theorem dX8_init_108 : decode cX8_init 108 = .ok (.putfield 40, 3) := by decide +kernel
theorem dX8_init_111 : decode cX8_init 111 = .ok (.aload_n 0, 1) := by decide +kernel
theorem dX8_init_112 : decode cX8_init 112 = .ok (.bipush 10, 2) := by decide +kernel
theorem dX8_init_114 : decode cX8_init 114 = .ok (.newarray .int, 2) := by decide +kernel
theorem dX8_init_116 : decode cX8_init 116 = .ok (.putfield 43, 3) := by decide +kernel
theorem dX8_init_119 : decode cX8_init 119 = .ok (.aload_n 0, 1) := by decide +kernel
theorem dX8_init_120 : decode cX8_init 120 = .ok (.sipush 256, 3) := by decide +kernel
theorem dX8_init_123 : decode cX8_init 123 = .ok (.newarray .int, 2) := by decide +kernel
theorem dX8_init_125 : decode cX8_init 125 = .ok (.putfield 46, 3) := by decide +kernel
theorem dX8_init_128 : decode cX8_init 128 = .ok (.aload_n 0, 1) := by decide +kernel
theorem dX8_init_129 : decode cX8_init 129 = .ok (.bipush 8, 2) := by decide +kernel
theorem dX8_init_131 : decode cX8_init 131 = .ok (.newarray .int, 2) := by decide +kernel
theorem dX8_init_133 : decode cX8_init 133 = .ok (.putfield 49, 3) := by decide +kernel
theorem dX8_init_136 : decode cX8_init 136 = .ok (.aload_n 0, 1) := by decide +kernel
theorem dX8_init_137 : decode cX8_init 137 = .ok (.iconst 5, 1) := by decide +kernel
theorem dX8_init_138 : decode cX8_init 138 = .ok (.newarray .int, 2) := by decide +kernel
theorem dX8_init_140 : decode cX8_init 140 = .ok (.putfield 52, 3) := by decide +kernel
theorem dX8_init_143 : decode cX8_init 143 = .ok (.aload_n 0, 1) := by decide +kernel
theorem dX8_init_144 : decode cX8_init 144 = .ok (.iconst 5, 1) := by decide +kernel
theorem dX8_init_145 : decode cX8_init 145 = .ok (.newarray .int, 2) := by decide +kernel
theorem dX8_init_147 : decode cX8_init 147 = .ok (.putfield 55, 3) := by decide +kernel
theorem dX8_init_150 : decode cX8_init 150 = .ok (.return_, 1) := by decide +kernel
theorem dX8_fails_0 : decode cX8_fails 0 = .ok (.aload_n 0, 1) := by decide +kernel
theorem dX8_fails_1 : decode cX8_fails 1 = .ok (.iload_n 1, 1) := by decide +kernel
theorem dX8_fails_2 : decode cX8_fails 2 = .ok (.putfield 58, 3) := by decide +kernel
theorem dX8_fails_5 : decode cX8_fails 5 = .ok (.bipush (-10), 2) := by decide +kernel
theorem dX8_fails_7 : decode cX8_fails 7 = .ok (.iload_n 1, 1) := by decide +kernel
theorem dX8_fails_8 : decode cX8_fails 8 = .ok (.isub, 1) := by decide +kernel
theorem dX8_fails_9 : decode cX8_fails 9 = .ok (.ireturn, 1) := by decide +kernel
theorem dX8_lost_0 : decode cX8_lost 0 = .ok (.aload_n 0, 1) := by decide +kernel
theorem dX8_lost_1 : decode cX8_lost 1 = .ok (.iload_n 1, 1) := by decide +kernel
theorem dX8_lost_2 : decode cX8_lost 2 = .ok (.putfield 58, 3) := by decide +kernel
theorem dX8_lost_5 : decode cX8_lost 5 = .ok (.ldc2_w 62, 3) := by decide +kernel
theorem dX8_lost_8 : decode cX8_lost 8 = .ok (.lreturn, 1) := by decide +kernel
theorem dX8_within_0 : decode cX8_within 0 = .ok (.iload_n 0, 1) := by decide +kernel
theorem dX8_within_1 : decode cX8_within 1 = .ok (.iload_n 1, 1) := by decide +kernel
theorem dX8_within_2 : decode cX8_within 2 = .ok (.if_icmp .lt 12, 3) := by decide +kernel
theorem dX8_within_5 : decode cX8_within 5 = .ok (.iload_n 0, 1) := by decide +kernel
theorem dX8_within_6 : decode cX8_within 6 = .ok (.iload_n 2, 1) := by decide +kernel
theorem dX8_within_7 : decode cX8_within 7 = .ok (.if_icmp .gt 7, 3) := by decide +kernel
theorem dX8_within_10 : decode cX8_within 10 = .ok (.iconst 1, 1) := by decide +kernel
theorem dX8_within_11 : decode cX8_within 11 = .ok (.goto 4, 3) := by decide +kernel
theorem dX8_within_14 : decode cX8_within 14 = .ok (.iconst 0, 1) := by decide +kernel
theorem dX8_within_15 : decode cX8_within 15 = .ok (.ireturn, 1) := by decide +kernel
theorem dX8_share_0 : decode cX8_share 0 = .ok (.lload_n 0, 1) := by decide +kernel
theorem dX8_share_1 : decode cX8_share 1 = .ok (.lstore 5, 2) := by decide +kernel
theorem dX8_share_3 : decode cX8_share 3 = .ok (.lload_n 2, 1) := by decide +kernel
theorem dX8_share_4 : decode cX8_share 4 = .ok (.lstore 7, 2) := by decide +kernel
theorem dX8_share_6 : decode cX8_share 6 = .ok (.lload 7, 2) := by decide +kernel
theorem dX8_share_8 : decode cX8_share 8 = .ok (.lconst 0, 1) := by decide +kernel
theorem dX8_share_9 : decode cX8_share 9 = .ok (.lcmp, 1) := by decide +kernel
theorem dX8_share_10 : decode cX8_share 10 = .ok (.ifCond .eq 21, 3) := by decide +kernel
theorem dX8_share_13 : decode cX8_share 13 = .ok (.lload 5, 2) := by decide +kernel
theorem dX8_share_15 : decode cX8_share 15 = .ok (.lload 7, 2) := by decide +kernel
theorem dX8_share_17 : decode cX8_share 17 = .ok (.lrem, 1) := by decide +kernel
theorem dX8_share_18 : decode cX8_share 18 = .ok (.lstore 9, 2) := by decide +kernel
theorem dX8_share_20 : decode cX8_share 20 = .ok (.lload 7, 2) := by decide +kernel
theorem dX8_share_22 : decode cX8_share 22 = .ok (.lstore 5, 2) := by decide +kernel
theorem dX8_share_24 : decode cX8_share 24 = .ok (.lload 9, 2) := by decide +kernel
theorem dX8_share_26 : decode cX8_share 26 = .ok (.lstore 7, 2) := by decide +kernel
theorem dX8_share_28 : decode cX8_share 28 = .ok (.goto (-22), 3) := by decide +kernel
theorem dX8_share_31 : decode cX8_share 31 = .ok (.iload 4, 2) := by decide +kernel
theorem dX8_share_33 : decode cX8_share 33 = .ok (.ifCond .ne 10, 3) := by decide +kernel
theorem dX8_share_36 : decode cX8_share 36 = .ok (.lload_n 0, 1) := by decide +kernel
theorem dX8_share_37 : decode cX8_share 37 = .ok (.lload 5, 2) := by decide +kernel
theorem dX8_share_39 : decode cX8_share 39 = .ok (.ldiv, 1) := by decide +kernel
theorem dX8_share_40 : decode cX8_share 40 = .ok (.goto 7, 3) := by decide +kernel
theorem dX8_share_43 : decode cX8_share 43 = .ok (.lload_n 2, 1) := by decide +kernel
theorem dX8_share_44 : decode cX8_share 44 = .ok (.lload 5, 2) := by decide +kernel
theorem dX8_share_46 : decode cX8_share 46 = .ok (.ldiv, 1) := by decide +kernel
theorem dX8_share_47 : decode cX8_share 47 = .ok (.lreturn, 1) := by decide +kernel
theorem dX8_bits_0 : decode cX8_bits 0 = .ok (.iconst 0, 1) := by decide +kernel
theorem dX8_bits_1 : decode cX8_bits 1 = .ok (.istore_n 1, 1) := by decide +kernel
theorem dX8_bits_2 : decode cX8_bits 2 = .ok (.iconst 0, 1) := by decide +kernel
theorem dX8_bits_3 : decode cX8_bits 3 = .ok (.istore_n 2, 1) := by decide +kernel
theorem dX8_bits_4 : decode cX8_bits 4 = .ok (.iload_n 2, 1) := by decide +kernel
theorem dX8_bits_5 : decode cX8_bits 5 = .ok (.bipush 20, 2) := by decide +kernel
theorem dX8_bits_7 : decode cX8_bits 7 = .ok (.if_icmp .ge 17, 3) := by decide +kernel
theorem dX8_bits_10 : decode cX8_bits 10 = .ok (.iload_n 1, 1) := by decide +kernel
theorem dX8_bits_11 : decode cX8_bits 11 = .ok (.iload_n 0, 1) := by decide +kernel
theorem dX8_bits_12 : decode cX8_bits 12 = .ok (.iload_n 2, 1) := by decide +kernel
theorem dX8_bits_13 : decode cX8_bits 13 = .ok (.ishr, 1) := by decide +kernel
theorem dX8_bits_14 : decode cX8_bits 14 = .ok (.iconst 1, 1) := by decide +kernel
theorem dX8_bits_15 : decode cX8_bits 15 = .ok (.iand, 1) := by decide +kernel
theorem dX8_bits_16 : decode cX8_bits 16 = .ok (.iadd, 1) := by decide +kernel
theorem dX8_bits_17 : decode cX8_bits 17 = .ok (.istore_n 1, 1) := by decide +kernel
theorem dX8_bits_18 : decode cX8_bits 18 = .ok (.iinc 2 1, 3) := by decide +kernel
theorem dX8_bits_21 : decode cX8_bits 21 = .ok (.goto (-17), 3) := by decide +kernel
theorem dX8_bits_24 : decode cX8_bits 24 = .ok (.iload_n 1, 1) := by decide +kernel
theorem dX8_bits_25 : decode cX8_bits 25 = .ok (.ireturn, 1) := by decide +kernel
theorem dX8_isSheet_0 : decode cX8_isSheet 0 = .ok (.iload_n 0, 1) := by decide +kernel
theorem dX8_isSheet_1 : decode cX8_isSheet 1 = .ok (.iconst 0, 1) := by decide +kernel
theorem dX8_isSheet_2 : decode cX8_isSheet 2 = .ok (.iconst 3, 1) := by decide +kernel
theorem dX8_isSheet_3 : decode cX8_isSheet 3 = .ok (.invokestatic 64, 3) := by decide +kernel
theorem dX8_isSheet_6 : decode cX8_isSheet 6 = .ok (.ireturn, 1) := by decide +kernel
theorem dX8_isSort_0 : decode cX8_isSort 0 = .ok (.iload_n 0, 1) := by decide +kernel
theorem dX8_isSort_1 : decode cX8_isSort 1 = .ok (.iconst 0, 1) := by decide +kernel
theorem dX8_isSort_2 : decode cX8_isSort 2 = .ok (.iconst 2, 1) := by decide +kernel
theorem dX8_isSort_3 : decode cX8_isSort 3 = .ok (.invokestatic 64, 3) := by decide +kernel
theorem dX8_isSort_6 : decode cX8_isSort 6 = .ok (.ireturn, 1) := by decide +kernel
theorem dX8_against_0 : decode cX8_against 0 = .ok (.aload_n 0, 1) := by decide +kernel
theorem dX8_against_1 : decode cX8_against 1 = .ok (.getfield 9, 3) := by decide +kernel
theorem dX8_against_4 : decode cX8_against 4 = .ok (.iload_n 1, 1) := by decide +kernel
theorem dX8_against_5 : decode cX8_against 5 = .ok (.iaload, 1) := by decide +kernel
theorem dX8_against_6 : decode cX8_against 6 = .ok (.bipush (-9), 2) := by decide +kernel
theorem dX8_against_8 : decode cX8_against 8 = .ok (.if_icmp .eq 15, 3) := by decide +kernel
theorem dX8_against_11 : decode cX8_against 11 = .ok (.aload_n 0, 1) := by decide +kernel
theorem dX8_against_12 : decode cX8_against 12 = .ok (.getfield 9, 3) := by decide +kernel
theorem dX8_against_15 : decode cX8_against 15 = .ok (.iload_n 1, 1) := by decide +kernel
theorem dX8_against_16 : decode cX8_against 16 = .ok (.iaload, 1) := by decide +kernel
theorem dX8_against_17 : decode cX8_against 17 = .ok (.iload_n 2, 1) := by decide +kernel
theorem dX8_against_18 : decode cX8_against 18 = .ok (.if_icmp .eq 5, 3) := by decide +kernel
theorem dX8_against_21 : decode cX8_against 21 = .ok (.iconst 2, 1) := by decide +kernel
theorem dX8_against_22 : decode cX8_against 22 = .ok (.ireturn, 1) := by decide +kernel
theorem dX8_against_23 : decode cX8_against 23 = .ok (.aload_n 0, 1) := by decide +kernel
theorem dX8_against_24 : decode cX8_against 24 = .ok (.getfield 9, 3) := by decide +kernel
theorem dX8_against_27 : decode cX8_against 27 = .ok (.iload_n 1, 1) := by decide +kernel
theorem dX8_against_28 : decode cX8_against 28 = .ok (.iaload, 1) := by decide +kernel
theorem dX8_against_29 : decode cX8_against 29 = .ok (.bipush (-9), 2) := by decide +kernel
theorem dX8_against_31 : decode cX8_against 31 = .ok (.if_icmp .ne 5, 3) := by decide +kernel
theorem dX8_against_34 : decode cX8_against 34 = .ok (.iconst 1, 1) := by decide +kernel
theorem dX8_against_35 : decode cX8_against 35 = .ok (.ireturn, 1) := by decide +kernel
theorem dX8_against_36 : decode cX8_against 36 = .ok (.iload 4, 2) := by decide +kernel
theorem dX8_against_38 : decode cX8_against 38 = .ok (.ifCond .ge 5, 3) := by decide +kernel
theorem dX8_against_41 : decode cX8_against 41 = .ok (.iconst 4, 1) := by decide +kernel
theorem dX8_against_42 : decode cX8_against 42 = .ok (.ireturn, 1) := by decide +kernel
theorem dX8_against_43 : decode cX8_against 43 = .ok (.iload_n 3, 1) := by decide +kernel
theorem dX8_against_44 : decode cX8_against 44 = .ok (.ifCond .lt 26, 3) := by decide +kernel
theorem dX8_against_47 : decode cX8_against 47 = .ok (.iload_n 3, 1) := by decide +kernel
theorem dX8_against_48 : decode cX8_against 48 = .ok (.aload_n 0, 1) := by decide +kernel
theorem dX8_against_49 : decode cX8_against 49 = .ok (.getfield 13, 3) := by decide +kernel
theorem dX8_against_52 : decode cX8_against 52 = .ok (.iload_n 1, 1) := by decide +kernel
theorem dX8_against_53 : decode cX8_against 53 = .ok (.iaload, 1) := by decide +kernel
theorem dX8_against_54 : decode cX8_against 54 = .ok (.if_icmp .gt 16, 3) := by decide +kernel
theorem dX8_against_57 : decode cX8_against 57 = .ok (.iload 4, 2) := by decide +kernel
theorem dX8_against_59 : decode cX8_against 59 = .ok (.aload_n 0, 1) := by decide +kernel
theorem dX8_against_60 : decode cX8_against 60 = .ok (.getfield 13, 3) := by decide +kernel
theorem dX8_against_63 : decode cX8_against 63 = .ok (.iload_n 1, 1) := by decide +kernel
theorem dX8_against_64 : decode cX8_against 64 = .ok (.iaload, 1) := by decide +kernel
theorem dX8_against_65 : decode cX8_against 65 = .ok (.iload_n 3, 1) := by decide +kernel
theorem dX8_against_66 : decode cX8_against 66 = .ok (.isub, 1) := by decide +kernel
theorem dX8_against_67 : decode cX8_against 67 = .ok (.if_icmp .le 7, 3) := by decide +kernel
theorem dX8_against_70 : decode cX8_against 70 = .ok (.iconst 3, 1) := by decide +kernel
theorem dX8_against_71 : decode cX8_against 71 = .ok (.goto 4, 3) := by decide +kernel
theorem dX8_against_74 : decode cX8_against 74 = .ok (.iconst 0, 1) := by decide +kernel
theorem dX8_against_75 : decode cX8_against 75 = .ok (.ireturn, 1) := by decide +kernel
theorem dX8_isThing_0 : decode cX8_isThing 0 = .ok (.iload_n 1, 1) := by decide +kernel
theorem dX8_isThing_1 : decode cX8_isThing 1 = .ok (.ifCond .lt 15, 3) := by decide +kernel
theorem dX8_isThing_4 : decode cX8_isThing 4 = .ok (.iload_n 1, 1) := by decide +kernel
theorem dX8_isThing_5 : decode cX8_isThing 5 = .ok (.aload_n 0, 1) := by decide +kernel
theorem dX8_isThing_6 : decode cX8_isThing 6 = .ok (.getfield 68, 3) := by decide +kernel
theorem dX8_isThing_9 : decode cX8_isThing 9 = .ok (.if_icmp .ge 7, 3) := by decide +kernel
theorem dX8_isThing_12 : decode cX8_isThing 12 = .ok (.iconst 1, 1) := by decide +kernel
theorem dX8_isThing_13 : decode cX8_isThing 13 = .ok (.goto 4, 3) := by decide +kernel
theorem dX8_isThing_16 : decode cX8_isThing 16 = .ok (.iconst 0, 1) := by decide +kernel
theorem dX8_isThing_17 : decode cX8_isThing 17 = .ok (.ireturn, 1) := by decide +kernel
theorem dX8_market_0 : decode cX8_market 0 = .ok (.aload_n 0, 1) := by decide +kernel
theorem dX8_market_1 : decode cX8_market 1 = .ok (.iconst 0, 1) := by decide +kernel
theorem dX8_market_2 : decode cX8_market 2 = .ok (.putfield 58, 3) := by decide +kernel
theorem dX8_market_5 : decode cX8_market 5 = .ok (.iload_n 1, 1) := by decide +kernel
theorem dX8_market_6 : decode cX8_market 6 = .ok (.invokestatic 71, 3) := by decide +kernel
theorem dX8_market_9 : decode cX8_market 9 = .ok (.ifCond .ne 5, 3) := by decide +kernel
theorem dX8_market_12 : decode cX8_market 12 = .ok (.iconst (-1), 1) := by decide +kernel
theorem dX8_market_13 : decode cX8_market 13 = .ok (.ireturn, 1) := by decide +kernel
theorem dX8_market_14 : decode cX8_market 14 = .ok (.iload_n 2, 1) := by decide +kernel
theorem dX8_market_15 : decode cX8_market 15 = .ok (.invokestatic 75, 3) := by decide +kernel
theorem dX8_market_18 : decode cX8_market 18 = .ok (.ifCond .ne 6, 3) := by decide +kernel
theorem dX8_market_21 : decode cX8_market 21 = .ok (.bipush (-2), 2) := by decide +kernel
theorem dX8_market_23 : decode cX8_market 23 = .ok (.ireturn, 1) := by decide +kernel
theorem dX8_market_24 : decode cX8_market 24 = .ok (.aload_n 0, 1) := by decide +kernel
theorem dX8_market_25 : decode cX8_market 25 = .ok (.iload_n 1, 1) := by decide +kernel
theorem dX8_market_26 : decode cX8_market 26 = .ok (.iload_n 2, 1) := by decide +kernel
theorem dX8_market_27 : decode cX8_market 27 = .ok (.iload_n 3, 1) := by decide +kernel
theorem dX8_market_28 : decode cX8_market 28 = .ok (.iload 4, 2) := by decide +kernel
theorem dX8_market_30 : decode cX8_market 30 = .ok (.invokevirtual 78, 3) := by decide +kernel
theorem dX8_market_33 : decode cX8_market 33 = .ok (.istore 5, 2) := by decide +kernel
theorem dX8_market_35 : decode cX8_market 35 = .ok (.iload 5, 2) := by decide +kernel
theorem dX8_market_37 : decode cX8_market 37 = .ok (.ifCond .eq 10, 3) := by decide +kernel
theorem dX8_market_40 : decode cX8_market 40 = .ok (.aload_n 0, 1) := by decide +kernel
theorem dX8_market_41 : decode cX8_market 41 = .ok (.iload 5, 2) := by decide +kernel
theorem dX8_market_43 : decode cX8_market 43 = .ok (.invokevirtual 82, 3) := by decide +kernel
theorem dX8_market_46 : decode cX8_market 46 = .ok (.ireturn, 1) := by decide +kernel
theorem dX8_market_47 : decode cX8_market 47 = .ok (.bipush 40, 2) := by decide +kernel
theorem dX8_market_49 : decode cX8_market 49 = .ok (.iload_n 1, 1) := by decide +kernel
theorem dX8_market_50 : decode cX8_market 50 = .ok (.imul, 1) := by decide +kernel
theorem dX8_market_51 : decode cX8_market 51 = .ok (.iload_n 3, 1) := by decide +kernel
theorem dX8_market_52 : decode cX8_market 52 = .ok (.iadd, 1) := by decide +kernel
theorem dX8_market_53 : decode cX8_market 53 = .ok (.istore 6, 2) := by decide +kernel
theorem dX8_market_55 : decode cX8_market 55 = .ok (.aload_n 0, 1) := by decide +kernel
theorem dX8_market_56 : decode cX8_market 56 = .ok (.iload 6, 2) := by decide +kernel
theorem dX8_market_58 : decode cX8_market 58 = .ok (.putfield 86, 3) := by decide +kernel
theorem dX8_market_61 : decode cX8_market 61 = .ok (.aload_n 0, 1) := by decide +kernel
theorem dX8_market_62 : decode cX8_market 62 = .ok (.iload 6, 2) := by decide +kernel
theorem dX8_market_64 : decode cX8_market 64 = .ok (.iload 4, 2) := by decide +kernel
theorem dX8_market_66 : decode cX8_market 66 = .ok (.iadd, 1) := by decide +kernel
theorem dX8_market_67 : decode cX8_market 67 = .ok (.invokevirtual 89, 3) := by decide +kernel
theorem dX8_market_70 : decode cX8_market 70 = .ok (.ifCond .ne 14, 3) := by decide +kernel
theorem dX8_market_73 : decode cX8_market 73 = .ok (.bipush (-100), 2) := by decide +kernel
theorem dX8_market_75 : decode cX8_market 75 = .ok (.aload_n 0, 1) := by decide +kernel
theorem dX8_market_76 : decode cX8_market 76 = .ok (.getfield 86, 3) := by decide +kernel
theorem dX8_market_79 : decode cX8_market 79 = .ok (.iload 6, 2) := by decide +kernel
theorem dX8_market_81 : decode cX8_market 81 = .ok (.isub, 1) := by decide +kernel
theorem dX8_market_82 : decode cX8_market 82 = .ok (.isub, 1) := by decide +kernel
theorem dX8_market_83 : decode cX8_market 83 = .ok (.ireturn, 1) := by decide +kernel
theorem dX8_market_84 : decode cX8_market 84 = .ok (.aload_n 0, 1) := by decide +kernel
theorem dX8_market_85 : decode cX8_market 85 = .ok (.aload_n 0, 1) := by decide +kernel
theorem dX8_market_86 : decode cX8_market 86 = .ok (.getfield 92, 3) := by decide +kernel
theorem dX8_market_89 : decode cX8_market 89 = .ok (.putfield 68, 3) := by decide +kernel
theorem dX8_market_92 : decode cX8_market 92 = .ok (.iconst 0, 1) := by decide +kernel
theorem dX8_market_93 : decode cX8_market 93 = .ok (.istore 7, 2) := by decide +kernel
theorem dX8_market_95 : decode cX8_market 95 = .ok (.iload 7, 2) := by decide +kernel
theorem dX8_market_97 : decode cX8_market 97 = .ok (.aload_n 0, 1) := by decide +kernel
theorem dX8_market_98 : decode cX8_market 98 = .ok (.getfield 68, 3) := by decide +kernel
theorem dX8_market_101 : decode cX8_market 101 = .ok (.if_icmp .ge 23, 3) := by decide +kernel
theorem dX8_market_104 : decode cX8_market 104 = .ok (.aload_n 0, 1) := by decide +kernel
theorem dX8_market_105 : decode cX8_market 105 = .ok (.getfield 19, 3) := by decide +kernel
theorem dX8_market_108 : decode cX8_market 108 = .ok (.iload 7, 2) := by decide +kernel
theorem dX8_market_110 : decode cX8_market 110 = .ok (.aload_n 0, 1) := by decide +kernel
theorem dX8_market_111 : decode cX8_market 111 = .ok (.getfield 22, 3) := by decide +kernel
theorem dX8_market_114 : decode cX8_market 114 = .ok (.iload 7, 2) := by decide +kernel
theorem dX8_market_116 : decode cX8_market 116 = .ok (.iaload, 1) := by decide +kernel
theorem dX8_market_117 : decode cX8_market 117 = .ok (.iastore, 1) := by decide +kernel
theorem dX8_market_118 : decode cX8_market 118 = .ok (.iinc 7 1, 3) := by decide +kernel
theorem dX8_market_121 : decode cX8_market 121 = .ok (.goto (-26), 3) := by decide +kernel
theorem dX8_market_124 : decode cX8_market 124 = .ok (.aload_n 0, 1) := by decide +kernel
theorem dX8_market_125 : decode cX8_market 125 = .ok (.iconst 0, 1) := by decide +kernel
theorem dX8_market_126 : decode cX8_market 126 = .ok (.putfield 95, 3) := by decide +kernel
theorem dX8_market_129 : decode cX8_market 129 = .ok (.aload_n 0, 1) := by decide +kernel
theorem dX8_market_130 : decode cX8_market 130 = .ok (.iconst 0, 1) := by decide +kernel
theorem dX8_market_131 : decode cX8_market 131 = .ok (.putfield 98, 3) := by decide +kernel
theorem dX8_market_134 : decode cX8_market 134 = .ok (.aload_n 0, 1) := by decide +kernel
theorem dX8_market_135 : decode cX8_market 135 = .ok (.getfield 68, 3) := by decide +kernel
theorem dX8_market_138 : decode cX8_market 138 = .ok (.ireturn, 1) := by decide +kernel
theorem dX8_readMarket_0 : decode cX8_readMarket 0 = .ok (.aload_n 0, 1) := by decide +kernel
theorem dX8_readMarket_1 : decode cX8_readMarket 1 = .ok (.iconst 0, 1) := by decide +kernel
theorem dX8_readMarket_2 : decode cX8_readMarket 2 = .ok (.putfield 92, 3) := by decide +kernel
theorem dX8_readMarket_5 : decode cX8_readMarket 5 = .ok (.aload_n 0, 1) := by decide +kernel
theorem dX8_readMarket_6 : decode cX8_readMarket 6 = .ok (.getfield 92, 3) := by decide +kernel
theorem dX8_readMarket_9 : decode cX8_readMarket 9 = .ok (.iconst 2, 1) := by decide +kernel
theorem dX8_readMarket_10 : decode cX8_readMarket 10 = .ok (.if_icmp .lt 11, 3) := by decide +kernel
theorem dX8_readMarket_13 : decode cX8_readMarket 13 = .ok (.aload_n 0, 1) := by decide +kernel
theorem dX8_readMarket_14 : decode cX8_readMarket 14 = .ok (.getfield 86, 3) := by decide +kernel
theorem dX8_readMarket_17 : decode cX8_readMarket 17 = .ok (.iload_n 1, 1) := by decide +kernel
theorem dX8_readMarket_18 : decode cX8_readMarket 18 = .ok (.if_icmp .ge 171, 3) := by decide +kernel
theorem dX8_readMarket_21 : decode cX8_readMarket 21 = .ok (.aload_n 0, 1) := by decide +kernel
theorem dX8_readMarket_22 : decode cX8_readMarket 22 = .ok (.getfield 92, 3) := by decide +kernel
theorem dX8_readMarket_25 : decode cX8_readMarket 25 = .ok (.ifCond .le 46, 3) := by decide +kernel
theorem dX8_readMarket_28 : decode cX8_readMarket 28 = .ok (.aload_n 0, 1) := by decide +kernel
theorem dX8_readMarket_29 : decode cX8_readMarket 29 = .ok (.getfield 92, 3) := by decide +kernel
theorem dX8_readMarket_32 : decode cX8_readMarket 32 = .ok (.bipush 8, 2) := by decide +kernel
theorem dX8_readMarket_34 : decode cX8_readMarket 34 = .ok (.if_icmp .eq 25, 3) := by decide +kernel
theorem dX8_readMarket_37 : decode cX8_readMarket 37 = .ok (.aload_n 0, 1) := by decide +kernel
theorem dX8_readMarket_38 : decode cX8_readMarket 38 = .ok (.getfield 86, 3) := by decide +kernel
theorem dX8_readMarket_41 : decode cX8_readMarket 41 = .ok (.iload_n 1, 1) := by decide +kernel
theorem dX8_readMarket_42 : decode cX8_readMarket 42 = .ok (.if_icmp .ge 17, 3) := by decide +kernel
theorem dX8_readMarket_45 : decode cX8_readMarket 45 = .ok (.aload_n 0, 1) := by decide +kernel
theorem dX8_readMarket_46 : decode cX8_readMarket 46 = .ok (.getfield 16, 3) := by decide +kernel
theorem dX8_readMarket_49 : decode cX8_readMarket 49 = .ok (.aload_n 0, 1) := by decide +kernel
theorem dX8_readMarket_50 : decode cX8_readMarket 50 = .ok (.getfield 86, 3) := by decide +kernel
theorem dX8_readMarket_53 : decode cX8_readMarket 53 = .ok (.iaload, 1) := by decide +kernel
theorem dX8_readMarket_54 : decode cX8_readMarket 54 = .ok (.bipush 59, 2) := by decide +kernel
theorem dX8_readMarket_56 : decode cX8_readMarket 56 = .ok (.if_icmp .eq 5, 3) := by decide +kernel
theorem dX8_readMarket_59 : decode cX8_readMarket 59 = .ok (.iconst 0, 1) := by decide +kernel
theorem dX8_readMarket_60 : decode cX8_readMarket 60 = .ok (.ireturn, 1) := by decide +kernel
theorem dX8_readMarket_61 : decode cX8_readMarket 61 = .ok (.aload_n 0, 1) := by decide +kernel
theorem dX8_readMarket_62 : decode cX8_readMarket 62 = .ok (.dup, 1) := by decide +kernel
theorem dX8_readMarket_63 : decode cX8_readMarket 63 = .ok (.getfield 86, 3) := by decide +kernel
theorem dX8_readMarket_66 : decode cX8_readMarket 66 = .ok (.iconst 1, 1) := by decide +kernel
theorem dX8_readMarket_67 : decode cX8_readMarket 67 = .ok (.iadd, 1) := by decide +kernel
theorem dX8_readMarket_68 : decode cX8_readMarket 68 = .ok (.putfield 86, 3) := by decide +kernel
theorem dX8_readMarket_71 : decode cX8_readMarket 71 = .ok (.iconst 0, 1) := by decide +kernel
theorem dX8_readMarket_72 : decode cX8_readMarket 72 = .ok (.istore_n 2, 1) := by decide +kernel
theorem dX8_readMarket_73 : decode cX8_readMarket 73 = .ok (.iconst 0, 1) := by decide +kernel
theorem dX8_readMarket_74 : decode cX8_readMarket 74 = .ok (.istore_n 3, 1) := by decide +kernel
theorem dX8_readMarket_75 : decode cX8_readMarket 75 = .ok (.iload_n 3, 1) := by decide +kernel
theorem dX8_readMarket_76 : decode cX8_readMarket 76 = .ok (.iconst 3, 1) := by decide +kernel
theorem dX8_readMarket_77 : decode cX8_readMarket 77 = .ok (.if_icmp .ge 89, 3) := by decide +kernel
theorem dX8_readMarket_80 : decode cX8_readMarket 80 = .ok (.aload_n 0, 1) := by decide +kernel
theorem dX8_readMarket_81 : decode cX8_readMarket 81 = .ok (.getfield 86, 3) := by decide +kernel
theorem dX8_readMarket_84 : decode cX8_readMarket 84 = .ok (.iload_n 1, 1) := by decide +kernel
theorem dX8_readMarket_85 : decode cX8_readMarket 85 = .ok (.if_icmp .ge 45, 3) := by decide +kernel
theorem dX8_readMarket_88 : decode cX8_readMarket 88 = .ok (.aload_n 0, 1) := by decide +kernel
theorem dX8_readMarket_89 : decode cX8_readMarket 89 = .ok (.getfield 16, 3) := by decide +kernel
theorem dX8_readMarket_92 : decode cX8_readMarket 92 = .ok (.aload_n 0, 1) := by decide +kernel
theorem dX8_readMarket_93 : decode cX8_readMarket 93 = .ok (.getfield 86, 3) := by decide +kernel
theorem dX8_readMarket_96 : decode cX8_readMarket 96 = .ok (.iaload, 1) := by decide +kernel
theorem dX8_readMarket_97 : decode cX8_readMarket 97 = .ok (.bipush 48, 2) := by decide +kernel
theorem dX8_readMarket_99 : decode cX8_readMarket 99 = .ok (.bipush 57, 2) := by decide +kernel
theorem dX8_readMarket_101 : decode cX8_readMarket 101 = .ok (.invokestatic 64, 3) := by decide +kernel
theorem dX8_readMarket_104 : decode cX8_readMarket 104 = .ok (.ifCond .eq 26, 3) := by decide +kernel
theorem dX8_readMarket_107 : decode cX8_readMarket 107 = .ok (.iload_n 3, 1) := by decide +kernel
theorem dX8_readMarket_108 : decode cX8_readMarket 108 = .ok (.iconst 2, 1) := by decide +kernel
theorem dX8_readMarket_109 : decode cX8_readMarket 109 = .ok (.if_icmp .ne 23, 3) := by decide +kernel
theorem dX8_readMarket_112 : decode cX8_readMarket 112 = .ok (.iload_n 2, 1) := by decide +kernel
theorem dX8_readMarket_113 : decode cX8_readMarket 113 = .ok (.ifCond .ne 19, 3) := by decide +kernel
theorem dX8_readMarket_116 : decode cX8_readMarket 116 = .ok (.aload_n 0, 1) := by decide +kernel
theorem dX8_readMarket_117 : decode cX8_readMarket 117 = .ok (.getfield 16, 3) := by decide +kernel
theorem dX8_readMarket_120 : decode cX8_readMarket 120 = .ok (.aload_n 0, 1) := by decide +kernel
theorem dX8_readMarket_121 : decode cX8_readMarket 121 = .ok (.getfield 86, 3) := by decide +kernel
theorem dX8_readMarket_124 : decode cX8_readMarket 124 = .ok (.iaload, 1) := by decide +kernel
theorem dX8_readMarket_125 : decode cX8_readMarket 125 = .ok (.bipush 48, 2) := by decide +kernel
theorem dX8_readMarket_127 : decode cX8_readMarket 127 = .ok (.if_icmp .ne 5, 3) := by decide +kernel
theorem dX8_readMarket_130 : decode cX8_readMarket 130 = .ok (.iconst 0, 1) := by decide +kernel
theorem dX8_readMarket_131 : decode cX8_readMarket 131 = .ok (.ireturn, 1) := by decide +kernel
theorem dX8_readMarket_132 : decode cX8_readMarket 132 = .ok (.bipush 10, 2) := by decide +kernel
theorem dX8_readMarket_134 : decode cX8_readMarket 134 = .ok (.iload_n 2, 1) := by decide +kernel
theorem dX8_readMarket_135 : decode cX8_readMarket 135 = .ok (.imul, 1) := by decide +kernel
end
section
theorem dX8_readMarket_136 : decode cX8_readMarket 136 = .ok (.aload_n 0, 1) := by decide +kernel
theorem dX8_readMarket_137 : decode cX8_readMarket 137 = .ok (.getfield 16, 3) := by decide +kernel
theorem dX8_readMarket_140 : decode cX8_readMarket 140 = .ok (.aload_n 0, 1) := by decide +kernel
theorem dX8_readMarket_141 : decode cX8_readMarket 141 = .ok (.getfield 86, 3) := by decide +kernel
theorem dX8_readMarket_144 : decode cX8_readMarket 144 = .ok (.iaload, 1) := by decide +kernel
theorem dX8_readMarket_145 : decode cX8_readMarket 145 = .ok (.iadd, 1) := by decide +kernel
theorem dX8_readMarket_146 : decode cX8_readMarket 146 = .ok (.bipush 48, 2) := by decide +kernel
theorem dX8_readMarket_148 : decode cX8_readMarket 148 = .ok (.isub, 1) := by decide +kernel
theorem dX8_readMarket_149 : decode cX8_readMarket 149 = .ok (.istore_n 2, 1) := by decide +kernel
theorem dX8_readMarket_150 : decode cX8_readMarket 150 = .ok (.aload_n 0, 1) := by decide +kernel
theorem dX8_readMarket_151 : decode cX8_readMarket 151 = .ok (.dup, 1) := by decide +kernel
theorem dX8_readMarket_152 : decode cX8_readMarket 152 = .ok (.getfield 86, 3) := by decide +kernel
theorem dX8_readMarket_155 : decode cX8_readMarket 155 = .ok (.iconst 1, 1) := by decide +kernel
theorem dX8_readMarket_156 : decode cX8_readMarket 156 = .ok (.iadd, 1) := by decide +kernel
theorem dX8_readMarket_157 : decode cX8_readMarket 157 = .ok (.putfield 86, 3) := by decide +kernel
theorem dX8_readMarket_160 : decode cX8_readMarket 160 = .ok (.iinc 3 1, 3) := by decide +kernel
theorem dX8_readMarket_163 : decode cX8_readMarket 163 = .ok (.goto (-88), 3) := by decide +kernel
theorem dX8_readMarket_166 : decode cX8_readMarket 166 = .ok (.aload_n 0, 1) := by decide +kernel
theorem dX8_readMarket_167 : decode cX8_readMarket 167 = .ok (.getfield 22, 3) := by decide +kernel
theorem dX8_readMarket_170 : decode cX8_readMarket 170 = .ok (.aload_n 0, 1) := by decide +kernel
theorem dX8_readMarket_171 : decode cX8_readMarket 171 = .ok (.getfield 92, 3) := by decide +kernel
theorem dX8_readMarket_174 : decode cX8_readMarket 174 = .ok (.iload_n 2, 1) := by decide +kernel
theorem dX8_readMarket_175 : decode cX8_readMarket 175 = .ok (.iastore, 1) := by decide +kernel
theorem dX8_readMarket_176 : decode cX8_readMarket 176 = .ok (.aload_n 0, 1) := by decide +kernel
theorem dX8_readMarket_177 : decode cX8_readMarket 177 = .ok (.dup, 1) := by decide +kernel
theorem dX8_readMarket_178 : decode cX8_readMarket 178 = .ok (.getfield 92, 3) := by decide +kernel
theorem dX8_readMarket_181 : decode cX8_readMarket 181 = .ok (.iconst 1, 1) := by decide +kernel
theorem dX8_readMarket_182 : decode cX8_readMarket 182 = .ok (.iadd, 1) := by decide +kernel
theorem dX8_readMarket_183 : decode cX8_readMarket 183 = .ok (.putfield 92, 3) := by decide +kernel
theorem dX8_readMarket_186 : decode cX8_readMarket 186 = .ok (.goto (-181), 3) := by decide +kernel
theorem dX8_readMarket_189 : decode cX8_readMarket 189 = .ok (.iconst 1, 1) := by decide +kernel
theorem dX8_readMarket_190 : decode cX8_readMarket 190 = .ok (.ireturn, 1) := by decide +kernel
theorem dX8_weight_0 : decode cX8_weight 0 = .ok (.aload_n 0, 1) := by decide +kernel
theorem dX8_weight_1 : decode cX8_weight 1 = .ok (.iload_n 1, 1) := by decide +kernel
theorem dX8_weight_2 : decode cX8_weight 2 = .ok (.invokevirtual 101, 3) := by decide +kernel
theorem dX8_weight_5 : decode cX8_weight 5 = .ok (.ifCond .eq 12, 3) := by decide +kernel
theorem dX8_weight_8 : decode cX8_weight 8 = .ok (.aload_n 0, 1) := by decide +kernel
theorem dX8_weight_9 : decode cX8_weight 9 = .ok (.getfield 19, 3) := by decide +kernel
theorem dX8_weight_12 : decode cX8_weight 12 = .ok (.iload_n 1, 1) := by decide +kernel
theorem dX8_weight_13 : decode cX8_weight 13 = .ok (.iaload, 1) := by decide +kernel
theorem dX8_weight_14 : decode cX8_weight 14 = .ok (.goto 4, 3) := by decide +kernel
theorem dX8_weight_17 : decode cX8_weight 17 = .ok (.iconst (-1), 1) := by decide +kernel
theorem dX8_weight_18 : decode cX8_weight 18 = .ok (.ireturn, 1) := by decide +kernel
theorem dX8_isWeight_0 : decode cX8_isWeight 0 = .ok (.iload_n 0, 1) := by decide +kernel
theorem dX8_isWeight_1 : decode cX8_isWeight 1 = .ok (.iconst 1, 1) := by decide +kernel
theorem dX8_isWeight_2 : decode cX8_isWeight 2 = .ok (.sipush 999, 3) := by decide +kernel
theorem dX8_isWeight_5 : decode cX8_isWeight 5 = .ok (.invokestatic 64, 3) := by decide +kernel
theorem dX8_isWeight_8 : decode cX8_isWeight 8 = .ok (.ireturn, 1) := by decide +kernel
theorem dX8_weigh_0 : decode cX8_weigh 0 = .ok (.aload_n 0, 1) := by decide +kernel
theorem dX8_weigh_1 : decode cX8_weigh 1 = .ok (.iload_n 1, 1) := by decide +kernel
theorem dX8_weigh_2 : decode cX8_weigh 2 = .ok (.invokevirtual 101, 3) := by decide +kernel
theorem dX8_weigh_5 : decode cX8_weigh 5 = .ok (.ifCond .ne 5, 3) := by decide +kernel
theorem dX8_weigh_8 : decode cX8_weigh 8 = .ok (.iconst (-1), 1) := by decide +kernel
theorem dX8_weigh_9 : decode cX8_weigh 9 = .ok (.ireturn, 1) := by decide +kernel
theorem dX8_weigh_10 : decode cX8_weigh 10 = .ok (.iload_n 2, 1) := by decide +kernel
theorem dX8_weigh_11 : decode cX8_weigh 11 = .ok (.invokestatic 104, 3) := by decide +kernel
theorem dX8_weigh_14 : decode cX8_weigh 14 = .ok (.ifCond .ne 6, 3) := by decide +kernel
theorem dX8_weigh_17 : decode cX8_weigh 17 = .ok (.bipush (-2), 2) := by decide +kernel
theorem dX8_weigh_19 : decode cX8_weigh 19 = .ok (.ireturn, 1) := by decide +kernel
theorem dX8_weigh_20 : decode cX8_weigh 20 = .ok (.aload_n 0, 1) := by decide +kernel
theorem dX8_weigh_21 : decode cX8_weigh 21 = .ok (.getfield 19, 3) := by decide +kernel
theorem dX8_weigh_24 : decode cX8_weigh 24 = .ok (.iload_n 1, 1) := by decide +kernel
theorem dX8_weigh_25 : decode cX8_weigh 25 = .ok (.iaload, 1) := by decide +kernel
theorem dX8_weigh_26 : decode cX8_weigh 26 = .ok (.istore_n 3, 1) := by decide +kernel
theorem dX8_weigh_27 : decode cX8_weigh 27 = .ok (.aload_n 0, 1) := by decide +kernel
theorem dX8_weigh_28 : decode cX8_weigh 28 = .ok (.getfield 19, 3) := by decide +kernel
theorem dX8_weigh_31 : decode cX8_weigh 31 = .ok (.iload_n 1, 1) := by decide +kernel
theorem dX8_weigh_32 : decode cX8_weigh 32 = .ok (.iload_n 2, 1) := by decide +kernel
theorem dX8_weigh_33 : decode cX8_weigh 33 = .ok (.iastore, 1) := by decide +kernel
theorem dX8_weigh_34 : decode cX8_weigh 34 = .ok (.iload_n 3, 1) := by decide +kernel
theorem dX8_weigh_35 : decode cX8_weigh 35 = .ok (.ireturn, 1) := by decide +kernel
theorem dX8_isHand_0 : decode cX8_isHand 0 = .ok (.iload_n 1, 1) := by decide +kernel
theorem dX8_isHand_1 : decode cX8_isHand 1 = .ok (.ifCond .lt 15, 3) := by decide +kernel
theorem dX8_isHand_4 : decode cX8_isHand 4 = .ok (.iload_n 1, 1) := by decide +kernel
theorem dX8_isHand_5 : decode cX8_isHand 5 = .ok (.aload_n 0, 1) := by decide +kernel
theorem dX8_isHand_6 : decode cX8_isHand 6 = .ok (.getfield 95, 3) := by decide +kernel
theorem dX8_isHand_9 : decode cX8_isHand 9 = .ok (.if_icmp .ge 7, 3) := by decide +kernel
theorem dX8_isHand_12 : decode cX8_isHand 12 = .ok (.iconst 1, 1) := by decide +kernel
theorem dX8_isHand_13 : decode cX8_isHand 13 = .ok (.goto 4, 3) := by decide +kernel
theorem dX8_isHand_16 : decode cX8_isHand 16 = .ok (.iconst 0, 1) := by decide +kernel
theorem dX8_isHand_17 : decode cX8_isHand 17 = .ok (.ireturn, 1) := by decide +kernel
theorem dX8_hand_0 : decode cX8_hand 0 = .ok (.iload_n 1, 1) := by decide +kernel
theorem dX8_hand_1 : decode cX8_hand 1 = .ok (.iconst 0, 1) := by decide +kernel
theorem dX8_hand_2 : decode cX8_hand 2 = .ok (.iconst 2, 1) := by decide +kernel
theorem dX8_hand_3 : decode cX8_hand 3 = .ok (.invokestatic 64, 3) := by decide +kernel
theorem dX8_hand_6 : decode cX8_hand 6 = .ok (.ifCond .eq 13, 3) := by decide +kernel
theorem dX8_hand_9 : decode cX8_hand 9 = .ok (.iload_n 2, 1) := by decide +kernel
theorem dX8_hand_10 : decode cX8_hand 10 = .ok (.iconst 1, 1) := by decide +kernel
theorem dX8_hand_11 : decode cX8_hand 11 = .ok (.bipush 20, 2) := by decide +kernel
theorem dX8_hand_13 : decode cX8_hand 13 = .ok (.invokestatic 64, 3) := by decide +kernel
theorem dX8_hand_16 : decode cX8_hand 16 = .ok (.ifCond .ne 6, 3) := by decide +kernel
theorem dX8_hand_19 : decode cX8_hand 19 = .ok (.bipush (-2), 2) := by decide +kernel
theorem dX8_hand_21 : decode cX8_hand 21 = .ok (.ireturn, 1) := by decide +kernel
theorem dX8_hand_22 : decode cX8_hand 22 = .ok (.aload_n 0, 1) := by decide +kernel
theorem dX8_hand_23 : decode cX8_hand 23 = .ok (.getfield 68, 3) := by decide +kernel
theorem dX8_hand_26 : decode cX8_hand 26 = .ok (.ifCond .ne 6, 3) := by decide +kernel
theorem dX8_hand_29 : decode cX8_hand 29 = .ok (.bipush (-3), 2) := by decide +kernel
theorem dX8_hand_31 : decode cX8_hand 31 = .ok (.ireturn, 1) := by decide +kernel
theorem dX8_hand_32 : decode cX8_hand 32 = .ok (.aload_n 0, 1) := by decide +kernel
theorem dX8_hand_33 : decode cX8_hand 33 = .ok (.getfield 95, 3) := by decide +kernel
theorem dX8_hand_36 : decode cX8_hand 36 = .ok (.bipush 6, 2) := by decide +kernel
theorem dX8_hand_38 : decode cX8_hand 38 = .ok (.if_icmp .ne 6, 3) := by decide +kernel
theorem dX8_hand_41 : decode cX8_hand 41 = .ok (.bipush (-4), 2) := by decide +kernel
theorem dX8_hand_43 : decode cX8_hand 43 = .ok (.ireturn, 1) := by decide +kernel
theorem dX8_hand_44 : decode cX8_hand 44 = .ok (.aload_n 0, 1) := by decide +kernel
theorem dX8_hand_45 : decode cX8_hand 45 = .ok (.getfield 25, 3) := by decide +kernel
theorem dX8_hand_48 : decode cX8_hand 48 = .ok (.aload_n 0, 1) := by decide +kernel
theorem dX8_hand_49 : decode cX8_hand 49 = .ok (.getfield 95, 3) := by decide +kernel
theorem dX8_hand_52 : decode cX8_hand 52 = .ok (.iload_n 1, 1) := by decide +kernel
theorem dX8_hand_53 : decode cX8_hand 53 = .ok (.iastore, 1) := by decide +kernel
theorem dX8_hand_54 : decode cX8_hand 54 = .ok (.aload_n 0, 1) := by decide +kernel
theorem dX8_hand_55 : decode cX8_hand 55 = .ok (.getfield 28, 3) := by decide +kernel
theorem dX8_hand_58 : decode cX8_hand 58 = .ok (.aload_n 0, 1) := by decide +kernel
theorem dX8_hand_59 : decode cX8_hand 59 = .ok (.getfield 95, 3) := by decide +kernel
theorem dX8_hand_62 : decode cX8_hand 62 = .ok (.iload_n 2, 1) := by decide +kernel
theorem dX8_hand_63 : decode cX8_hand 63 = .ok (.iastore, 1) := by decide +kernel
theorem dX8_hand_64 : decode cX8_hand 64 = .ok (.aload_n 0, 1) := by decide +kernel
theorem dX8_hand_65 : decode cX8_hand 65 = .ok (.dup, 1) := by decide +kernel
theorem dX8_hand_66 : decode cX8_hand 66 = .ok (.getfield 95, 3) := by decide +kernel
theorem dX8_hand_69 : decode cX8_hand 69 = .ok (.iconst 1, 1) := by decide +kernel
theorem dX8_hand_70 : decode cX8_hand 70 = .ok (.iadd, 1) := by decide +kernel
theorem dX8_hand_71 : decode cX8_hand 71 = .ok (.putfield 95, 3) := by decide +kernel
theorem dX8_hand_74 : decode cX8_hand 74 = .ok (.aload_n 0, 1) := by decide +kernel
theorem dX8_hand_75 : decode cX8_hand 75 = .ok (.getfield 95, 3) := by decide +kernel
theorem dX8_hand_78 : decode cX8_hand 78 = .ok (.iconst 1, 1) := by decide +kernel
theorem dX8_hand_79 : decode cX8_hand 79 = .ok (.isub, 1) := by decide +kernel
theorem dX8_hand_80 : decode cX8_hand 80 = .ok (.ireturn, 1) := by decide +kernel
theorem dX8_ofHand_0 : decode cX8_ofHand 0 = .ok (.aload_n 0, 1) := by decide +kernel
theorem dX8_ofHand_1 : decode cX8_ofHand 1 = .ok (.iload_n 1, 1) := by decide +kernel
theorem dX8_ofHand_2 : decode cX8_ofHand 2 = .ok (.invokevirtual 107, 3) := by decide +kernel
theorem dX8_ofHand_5 : decode cX8_ofHand 5 = .ok (.ifCond .ne 5, 3) := by decide +kernel
theorem dX8_ofHand_8 : decode cX8_ofHand 8 = .ok (.iconst (-1), 1) := by decide +kernel
theorem dX8_ofHand_9 : decode cX8_ofHand 9 = .ok (.ireturn, 1) := by decide +kernel
theorem dX8_ofHand_10 : decode cX8_ofHand 10 = .ok (.iload_n 2, 1) := by decide +kernel
theorem dX8_ofHand_11 : decode cX8_ofHand 11 = .ok (.ifCond .ne 12, 3) := by decide +kernel
theorem dX8_ofHand_14 : decode cX8_ofHand 14 = .ok (.aload_n 0, 1) := by decide +kernel
theorem dX8_ofHand_15 : decode cX8_ofHand 15 = .ok (.getfield 25, 3) := by decide +kernel
theorem dX8_ofHand_18 : decode cX8_ofHand 18 = .ok (.iload_n 1, 1) := by decide +kernel
theorem dX8_ofHand_19 : decode cX8_ofHand 19 = .ok (.iaload, 1) := by decide +kernel
theorem dX8_ofHand_20 : decode cX8_ofHand 20 = .ok (.goto 19, 3) := by decide +kernel
theorem dX8_ofHand_23 : decode cX8_ofHand 23 = .ok (.iload_n 2, 1) := by decide +kernel
theorem dX8_ofHand_24 : decode cX8_ofHand 24 = .ok (.iconst 1, 1) := by decide +kernel
theorem dX8_ofHand_25 : decode cX8_ofHand 25 = .ok (.if_icmp .ne 12, 3) := by decide +kernel
theorem dX8_ofHand_28 : decode cX8_ofHand 28 = .ok (.aload_n 0, 1) := by decide +kernel
theorem dX8_ofHand_29 : decode cX8_ofHand 29 = .ok (.getfield 28, 3) := by decide +kernel
theorem dX8_ofHand_32 : decode cX8_ofHand 32 = .ok (.iload_n 1, 1) := by decide +kernel
theorem dX8_ofHand_33 : decode cX8_ofHand 33 = .ok (.iaload, 1) := by decide +kernel
theorem dX8_ofHand_34 : decode cX8_ofHand 34 = .ok (.goto 5, 3) := by decide +kernel
theorem dX8_ofHand_37 : decode cX8_ofHand 37 = .ok (.bipush (-2), 2) := by decide +kernel
theorem dX8_ofHand_39 : decode cX8_ofHand 39 = .ok (.ireturn, 1) := by decide +kernel
theorem dX8_times_0 : decode cX8_times 0 = .ok (.aload_n 0, 1) := by decide +kernel
theorem dX8_times_1 : decode cX8_times 1 = .ok (.getfield 25, 3) := by decide +kernel
theorem dX8_times_4 : decode cX8_times 4 = .ok (.iload_n 1, 1) := by decide +kernel
theorem dX8_times_5 : decode cX8_times 5 = .ok (.iaload, 1) := by decide +kernel
theorem dX8_times_6 : decode cX8_times 6 = .ok (.ifCond .ne 12, 3) := by decide +kernel
theorem dX8_times_9 : decode cX8_times 9 = .ok (.aload_n 0, 1) := by decide +kernel
theorem dX8_times_10 : decode cX8_times 10 = .ok (.getfield 28, 3) := by decide +kernel
theorem dX8_times_13 : decode cX8_times 13 = .ok (.iload_n 1, 1) := by decide +kernel
theorem dX8_times_14 : decode cX8_times 14 = .ok (.iaload, 1) := by decide +kernel
theorem dX8_times_15 : decode cX8_times 15 = .ok (.goto 11, 3) := by decide +kernel
theorem dX8_times_18 : decode cX8_times 18 = .ok (.iconst 2, 1) := by decide +kernel
theorem dX8_times_19 : decode cX8_times 19 = .ok (.aload_n 0, 1) := by decide +kernel
theorem dX8_times_20 : decode cX8_times 20 = .ok (.getfield 28, 3) := by decide +kernel
theorem dX8_times_23 : decode cX8_times 23 = .ok (.iload_n 1, 1) := by decide +kernel
theorem dX8_times_24 : decode cX8_times 24 = .ok (.iaload, 1) := by decide +kernel
theorem dX8_times_25 : decode cX8_times 25 = .ok (.imul, 1) := by decide +kernel
theorem dX8_times_26 : decode cX8_times 26 = .ok (.ireturn, 1) := by decide +kernel
theorem dX8_isTold_0 : decode cX8_isTold 0 = .ok (.iload_n 2, 1) := by decide +kernel
theorem dX8_isTold_1 : decode cX8_isTold 1 = .ok (.iload_n 3, 1) := by decide +kernel
theorem dX8_isTold_2 : decode cX8_isTold 2 = .ok (.if_icmp .gt 5, 3) := by decide +kernel
theorem dX8_isTold_5 : decode cX8_isTold 5 = .ok (.iconst 0, 1) := by decide +kernel
theorem dX8_isTold_6 : decode cX8_isTold 6 = .ok (.ireturn, 1) := by decide +kernel
theorem dX8_isTold_7 : decode cX8_isTold 7 = .ok (.iload_n 2, 1) := by decide +kernel
theorem dX8_isTold_8 : decode cX8_isTold 8 = .ok (.iload_n 3, 1) := by decide +kernel
theorem dX8_isTold_9 : decode cX8_isTold 9 = .ok (.isub, 1) := by decide +kernel
theorem dX8_isTold_10 : decode cX8_isTold 10 = .ok (.aload_n 0, 1) := by decide +kernel
theorem dX8_isTold_11 : decode cX8_isTold 11 = .ok (.iload_n 1, 1) := by decide +kernel
theorem dX8_isTold_12 : decode cX8_isTold 12 = .ok (.invokevirtual 110, 3) := by decide +kernel
theorem dX8_isTold_15 : decode cX8_isTold 15 = .ok (.imul, 1) := by decide +kernel
theorem dX8_isTold_16 : decode cX8_isTold 16 = .ok (.istore 4, 2) := by decide +kernel
theorem dX8_isTold_18 : decode cX8_isTold 18 = .ok (.aload_n 0, 1) := by decide +kernel
theorem dX8_isTold_19 : decode cX8_isTold 19 = .ok (.getfield 25, 3) := by decide +kernel
theorem dX8_isTold_22 : decode cX8_isTold 22 = .ok (.iload_n 1, 1) := by decide +kernel
theorem dX8_isTold_23 : decode cX8_isTold 23 = .ok (.iaload, 1) := by decide +kernel
theorem dX8_isTold_24 : decode cX8_isTold 24 = .ok (.iconst 2, 1) := by decide +kernel
theorem dX8_isTold_25 : decode cX8_isTold 25 = .ok (.if_icmp .ne 17, 3) := by decide +kernel
theorem dX8_isTold_28 : decode cX8_isTold 28 = .ok (.iload 4, 2) := by decide +kernel
theorem dX8_isTold_30 : decode cX8_isTold 30 = .ok (.iload_n 3, 1) := by decide +kernel
theorem dX8_isTold_31 : decode cX8_isTold 31 = .ok (.if_icmp .lt 7, 3) := by decide +kernel
theorem dX8_isTold_34 : decode cX8_isTold 34 = .ok (.iconst 1, 1) := by decide +kernel
theorem dX8_isTold_35 : decode cX8_isTold 35 = .ok (.goto 18, 3) := by decide +kernel
theorem dX8_isTold_38 : decode cX8_isTold 38 = .ok (.iconst 0, 1) := by decide +kernel
theorem dX8_isTold_39 : decode cX8_isTold 39 = .ok (.goto 14, 3) := by decide +kernel
theorem dX8_isTold_42 : decode cX8_isTold 42 = .ok (.iload 4, 2) := by decide +kernel
theorem dX8_isTold_44 : decode cX8_isTold 44 = .ok (.iload_n 3, 1) := by decide +kernel
theorem dX8_isTold_45 : decode cX8_isTold 45 = .ok (.if_icmp .le 7, 3) := by decide +kernel
theorem dX8_isTold_48 : decode cX8_isTold 48 = .ok (.iconst 1, 1) := by decide +kernel
theorem dX8_isTold_49 : decode cX8_isTold 49 = .ok (.goto 4, 3) := by decide +kernel
theorem dX8_isTold_52 : decode cX8_isTold 52 = .ok (.iconst 0, 1) := by decide +kernel
theorem dX8_isTold_53 : decode cX8_isTold 53 = .ok (.ireturn, 1) := by decide +kernel
theorem dX8_tellsThem_0 : decode cX8_tellsThem 0 = .ok (.aload_n 0, 1) := by decide +kernel
theorem dX8_tellsThem_1 : decode cX8_tellsThem 1 = .ok (.iload_n 1, 1) := by decide +kernel
theorem dX8_tellsThem_2 : decode cX8_tellsThem 2 = .ok (.aload_n 0, 1) := by decide +kernel
theorem dX8_tellsThem_3 : decode cX8_tellsThem 3 = .ok (.getfield 19, 3) := by decide +kernel
theorem dX8_tellsThem_6 : decode cX8_tellsThem 6 = .ok (.iload_n 2, 1) := by decide +kernel
theorem dX8_tellsThem_7 : decode cX8_tellsThem 7 = .ok (.iaload, 1) := by decide +kernel
theorem dX8_tellsThem_8 : decode cX8_tellsThem 8 = .ok (.aload_n 0, 1) := by decide +kernel
theorem dX8_tellsThem_9 : decode cX8_tellsThem 9 = .ok (.getfield 19, 3) := by decide +kernel
theorem dX8_tellsThem_12 : decode cX8_tellsThem 12 = .ok (.iload_n 3, 1) := by decide +kernel
theorem dX8_tellsThem_13 : decode cX8_tellsThem 13 = .ok (.iaload, 1) := by decide +kernel
theorem dX8_tellsThem_14 : decode cX8_tellsThem 14 = .ok (.invokevirtual 113, 3) := by decide +kernel
theorem dX8_tellsThem_17 : decode cX8_tellsThem 17 = .ok (.ireturn, 1) := by decide +kernel
theorem dX8_areAlike_0 : decode cX8_areAlike 0 = .ok (.aload_n 0, 1) := by decide +kernel
theorem dX8_areAlike_1 : decode cX8_areAlike 1 = .ok (.iload_n 1, 1) := by decide +kernel
theorem dX8_areAlike_2 : decode cX8_areAlike 2 = .ok (.iload_n 2, 1) := by decide +kernel
theorem dX8_areAlike_3 : decode cX8_areAlike 3 = .ok (.iload_n 3, 1) := by decide +kernel
theorem dX8_areAlike_4 : decode cX8_areAlike 4 = .ok (.invokevirtual 116, 3) := by decide +kernel
theorem dX8_areAlike_7 : decode cX8_areAlike 7 = .ok (.ifCond .ne 17, 3) := by decide +kernel
theorem dX8_areAlike_10 : decode cX8_areAlike 10 = .ok (.aload_n 0, 1) := by decide +kernel
theorem dX8_areAlike_11 : decode cX8_areAlike 11 = .ok (.iload_n 1, 1) := by decide +kernel
theorem dX8_areAlike_12 : decode cX8_areAlike 12 = .ok (.iload_n 3, 1) := by decide +kernel
theorem dX8_areAlike_13 : decode cX8_areAlike 13 = .ok (.iload_n 2, 1) := by decide +kernel
theorem dX8_areAlike_14 : decode cX8_areAlike 14 = .ok (.invokevirtual 116, 3) := by decide +kernel
theorem dX8_areAlike_17 : decode cX8_areAlike 17 = .ok (.ifCond .ne 7, 3) := by decide +kernel
theorem dX8_areAlike_20 : decode cX8_areAlike 20 = .ok (.iconst 1, 1) := by decide +kernel
theorem dX8_areAlike_21 : decode cX8_areAlike 21 = .ok (.goto 4, 3) := by decide +kernel
theorem dX8_areAlike_24 : decode cX8_areAlike 24 = .ok (.iconst 0, 1) := by decide +kernel
theorem dX8_areAlike_25 : decode cX8_areAlike 25 = .ok (.ireturn, 1) := by decide +kernel
theorem dX8_tells_0 : decode cX8_tells 0 = .ok (.aload_n 0, 1) := by decide +kernel
theorem dX8_tells_1 : decode cX8_tells 1 = .ok (.iload_n 1, 1) := by decide +kernel
theorem dX8_tells_2 : decode cX8_tells 2 = .ok (.invokevirtual 107, 3) := by decide +kernel
theorem dX8_tells_5 : decode cX8_tells 5 = .ok (.ifCond .ne 5, 3) := by decide +kernel
theorem dX8_tells_8 : decode cX8_tells 8 = .ok (.iconst (-1), 1) := by decide +kernel
theorem dX8_tells_9 : decode cX8_tells 9 = .ok (.ireturn, 1) := by decide +kernel
theorem dX8_tells_10 : decode cX8_tells 10 = .ok (.iload_n 2, 1) := by decide +kernel
theorem dX8_tells_11 : decode cX8_tells 11 = .ok (.iconst 1, 1) := by decide +kernel
theorem dX8_tells_12 : decode cX8_tells 12 = .ok (.sipush 9999, 3) := by decide +kernel
theorem dX8_tells_15 : decode cX8_tells 15 = .ok (.invokestatic 64, 3) := by decide +kernel
theorem dX8_tells_18 : decode cX8_tells 18 = .ok (.ifCond .eq 14, 3) := by decide +kernel
theorem dX8_tells_21 : decode cX8_tells 21 = .ok (.iload_n 3, 1) := by decide +kernel
theorem dX8_tells_22 : decode cX8_tells 22 = .ok (.iconst 1, 1) := by decide +kernel
theorem dX8_tells_23 : decode cX8_tells 23 = .ok (.sipush 9999, 3) := by decide +kernel
theorem dX8_tells_26 : decode cX8_tells 26 = .ok (.invokestatic 64, 3) := by decide +kernel
theorem dX8_tells_29 : decode cX8_tells 29 = .ok (.ifCond .ne 6, 3) := by decide +kernel
theorem dX8_tells_32 : decode cX8_tells 32 = .ok (.bipush (-2), 2) := by decide +kernel
theorem dX8_tells_34 : decode cX8_tells 34 = .ok (.ireturn, 1) := by decide +kernel
theorem dX8_tells_35 : decode cX8_tells 35 = .ok (.aload_n 0, 1) := by decide +kernel
theorem dX8_tells_36 : decode cX8_tells 36 = .ok (.iload_n 1, 1) := by decide +kernel
theorem dX8_tells_37 : decode cX8_tells 37 = .ok (.iload_n 2, 1) := by decide +kernel
theorem dX8_tells_38 : decode cX8_tells 38 = .ok (.iload_n 3, 1) := by decide +kernel
theorem dX8_tells_39 : decode cX8_tells 39 = .ok (.invokevirtual 113, 3) := by decide +kernel
theorem dX8_tells_42 : decode cX8_tells 42 = .ok (.ifCond .eq 7, 3) := by decide +kernel
theorem dX8_tells_45 : decode cX8_tells 45 = .ok (.iconst 1, 1) := by decide +kernel
theorem dX8_tells_46 : decode cX8_tells 46 = .ok (.goto 4, 3) := by decide +kernel
theorem dX8_tells_49 : decode cX8_tells 49 = .ok (.iconst 0, 1) := by decide +kernel
theorem dX8_tells_50 : decode cX8_tells 50 = .ok (.ireturn, 1) := by decide +kernel
theorem dX8_alikeTo_0 : decode cX8_alikeTo 0 = .ok (.iconst 0, 1) := by decide +kernel
theorem dX8_alikeTo_1 : decode cX8_alikeTo 1 = .ok (.istore_n 3, 1) := by decide +kernel
theorem dX8_alikeTo_2 : decode cX8_alikeTo 2 = .ok (.iconst 0, 1) := by decide +kernel
theorem dX8_alikeTo_3 : decode cX8_alikeTo 3 = .ok (.istore 4, 2) := by decide +kernel
theorem dX8_alikeTo_5 : decode cX8_alikeTo 5 = .ok (.iload 4, 2) := by decide +kernel
theorem dX8_alikeTo_7 : decode cX8_alikeTo 7 = .ok (.aload_n 0, 1) := by decide +kernel
theorem dX8_alikeTo_8 : decode cX8_alikeTo 8 = .ok (.getfield 68, 3) := by decide +kernel
theorem dX8_alikeTo_11 : decode cX8_alikeTo 11 = .ok (.if_icmp .ge 31, 3) := by decide +kernel
theorem dX8_alikeTo_14 : decode cX8_alikeTo 14 = .ok (.iload_n 3, 1) := by decide +kernel
theorem dX8_alikeTo_15 : decode cX8_alikeTo 15 = .ok (.aload_n 0, 1) := by decide +kernel
theorem dX8_alikeTo_16 : decode cX8_alikeTo 16 = .ok (.iload_n 1, 1) := by decide +kernel
theorem dX8_alikeTo_17 : decode cX8_alikeTo 17 = .ok (.iload_n 2, 1) := by decide +kernel
theorem dX8_alikeTo_18 : decode cX8_alikeTo 18 = .ok (.iload 4, 2) := by decide +kernel
theorem dX8_alikeTo_20 : decode cX8_alikeTo 20 = .ok (.invokevirtual 119, 3) := by decide +kernel
theorem dX8_alikeTo_23 : decode cX8_alikeTo 23 = .ok (.ifCond .eq 10, 3) := by decide +kernel
theorem dX8_alikeTo_26 : decode cX8_alikeTo 26 = .ok (.iconst 1, 1) := by decide +kernel
theorem dX8_alikeTo_27 : decode cX8_alikeTo 27 = .ok (.iload 4, 2) := by decide +kernel
theorem dX8_alikeTo_29 : decode cX8_alikeTo 29 = .ok (.ishl, 1) := by decide +kernel
theorem dX8_alikeTo_30 : decode cX8_alikeTo 30 = .ok (.goto 4, 3) := by decide +kernel
theorem dX8_alikeTo_33 : decode cX8_alikeTo 33 = .ok (.iconst 0, 1) := by decide +kernel
theorem dX8_alikeTo_34 : decode cX8_alikeTo 34 = .ok (.ior, 1) := by decide +kernel
theorem dX8_alikeTo_35 : decode cX8_alikeTo 35 = .ok (.istore_n 3, 1) := by decide +kernel
theorem dX8_alikeTo_36 : decode cX8_alikeTo 36 = .ok (.iinc 4 1, 3) := by decide +kernel
theorem dX8_alikeTo_39 : decode cX8_alikeTo 39 = .ok (.goto (-34), 3) := by decide +kernel
theorem dX8_alikeTo_42 : decode cX8_alikeTo 42 = .ok (.iload_n 3, 1) := by decide +kernel
theorem dX8_alikeTo_43 : decode cX8_alikeTo 43 = .ok (.ireturn, 1) := by decide +kernel
theorem dX8_alike_0 : decode cX8_alike 0 = .ok (.aload_n 0, 1) := by decide +kernel
theorem dX8_alike_1 : decode cX8_alike 1 = .ok (.iload_n 1, 1) := by decide +kernel
theorem dX8_alike_2 : decode cX8_alike 2 = .ok (.invokevirtual 107, 3) := by decide +kernel
theorem dX8_alike_5 : decode cX8_alike 5 = .ok (.ifCond .eq 20, 3) := by decide +kernel
theorem dX8_alike_8 : decode cX8_alike 8 = .ok (.aload_n 0, 1) := by decide +kernel
theorem dX8_alike_9 : decode cX8_alike 9 = .ok (.iload_n 2, 1) := by decide +kernel
theorem dX8_alike_10 : decode cX8_alike 10 = .ok (.invokevirtual 101, 3) := by decide +kernel
theorem dX8_alike_13 : decode cX8_alike 13 = .ok (.ifCond .eq 12, 3) := by decide +kernel
theorem dX8_alike_16 : decode cX8_alike 16 = .ok (.aload_n 0, 1) := by decide +kernel
theorem dX8_alike_17 : decode cX8_alike 17 = .ok (.iload_n 1, 1) := by decide +kernel
theorem dX8_alike_18 : decode cX8_alike 18 = .ok (.iload_n 2, 1) := by decide +kernel
theorem dX8_alike_19 : decode cX8_alike 19 = .ok (.invokevirtual 122, 3) := by decide +kernel
theorem dX8_alike_22 : decode cX8_alike 22 = .ok (.goto 4, 3) := by decide +kernel
theorem dX8_alike_25 : decode cX8_alike 25 = .ok (.iconst (-1), 1) := by decide +kernel
theorem dX8_alike_26 : decode cX8_alike 26 = .ok (.ireturn, 1) := by decide +kernel
theorem dX8_finer_0 : decode cX8_finer 0 = .ok (.aload_n 0, 1) := by decide +kernel
theorem dX8_finer_1 : decode cX8_finer 1 = .ok (.iload_n 1, 1) := by decide +kernel
theorem dX8_finer_2 : decode cX8_finer 2 = .ok (.invokevirtual 107, 3) := by decide +kernel
theorem dX8_finer_5 : decode cX8_finer 5 = .ok (.ifCond .eq 11, 3) := by decide +kernel
theorem dX8_finer_8 : decode cX8_finer 8 = .ok (.aload_n 0, 1) := by decide +kernel
theorem dX8_finer_9 : decode cX8_finer 9 = .ok (.iload_n 2, 1) := by decide +kernel
theorem dX8_finer_10 : decode cX8_finer 10 = .ok (.invokevirtual 107, 3) := by decide +kernel
theorem dX8_finer_13 : decode cX8_finer 13 = .ok (.ifCond .ne 5, 3) := by decide +kernel
theorem dX8_finer_16 : decode cX8_finer 16 = .ok (.iconst (-1), 1) := by decide +kernel
theorem dX8_finer_17 : decode cX8_finer 17 = .ok (.ireturn, 1) := by decide +kernel
theorem dX8_finer_18 : decode cX8_finer 18 = .ok (.iconst 1, 1) := by decide +kernel
theorem dX8_finer_19 : decode cX8_finer 19 = .ok (.istore_n 3, 1) := by decide +kernel
theorem dX8_finer_20 : decode cX8_finer 20 = .ok (.iconst 0, 1) := by decide +kernel
theorem dX8_finer_21 : decode cX8_finer 21 = .ok (.istore 4, 2) := by decide +kernel
theorem dX8_finer_23 : decode cX8_finer 23 = .ok (.iconst 0, 1) := by decide +kernel
theorem dX8_finer_24 : decode cX8_finer 24 = .ok (.istore 5, 2) := by decide +kernel
theorem dX8_finer_26 : decode cX8_finer 26 = .ok (.iload 5, 2) := by decide +kernel
theorem dX8_finer_28 : decode cX8_finer 28 = .ok (.aload_n 0, 1) := by decide +kernel
theorem dX8_finer_29 : decode cX8_finer 29 = .ok (.getfield 68, 3) := by decide +kernel
theorem dX8_finer_32 : decode cX8_finer 32 = .ok (.if_icmp .ge 97, 3) := by decide +kernel
theorem dX8_finer_35 : decode cX8_finer 35 = .ok (.iconst 0, 1) := by decide +kernel
theorem dX8_finer_36 : decode cX8_finer 36 = .ok (.istore 6, 2) := by decide +kernel
theorem dX8_finer_38 : decode cX8_finer 38 = .ok (.iload 6, 2) := by decide +kernel
theorem dX8_finer_40 : decode cX8_finer 40 = .ok (.aload_n 0, 1) := by decide +kernel
theorem dX8_finer_41 : decode cX8_finer 41 = .ok (.getfield 68, 3) := by decide +kernel
theorem dX8_finer_44 : decode cX8_finer 44 = .ok (.if_icmp .ge 79, 3) := by decide +kernel
theorem dX8_finer_47 : decode cX8_finer 47 = .ok (.iload_n 3, 1) := by decide +kernel
theorem dX8_finer_48 : decode cX8_finer 48 = .ok (.ifCond .eq 31, 3) := by decide +kernel
theorem dX8_finer_51 : decode cX8_finer 51 = .ok (.aload_n 0, 1) := by decide +kernel
theorem dX8_finer_52 : decode cX8_finer 52 = .ok (.iload_n 1, 1) := by decide +kernel
theorem dX8_finer_53 : decode cX8_finer 53 = .ok (.iload 5, 2) := by decide +kernel
theorem dX8_finer_55 : decode cX8_finer 55 = .ok (.iload 6, 2) := by decide +kernel
theorem dX8_finer_57 : decode cX8_finer 57 = .ok (.invokevirtual 116, 3) := by decide +kernel
theorem dX8_finer_60 : decode cX8_finer 60 = .ok (.ifCond .ne 15, 3) := by decide +kernel
theorem dX8_finer_63 : decode cX8_finer 63 = .ok (.aload_n 0, 1) := by decide +kernel
theorem dX8_finer_64 : decode cX8_finer 64 = .ok (.iload_n 2, 1) := by decide +kernel
theorem dX8_finer_65 : decode cX8_finer 65 = .ok (.iload 5, 2) := by decide +kernel
theorem dX8_finer_67 : decode cX8_finer 67 = .ok (.iload 6, 2) := by decide +kernel
theorem dX8_finer_69 : decode cX8_finer 69 = .ok (.invokevirtual 116, 3) := by decide +kernel
theorem dX8_finer_72 : decode cX8_finer 72 = .ok (.ifCond .ne 7, 3) := by decide +kernel
theorem dX8_finer_75 : decode cX8_finer 75 = .ok (.iconst 1, 1) := by decide +kernel
theorem dX8_finer_76 : decode cX8_finer 76 = .ok (.goto 4, 3) := by decide +kernel
theorem dX8_finer_79 : decode cX8_finer 79 = .ok (.iconst 0, 1) := by decide +kernel
theorem dX8_finer_80 : decode cX8_finer 80 = .ok (.istore_n 3, 1) := by decide +kernel
theorem dX8_finer_81 : decode cX8_finer 81 = .ok (.iload 4, 2) := by decide +kernel
theorem dX8_finer_83 : decode cX8_finer 83 = .ok (.ifCond .ne 27, 3) := by decide +kernel
theorem dX8_finer_86 : decode cX8_finer 86 = .ok (.aload_n 0, 1) := by decide +kernel
theorem dX8_finer_87 : decode cX8_finer 87 = .ok (.iload_n 1, 1) := by decide +kernel
theorem dX8_finer_88 : decode cX8_finer 88 = .ok (.iload 5, 2) := by decide +kernel
theorem dX8_finer_90 : decode cX8_finer 90 = .ok (.iload 6, 2) := by decide +kernel
theorem dX8_finer_92 : decode cX8_finer 92 = .ok (.invokevirtual 116, 3) := by decide +kernel
theorem dX8_finer_95 : decode cX8_finer 95 = .ok (.ifCond .eq 19, 3) := by decide +kernel
theorem dX8_finer_98 : decode cX8_finer 98 = .ok (.aload_n 0, 1) := by decide +kernel
theorem dX8_finer_99 : decode cX8_finer 99 = .ok (.iload_n 2, 1) := by decide +kernel
theorem dX8_finer_100 : decode cX8_finer 100 = .ok (.iload 5, 2) := by decide +kernel
theorem dX8_finer_102 : decode cX8_finer 102 = .ok (.iload 6, 2) := by decide +kernel
theorem dX8_finer_104 : decode cX8_finer 104 = .ok (.invokevirtual 116, 3) := by decide +kernel
theorem dX8_finer_107 : decode cX8_finer 107 = .ok (.ifCond .ne 7, 3) := by decide +kernel
theorem dX8_finer_110 : decode cX8_finer 110 = .ok (.iconst 1, 1) := by decide +kernel
theorem dX8_finer_111 : decode cX8_finer 111 = .ok (.goto 4, 3) := by decide +kernel
theorem dX8_finer_114 : decode cX8_finer 114 = .ok (.iconst 0, 1) := by decide +kernel
theorem dX8_finer_115 : decode cX8_finer 115 = .ok (.istore 4, 2) := by decide +kernel
theorem dX8_finer_117 : decode cX8_finer 117 = .ok (.iinc 6 1, 3) := by decide +kernel
theorem dX8_finer_120 : decode cX8_finer 120 = .ok (.goto (-82), 3) := by decide +kernel
theorem dX8_finer_123 : decode cX8_finer 123 = .ok (.iinc 5 1, 3) := by decide +kernel
theorem dX8_finer_126 : decode cX8_finer 126 = .ok (.goto (-100), 3) := by decide +kernel
theorem dX8_finer_129 : decode cX8_finer 129 = .ok (.iload_n 3, 1) := by decide +kernel
theorem dX8_finer_130 : decode cX8_finer 130 = .ok (.ifCond .eq 12, 3) := by decide +kernel
theorem dX8_finer_133 : decode cX8_finer 133 = .ok (.iload 4, 2) := by decide +kernel
theorem dX8_finer_135 : decode cX8_finer 135 = .ok (.ifCond .eq 7, 3) := by decide +kernel
theorem dX8_finer_138 : decode cX8_finer 138 = .ok (.iconst 1, 1) := by decide +kernel
theorem dX8_finer_139 : decode cX8_finer 139 = .ok (.goto 4, 3) := by decide +kernel
theorem dX8_finer_142 : decode cX8_finer 142 = .ok (.iconst 0, 1) := by decide +kernel
theorem dX8_finer_143 : decode cX8_finer 143 = .ok (.ireturn, 1) := by decide +kernel
theorem dX8_findFar_0 : decode cX8_findFar 0 = .ok (.iconst 0, 1) := by decide +kernel
theorem dX8_findFar_1 : decode cX8_findFar 1 = .ok (.istore_n 3, 1) := by decide +kernel
theorem dX8_findFar_2 : decode cX8_findFar 2 = .ok (.iload_n 3, 1) := by decide +kernel
theorem dX8_findFar_3 : decode cX8_findFar 3 = .ok (.aload_n 0, 1) := by decide +kernel
theorem dX8_findFar_4 : decode cX8_findFar 4 = .ok (.getfield 68, 3) := by decide +kernel
theorem dX8_findFar_7 : decode cX8_findFar 7 = .ok (.if_icmp .ge 26, 3) := by decide +kernel
theorem dX8_findFar_10 : decode cX8_findFar 10 = .ok (.aload_n 0, 1) := by decide +kernel
theorem dX8_findFar_11 : decode cX8_findFar 11 = .ok (.getfield 31, 3) := by decide +kernel
theorem dX8_findFar_14 : decode cX8_findFar 14 = .ok (.iload_n 3, 1) := by decide +kernel
theorem dX8_findFar_15 : decode cX8_findFar 15 = .ok (.iload_n 3, 1) := by decide +kernel
theorem dX8_findFar_16 : decode cX8_findFar 16 = .ok (.iload_n 2, 1) := by decide +kernel
theorem dX8_findFar_17 : decode cX8_findFar 17 = .ok (.if_icmp .ne 7, 3) := by decide +kernel
theorem dX8_findFar_20 : decode cX8_findFar 20 = .ok (.iconst 0, 1) := by decide +kernel
theorem dX8_findFar_21 : decode cX8_findFar 21 = .ok (.goto 5, 3) := by decide +kernel
theorem dX8_findFar_24 : decode cX8_findFar 24 = .ok (.bipush (-9), 2) := by decide +kernel
theorem dX8_findFar_26 : decode cX8_findFar 26 = .ok (.iastore, 1) := by decide +kernel
theorem dX8_findFar_27 : decode cX8_findFar 27 = .ok (.iinc 3 1, 3) := by decide +kernel
theorem dX8_findFar_30 : decode cX8_findFar 30 = .ok (.goto (-28), 3) := by decide +kernel
theorem dX8_findFar_33 : decode cX8_findFar 33 = .ok (.iconst 0, 1) := by decide +kernel
theorem dX8_findFar_34 : decode cX8_findFar 34 = .ok (.istore_n 3, 1) := by decide +kernel
theorem dX8_findFar_35 : decode cX8_findFar 35 = .ok (.iload_n 3, 1) := by decide +kernel
theorem dX8_findFar_36 : decode cX8_findFar 36 = .ok (.aload_n 0, 1) := by decide +kernel
theorem dX8_findFar_37 : decode cX8_findFar 37 = .ok (.getfield 68, 3) := by decide +kernel
theorem dX8_findFar_40 : decode cX8_findFar 40 = .ok (.if_icmp .ge 100, 3) := by decide +kernel
theorem dX8_findFar_43 : decode cX8_findFar 43 = .ok (.iconst 0, 1) := by decide +kernel
theorem dX8_findFar_44 : decode cX8_findFar 44 = .ok (.istore 4, 2) := by decide +kernel
theorem dX8_findFar_46 : decode cX8_findFar 46 = .ok (.iload 4, 2) := by decide +kernel
theorem dX8_findFar_48 : decode cX8_findFar 48 = .ok (.aload_n 0, 1) := by decide +kernel
theorem dX8_findFar_49 : decode cX8_findFar 49 = .ok (.getfield 68, 3) := by decide +kernel
theorem dX8_findFar_52 : decode cX8_findFar 52 = .ok (.if_icmp .ge 82, 3) := by decide +kernel
theorem dX8_findFar_55 : decode cX8_findFar 55 = .ok (.iconst 0, 1) := by decide +kernel
theorem dX8_findFar_56 : decode cX8_findFar 56 = .ok (.istore 5, 2) := by decide +kernel
theorem dX8_findFar_58 : decode cX8_findFar 58 = .ok (.iload 5, 2) := by decide +kernel
theorem dX8_findFar_60 : decode cX8_findFar 60 = .ok (.aload_n 0, 1) := by decide +kernel
theorem dX8_findFar_61 : decode cX8_findFar 61 = .ok (.getfield 68, 3) := by decide +kernel
theorem dX8_findFar_64 : decode cX8_findFar 64 = .ok (.if_icmp .ge 64, 3) := by decide +kernel
theorem dX8_findFar_67 : decode cX8_findFar 67 = .ok (.aload_n 0, 1) := by decide +kernel
theorem dX8_findFar_68 : decode cX8_findFar 68 = .ok (.getfield 31, 3) := by decide +kernel
theorem dX8_findFar_71 : decode cX8_findFar 71 = .ok (.iload 4, 2) := by decide +kernel
theorem dX8_findFar_73 : decode cX8_findFar 73 = .ok (.iaload, 1) := by decide +kernel
theorem dX8_findFar_74 : decode cX8_findFar 74 = .ok (.iload_n 3, 1) := by decide +kernel
theorem dX8_findFar_75 : decode cX8_findFar 75 = .ok (.if_icmp .ne 53, 3) := by decide +kernel
theorem dX8_findFar_78 : decode cX8_findFar 78 = .ok (.aload_n 0, 1) := by decide +kernel
theorem dX8_findFar_79 : decode cX8_findFar 79 = .ok (.getfield 31, 3) := by decide +kernel
theorem dX8_findFar_82 : decode cX8_findFar 82 = .ok (.iload 5, 2) := by decide +kernel
theorem dX8_findFar_84 : decode cX8_findFar 84 = .ok (.aload_n 0, 1) := by decide +kernel
theorem dX8_findFar_85 : decode cX8_findFar 85 = .ok (.getfield 31, 3) := by decide +kernel
theorem dX8_findFar_88 : decode cX8_findFar 88 = .ok (.iload 5, 2) := by decide +kernel
theorem dX8_findFar_90 : decode cX8_findFar 90 = .ok (.iaload, 1) := by decide +kernel
theorem dX8_findFar_91 : decode cX8_findFar 91 = .ok (.bipush (-9), 2) := by decide +kernel
theorem dX8_findFar_93 : decode cX8_findFar 93 = .ok (.if_icmp .ne 21, 3) := by decide +kernel
theorem dX8_findFar_96 : decode cX8_findFar 96 = .ok (.aload_n 0, 1) := by decide +kernel
theorem dX8_findFar_97 : decode cX8_findFar 97 = .ok (.iload_n 1, 1) := by decide +kernel
theorem dX8_findFar_98 : decode cX8_findFar 98 = .ok (.iload 4, 2) := by decide +kernel
theorem dX8_findFar_100 : decode cX8_findFar 100 = .ok (.iload 5, 2) := by decide +kernel
theorem dX8_findFar_102 : decode cX8_findFar 102 = .ok (.invokevirtual 119, 3) := by decide +kernel
theorem dX8_findFar_105 : decode cX8_findFar 105 = .ok (.ifCond .eq 9, 3) := by decide +kernel
theorem dX8_findFar_108 : decode cX8_findFar 108 = .ok (.iload_n 3, 1) := by decide +kernel
theorem dX8_findFar_109 : decode cX8_findFar 109 = .ok (.iconst 1, 1) := by decide +kernel
theorem dX8_findFar_110 : decode cX8_findFar 110 = .ok (.iadd, 1) := by decide +kernel
theorem dX8_findFar_111 : decode cX8_findFar 111 = .ok (.goto 10, 3) := by decide +kernel
theorem dX8_findFar_114 : decode cX8_findFar 114 = .ok (.aload_n 0, 1) := by decide +kernel
theorem dX8_findFar_115 : decode cX8_findFar 115 = .ok (.getfield 31, 3) := by decide +kernel
theorem dX8_findFar_118 : decode cX8_findFar 118 = .ok (.iload 5, 2) := by decide +kernel
theorem dX8_findFar_120 : decode cX8_findFar 120 = .ok (.iaload, 1) := by decide +kernel
theorem dX8_findFar_121 : decode cX8_findFar 121 = .ok (.iastore, 1) := by decide +kernel
theorem dX8_findFar_122 : decode cX8_findFar 122 = .ok (.iinc 5 1, 3) := by decide +kernel
theorem dX8_findFar_125 : decode cX8_findFar 125 = .ok (.goto (-67), 3) := by decide +kernel
theorem dX8_findFar_128 : decode cX8_findFar 128 = .ok (.iinc 4 1, 3) := by decide +kernel
theorem dX8_findFar_131 : decode cX8_findFar 131 = .ok (.goto (-85), 3) := by decide +kernel
theorem dX8_findFar_134 : decode cX8_findFar 134 = .ok (.iinc 3 1, 3) := by decide +kernel
theorem dX8_findFar_137 : decode cX8_findFar 137 = .ok (.goto (-102), 3) := by decide +kernel
theorem dX8_findFar_140 : decode cX8_findFar 140 = .ok (.return_, 1) := by decide +kernel
theorem dX8_way_0 : decode cX8_way 0 = .ok (.aload_n 0, 1) := by decide +kernel
theorem dX8_way_1 : decode cX8_way 1 = .ok (.iload_n 1, 1) := by decide +kernel
theorem dX8_way_2 : decode cX8_way 2 = .ok (.invokevirtual 107, 3) := by decide +kernel
theorem dX8_way_5 : decode cX8_way 5 = .ok (.ifCond .eq 25, 3) := by decide +kernel
theorem dX8_way_8 : decode cX8_way 8 = .ok (.aload_n 0, 1) := by decide +kernel
theorem dX8_way_9 : decode cX8_way 9 = .ok (.iload_n 2, 1) := by decide +kernel
theorem dX8_way_10 : decode cX8_way 10 = .ok (.invokevirtual 101, 3) := by decide +kernel
theorem dX8_way_13 : decode cX8_way 13 = .ok (.ifCond .eq 17, 3) := by decide +kernel
theorem dX8_way_16 : decode cX8_way 16 = .ok (.aload_n 0, 1) := by decide +kernel
theorem dX8_way_17 : decode cX8_way 17 = .ok (.iload_n 3, 1) := by decide +kernel
theorem dX8_way_18 : decode cX8_way 18 = .ok (.invokevirtual 101, 3) := by decide +kernel
theorem dX8_way_21 : decode cX8_way 21 = .ok (.ifCond .eq 9, 3) := by decide +kernel
theorem dX8_way_24 : decode cX8_way 24 = .ok (.iload 4, 2) := by decide +kernel
theorem dX8_way_26 : decode cX8_way 26 = .ok (.iconst (-1), 1) := by decide +kernel
theorem dX8_way_27 : decode cX8_way 27 = .ok (.if_icmp .ge 5, 3) := by decide +kernel
theorem dX8_way_30 : decode cX8_way 30 = .ok (.iconst (-1), 1) := by decide +kernel
theorem dX8_way_31 : decode cX8_way 31 = .ok (.ireturn, 1) := by decide +kernel
theorem dX8_way_32 : decode cX8_way 32 = .ok (.aload_n 0, 1) := by decide +kernel
theorem dX8_way_33 : decode cX8_way 33 = .ok (.iload_n 1, 1) := by decide +kernel
theorem dX8_way_34 : decode cX8_way 34 = .ok (.iload_n 3, 1) := by decide +kernel
theorem dX8_way_35 : decode cX8_way 35 = .ok (.invokevirtual 126, 3) := by decide +kernel
theorem dX8_way_38 : decode cX8_way 38 = .ok (.aload_n 0, 1) := by decide +kernel
theorem dX8_way_39 : decode cX8_way 39 = .ok (.getfield 31, 3) := by decide +kernel
theorem dX8_way_42 : decode cX8_way 42 = .ok (.iload_n 2, 1) := by decide +kernel
theorem dX8_way_43 : decode cX8_way 43 = .ok (.iaload, 1) := by decide +kernel
theorem dX8_way_44 : decode cX8_way 44 = .ok (.bipush (-9), 2) := by decide +kernel
theorem dX8_way_46 : decode cX8_way 46 = .ok (.if_icmp .eq 14, 3) := by decide +kernel
theorem dX8_way_49 : decode cX8_way 49 = .ok (.iload 4, 2) := by decide +kernel
theorem dX8_way_51 : decode cX8_way 51 = .ok (.aload_n 0, 1) := by decide +kernel
theorem dX8_way_52 : decode cX8_way 52 = .ok (.getfield 31, 3) := by decide +kernel
theorem dX8_way_55 : decode cX8_way 55 = .ok (.iload_n 2, 1) := by decide +kernel
theorem dX8_way_56 : decode cX8_way 56 = .ok (.iaload, 1) := by decide +kernel
theorem dX8_way_57 : decode cX8_way 57 = .ok (.if_icmp .le 6, 3) := by decide +kernel
theorem dX8_way_60 : decode cX8_way 60 = .ok (.bipush (-9), 2) := by decide +kernel
theorem dX8_way_62 : decode cX8_way 62 = .ok (.ireturn, 1) := by decide +kernel
theorem dX8_way_63 : decode cX8_way 63 = .ok (.iload 4, 2) := by decide +kernel
theorem dX8_way_65 : decode cX8_way 65 = .ok (.iconst (-1), 1) := by decide +kernel
theorem dX8_way_66 : decode cX8_way 66 = .ok (.if_icmp .ne 10, 3) := by decide +kernel
theorem dX8_way_69 : decode cX8_way 69 = .ok (.aload_n 0, 1) := by decide +kernel
theorem dX8_way_70 : decode cX8_way 70 = .ok (.getfield 31, 3) := by decide +kernel
theorem dX8_way_73 : decode cX8_way 73 = .ok (.iload_n 2, 1) := by decide +kernel
theorem dX8_way_74 : decode cX8_way 74 = .ok (.iaload, 1) := by decide +kernel
theorem dX8_way_75 : decode cX8_way 75 = .ok (.ireturn, 1) := by decide +kernel
theorem dX8_way_76 : decode cX8_way 76 = .ok (.iload_n 2, 1) := by decide +kernel
theorem dX8_way_77 : decode cX8_way 77 = .ok (.istore 5, 2) := by decide +kernel
theorem dX8_way_79 : decode cX8_way 79 = .ok (.iconst 0, 1) := by decide +kernel
theorem dX8_way_80 : decode cX8_way 80 = .ok (.istore 6, 2) := by decide +kernel
theorem dX8_way_82 : decode cX8_way 82 = .ok (.iload 6, 2) := by decide +kernel
theorem dX8_way_84 : decode cX8_way 84 = .ok (.iload 4, 2) := by decide +kernel
theorem dX8_way_86 : decode cX8_way 86 = .ok (.if_icmp .ge 18, 3) := by decide +kernel
theorem dX8_way_89 : decode cX8_way 89 = .ok (.aload_n 0, 1) := by decide +kernel
theorem dX8_way_90 : decode cX8_way 90 = .ok (.iload_n 1, 1) := by decide +kernel
theorem dX8_way_91 : decode cX8_way 91 = .ok (.iload 5, 2) := by decide +kernel
theorem dX8_way_93 : decode cX8_way 93 = .ok (.invokevirtual 130, 3) := by decide +kernel
theorem dX8_way_96 : decode cX8_way 96 = .ok (.istore 5, 2) := by decide +kernel
theorem dX8_way_98 : decode cX8_way 98 = .ok (.iinc 6 1, 3) := by decide +kernel
theorem dX8_way_101 : decode cX8_way 101 = .ok (.goto (-19), 3) := by decide +kernel
theorem dX8_way_104 : decode cX8_way 104 = .ok (.iload 5, 2) := by decide +kernel
theorem dX8_way_106 : decode cX8_way 106 = .ok (.ireturn, 1) := by decide +kernel
theorem dX8_nextOf_0 : decode cX8_nextOf 0 = .ok (.iconst 0, 1) := by decide +kernel
theorem dX8_nextOf_1 : decode cX8_nextOf 1 = .ok (.istore_n 3, 1) := by decide +kernel
theorem dX8_nextOf_2 : decode cX8_nextOf 2 = .ok (.iload_n 3, 1) := by decide +kernel
theorem dX8_nextOf_3 : decode cX8_nextOf 3 = .ok (.aload_n 0, 1) := by decide +kernel
theorem dX8_nextOf_4 : decode cX8_nextOf 4 = .ok (.getfield 68, 3) := by decide +kernel
theorem dX8_nextOf_7 : decode cX8_nextOf 7 = .ok (.if_icmp .ge 38, 3) := by decide +kernel
theorem dX8_nextOf_10 : decode cX8_nextOf 10 = .ok (.aload_n 0, 1) := by decide +kernel
theorem dX8_nextOf_11 : decode cX8_nextOf 11 = .ok (.getfield 31, 3) := by decide +kernel
theorem dX8_nextOf_14 : decode cX8_nextOf 14 = .ok (.iload_n 3, 1) := by decide +kernel
theorem dX8_nextOf_15 : decode cX8_nextOf 15 = .ok (.iaload, 1) := by decide +kernel
theorem dX8_nextOf_16 : decode cX8_nextOf 16 = .ok (.aload_n 0, 1) := by decide +kernel
theorem dX8_nextOf_17 : decode cX8_nextOf 17 = .ok (.getfield 31, 3) := by decide +kernel
theorem dX8_nextOf_20 : decode cX8_nextOf 20 = .ok (.iload_n 2, 1) := by decide +kernel
theorem dX8_nextOf_21 : decode cX8_nextOf 21 = .ok (.iaload, 1) := by decide +kernel
theorem dX8_nextOf_22 : decode cX8_nextOf 22 = .ok (.iconst 1, 1) := by decide +kernel
theorem dX8_nextOf_23 : decode cX8_nextOf 23 = .ok (.isub, 1) := by decide +kernel
theorem dX8_nextOf_24 : decode cX8_nextOf 24 = .ok (.if_icmp .ne 15, 3) := by decide +kernel
theorem dX8_nextOf_27 : decode cX8_nextOf 27 = .ok (.aload_n 0, 1) := by decide +kernel
theorem dX8_nextOf_28 : decode cX8_nextOf 28 = .ok (.iload_n 1, 1) := by decide +kernel
theorem dX8_nextOf_29 : decode cX8_nextOf 29 = .ok (.iload_n 2, 1) := by decide +kernel
theorem dX8_nextOf_30 : decode cX8_nextOf 30 = .ok (.iload_n 3, 1) := by decide +kernel
theorem dX8_nextOf_31 : decode cX8_nextOf 31 = .ok (.invokevirtual 119, 3) := by decide +kernel
theorem dX8_nextOf_34 : decode cX8_nextOf 34 = .ok (.ifCond .eq 5, 3) := by decide +kernel
theorem dX8_nextOf_37 : decode cX8_nextOf 37 = .ok (.iload_n 3, 1) := by decide +kernel
theorem dX8_nextOf_38 : decode cX8_nextOf 38 = .ok (.ireturn, 1) := by decide +kernel
theorem dX8_nextOf_39 : decode cX8_nextOf 39 = .ok (.iinc 3 1, 3) := by decide +kernel
theorem dX8_nextOf_42 : decode cX8_nextOf 42 = .ok (.goto (-40), 3) := by decide +kernel
theorem dX8_nextOf_45 : decode cX8_nextOf 45 = .ok (.iload_n 2, 1) := by decide +kernel
theorem dX8_nextOf_46 : decode cX8_nextOf 46 = .ok (.ireturn, 1) := by decide +kernel
theorem dX8_noon_0 : decode cX8_noon 0 = .ok (.aload_n 0, 1) := by decide +kernel
theorem dX8_noon_1 : decode cX8_noon 1 = .ok (.iload_n 1, 1) := by decide +kernel
theorem dX8_noon_2 : decode cX8_noon 2 = .ok (.invokevirtual 107, 3) := by decide +kernel
theorem dX8_noon_5 : decode cX8_noon 5 = .ok (.ifCond .eq 11, 3) := by decide +kernel
theorem dX8_noon_8 : decode cX8_noon 8 = .ok (.aload_n 0, 1) := by decide +kernel
theorem dX8_noon_9 : decode cX8_noon 9 = .ok (.iload_n 2, 1) := by decide +kernel
theorem dX8_noon_10 : decode cX8_noon 10 = .ok (.invokevirtual 101, 3) := by decide +kernel
theorem dX8_noon_13 : decode cX8_noon 13 = .ok (.ifCond .ne 5, 3) := by decide +kernel
theorem dX8_noon_16 : decode cX8_noon 16 = .ok (.iconst (-1), 1) := by decide +kernel
theorem dX8_noon_17 : decode cX8_noon 17 = .ok (.ireturn, 1) := by decide +kernel
theorem dX8_noon_18 : decode cX8_noon 18 = .ok (.iload_n 3, 1) := by decide +kernel
theorem dX8_noon_19 : decode cX8_noon 19 = .ok (.iconst 0, 1) := by decide +kernel
theorem dX8_noon_20 : decode cX8_noon 20 = .ok (.bipush 99, 2) := by decide +kernel
theorem dX8_noon_22 : decode cX8_noon 22 = .ok (.invokestatic 64, 3) := by decide +kernel
theorem dX8_noon_25 : decode cX8_noon 25 = .ok (.ifCond .ne 6, 3) := by decide +kernel
theorem dX8_noon_28 : decode cX8_noon 28 = .ok (.bipush (-2), 2) := by decide +kernel
theorem dX8_noon_30 : decode cX8_noon 30 = .ok (.ireturn, 1) := by decide +kernel
theorem dX8_noon_31 : decode cX8_noon 31 = .ok (.aload_n 0, 1) := by decide +kernel
theorem dX8_noon_32 : decode cX8_noon 32 = .ok (.iload_n 1, 1) := by decide +kernel
theorem dX8_noon_33 : decode cX8_noon 33 = .ok (.iload_n 2, 1) := by decide +kernel
theorem dX8_noon_34 : decode cX8_noon 34 = .ok (.invokevirtual 126, 3) := by decide +kernel
theorem dX8_noon_37 : decode cX8_noon 37 = .ok (.iconst 0, 1) := by decide +kernel
theorem dX8_noon_38 : decode cX8_noon 38 = .ok (.istore 4, 2) := by decide +kernel
theorem dX8_noon_40 : decode cX8_noon 40 = .ok (.iconst 0, 1) := by decide +kernel
theorem dX8_noon_41 : decode cX8_noon 41 = .ok (.istore 5, 2) := by decide +kernel
theorem dX8_noon_43 : decode cX8_noon 43 = .ok (.iload 5, 2) := by decide +kernel
theorem dX8_noon_45 : decode cX8_noon 45 = .ok (.aload_n 0, 1) := by decide +kernel
theorem dX8_noon_46 : decode cX8_noon 46 = .ok (.getfield 68, 3) := by decide +kernel
theorem dX8_noon_49 : decode cX8_noon 49 = .ok (.if_icmp .ge 45, 3) := by decide +kernel
theorem dX8_noon_52 : decode cX8_noon 52 = .ok (.iload 4, 2) := by decide +kernel
theorem dX8_noon_54 : decode cX8_noon 54 = .ok (.aload_n 0, 1) := by decide +kernel
theorem dX8_noon_55 : decode cX8_noon 55 = .ok (.getfield 31, 3) := by decide +kernel
theorem dX8_noon_58 : decode cX8_noon 58 = .ok (.iload 5, 2) := by decide +kernel
theorem dX8_noon_60 : decode cX8_noon 60 = .ok (.iaload, 1) := by decide +kernel
theorem dX8_noon_61 : decode cX8_noon 61 = .ok (.bipush (-9), 2) := by decide +kernel
theorem dX8_noon_63 : decode cX8_noon 63 = .ok (.if_icmp .eq 21, 3) := by decide +kernel
theorem dX8_noon_66 : decode cX8_noon 66 = .ok (.aload_n 0, 1) := by decide +kernel
theorem dX8_noon_67 : decode cX8_noon 67 = .ok (.getfield 31, 3) := by decide +kernel
theorem dX8_noon_70 : decode cX8_noon 70 = .ok (.iload 5, 2) := by decide +kernel
theorem dX8_noon_72 : decode cX8_noon 72 = .ok (.iaload, 1) := by decide +kernel
theorem dX8_noon_73 : decode cX8_noon 73 = .ok (.iload_n 3, 1) := by decide +kernel
theorem dX8_noon_74 : decode cX8_noon 74 = .ok (.if_icmp .gt 10, 3) := by decide +kernel
theorem dX8_noon_77 : decode cX8_noon 77 = .ok (.iconst 1, 1) := by decide +kernel
theorem dX8_noon_78 : decode cX8_noon 78 = .ok (.iload 5, 2) := by decide +kernel
theorem dX8_noon_80 : decode cX8_noon 80 = .ok (.ishl, 1) := by decide +kernel
theorem dX8_noon_81 : decode cX8_noon 81 = .ok (.goto 4, 3) := by decide +kernel
theorem dX8_noon_84 : decode cX8_noon 84 = .ok (.iconst 0, 1) := by decide +kernel
theorem dX8_noon_85 : decode cX8_noon 85 = .ok (.ior, 1) := by decide +kernel
theorem dX8_noon_86 : decode cX8_noon 86 = .ok (.istore 4, 2) := by decide +kernel
theorem dX8_noon_88 : decode cX8_noon 88 = .ok (.iinc 5 1, 3) := by decide +kernel
theorem dX8_noon_91 : decode cX8_noon 91 = .ok (.goto (-48), 3) := by decide +kernel
theorem dX8_noon_94 : decode cX8_noon 94 = .ok (.iload 4, 2) := by decide +kernel
theorem dX8_noon_96 : decode cX8_noon 96 = .ok (.ireturn, 1) := by decide +kernel
theorem dX8_gain_0 : decode cX8_gain 0 = .ok (.aload_n 0, 1) := by decide +kernel
theorem dX8_gain_1 : decode cX8_gain 1 = .ok (.iload_n 1, 1) := by decide +kernel
theorem dX8_gain_2 : decode cX8_gain 2 = .ok (.invokevirtual 107, 3) := by decide +kernel
theorem dX8_gain_5 : decode cX8_gain 5 = .ok (.ifCond .eq 19, 3) := by decide +kernel
theorem dX8_gain_8 : decode cX8_gain 8 = .ok (.aload_n 0, 1) := by decide +kernel
theorem dX8_gain_9 : decode cX8_gain 9 = .ok (.iload_n 2, 1) := by decide +kernel
theorem dX8_gain_10 : decode cX8_gain 10 = .ok (.invokevirtual 107, 3) := by decide +kernel
theorem dX8_gain_13 : decode cX8_gain 13 = .ok (.ifCond .eq 11, 3) := by decide +kernel
theorem dX8_gain_16 : decode cX8_gain 16 = .ok (.aload_n 0, 1) := by decide +kernel
theorem dX8_gain_17 : decode cX8_gain 17 = .ok (.iload_n 3, 1) := by decide +kernel
theorem dX8_gain_18 : decode cX8_gain 18 = .ok (.invokevirtual 101, 3) := by decide +kernel
theorem dX8_gain_21 : decode cX8_gain 21 = .ok (.ifCond .ne 5, 3) := by decide +kernel
theorem dX8_gain_24 : decode cX8_gain 24 = .ok (.iconst (-1), 1) := by decide +kernel
theorem dX8_gain_25 : decode cX8_gain 25 = .ok (.ireturn, 1) := by decide +kernel
theorem dX8_gain_26 : decode cX8_gain 26 = .ok (.iload 4, 2) := by decide +kernel
theorem dX8_gain_28 : decode cX8_gain 28 = .ok (.iconst 0, 1) := by decide +kernel
theorem dX8_gain_29 : decode cX8_gain 29 = .ok (.bipush 8, 2) := by decide +kernel
theorem dX8_gain_31 : decode cX8_gain 31 = .ok (.invokestatic 64, 3) := by decide +kernel
theorem dX8_gain_34 : decode cX8_gain 34 = .ok (.ifCond .eq 13, 3) := by decide +kernel
theorem dX8_gain_37 : decode cX8_gain 37 = .ok (.iload 5, 2) := by decide +kernel
theorem dX8_gain_39 : decode cX8_gain 39 = .ok (.iconst 0, 1) := by decide +kernel
theorem dX8_gain_40 : decode cX8_gain 40 = .ok (.iconst 1, 1) := by decide +kernel
theorem dX8_gain_41 : decode cX8_gain 41 = .ok (.invokestatic 64, 3) := by decide +kernel
theorem dX8_gain_44 : decode cX8_gain 44 = .ok (.ifCond .ne 6, 3) := by decide +kernel
theorem dX8_gain_47 : decode cX8_gain 47 = .ok (.bipush (-2), 2) := by decide +kernel
theorem dX8_gain_49 : decode cX8_gain 49 = .ok (.ireturn, 1) := by decide +kernel
theorem dX8_gain_50 : decode cX8_gain 50 = .ok (.iconst 1, 1) := by decide +kernel
theorem dX8_gain_51 : decode cX8_gain 51 = .ok (.iload_n 3, 1) := by decide +kernel
theorem dX8_gain_52 : decode cX8_gain 52 = .ok (.ishl, 1) := by decide +kernel
theorem dX8_gain_53 : decode cX8_gain 53 = .ok (.istore 6, 2) := by decide +kernel
theorem dX8_gain_55 : decode cX8_gain 55 = .ok (.aload_n 0, 1) := by decide +kernel
theorem dX8_gain_56 : decode cX8_gain 56 = .ok (.getfield 19, 3) := by decide +kernel
theorem dX8_gain_59 : decode cX8_gain 59 = .ok (.iload_n 3, 1) := by decide +kernel
theorem dX8_gain_60 : decode cX8_gain 60 = .ok (.iaload, 1) := by decide +kernel
theorem dX8_gain_61 : decode cX8_gain 61 = .ok (.istore 7, 2) := by decide +kernel
theorem dX8_gain_63 : decode cX8_gain 63 = .ok (.iconst 0, 1) := by decide +kernel
theorem dX8_gain_64 : decode cX8_gain 64 = .ok (.istore 8, 2) := by decide +kernel
theorem dX8_gain_66 : decode cX8_gain 66 = .ok (.iconst 1, 1) := by decide +kernel
theorem dX8_gain_67 : decode cX8_gain 67 = .ok (.istore 9, 2) := by decide +kernel
theorem dX8_gain_69 : decode cX8_gain 69 = .ok (.iload 9, 2) := by decide +kernel
theorem dX8_gain_71 : decode cX8_gain 71 = .ok (.iload 4, 2) := by decide +kernel
theorem dX8_gain_73 : decode cX8_gain 73 = .ok (.if_icmp .gt 114, 3) := by decide +kernel
theorem dX8_gain_76 : decode cX8_gain 76 = .ok (.iconst 0, 1) := by decide +kernel
theorem dX8_gain_77 : decode cX8_gain 77 = .ok (.istore 10, 2) := by decide +kernel
theorem dX8_gain_79 : decode cX8_gain 79 = .ok (.iconst 0, 1) := by decide +kernel
theorem dX8_gain_80 : decode cX8_gain 80 = .ok (.istore 11, 2) := by decide +kernel
theorem dX8_gain_82 : decode cX8_gain 82 = .ok (.iload 11, 2) := by decide +kernel
theorem dX8_gain_84 : decode cX8_gain 84 = .ok (.aload_n 0, 1) := by decide +kernel
theorem dX8_gain_85 : decode cX8_gain 85 = .ok (.getfield 68, 3) := by decide +kernel
theorem dX8_gain_88 : decode cX8_gain 88 = .ok (.if_icmp .ge 35, 3) := by decide +kernel
theorem dX8_gain_91 : decode cX8_gain 91 = .ok (.iload 10, 2) := by decide +kernel
theorem dX8_gain_93 : decode cX8_gain 93 = .ok (.aload_n 0, 1) := by decide +kernel
theorem dX8_gain_94 : decode cX8_gain 94 = .ok (.iload_n 1, 1) := by decide +kernel
theorem dX8_gain_95 : decode cX8_gain 95 = .ok (.iload_n 2, 1) := by decide +kernel
theorem dX8_gain_96 : decode cX8_gain 96 = .ok (.iload 6, 2) := by decide +kernel
theorem dX8_gain_98 : decode cX8_gain 98 = .ok (.iload 11, 2) := by decide +kernel
theorem dX8_gain_100 : decode cX8_gain 100 = .ok (.invokevirtual 133, 3) := by decide +kernel
theorem dX8_gain_103 : decode cX8_gain 103 = .ok (.ifCond .eq 10, 3) := by decide +kernel
theorem dX8_gain_106 : decode cX8_gain 106 = .ok (.iconst 1, 1) := by decide +kernel
theorem dX8_gain_107 : decode cX8_gain 107 = .ok (.iload 11, 2) := by decide +kernel
theorem dX8_gain_109 : decode cX8_gain 109 = .ok (.ishl, 1) := by decide +kernel
theorem dX8_gain_110 : decode cX8_gain 110 = .ok (.goto 4, 3) := by decide +kernel
theorem dX8_gain_113 : decode cX8_gain 113 = .ok (.iconst 0, 1) := by decide +kernel
theorem dX8_gain_114 : decode cX8_gain 114 = .ok (.ior, 1) := by decide +kernel
theorem dX8_gain_115 : decode cX8_gain 115 = .ok (.istore 10, 2) := by decide +kernel
theorem dX8_gain_117 : decode cX8_gain 117 = .ok (.iinc 11 1, 3) := by decide +kernel
theorem dX8_gain_120 : decode cX8_gain 120 = .ok (.goto (-38), 3) := by decide +kernel
theorem dX8_gain_123 : decode cX8_gain 123 = .ok (.iconst 0, 1) := by decide +kernel
theorem dX8_gain_124 : decode cX8_gain 124 = .ok (.istore 11, 2) := by decide +kernel
theorem dX8_gain_126 : decode cX8_gain 126 = .ok (.iload 11, 2) := by decide +kernel
theorem dX8_gain_128 : decode cX8_gain 128 = .ok (.aload_n 0, 1) := by decide +kernel
theorem dX8_gain_129 : decode cX8_gain 129 = .ok (.getfield 68, 3) := by decide +kernel
theorem dX8_gain_132 : decode cX8_gain 132 = .ok (.if_icmp .ge 45, 3) := by decide +kernel
theorem dX8_gain_135 : decode cX8_gain 135 = .ok (.iload 10, 2) := by decide +kernel
theorem dX8_gain_137 : decode cX8_gain 137 = .ok (.iload 11, 2) := by decide +kernel
theorem dX8_gain_139 : decode cX8_gain 139 = .ok (.ishr, 1) := by decide +kernel
theorem dX8_gain_140 : decode cX8_gain 140 = .ok (.iconst 1, 1) := by decide +kernel
theorem dX8_gain_141 : decode cX8_gain 141 = .ok (.iand, 1) := by decide +kernel
theorem dX8_gain_142 : decode cX8_gain 142 = .ok (.iconst 1, 1) := by decide +kernel
theorem dX8_gain_143 : decode cX8_gain 143 = .ok (.if_icmp .ne 28, 3) := by decide +kernel
theorem dX8_gain_146 : decode cX8_gain 146 = .ok (.aload_n 0, 1) := by decide +kernel
theorem dX8_gain_147 : decode cX8_gain 147 = .ok (.getfield 19, 3) := by decide +kernel
theorem dX8_gain_150 : decode cX8_gain 150 = .ok (.iload 11, 2) := by decide +kernel
theorem dX8_gain_152 : decode cX8_gain 152 = .ok (.iaload, 1) := by decide +kernel
theorem dX8_gain_153 : decode cX8_gain 153 = .ok (.iload 7, 2) := by decide +kernel
theorem dX8_gain_155 : decode cX8_gain 155 = .ok (.if_icmp .le 16, 3) := by decide +kernel
theorem dX8_gain_158 : decode cX8_gain 158 = .ok (.aload_n 0, 1) := by decide +kernel
theorem dX8_gain_159 : decode cX8_gain 159 = .ok (.getfield 19, 3) := by decide +kernel
theorem dX8_gain_162 : decode cX8_gain 162 = .ok (.iload 11, 2) := by decide +kernel
theorem dX8_gain_164 : decode cX8_gain 164 = .ok (.iaload, 1) := by decide +kernel
theorem dX8_gain_165 : decode cX8_gain 165 = .ok (.istore 7, 2) := by decide +kernel
theorem dX8_gain_167 : decode cX8_gain 167 = .ok (.iload 9, 2) := by decide +kernel
theorem dX8_gain_169 : decode cX8_gain 169 = .ok (.istore 8, 2) := by decide +kernel
theorem dX8_gain_171 : decode cX8_gain 171 = .ok (.iinc 11 1, 3) := by decide +kernel
theorem dX8_gain_174 : decode cX8_gain 174 = .ok (.goto (-48), 3) := by decide +kernel
theorem dX8_gain_177 : decode cX8_gain 177 = .ok (.iload 10, 2) := by decide +kernel
theorem dX8_gain_179 : decode cX8_gain 179 = .ok (.istore 6, 2) := by decide +kernel
theorem dX8_gain_181 : decode cX8_gain 181 = .ok (.iinc 9 1, 3) := by decide +kernel
theorem dX8_gain_184 : decode cX8_gain 184 = .ok (.goto (-115), 3) := by decide +kernel
theorem dX8_gain_187 : decode cX8_gain 187 = .ok (.iload 5, 2) := by decide +kernel
theorem dX8_gain_189 : decode cX8_gain 189 = .ok (.ifCond .ne 8, 3) := by decide +kernel
theorem dX8_gain_192 : decode cX8_gain 192 = .ok (.iload 7, 2) := by decide +kernel
theorem dX8_gain_194 : decode cX8_gain 194 = .ok (.goto 5, 3) := by decide +kernel
theorem dX8_gain_197 : decode cX8_gain 197 = .ok (.iload 8, 2) := by decide +kernel
theorem dX8_gain_199 : decode cX8_gain 199 = .ok (.ireturn, 1) := by decide +kernel
theorem dX8_isGot_0 : decode cX8_isGot 0 = .ok (.iconst 0, 1) := by decide +kernel
theorem dX8_isGot_1 : decode cX8_isGot 1 = .ok (.istore 5, 2) := by decide +kernel
theorem dX8_isGot_3 : decode cX8_isGot 3 = .ok (.iload 5, 2) := by decide +kernel
theorem dX8_isGot_5 : decode cX8_isGot 5 = .ok (.aload_n 0, 1) := by decide +kernel
theorem dX8_isGot_6 : decode cX8_isGot 6 = .ok (.getfield 68, 3) := by decide +kernel
theorem dX8_isGot_9 : decode cX8_isGot 9 = .ok (.if_icmp .ge 45, 3) := by decide +kernel
theorem dX8_isGot_12 : decode cX8_isGot 12 = .ok (.iload_n 3, 1) := by decide +kernel
theorem dX8_isGot_13 : decode cX8_isGot 13 = .ok (.iload 5, 2) := by decide +kernel
theorem dX8_isGot_15 : decode cX8_isGot 15 = .ok (.ishr, 1) := by decide +kernel
theorem dX8_isGot_16 : decode cX8_isGot 16 = .ok (.iconst 1, 1) := by decide +kernel
theorem dX8_isGot_17 : decode cX8_isGot 17 = .ok (.iand, 1) := by decide +kernel
theorem dX8_isGot_18 : decode cX8_isGot 18 = .ok (.iconst 1, 1) := by decide +kernel
theorem dX8_isGot_19 : decode cX8_isGot 19 = .ok (.if_icmp .ne 29, 3) := by decide +kernel
theorem dX8_isGot_22 : decode cX8_isGot 22 = .ok (.aload_n 0, 1) := by decide +kernel
theorem dX8_isGot_23 : decode cX8_isGot 23 = .ok (.iload_n 1, 1) := by decide +kernel
theorem dX8_isGot_24 : decode cX8_isGot 24 = .ok (.iload 5, 2) := by decide +kernel
theorem dX8_isGot_26 : decode cX8_isGot 26 = .ok (.iload 4, 2) := by decide +kernel
theorem dX8_isGot_28 : decode cX8_isGot 28 = .ok (.invokevirtual 119, 3) := by decide +kernel
theorem dX8_isGot_31 : decode cX8_isGot 31 = .ok (.ifCond .eq 17, 3) := by decide +kernel
theorem dX8_isGot_34 : decode cX8_isGot 34 = .ok (.aload_n 0, 1) := by decide +kernel
theorem dX8_isGot_35 : decode cX8_isGot 35 = .ok (.iload_n 2, 1) := by decide +kernel
theorem dX8_isGot_36 : decode cX8_isGot 36 = .ok (.iload 4, 2) := by decide +kernel
theorem dX8_isGot_38 : decode cX8_isGot 38 = .ok (.iload 5, 2) := by decide +kernel
theorem dX8_isGot_40 : decode cX8_isGot 40 = .ok (.invokevirtual 116, 3) := by decide +kernel
theorem dX8_isGot_43 : decode cX8_isGot 43 = .ok (.ifCond .eq 5, 3) := by decide +kernel
theorem dX8_isGot_46 : decode cX8_isGot 46 = .ok (.iconst 1, 1) := by decide +kernel
theorem dX8_isGot_47 : decode cX8_isGot 47 = .ok (.ireturn, 1) := by decide +kernel
theorem dX8_isGot_48 : decode cX8_isGot 48 = .ok (.iinc 5 1, 3) := by decide +kernel
theorem dX8_isGot_51 : decode cX8_isGot 51 = .ok (.goto (-48), 3) := by decide +kernel
theorem dX8_isGot_54 : decode cX8_isGot 54 = .ok (.iconst 0, 1) := by decide +kernel
theorem dX8_isGot_55 : decode cX8_isGot 55 = .ok (.ireturn, 1) := by decide +kernel
theorem dX8_saying_0 : decode cX8_saying 0 = .ok (.aload_n 0, 1) := by decide +kernel
theorem dX8_saying_1 : decode cX8_saying 1 = .ok (.iload_n 1, 1) := by decide +kernel
theorem dX8_saying_2 : decode cX8_saying 2 = .ok (.invokevirtual 107, 3) := by decide +kernel
theorem dX8_saying_5 : decode cX8_saying 5 = .ok (.ifCond .eq 24, 3) := by decide +kernel
theorem dX8_saying_8 : decode cX8_saying 8 = .ok (.aload_n 0, 1) := by decide +kernel
theorem dX8_saying_9 : decode cX8_saying 9 = .ok (.iload_n 2, 1) := by decide +kernel
theorem dX8_saying_10 : decode cX8_saying 10 = .ok (.invokevirtual 101, 3) := by decide +kernel
theorem dX8_saying_13 : decode cX8_saying 13 = .ok (.ifCond .eq 16, 3) := by decide +kernel
theorem dX8_saying_16 : decode cX8_saying 16 = .ok (.aload_n 0, 1) := by decide +kernel
theorem dX8_saying_17 : decode cX8_saying 17 = .ok (.iload_n 3, 1) := by decide +kernel
theorem dX8_saying_18 : decode cX8_saying 18 = .ok (.invokevirtual 101, 3) := by decide +kernel
theorem dX8_saying_21 : decode cX8_saying 21 = .ok (.ifCond .eq 8, 3) := by decide +kernel
theorem dX8_saying_24 : decode cX8_saying 24 = .ok (.iload_n 2, 1) := by decide +kernel
theorem dX8_saying_25 : decode cX8_saying 25 = .ok (.iload_n 3, 1) := by decide +kernel
theorem dX8_saying_26 : decode cX8_saying 26 = .ok (.if_icmp .ne 5, 3) := by decide +kernel
theorem dX8_saying_29 : decode cX8_saying 29 = .ok (.iconst (-1), 1) := by decide +kernel
theorem dX8_saying_30 : decode cX8_saying 30 = .ok (.ireturn, 1) := by decide +kernel
theorem dX8_saying_31 : decode cX8_saying 31 = .ok (.iload 4, 2) := by decide +kernel
theorem dX8_saying_33 : decode cX8_saying 33 = .ok (.iconst 0, 1) := by decide +kernel
theorem dX8_saying_34 : decode cX8_saying 34 = .ok (.iconst 1, 1) := by decide +kernel
theorem dX8_saying_35 : decode cX8_saying 35 = .ok (.invokestatic 64, 3) := by decide +kernel
theorem dX8_saying_38 : decode cX8_saying 38 = .ok (.ifCond .ne 6, 3) := by decide +kernel
theorem dX8_saying_41 : decode cX8_saying 41 = .ok (.bipush (-2), 2) := by decide +kernel
theorem dX8_saying_43 : decode cX8_saying 43 = .ok (.ireturn, 1) := by decide +kernel
theorem dX8_saying_44 : decode cX8_saying 44 = .ok (.aload_n 0, 1) := by decide +kernel
theorem dX8_saying_45 : decode cX8_saying 45 = .ok (.getfield 98, 3) := by decide +kernel
theorem dX8_saying_48 : decode cX8_saying 48 = .ok (.bipush 10, 2) := by decide +kernel
theorem dX8_saying_50 : decode cX8_saying 50 = .ok (.if_icmp .ne 6, 3) := by decide +kernel
theorem dX8_saying_53 : decode cX8_saying 53 = .ok (.bipush (-4), 2) := by decide +kernel
theorem dX8_saying_55 : decode cX8_saying 55 = .ok (.ireturn, 1) := by decide +kernel
theorem dX8_saying_56 : decode cX8_saying 56 = .ok (.aload_n 0, 1) := by decide +kernel
theorem dX8_saying_57 : decode cX8_saying 57 = .ok (.getfield 34, 3) := by decide +kernel
theorem dX8_saying_60 : decode cX8_saying 60 = .ok (.aload_n 0, 1) := by decide +kernel
theorem dX8_saying_61 : decode cX8_saying 61 = .ok (.getfield 98, 3) := by decide +kernel
theorem dX8_saying_64 : decode cX8_saying 64 = .ok (.iload_n 1, 1) := by decide +kernel
theorem dX8_saying_65 : decode cX8_saying 65 = .ok (.iastore, 1) := by decide +kernel
theorem dX8_saying_66 : decode cX8_saying 66 = .ok (.aload_n 0, 1) := by decide +kernel
theorem dX8_saying_67 : decode cX8_saying 67 = .ok (.getfield 37, 3) := by decide +kernel
theorem dX8_saying_70 : decode cX8_saying 70 = .ok (.aload_n 0, 1) := by decide +kernel
theorem dX8_saying_71 : decode cX8_saying 71 = .ok (.getfield 98, 3) := by decide +kernel
theorem dX8_saying_74 : decode cX8_saying 74 = .ok (.iload_n 2, 1) := by decide +kernel
theorem dX8_saying_75 : decode cX8_saying 75 = .ok (.iastore, 1) := by decide +kernel
theorem dX8_saying_76 : decode cX8_saying 76 = .ok (.aload_n 0, 1) := by decide +kernel
theorem dX8_saying_77 : decode cX8_saying 77 = .ok (.getfield 40, 3) := by decide +kernel
theorem dX8_saying_80 : decode cX8_saying 80 = .ok (.aload_n 0, 1) := by decide +kernel
theorem dX8_saying_81 : decode cX8_saying 81 = .ok (.getfield 98, 3) := by decide +kernel
theorem dX8_saying_84 : decode cX8_saying 84 = .ok (.iload_n 3, 1) := by decide +kernel
theorem dX8_saying_85 : decode cX8_saying 85 = .ok (.iastore, 1) := by decide +kernel
theorem dX8_saying_86 : decode cX8_saying 86 = .ok (.aload_n 0, 1) := by decide +kernel
theorem dX8_saying_87 : decode cX8_saying 87 = .ok (.getfield 43, 3) := by decide +kernel
theorem dX8_saying_90 : decode cX8_saying 90 = .ok (.aload_n 0, 1) := by decide +kernel
theorem dX8_saying_91 : decode cX8_saying 91 = .ok (.getfield 98, 3) := by decide +kernel
theorem dX8_saying_94 : decode cX8_saying 94 = .ok (.iload 4, 2) := by decide +kernel
theorem dX8_saying_96 : decode cX8_saying 96 = .ok (.iastore, 1) := by decide +kernel
theorem dX8_saying_97 : decode cX8_saying 97 = .ok (.aload_n 0, 1) := by decide +kernel
theorem dX8_saying_98 : decode cX8_saying 98 = .ok (.dup, 1) := by decide +kernel
theorem dX8_saying_99 : decode cX8_saying 99 = .ok (.getfield 98, 3) := by decide +kernel
theorem dX8_saying_102 : decode cX8_saying 102 = .ok (.iconst 1, 1) := by decide +kernel
theorem dX8_saying_103 : decode cX8_saying 103 = .ok (.iadd, 1) := by decide +kernel
theorem dX8_saying_104 : decode cX8_saying 104 = .ok (.putfield 98, 3) := by decide +kernel
theorem dX8_saying_107 : decode cX8_saying 107 = .ok (.aload_n 0, 1) := by decide +kernel
theorem dX8_saying_108 : decode cX8_saying 108 = .ok (.getfield 98, 3) := by decide +kernel
theorem dX8_saying_111 : decode cX8_saying 111 = .ok (.iconst 1, 1) := by decide +kernel
theorem dX8_saying_112 : decode cX8_saying 112 = .ok (.isub, 1) := by decide +kernel
theorem dX8_saying_113 : decode cX8_saying 113 = .ok (.ireturn, 1) := by decide +kernel
theorem dX8_back_0 : decode cX8_back 0 = .ok (.iload_n 1, 1) := by decide +kernel
theorem dX8_back_1 : decode cX8_back 1 = .ok (.iconst 0, 1) := by decide +kernel
theorem dX8_back_2 : decode cX8_back 2 = .ok (.aload_n 0, 1) := by decide +kernel
theorem dX8_back_3 : decode cX8_back 3 = .ok (.getfield 98, 3) := by decide +kernel
theorem dX8_back_6 : decode cX8_back 6 = .ok (.invokestatic 64, 3) := by decide +kernel
theorem dX8_back_9 : decode cX8_back 9 = .ok (.ifCond .ne 6, 3) := by decide +kernel
theorem dX8_back_12 : decode cX8_back 12 = .ok (.bipush (-2), 2) := by decide +kernel
theorem dX8_back_14 : decode cX8_back 14 = .ok (.ireturn, 1) := by decide +kernel
theorem dX8_back_15 : decode cX8_back 15 = .ok (.aload_n 0, 1) := by decide +kernel
theorem dX8_back_16 : decode cX8_back 16 = .ok (.dup, 1) := by decide +kernel
theorem dX8_back_17 : decode cX8_back 17 = .ok (.getfield 98, 3) := by decide +kernel
theorem dX8_back_20 : decode cX8_back 20 = .ok (.iload_n 1, 1) := by decide +kernel
theorem dX8_back_21 : decode cX8_back 21 = .ok (.isub, 1) := by decide +kernel
theorem dX8_back_22 : decode cX8_back 22 = .ok (.putfield 98, 3) := by decide +kernel
theorem dX8_back_25 : decode cX8_back 25 = .ok (.aload_n 0, 1) := by decide +kernel
theorem dX8_back_26 : decode cX8_back 26 = .ok (.getfield 98, 3) := by decide +kernel
theorem dX8_back_29 : decode cX8_back 29 = .ok (.ireturn, 1) := by decide +kernel
theorem dX8_isSo_0 : decode cX8_isSo 0 = .ok (.aload_n 0, 1) := by decide +kernel
theorem dX8_isSo_1 : decode cX8_isSo 1 = .ok (.getfield 37, 3) := by decide +kernel
theorem dX8_isSo_4 : decode cX8_isSo 4 = .ok (.iload_n 1, 1) := by decide +kernel
theorem dX8_isSo_5 : decode cX8_isSo 5 = .ok (.iaload, 1) := by decide +kernel
theorem dX8_isSo_6 : decode cX8_isSo 6 = .ok (.istore_n 2, 1) := by decide +kernel
theorem dX8_isSo_7 : decode cX8_isSo 7 = .ok (.aload_n 0, 1) := by decide +kernel
theorem dX8_isSo_8 : decode cX8_isSo 8 = .ok (.getfield 40, 3) := by decide +kernel
theorem dX8_isSo_11 : decode cX8_isSo 11 = .ok (.iload_n 1, 1) := by decide +kernel
theorem dX8_isSo_12 : decode cX8_isSo 12 = .ok (.iaload, 1) := by decide +kernel
theorem dX8_isSo_13 : decode cX8_isSo 13 = .ok (.istore_n 3, 1) := by decide +kernel
theorem dX8_isSo_14 : decode cX8_isSo 14 = .ok (.aload_n 0, 1) := by decide +kernel
theorem dX8_isSo_15 : decode cX8_isSo 15 = .ok (.getfield 43, 3) := by decide +kernel
theorem dX8_isSo_18 : decode cX8_isSo 18 = .ok (.iload_n 1, 1) := by decide +kernel
theorem dX8_isSo_19 : decode cX8_isSo 19 = .ok (.iaload, 1) := by decide +kernel
theorem dX8_isSo_20 : decode cX8_isSo 20 = .ok (.iconst 1, 1) := by decide +kernel
theorem dX8_isSo_21 : decode cX8_isSo 21 = .ok (.if_icmp .ne 18, 3) := by decide +kernel
theorem dX8_isSo_24 : decode cX8_isSo 24 = .ok (.aload_n 0, 1) := by decide +kernel
theorem dX8_isSo_25 : decode cX8_isSo 25 = .ok (.aload_n 0, 1) := by decide +kernel
theorem dX8_isSo_26 : decode cX8_isSo 26 = .ok (.getfield 34, 3) := by decide +kernel
theorem dX8_isSo_29 : decode cX8_isSo 29 = .ok (.iload_n 1, 1) := by decide +kernel
theorem dX8_isSo_30 : decode cX8_isSo 30 = .ok (.iaload, 1) := by decide +kernel
theorem dX8_isSo_31 : decode cX8_isSo 31 = .ok (.iload_n 2, 1) := by decide +kernel
theorem dX8_isSo_32 : decode cX8_isSo 32 = .ok (.iload_n 3, 1) := by decide +kernel
theorem dX8_isSo_33 : decode cX8_isSo 33 = .ok (.invokevirtual 116, 3) := by decide +kernel
theorem dX8_isSo_36 : decode cX8_isSo 36 = .ok (.goto 15, 3) := by decide +kernel
theorem dX8_isSo_39 : decode cX8_isSo 39 = .ok (.aload_n 0, 1) := by decide +kernel
theorem dX8_isSo_40 : decode cX8_isSo 40 = .ok (.aload_n 0, 1) := by decide +kernel
theorem dX8_isSo_41 : decode cX8_isSo 41 = .ok (.getfield 34, 3) := by decide +kernel
theorem dX8_isSo_44 : decode cX8_isSo 44 = .ok (.iload_n 1, 1) := by decide +kernel
theorem dX8_isSo_45 : decode cX8_isSo 45 = .ok (.iaload, 1) := by decide +kernel
theorem dX8_isSo_46 : decode cX8_isSo 46 = .ok (.iload_n 2, 1) := by decide +kernel
theorem dX8_isSo_47 : decode cX8_isSo 47 = .ok (.iload_n 3, 1) := by decide +kernel
theorem dX8_isSo_48 : decode cX8_isSo 48 = .ok (.invokevirtual 119, 3) := by decide +kernel
theorem dX8_isSo_51 : decode cX8_isSo 51 = .ok (.ireturn, 1) := by decide +kernel
theorem dX8_untrue_0 : decode cX8_untrue 0 = .ok (.iconst 0, 1) := by decide +kernel
theorem dX8_untrue_1 : decode cX8_untrue 1 = .ok (.istore_n 1, 1) := by decide +kernel
theorem dX8_untrue_2 : decode cX8_untrue 2 = .ok (.iconst 0, 1) := by decide +kernel
theorem dX8_untrue_3 : decode cX8_untrue 3 = .ok (.istore_n 2, 1) := by decide +kernel
theorem dX8_untrue_4 : decode cX8_untrue 4 = .ok (.iload_n 2, 1) := by decide +kernel
theorem dX8_untrue_5 : decode cX8_untrue 5 = .ok (.aload_n 0, 1) := by decide +kernel
theorem dX8_untrue_6 : decode cX8_untrue 6 = .ok (.getfield 98, 3) := by decide +kernel
theorem dX8_untrue_9 : decode cX8_untrue 9 = .ok (.if_icmp .ge 27, 3) := by decide +kernel
theorem dX8_untrue_12 : decode cX8_untrue 12 = .ok (.iload_n 1, 1) := by decide +kernel
theorem dX8_untrue_13 : decode cX8_untrue 13 = .ok (.aload_n 0, 1) := by decide +kernel
theorem dX8_untrue_14 : decode cX8_untrue 14 = .ok (.iload_n 2, 1) := by decide +kernel
theorem dX8_untrue_15 : decode cX8_untrue 15 = .ok (.invokevirtual 137, 3) := by decide +kernel
theorem dX8_untrue_18 : decode cX8_untrue 18 = .ok (.ifCond .eq 7, 3) := by decide +kernel
theorem dX8_untrue_21 : decode cX8_untrue 21 = .ok (.iconst 0, 1) := by decide +kernel
theorem dX8_untrue_22 : decode cX8_untrue 22 = .ok (.goto 6, 3) := by decide +kernel
theorem dX8_untrue_25 : decode cX8_untrue 25 = .ok (.iconst 1, 1) := by decide +kernel
theorem dX8_untrue_26 : decode cX8_untrue 26 = .ok (.iload_n 2, 1) := by decide +kernel
theorem dX8_untrue_27 : decode cX8_untrue 27 = .ok (.ishl, 1) := by decide +kernel
theorem dX8_untrue_28 : decode cX8_untrue 28 = .ok (.ior, 1) := by decide +kernel
theorem dX8_untrue_29 : decode cX8_untrue 29 = .ok (.istore_n 1, 1) := by decide +kernel
theorem dX8_untrue_30 : decode cX8_untrue 30 = .ok (.iinc 2 1, 3) := by decide +kernel
theorem dX8_untrue_33 : decode cX8_untrue 33 = .ok (.goto (-29), 3) := by decide +kernel
theorem dX8_untrue_36 : decode cX8_untrue 36 = .ok (.iload_n 1, 1) := by decide +kernel
theorem dX8_untrue_37 : decode cX8_untrue 37 = .ok (.ireturn, 1) := by decide +kernel
theorem dX8_falseOf_0 : decode cX8_falseOf 0 = .ok (.iconst 0, 1) := by decide +kernel
theorem dX8_falseOf_1 : decode cX8_falseOf 1 = .ok (.istore_n 2, 1) := by decide +kernel
theorem dX8_falseOf_2 : decode cX8_falseOf 2 = .ok (.iconst 0, 1) := by decide +kernel
theorem dX8_falseOf_3 : decode cX8_falseOf 3 = .ok (.istore_n 3, 1) := by decide +kernel
theorem dX8_falseOf_4 : decode cX8_falseOf 4 = .ok (.iload_n 3, 1) := by decide +kernel
theorem dX8_falseOf_5 : decode cX8_falseOf 5 = .ok (.aload_n 0, 1) := by decide +kernel
theorem dX8_falseOf_6 : decode cX8_falseOf 6 = .ok (.getfield 98, 3) := by decide +kernel
theorem dX8_falseOf_9 : decode cX8_falseOf 9 = .ok (.if_icmp .ge 45, 3) := by decide +kernel
theorem dX8_falseOf_12 : decode cX8_falseOf 12 = .ok (.iload_n 2, 1) := by decide +kernel
theorem dX8_falseOf_13 : decode cX8_falseOf 13 = .ok (.aload_n 0, 1) := by decide +kernel
theorem dX8_falseOf_14 : decode cX8_falseOf 14 = .ok (.getfield 37, 3) := by decide +kernel
theorem dX8_falseOf_17 : decode cX8_falseOf 17 = .ok (.iload_n 3, 1) := by decide +kernel
theorem dX8_falseOf_18 : decode cX8_falseOf 18 = .ok (.iaload, 1) := by decide +kernel
theorem dX8_falseOf_19 : decode cX8_falseOf 19 = .ok (.iload_n 1, 1) := by decide +kernel
theorem dX8_falseOf_20 : decode cX8_falseOf 20 = .ok (.if_icmp .eq 13, 3) := by decide +kernel
theorem dX8_falseOf_23 : decode cX8_falseOf 23 = .ok (.aload_n 0, 1) := by decide +kernel
theorem dX8_falseOf_24 : decode cX8_falseOf 24 = .ok (.getfield 40, 3) := by decide +kernel
theorem dX8_falseOf_27 : decode cX8_falseOf 27 = .ok (.iload_n 3, 1) := by decide +kernel
theorem dX8_falseOf_28 : decode cX8_falseOf 28 = .ok (.iaload, 1) := by decide +kernel
theorem dX8_falseOf_29 : decode cX8_falseOf 29 = .ok (.iload_n 1, 1) := by decide +kernel
theorem dX8_falseOf_30 : decode cX8_falseOf 30 = .ok (.if_icmp .ne 15, 3) := by decide +kernel
theorem dX8_falseOf_33 : decode cX8_falseOf 33 = .ok (.aload_n 0, 1) := by decide +kernel
theorem dX8_falseOf_34 : decode cX8_falseOf 34 = .ok (.iload_n 3, 1) := by decide +kernel
theorem dX8_falseOf_35 : decode cX8_falseOf 35 = .ok (.invokevirtual 137, 3) := by decide +kernel
theorem dX8_falseOf_38 : decode cX8_falseOf 38 = .ok (.ifCond .ne 7, 3) := by decide +kernel
theorem dX8_falseOf_41 : decode cX8_falseOf 41 = .ok (.iconst 1, 1) := by decide +kernel
theorem dX8_falseOf_42 : decode cX8_falseOf 42 = .ok (.goto 4, 3) := by decide +kernel
theorem dX8_falseOf_45 : decode cX8_falseOf 45 = .ok (.iconst 0, 1) := by decide +kernel
theorem dX8_falseOf_46 : decode cX8_falseOf 46 = .ok (.iadd, 1) := by decide +kernel
theorem dX8_falseOf_47 : decode cX8_falseOf 47 = .ok (.istore_n 2, 1) := by decide +kernel
theorem dX8_falseOf_48 : decode cX8_falseOf 48 = .ok (.iinc 3 1, 3) := by decide +kernel
theorem dX8_falseOf_51 : decode cX8_falseOf 51 = .ok (.goto (-47), 3) := by decide +kernel
theorem dX8_falseOf_54 : decode cX8_falseOf 54 = .ok (.iload_n 2, 1) := by decide +kernel
theorem dX8_falseOf_55 : decode cX8_falseOf 55 = .ok (.ireturn, 1) := by decide +kernel
theorem dX8_leaves_0 : decode cX8_leaves 0 = .ok (.aload_n 0, 1) := by decide +kernel
theorem dX8_leaves_1 : decode cX8_leaves 1 = .ok (.iload_n 1, 1) := by decide +kernel
theorem dX8_leaves_2 : decode cX8_leaves 2 = .ok (.invokevirtual 101, 3) := by decide +kernel
theorem dX8_leaves_5 : decode cX8_leaves 5 = .ok (.ifCond .ne 5, 3) := by decide +kernel
theorem dX8_leaves_8 : decode cX8_leaves 8 = .ok (.iconst (-1), 1) := by decide +kernel
theorem dX8_leaves_9 : decode cX8_leaves 9 = .ok (.ireturn, 1) := by decide +kernel
theorem dX8_leaves_10 : decode cX8_leaves 10 = .ok (.iload_n 2, 1) := by decide +kernel
theorem dX8_leaves_11 : decode cX8_leaves 11 = .ok (.iconst 0, 1) := by decide +kernel
theorem dX8_leaves_12 : decode cX8_leaves 12 = .ok (.iconst 2, 1) := by decide +kernel
theorem dX8_leaves_13 : decode cX8_leaves 13 = .ok (.invokestatic 64, 3) := by decide +kernel
theorem dX8_leaves_16 : decode cX8_leaves 16 = .ok (.ifCond .ne 6, 3) := by decide +kernel
theorem dX8_leaves_19 : decode cX8_leaves 19 = .ok (.bipush (-2), 2) := by decide +kernel
theorem dX8_leaves_21 : decode cX8_leaves 21 = .ok (.ireturn, 1) := by decide +kernel
theorem dX8_leaves_22 : decode cX8_leaves 22 = .ok (.aload_n 0, 1) := by decide +kernel
theorem dX8_leaves_23 : decode cX8_leaves 23 = .ok (.getfield 19, 3) := by decide +kernel
theorem dX8_leaves_26 : decode cX8_leaves 26 = .ok (.iload_n 1, 1) := by decide +kernel
theorem dX8_leaves_27 : decode cX8_leaves 27 = .ok (.iaload, 1) := by decide +kernel
theorem dX8_leaves_28 : decode cX8_leaves 28 = .ok (.istore_n 3, 1) := by decide +kernel
theorem dX8_leaves_29 : decode cX8_leaves 29 = .ok (.iconst 0, 1) := by decide +kernel
theorem dX8_leaves_30 : decode cX8_leaves 30 = .ok (.istore 4, 2) := by decide +kernel
theorem dX8_leaves_32 : decode cX8_leaves 32 = .ok (.bipush (-9), 2) := by decide +kernel
theorem dX8_leaves_34 : decode cX8_leaves 34 = .ok (.istore 5, 2) := by decide +kernel
theorem dX8_leaves_36 : decode cX8_leaves 36 = .ok (.bipush (-9), 2) := by decide +kernel
theorem dX8_leaves_38 : decode cX8_leaves 38 = .ok (.istore 6, 2) := by decide +kernel
theorem dX8_leaves_40 : decode cX8_leaves 40 = .ok (.iconst 1, 1) := by decide +kernel
theorem dX8_leaves_41 : decode cX8_leaves 41 = .ok (.istore 7, 2) := by decide +kernel
theorem dX8_leaves_43 : decode cX8_leaves 43 = .ok (.iload 7, 2) := by decide +kernel
theorem dX8_leaves_45 : decode cX8_leaves 45 = .ok (.sipush 999, 3) := by decide +kernel
theorem dX8_leaves_48 : decode cX8_leaves 48 = .ok (.if_icmp .gt 48, 3) := by decide +kernel
theorem dX8_leaves_51 : decode cX8_leaves 51 = .ok (.aload_n 0, 1) := by decide +kernel
theorem dX8_leaves_52 : decode cX8_leaves 52 = .ok (.getfield 19, 3) := by decide +kernel
theorem dX8_leaves_55 : decode cX8_leaves 55 = .ok (.iload_n 1, 1) := by decide +kernel
theorem dX8_leaves_56 : decode cX8_leaves 56 = .ok (.iload 7, 2) := by decide +kernel
theorem dX8_leaves_58 : decode cX8_leaves 58 = .ok (.iastore, 1) := by decide +kernel
theorem dX8_leaves_59 : decode cX8_leaves 59 = .ok (.aload_n 0, 1) := by decide +kernel
theorem dX8_leaves_60 : decode cX8_leaves 60 = .ok (.iload_n 1, 1) := by decide +kernel
theorem dX8_leaves_61 : decode cX8_leaves 61 = .ok (.invokevirtual 140, 3) := by decide +kernel
theorem dX8_leaves_64 : decode cX8_leaves 64 = .ok (.ifCond .ne 26, 3) := by decide +kernel
theorem dX8_leaves_67 : decode cX8_leaves 67 = .ok (.iinc 4 1, 3) := by decide +kernel
theorem dX8_leaves_70 : decode cX8_leaves 70 = .ok (.iload 5, 2) := by decide +kernel
theorem dX8_leaves_72 : decode cX8_leaves 72 = .ok (.bipush (-9), 2) := by decide +kernel
theorem dX8_leaves_74 : decode cX8_leaves 74 = .ok (.if_icmp .ne 8, 3) := by decide +kernel
theorem dX8_leaves_77 : decode cX8_leaves 77 = .ok (.iload 7, 2) := by decide +kernel
theorem dX8_leaves_79 : decode cX8_leaves 79 = .ok (.goto 5, 3) := by decide +kernel
theorem dX8_leaves_82 : decode cX8_leaves 82 = .ok (.iload 5, 2) := by decide +kernel
theorem dX8_leaves_84 : decode cX8_leaves 84 = .ok (.istore 5, 2) := by decide +kernel
theorem dX8_leaves_86 : decode cX8_leaves 86 = .ok (.iload 7, 2) := by decide +kernel
theorem dX8_leaves_88 : decode cX8_leaves 88 = .ok (.istore 6, 2) := by decide +kernel
theorem dX8_leaves_90 : decode cX8_leaves 90 = .ok (.iinc 7 1, 3) := by decide +kernel
theorem dX8_leaves_93 : decode cX8_leaves 93 = .ok (.goto (-50), 3) := by decide +kernel
theorem dX8_leaves_96 : decode cX8_leaves 96 = .ok (.aload_n 0, 1) := by decide +kernel
theorem dX8_leaves_97 : decode cX8_leaves 97 = .ok (.getfield 19, 3) := by decide +kernel
theorem dX8_leaves_100 : decode cX8_leaves 100 = .ok (.iload_n 1, 1) := by decide +kernel
theorem dX8_leaves_101 : decode cX8_leaves 101 = .ok (.iload_n 3, 1) := by decide +kernel
theorem dX8_leaves_102 : decode cX8_leaves 102 = .ok (.iastore, 1) := by decide +kernel
theorem dX8_leaves_103 : decode cX8_leaves 103 = .ok (.iload_n 2, 1) := by decide +kernel
theorem dX8_leaves_104 : decode cX8_leaves 104 = .ok (.ifCond .ne 8, 3) := by decide +kernel
theorem dX8_leaves_107 : decode cX8_leaves 107 = .ok (.iload 4, 2) := by decide +kernel
theorem dX8_leaves_109 : decode cX8_leaves 109 = .ok (.goto 15, 3) := by decide +kernel
theorem dX8_leaves_112 : decode cX8_leaves 112 = .ok (.iload_n 2, 1) := by decide +kernel
theorem dX8_leaves_113 : decode cX8_leaves 113 = .ok (.iconst 1, 1) := by decide +kernel
theorem dX8_leaves_114 : decode cX8_leaves 114 = .ok (.if_icmp .ne 8, 3) := by decide +kernel
theorem dX8_leaves_117 : decode cX8_leaves 117 = .ok (.iload 5, 2) := by decide +kernel
theorem dX8_leaves_119 : decode cX8_leaves 119 = .ok (.goto 5, 3) := by decide +kernel
theorem dX8_leaves_122 : decode cX8_leaves 122 = .ok (.iload 6, 2) := by decide +kernel
theorem dX8_leaves_124 : decode cX8_leaves 124 = .ok (.ireturn, 1) := by decide +kernel
theorem dX8_breaks_0 : decode cX8_breaks 0 = .ok (.aload_n 0, 1) := by decide +kernel
theorem dX8_breaks_1 : decode cX8_breaks 1 = .ok (.iload_n 1, 1) := by decide +kernel
theorem dX8_breaks_2 : decode cX8_breaks 2 = .ok (.invokevirtual 101, 3) := by decide +kernel
theorem dX8_breaks_5 : decode cX8_breaks 5 = .ok (.ifCond .ne 5, 3) := by decide +kernel
theorem dX8_breaks_8 : decode cX8_breaks 8 = .ok (.iconst (-1), 1) := by decide +kernel
theorem dX8_breaks_9 : decode cX8_breaks 9 = .ok (.ireturn, 1) := by decide +kernel
theorem dX8_breaks_10 : decode cX8_breaks 10 = .ok (.iload_n 2, 1) := by decide +kernel
theorem dX8_breaks_11 : decode cX8_breaks 11 = .ok (.iconst 0, 1) := by decide +kernel
theorem dX8_breaks_12 : decode cX8_breaks 12 = .ok (.iconst 1, 1) := by decide +kernel
theorem dX8_breaks_13 : decode cX8_breaks 13 = .ok (.invokestatic 64, 3) := by decide +kernel
theorem dX8_breaks_16 : decode cX8_breaks 16 = .ok (.ifCond .ne 6, 3) := by decide +kernel
theorem dX8_breaks_19 : decode cX8_breaks 19 = .ok (.bipush (-2), 2) := by decide +kernel
theorem dX8_breaks_21 : decode cX8_breaks 21 = .ok (.ireturn, 1) := by decide +kernel
theorem dX8_breaks_22 : decode cX8_breaks 22 = .ok (.aload_n 0, 1) := by decide +kernel
theorem dX8_breaks_23 : decode cX8_breaks 23 = .ok (.getfield 19, 3) := by decide +kernel
theorem dX8_breaks_26 : decode cX8_breaks 26 = .ok (.iload_n 1, 1) := by decide +kernel
theorem dX8_breaks_27 : decode cX8_breaks 27 = .ok (.iaload, 1) := by decide +kernel
theorem dX8_breaks_28 : decode cX8_breaks 28 = .ok (.istore_n 3, 1) := by decide +kernel
theorem dX8_breaks_29 : decode cX8_breaks 29 = .ok (.bipush 11, 2) := by decide +kernel
theorem dX8_breaks_31 : decode cX8_breaks 31 = .ok (.istore 4, 2) := by decide +kernel
theorem dX8_breaks_33 : decode cX8_breaks 33 = .ok (.iconst 0, 1) := by decide +kernel
theorem dX8_breaks_34 : decode cX8_breaks 34 = .ok (.istore 5, 2) := by decide +kernel
theorem dX8_breaks_36 : decode cX8_breaks 36 = .ok (.iconst 1, 1) := by decide +kernel
theorem dX8_breaks_37 : decode cX8_breaks 37 = .ok (.istore 6, 2) := by decide +kernel
theorem dX8_breaks_39 : decode cX8_breaks 39 = .ok (.iload 6, 2) := by decide +kernel
theorem dX8_breaks_41 : decode cX8_breaks 41 = .ok (.sipush 999, 3) := by decide +kernel
theorem dX8_breaks_44 : decode cX8_breaks 44 = .ok (.if_icmp .gt 39, 3) := by decide +kernel
theorem dX8_breaks_47 : decode cX8_breaks 47 = .ok (.aload_n 0, 1) := by decide +kernel
theorem dX8_breaks_48 : decode cX8_breaks 48 = .ok (.getfield 19, 3) := by decide +kernel
theorem dX8_breaks_51 : decode cX8_breaks 51 = .ok (.iload_n 1, 1) := by decide +kernel
theorem dX8_breaks_52 : decode cX8_breaks 52 = .ok (.iload 6, 2) := by decide +kernel
theorem dX8_breaks_54 : decode cX8_breaks 54 = .ok (.iastore, 1) := by decide +kernel
theorem dX8_breaks_55 : decode cX8_breaks 55 = .ok (.aload_n 0, 1) := by decide +kernel
theorem dX8_breaks_56 : decode cX8_breaks 56 = .ok (.iload_n 1, 1) := by decide +kernel
theorem dX8_breaks_57 : decode cX8_breaks 57 = .ok (.invokevirtual 140, 3) := by decide +kernel
theorem dX8_breaks_60 : decode cX8_breaks 60 = .ok (.istore 7, 2) := by decide +kernel
theorem dX8_breaks_62 : decode cX8_breaks 62 = .ok (.iload 7, 2) := by decide +kernel
theorem dX8_breaks_64 : decode cX8_breaks 64 = .ok (.iload 4, 2) := by decide +kernel
theorem dX8_breaks_66 : decode cX8_breaks 66 = .ok (.if_icmp .ge 11, 3) := by decide +kernel
theorem dX8_breaks_69 : decode cX8_breaks 69 = .ok (.iload 7, 2) := by decide +kernel
theorem dX8_breaks_71 : decode cX8_breaks 71 = .ok (.istore 4, 2) := by decide +kernel
theorem dX8_breaks_73 : decode cX8_breaks 73 = .ok (.iload 6, 2) := by decide +kernel
theorem dX8_breaks_75 : decode cX8_breaks 75 = .ok (.istore 5, 2) := by decide +kernel
theorem dX8_breaks_77 : decode cX8_breaks 77 = .ok (.iinc 6 1, 3) := by decide +kernel
theorem dX8_breaks_80 : decode cX8_breaks 80 = .ok (.goto (-41), 3) := by decide +kernel
theorem dX8_breaks_83 : decode cX8_breaks 83 = .ok (.aload_n 0, 1) := by decide +kernel
theorem dX8_breaks_84 : decode cX8_breaks 84 = .ok (.getfield 19, 3) := by decide +kernel
theorem dX8_breaks_87 : decode cX8_breaks 87 = .ok (.iload_n 1, 1) := by decide +kernel
theorem dX8_breaks_88 : decode cX8_breaks 88 = .ok (.iload_n 3, 1) := by decide +kernel
theorem dX8_breaks_89 : decode cX8_breaks 89 = .ok (.iastore, 1) := by decide +kernel
theorem dX8_breaks_90 : decode cX8_breaks 90 = .ok (.iload_n 2, 1) := by decide +kernel
theorem dX8_breaks_91 : decode cX8_breaks 91 = .ok (.ifCond .ne 8, 3) := by decide +kernel
theorem dX8_breaks_94 : decode cX8_breaks 94 = .ok (.iload 4, 2) := by decide +kernel
theorem dX8_breaks_96 : decode cX8_breaks 96 = .ok (.goto 5, 3) := by decide +kernel
theorem dX8_breaks_99 : decode cX8_breaks 99 = .ok (.iload 5, 2) := by decide +kernel
theorem dX8_breaks_101 : decode cX8_breaks 101 = .ok (.ireturn, 1) := by decide +kernel
theorem dX8_mayStand_0 : decode cX8_mayStand 0 = .ok (.iload_n 2, 1) := by decide +kernel
theorem dX8_mayStand_1 : decode cX8_mayStand 1 = .ok (.iload_n 3, 1) := by decide +kernel
theorem dX8_mayStand_2 : decode cX8_mayStand 2 = .ok (.ishr, 1) := by decide +kernel
theorem dX8_mayStand_3 : decode cX8_mayStand 3 = .ok (.iconst 1, 1) := by decide +kernel
theorem dX8_mayStand_4 : decode cX8_mayStand 4 = .ok (.iand, 1) := by decide +kernel
theorem dX8_mayStand_5 : decode cX8_mayStand 5 = .ok (.iconst 1, 1) := by decide +kernel
theorem dX8_mayStand_6 : decode cX8_mayStand 6 = .ok (.if_icmp .ne 5, 3) := by decide +kernel
theorem dX8_mayStand_9 : decode cX8_mayStand 9 = .ok (.iconst 0, 1) := by decide +kernel
theorem dX8_mayStand_10 : decode cX8_mayStand 10 = .ok (.ireturn, 1) := by decide +kernel
theorem dX8_mayStand_11 : decode cX8_mayStand 11 = .ok (.iconst 0, 1) := by decide +kernel
theorem dX8_mayStand_12 : decode cX8_mayStand 12 = .ok (.istore 4, 2) := by decide +kernel
theorem dX8_mayStand_14 : decode cX8_mayStand 14 = .ok (.iload 4, 2) := by decide +kernel
theorem dX8_mayStand_16 : decode cX8_mayStand 16 = .ok (.aload_n 0, 1) := by decide +kernel
theorem dX8_mayStand_17 : decode cX8_mayStand 17 = .ok (.getfield 68, 3) := by decide +kernel
theorem dX8_mayStand_20 : decode cX8_mayStand 20 = .ok (.if_icmp .ge 31, 3) := by decide +kernel
theorem dX8_mayStand_23 : decode cX8_mayStand 23 = .ok (.iload_n 2, 1) := by decide +kernel
theorem dX8_mayStand_24 : decode cX8_mayStand 24 = .ok (.iload 4, 2) := by decide +kernel
theorem dX8_mayStand_26 : decode cX8_mayStand 26 = .ok (.ishr, 1) := by decide +kernel
theorem dX8_mayStand_27 : decode cX8_mayStand 27 = .ok (.iconst 1, 1) := by decide +kernel
theorem dX8_mayStand_28 : decode cX8_mayStand 28 = .ok (.iand, 1) := by decide +kernel
theorem dX8_mayStand_29 : decode cX8_mayStand 29 = .ok (.ifCond .ne 16, 3) := by decide +kernel
theorem dX8_mayStand_32 : decode cX8_mayStand 32 = .ok (.aload_n 0, 1) := by decide +kernel
theorem dX8_mayStand_33 : decode cX8_mayStand 33 = .ok (.iload_n 1, 1) := by decide +kernel
theorem dX8_mayStand_34 : decode cX8_mayStand 34 = .ok (.iload_n 3, 1) := by decide +kernel
theorem dX8_mayStand_35 : decode cX8_mayStand 35 = .ok (.iload 4, 2) := by decide +kernel
theorem dX8_mayStand_37 : decode cX8_mayStand 37 = .ok (.invokevirtual 116, 3) := by decide +kernel
theorem dX8_mayStand_40 : decode cX8_mayStand 40 = .ok (.ifCond .eq 5, 3) := by decide +kernel
theorem dX8_mayStand_43 : decode cX8_mayStand 43 = .ok (.iconst 0, 1) := by decide +kernel
theorem dX8_mayStand_44 : decode cX8_mayStand 44 = .ok (.ireturn, 1) := by decide +kernel
theorem dX8_mayStand_45 : decode cX8_mayStand 45 = .ok (.iinc 4 1, 3) := by decide +kernel
theorem dX8_mayStand_48 : decode cX8_mayStand 48 = .ok (.goto (-34), 3) := by decide +kernel
theorem dX8_mayStand_51 : decode cX8_mayStand 51 = .ok (.iconst 1, 1) := by decide +kernel
theorem dX8_mayStand_52 : decode cX8_mayStand 52 = .ok (.ireturn, 1) := by decide +kernel
theorem dX8_rows_0 : decode cX8_rows 0 = .ok (.aload_n 0, 1) := by decide +kernel
theorem dX8_rows_1 : decode cX8_rows 1 = .ok (.iload_n 1, 1) := by decide +kernel
theorem dX8_rows_2 : decode cX8_rows 2 = .ok (.invokevirtual 107, 3) := by decide +kernel
theorem dX8_rows_5 : decode cX8_rows 5 = .ok (.ifCond .eq 17, 3) := by decide +kernel
theorem dX8_rows_8 : decode cX8_rows 8 = .ok (.iload_n 2, 1) := by decide +kernel
theorem dX8_rows_9 : decode cX8_rows 9 = .ok (.iconst (-1), 1) := by decide +kernel
theorem dX8_rows_10 : decode cX8_rows 10 = .ok (.aload_n 0, 1) := by decide +kernel
theorem dX8_rows_11 : decode cX8_rows 11 = .ok (.getfield 68, 3) := by decide +kernel
theorem dX8_rows_14 : decode cX8_rows 14 = .ok (.iconst 1, 1) := by decide +kernel
theorem dX8_rows_15 : decode cX8_rows 15 = .ok (.isub, 1) := by decide +kernel
theorem dX8_rows_16 : decode cX8_rows 16 = .ok (.invokestatic 64, 3) := by decide +kernel
theorem dX8_rows_19 : decode cX8_rows 19 = .ok (.ifCond .ne 5, 3) := by decide +kernel
theorem dX8_rows_22 : decode cX8_rows 22 = .ok (.iconst (-1), 1) := by decide +kernel
theorem dX8_rows_23 : decode cX8_rows 23 = .ok (.ireturn, 1) := by decide +kernel
theorem dX8_rows_24 : decode cX8_rows 24 = .ok (.iload_n 2, 1) := by decide +kernel
theorem dX8_rows_25 : decode cX8_rows 25 = .ok (.ifCond .lt 10, 3) := by decide +kernel
theorem dX8_rows_28 : decode cX8_rows 28 = .ok (.aload_n 0, 1) := by decide +kernel
theorem dX8_rows_29 : decode cX8_rows 29 = .ok (.iload_n 1, 1) := by decide +kernel
theorem dX8_rows_30 : decode cX8_rows 30 = .ok (.iload_n 2, 1) := by decide +kernel
theorem dX8_rows_31 : decode cX8_rows 31 = .ok (.invokevirtual 143, 3) := by decide +kernel
theorem dX8_rows_34 : decode cX8_rows 34 = .ok (.ireturn, 1) := by decide +kernel
theorem dX8_rows_35 : decode cX8_rows 35 = .ok (.iconst 1, 1) := by decide +kernel
theorem dX8_rows_36 : decode cX8_rows 36 = .ok (.aload_n 0, 1) := by decide +kernel
theorem dX8_rows_37 : decode cX8_rows 37 = .ok (.getfield 68, 3) := by decide +kernel
theorem dX8_rows_40 : decode cX8_rows 40 = .ok (.ishl, 1) := by decide +kernel
theorem dX8_rows_41 : decode cX8_rows 41 = .ok (.iconst 1, 1) := by decide +kernel
theorem dX8_rows_42 : decode cX8_rows 42 = .ok (.isub, 1) := by decide +kernel
theorem dX8_rows_43 : decode cX8_rows 43 = .ok (.istore_n 3, 1) := by decide +kernel
theorem dX8_rows_44 : decode cX8_rows 44 = .ok (.iconst 0, 1) := by decide +kernel
theorem dX8_rows_45 : decode cX8_rows 45 = .ok (.istore 4, 2) := by decide +kernel
theorem dX8_rows_47 : decode cX8_rows 47 = .ok (.iload 4, 2) := by decide +kernel
theorem dX8_rows_49 : decode cX8_rows 49 = .ok (.iload_n 3, 1) := by decide +kernel
theorem dX8_rows_50 : decode cX8_rows 50 = .ok (.if_icmp .gt 17, 3) := by decide +kernel
theorem dX8_rows_53 : decode cX8_rows 53 = .ok (.aload_n 0, 1) := by decide +kernel
theorem dX8_rows_54 : decode cX8_rows 54 = .ok (.getfield 46, 3) := by decide +kernel
theorem dX8_rows_57 : decode cX8_rows 57 = .ok (.iload 4, 2) := by decide +kernel
theorem dX8_rows_59 : decode cX8_rows 59 = .ok (.iconst 0, 1) := by decide +kernel
theorem dX8_rows_60 : decode cX8_rows 60 = .ok (.iastore, 1) := by decide +kernel
theorem dX8_rows_61 : decode cX8_rows 61 = .ok (.iinc 4 1, 3) := by decide +kernel
theorem dX8_rows_64 : decode cX8_rows 64 = .ok (.goto (-17), 3) := by decide +kernel
theorem dX8_rows_67 : decode cX8_rows 67 = .ok (.aload_n 0, 1) := by decide +kernel
theorem dX8_rows_68 : decode cX8_rows 68 = .ok (.getfield 46, 3) := by decide +kernel
theorem dX8_rows_71 : decode cX8_rows 71 = .ok (.iconst 0, 1) := by decide +kernel
theorem dX8_rows_72 : decode cX8_rows 72 = .ok (.iconst 1, 1) := by decide +kernel
theorem dX8_rows_73 : decode cX8_rows 73 = .ok (.iastore, 1) := by decide +kernel
theorem dX8_rows_74 : decode cX8_rows 74 = .ok (.iconst 0, 1) := by decide +kernel
theorem dX8_rows_75 : decode cX8_rows 75 = .ok (.istore 4, 2) := by decide +kernel
theorem dX8_rows_77 : decode cX8_rows 77 = .ok (.iload 4, 2) := by decide +kernel
theorem dX8_rows_79 : decode cX8_rows 79 = .ok (.iload_n 3, 1) := by decide +kernel
theorem dX8_rows_80 : decode cX8_rows 80 = .ok (.if_icmp .ge 61, 3) := by decide +kernel
theorem dX8_rows_83 : decode cX8_rows 83 = .ok (.iconst 0, 1) := by decide +kernel
theorem dX8_rows_84 : decode cX8_rows 84 = .ok (.istore 5, 2) := by decide +kernel
theorem dX8_rows_86 : decode cX8_rows 86 = .ok (.iload 5, 2) := by decide +kernel
theorem dX8_rows_88 : decode cX8_rows 88 = .ok (.aload_n 0, 1) := by decide +kernel
theorem dX8_rows_89 : decode cX8_rows 89 = .ok (.getfield 68, 3) := by decide +kernel
theorem dX8_rows_92 : decode cX8_rows 92 = .ok (.if_icmp .ge 43, 3) := by decide +kernel
theorem dX8_rows_95 : decode cX8_rows 95 = .ok (.aload_n 0, 1) := by decide +kernel
theorem dX8_rows_96 : decode cX8_rows 96 = .ok (.iload_n 1, 1) := by decide +kernel
theorem dX8_rows_97 : decode cX8_rows 97 = .ok (.iload 4, 2) := by decide +kernel
theorem dX8_rows_99 : decode cX8_rows 99 = .ok (.iload 5, 2) := by decide +kernel
theorem dX8_rows_101 : decode cX8_rows 101 = .ok (.invokevirtual 146, 3) := by decide +kernel
theorem dX8_rows_104 : decode cX8_rows 104 = .ok (.ifCond .eq 25, 3) := by decide +kernel
theorem dX8_rows_107 : decode cX8_rows 107 = .ok (.aload_n 0, 1) := by decide +kernel
theorem dX8_rows_108 : decode cX8_rows 108 = .ok (.getfield 46, 3) := by decide +kernel
theorem dX8_rows_111 : decode cX8_rows 111 = .ok (.iload 4, 2) := by decide +kernel
theorem dX8_rows_113 : decode cX8_rows 113 = .ok (.iconst 1, 1) := by decide +kernel
theorem dX8_rows_114 : decode cX8_rows 114 = .ok (.iload 5, 2) := by decide +kernel
theorem dX8_rows_116 : decode cX8_rows 116 = .ok (.ishl, 1) := by decide +kernel
theorem dX8_rows_117 : decode cX8_rows 117 = .ok (.ior, 1) := by decide +kernel
theorem dX8_rows_118 : decode cX8_rows 118 = .ok (.dup2, 1) := by decide +kernel
theorem dX8_rows_119 : decode cX8_rows 119 = .ok (.iaload, 1) := by decide +kernel
theorem dX8_rows_120 : decode cX8_rows 120 = .ok (.aload_n 0, 1) := by decide +kernel
theorem dX8_rows_121 : decode cX8_rows 121 = .ok (.getfield 46, 3) := by decide +kernel
theorem dX8_rows_124 : decode cX8_rows 124 = .ok (.iload 4, 2) := by decide +kernel
theorem dX8_rows_126 : decode cX8_rows 126 = .ok (.iaload, 1) := by decide +kernel
theorem dX8_rows_127 : decode cX8_rows 127 = .ok (.iadd, 1) := by decide +kernel
theorem dX8_rows_128 : decode cX8_rows 128 = .ok (.iastore, 1) := by decide +kernel
theorem dX8_rows_129 : decode cX8_rows 129 = .ok (.iinc 5 1, 3) := by decide +kernel
theorem dX8_rows_132 : decode cX8_rows 132 = .ok (.goto (-46), 3) := by decide +kernel
theorem dX8_rows_135 : decode cX8_rows 135 = .ok (.iinc 4 1, 3) := by decide +kernel
theorem dX8_rows_138 : decode cX8_rows 138 = .ok (.goto (-61), 3) := by decide +kernel
theorem dX8_rows_141 : decode cX8_rows 141 = .ok (.aload_n 0, 1) := by decide +kernel
theorem dX8_rows_142 : decode cX8_rows 142 = .ok (.getfield 46, 3) := by decide +kernel
theorem dX8_rows_145 : decode cX8_rows 145 = .ok (.iload_n 3, 1) := by decide +kernel
theorem dX8_rows_146 : decode cX8_rows 146 = .ok (.iaload, 1) := by decide +kernel
theorem dX8_rows_147 : decode cX8_rows 147 = .ok (.ireturn, 1) := by decide +kernel
theorem dX8_inFirstRow_0 : decode cX8_inFirstRow 0 = .ok (.iconst 0, 1) := by decide +kernel
theorem dX8_inFirstRow_1 : decode cX8_inFirstRow 1 = .ok (.istore_n 3, 1) := by decide +kernel
theorem dX8_inFirstRow_2 : decode cX8_inFirstRow 2 = .ok (.iconst 0, 1) := by decide +kernel
theorem dX8_inFirstRow_3 : decode cX8_inFirstRow 3 = .ok (.istore 4, 2) := by decide +kernel
theorem dX8_inFirstRow_5 : decode cX8_inFirstRow 5 = .ok (.iconst 0, 1) := by decide +kernel
theorem dX8_inFirstRow_6 : decode cX8_inFirstRow 6 = .ok (.istore 5, 2) := by decide +kernel
theorem dX8_inFirstRow_8 : decode cX8_inFirstRow 8 = .ok (.iload 5, 2) := by decide +kernel
theorem dX8_inFirstRow_10 : decode cX8_inFirstRow 10 = .ok (.iload_n 2, 1) := by decide +kernel
theorem dX8_inFirstRow_11 : decode cX8_inFirstRow 11 = .ok (.if_icmp .gt 36, 3) := by decide +kernel
theorem dX8_inFirstRow_14 : decode cX8_inFirstRow 14 = .ok (.iconst 0, 1) := by decide +kernel
theorem dX8_inFirstRow_15 : decode cX8_inFirstRow 15 = .ok (.istore 4, 2) := by decide +kernel
theorem dX8_inFirstRow_17 : decode cX8_inFirstRow 17 = .ok (.aload_n 0, 1) := by decide +kernel
theorem dX8_inFirstRow_18 : decode cX8_inFirstRow 18 = .ok (.iload_n 1, 1) := by decide +kernel
theorem dX8_inFirstRow_19 : decode cX8_inFirstRow 19 = .ok (.iload_n 3, 1) := by decide +kernel
theorem dX8_inFirstRow_20 : decode cX8_inFirstRow 20 = .ok (.iload 4, 2) := by decide +kernel
theorem dX8_inFirstRow_22 : decode cX8_inFirstRow 22 = .ok (.invokevirtual 146, 3) := by decide +kernel
theorem dX8_inFirstRow_25 : decode cX8_inFirstRow 25 = .ok (.ifCond .ne 9, 3) := by decide +kernel
theorem dX8_inFirstRow_28 : decode cX8_inFirstRow 28 = .ok (.iinc 4 1, 3) := by decide +kernel
theorem dX8_inFirstRow_31 : decode cX8_inFirstRow 31 = .ok (.goto (-14), 3) := by decide +kernel
theorem dX8_inFirstRow_34 : decode cX8_inFirstRow 34 = .ok (.iload_n 3, 1) := by decide +kernel
theorem dX8_inFirstRow_35 : decode cX8_inFirstRow 35 = .ok (.iconst 1, 1) := by decide +kernel
theorem dX8_inFirstRow_36 : decode cX8_inFirstRow 36 = .ok (.iload 4, 2) := by decide +kernel
theorem dX8_inFirstRow_38 : decode cX8_inFirstRow 38 = .ok (.ishl, 1) := by decide +kernel
theorem dX8_inFirstRow_39 : decode cX8_inFirstRow 39 = .ok (.ior, 1) := by decide +kernel
theorem dX8_inFirstRow_40 : decode cX8_inFirstRow 40 = .ok (.istore_n 3, 1) := by decide +kernel
theorem dX8_inFirstRow_41 : decode cX8_inFirstRow 41 = .ok (.iinc 5 1, 3) := by decide +kernel
theorem dX8_inFirstRow_44 : decode cX8_inFirstRow 44 = .ok (.goto (-36), 3) := by decide +kernel
theorem dX8_inFirstRow_47 : decode cX8_inFirstRow 47 = .ok (.iload 4, 2) := by decide +kernel
theorem dX8_inFirstRow_49 : decode cX8_inFirstRow 49 = .ok (.ireturn, 1) := by decide +kernel
theorem dX8_longest_0 : decode cX8_longest 0 = .ok (.aload_n 0, 1) := by decide +kernel
theorem dX8_longest_1 : decode cX8_longest 1 = .ok (.iload_n 1, 1) := by decide +kernel
theorem dX8_longest_2 : decode cX8_longest 2 = .ok (.invokevirtual 107, 3) := by decide +kernel
theorem dX8_longest_5 : decode cX8_longest 5 = .ok (.ifCond .ne 5, 3) := by decide +kernel
theorem dX8_longest_8 : decode cX8_longest 8 = .ok (.iconst (-1), 1) := by decide +kernel
theorem dX8_longest_9 : decode cX8_longest 9 = .ok (.ireturn, 1) := by decide +kernel
theorem dX8_longest_10 : decode cX8_longest 10 = .ok (.iconst 0, 1) := by decide +kernel
theorem dX8_longest_11 : decode cX8_longest 11 = .ok (.istore_n 2, 1) := by decide +kernel
theorem dX8_longest_12 : decode cX8_longest 12 = .ok (.iload_n 2, 1) := by decide +kernel
theorem dX8_longest_13 : decode cX8_longest 13 = .ok (.aload_n 0, 1) := by decide +kernel
theorem dX8_longest_14 : decode cX8_longest 14 = .ok (.getfield 68, 3) := by decide +kernel
theorem dX8_longest_17 : decode cX8_longest 17 = .ok (.if_icmp .ge 16, 3) := by decide +kernel
theorem dX8_longest_20 : decode cX8_longest 20 = .ok (.aload_n 0, 1) := by decide +kernel
theorem dX8_longest_21 : decode cX8_longest 21 = .ok (.getfield 49, 3) := by decide +kernel
theorem dX8_longest_24 : decode cX8_longest 24 = .ok (.iload_n 2, 1) := by decide +kernel
theorem dX8_longest_25 : decode cX8_longest 25 = .ok (.iconst 1, 1) := by decide +kernel
theorem dX8_longest_26 : decode cX8_longest 26 = .ok (.iastore, 1) := by decide +kernel
theorem dX8_longest_27 : decode cX8_longest 27 = .ok (.iinc 2 1, 3) := by decide +kernel
theorem dX8_longest_30 : decode cX8_longest 30 = .ok (.goto (-18), 3) := by decide +kernel
theorem dX8_longest_33 : decode cX8_longest 33 = .ok (.iconst 1, 1) := by decide +kernel
theorem dX8_longest_34 : decode cX8_longest 34 = .ok (.istore_n 2, 1) := by decide +kernel
theorem dX8_longest_35 : decode cX8_longest 35 = .ok (.iconst 0, 1) := by decide +kernel
theorem dX8_longest_36 : decode cX8_longest 36 = .ok (.istore_n 3, 1) := by decide +kernel
theorem dX8_longest_37 : decode cX8_longest 37 = .ok (.iload_n 3, 1) := by decide +kernel
theorem dX8_longest_38 : decode cX8_longest 38 = .ok (.aload_n 0, 1) := by decide +kernel
theorem dX8_longest_39 : decode cX8_longest 39 = .ok (.getfield 68, 3) := by decide +kernel
theorem dX8_longest_42 : decode cX8_longest 42 = .ok (.if_icmp .ge 125, 3) := by decide +kernel
theorem dX8_longest_45 : decode cX8_longest 45 = .ok (.iconst 0, 1) := by decide +kernel
theorem dX8_longest_46 : decode cX8_longest 46 = .ok (.istore 4, 2) := by decide +kernel
theorem dX8_longest_48 : decode cX8_longest 48 = .ok (.iload 4, 2) := by decide +kernel
theorem dX8_longest_50 : decode cX8_longest 50 = .ok (.aload_n 0, 1) := by decide +kernel
theorem dX8_longest_51 : decode cX8_longest 51 = .ok (.getfield 68, 3) := by decide +kernel
theorem dX8_longest_54 : decode cX8_longest 54 = .ok (.if_icmp .ge 107, 3) := by decide +kernel
theorem dX8_longest_57 : decode cX8_longest 57 = .ok (.iconst 0, 1) := by decide +kernel
theorem dX8_longest_58 : decode cX8_longest 58 = .ok (.istore 5, 2) := by decide +kernel
theorem dX8_longest_60 : decode cX8_longest 60 = .ok (.iload 5, 2) := by decide +kernel
theorem dX8_longest_62 : decode cX8_longest 62 = .ok (.aload_n 0, 1) := by decide +kernel
theorem dX8_longest_63 : decode cX8_longest 63 = .ok (.getfield 68, 3) := by decide +kernel
theorem dX8_longest_66 : decode cX8_longest 66 = .ok (.if_icmp .ge 66, 3) := by decide +kernel
theorem dX8_longest_69 : decode cX8_longest 69 = .ok (.aload_n 0, 1) := by decide +kernel
theorem dX8_longest_70 : decode cX8_longest 70 = .ok (.getfield 49, 3) := by decide +kernel
theorem dX8_longest_73 : decode cX8_longest 73 = .ok (.iload 4, 2) := by decide +kernel
theorem dX8_longest_75 : decode cX8_longest 75 = .ok (.aload_n 0, 1) := by decide +kernel
theorem dX8_longest_76 : decode cX8_longest 76 = .ok (.iload_n 1, 1) := by decide +kernel
theorem dX8_longest_77 : decode cX8_longest 77 = .ok (.iload 4, 2) := by decide +kernel
theorem dX8_longest_79 : decode cX8_longest 79 = .ok (.iload 5, 2) := by decide +kernel
theorem dX8_longest_81 : decode cX8_longest 81 = .ok (.invokevirtual 116, 3) := by decide +kernel
theorem dX8_longest_84 : decode cX8_longest 84 = .ok (.ifCond .eq 34, 3) := by decide +kernel
theorem dX8_longest_87 : decode cX8_longest 87 = .ok (.aload_n 0, 1) := by decide +kernel
theorem dX8_longest_88 : decode cX8_longest 88 = .ok (.getfield 49, 3) := by decide +kernel
theorem dX8_longest_91 : decode cX8_longest 91 = .ok (.iload 5, 2) := by decide +kernel
theorem dX8_longest_93 : decode cX8_longest 93 = .ok (.iaload, 1) := by decide +kernel
theorem dX8_longest_94 : decode cX8_longest 94 = .ok (.iconst 1, 1) := by decide +kernel
theorem dX8_longest_95 : decode cX8_longest 95 = .ok (.iadd, 1) := by decide +kernel
theorem dX8_longest_96 : decode cX8_longest 96 = .ok (.aload_n 0, 1) := by decide +kernel
theorem dX8_longest_97 : decode cX8_longest 97 = .ok (.getfield 49, 3) := by decide +kernel
theorem dX8_longest_100 : decode cX8_longest 100 = .ok (.iload 4, 2) := by decide +kernel
theorem dX8_longest_102 : decode cX8_longest 102 = .ok (.iaload, 1) := by decide +kernel
theorem dX8_longest_103 : decode cX8_longest 103 = .ok (.if_icmp .le 15, 3) := by decide +kernel
theorem dX8_longest_106 : decode cX8_longest 106 = .ok (.aload_n 0, 1) := by decide +kernel
theorem dX8_longest_107 : decode cX8_longest 107 = .ok (.getfield 49, 3) := by decide +kernel
theorem dX8_longest_110 : decode cX8_longest 110 = .ok (.iload 5, 2) := by decide +kernel
theorem dX8_longest_112 : decode cX8_longest 112 = .ok (.iaload, 1) := by decide +kernel
theorem dX8_longest_113 : decode cX8_longest 113 = .ok (.iconst 1, 1) := by decide +kernel
theorem dX8_longest_114 : decode cX8_longest 114 = .ok (.iadd, 1) := by decide +kernel
theorem dX8_longest_115 : decode cX8_longest 115 = .ok (.goto 10, 3) := by decide +kernel
theorem dX8_longest_118 : decode cX8_longest 118 = .ok (.aload_n 0, 1) := by decide +kernel
theorem dX8_longest_119 : decode cX8_longest 119 = .ok (.getfield 49, 3) := by decide +kernel
theorem dX8_longest_122 : decode cX8_longest 122 = .ok (.iload 4, 2) := by decide +kernel
theorem dX8_longest_124 : decode cX8_longest 124 = .ok (.iaload, 1) := by decide +kernel
theorem dX8_longest_125 : decode cX8_longest 125 = .ok (.iastore, 1) := by decide +kernel
theorem dX8_longest_126 : decode cX8_longest 126 = .ok (.iinc 5 1, 3) := by decide +kernel
theorem dX8_longest_129 : decode cX8_longest 129 = .ok (.goto (-69), 3) := by decide +kernel
theorem dX8_longest_132 : decode cX8_longest 132 = .ok (.aload_n 0, 1) := by decide +kernel
theorem dX8_longest_133 : decode cX8_longest 133 = .ok (.getfield 49, 3) := by decide +kernel
theorem dX8_longest_136 : decode cX8_longest 136 = .ok (.iload 4, 2) := by decide +kernel
theorem dX8_longest_138 : decode cX8_longest 138 = .ok (.iaload, 1) := by decide +kernel
theorem dX8_longest_139 : decode cX8_longest 139 = .ok (.iload_n 2, 1) := by decide +kernel
theorem dX8_longest_140 : decode cX8_longest 140 = .ok (.if_icmp .le 13, 3) := by decide +kernel
theorem dX8_longest_143 : decode cX8_longest 143 = .ok (.aload_n 0, 1) := by decide +kernel
theorem dX8_longest_144 : decode cX8_longest 144 = .ok (.getfield 49, 3) := by decide +kernel
theorem dX8_longest_147 : decode cX8_longest 147 = .ok (.iload 4, 2) := by decide +kernel
theorem dX8_longest_149 : decode cX8_longest 149 = .ok (.iaload, 1) := by decide +kernel
theorem dX8_longest_150 : decode cX8_longest 150 = .ok (.goto 4, 3) := by decide +kernel
theorem dX8_longest_153 : decode cX8_longest 153 = .ok (.iload_n 2, 1) := by decide +kernel
theorem dX8_longest_154 : decode cX8_longest 154 = .ok (.istore_n 2, 1) := by decide +kernel
theorem dX8_longest_155 : decode cX8_longest 155 = .ok (.iinc 4 1, 3) := by decide +kernel
theorem dX8_longest_158 : decode cX8_longest 158 = .ok (.goto (-110), 3) := by decide +kernel
theorem dX8_longest_161 : decode cX8_longest 161 = .ok (.iinc 3 1, 3) := by decide +kernel
theorem dX8_longest_164 : decode cX8_longest 164 = .ok (.goto (-127), 3) := by decide +kernel
theorem dX8_longest_167 : decode cX8_longest 167 = .ok (.iload_n 2, 1) := by decide +kernel
theorem dX8_longest_168 : decode cX8_longest 168 = .ok (.ireturn, 1) := by decide +kernel
theorem dX8_isCrowd_0 : decode cX8_isCrowd 0 = .ok (.iconst 0, 1) := by decide +kernel
theorem dX8_isCrowd_1 : decode cX8_isCrowd 1 = .ok (.istore_n 3, 1) := by decide +kernel
theorem dX8_isCrowd_2 : decode cX8_isCrowd 2 = .ok (.iload_n 3, 1) := by decide +kernel
theorem dX8_isCrowd_3 : decode cX8_isCrowd 3 = .ok (.aload_n 0, 1) := by decide +kernel
theorem dX8_isCrowd_4 : decode cX8_isCrowd 4 = .ok (.getfield 68, 3) := by decide +kernel
theorem dX8_isCrowd_7 : decode cX8_isCrowd 7 = .ok (.if_icmp .ge 32, 3) := by decide +kernel
theorem dX8_isCrowd_10 : decode cX8_isCrowd 10 = .ok (.iload_n 2, 1) := by decide +kernel
theorem dX8_isCrowd_11 : decode cX8_isCrowd 11 = .ok (.iload_n 3, 1) := by decide +kernel
theorem dX8_isCrowd_12 : decode cX8_isCrowd 12 = .ok (.ishr, 1) := by decide +kernel
theorem dX8_isCrowd_13 : decode cX8_isCrowd 13 = .ok (.iconst 1, 1) := by decide +kernel
theorem dX8_isCrowd_14 : decode cX8_isCrowd 14 = .ok (.iand, 1) := by decide +kernel
theorem dX8_isCrowd_15 : decode cX8_isCrowd 15 = .ok (.iconst 1, 1) := by decide +kernel
theorem dX8_isCrowd_16 : decode cX8_isCrowd 16 = .ok (.if_icmp .ne 17, 3) := by decide +kernel
theorem dX8_isCrowd_19 : decode cX8_isCrowd 19 = .ok (.aload_n 0, 1) := by decide +kernel
theorem dX8_isCrowd_20 : decode cX8_isCrowd 20 = .ok (.iload_n 1, 1) := by decide +kernel
theorem dX8_isCrowd_21 : decode cX8_isCrowd 21 = .ok (.iload_n 3, 1) := by decide +kernel
theorem dX8_isCrowd_22 : decode cX8_isCrowd 22 = .ok (.invokevirtual 122, 3) := by decide +kernel
theorem dX8_isCrowd_25 : decode cX8_isCrowd 25 = .ok (.iload_n 2, 1) := by decide +kernel
theorem dX8_isCrowd_26 : decode cX8_isCrowd 26 = .ok (.iand, 1) := by decide +kernel
theorem dX8_isCrowd_27 : decode cX8_isCrowd 27 = .ok (.iload_n 2, 1) := by decide +kernel
theorem dX8_isCrowd_28 : decode cX8_isCrowd 28 = .ok (.if_icmp .eq 5, 3) := by decide +kernel
theorem dX8_isCrowd_31 : decode cX8_isCrowd 31 = .ok (.iconst 0, 1) := by decide +kernel
theorem dX8_isCrowd_32 : decode cX8_isCrowd 32 = .ok (.ireturn, 1) := by decide +kernel
theorem dX8_isCrowd_33 : decode cX8_isCrowd 33 = .ok (.iinc 3 1, 3) := by decide +kernel
theorem dX8_isCrowd_36 : decode cX8_isCrowd 36 = .ok (.goto (-34), 3) := by decide +kernel
theorem dX8_isCrowd_39 : decode cX8_isCrowd 39 = .ok (.iconst 1, 1) := by decide +kernel
theorem dX8_isCrowd_40 : decode cX8_isCrowd 40 = .ok (.ireturn, 1) := by decide +kernel
theorem dX8_crowd_0 : decode cX8_crowd 0 = .ok (.aload_n 0, 1) := by decide +kernel
theorem dX8_crowd_1 : decode cX8_crowd 1 = .ok (.iload_n 1, 1) := by decide +kernel
theorem dX8_crowd_2 : decode cX8_crowd 2 = .ok (.invokevirtual 107, 3) := by decide +kernel
theorem dX8_crowd_5 : decode cX8_crowd 5 = .ok (.ifCond .ne 5, 3) := by decide +kernel
theorem dX8_crowd_8 : decode cX8_crowd 8 = .ok (.iconst (-1), 1) := by decide +kernel
theorem dX8_crowd_9 : decode cX8_crowd 9 = .ok (.ireturn, 1) := by decide +kernel
theorem dX8_crowd_10 : decode cX8_crowd 10 = .ok (.iconst 0, 1) := by decide +kernel
theorem dX8_crowd_11 : decode cX8_crowd 11 = .ok (.istore_n 2, 1) := by decide +kernel
theorem dX8_crowd_12 : decode cX8_crowd 12 = .ok (.iconst 1, 1) := by decide +kernel
theorem dX8_crowd_13 : decode cX8_crowd 13 = .ok (.istore_n 3, 1) := by decide +kernel
theorem dX8_crowd_14 : decode cX8_crowd 14 = .ok (.iload_n 3, 1) := by decide +kernel
theorem dX8_crowd_15 : decode cX8_crowd 15 = .ok (.iconst 1, 1) := by decide +kernel
theorem dX8_crowd_16 : decode cX8_crowd 16 = .ok (.aload_n 0, 1) := by decide +kernel
theorem dX8_crowd_17 : decode cX8_crowd 17 = .ok (.getfield 68, 3) := by decide +kernel
theorem dX8_crowd_20 : decode cX8_crowd 20 = .ok (.ishl, 1) := by decide +kernel
theorem dX8_crowd_21 : decode cX8_crowd 21 = .ok (.if_icmp .ge 31, 3) := by decide +kernel
theorem dX8_crowd_24 : decode cX8_crowd 24 = .ok (.iload_n 3, 1) := by decide +kernel
theorem dX8_crowd_25 : decode cX8_crowd 25 = .ok (.invokestatic 149, 3) := by decide +kernel
theorem dX8_crowd_28 : decode cX8_crowd 28 = .ok (.iload_n 2, 1) := by decide +kernel
theorem dX8_crowd_29 : decode cX8_crowd 29 = .ok (.invokestatic 149, 3) := by decide +kernel
theorem dX8_crowd_32 : decode cX8_crowd 32 = .ok (.if_icmp .le 14, 3) := by decide +kernel
theorem dX8_crowd_35 : decode cX8_crowd 35 = .ok (.aload_n 0, 1) := by decide +kernel
theorem dX8_crowd_36 : decode cX8_crowd 36 = .ok (.iload_n 1, 1) := by decide +kernel
theorem dX8_crowd_37 : decode cX8_crowd 37 = .ok (.iload_n 3, 1) := by decide +kernel
theorem dX8_crowd_38 : decode cX8_crowd 38 = .ok (.invokevirtual 152, 3) := by decide +kernel
theorem dX8_crowd_41 : decode cX8_crowd 41 = .ok (.ifCond .eq 5, 3) := by decide +kernel
theorem dX8_crowd_44 : decode cX8_crowd 44 = .ok (.iload_n 3, 1) := by decide +kernel
theorem dX8_crowd_45 : decode cX8_crowd 45 = .ok (.istore_n 2, 1) := by decide +kernel
theorem dX8_crowd_46 : decode cX8_crowd 46 = .ok (.iinc 3 1, 3) := by decide +kernel
theorem dX8_crowd_49 : decode cX8_crowd 49 = .ok (.goto (-35), 3) := by decide +kernel
theorem dX8_crowd_52 : decode cX8_crowd 52 = .ok (.iload_n 2, 1) := by decide +kernel
theorem dX8_crowd_53 : decode cX8_crowd 53 = .ok (.ireturn, 1) := by decide +kernel
theorem dX8_measure_0 : decode cX8_measure 0 = .ok (.aload_n 0, 1) := by decide +kernel
theorem dX8_measure_1 : decode cX8_measure 1 = .ok (.iload_n 1, 1) := by decide +kernel
theorem dX8_measure_2 : decode cX8_measure 2 = .ok (.invokevirtual 107, 3) := by decide +kernel
theorem dX8_measure_5 : decode cX8_measure 5 = .ok (.ifCond .ne 5, 3) := by decide +kernel
theorem dX8_measure_8 : decode cX8_measure 8 = .ok (.iconst (-1), 1) := by decide +kernel
theorem dX8_measure_9 : decode cX8_measure 9 = .ok (.ireturn, 1) := by decide +kernel
theorem dX8_measure_10 : decode cX8_measure 10 = .ok (.iload_n 2, 1) := by decide +kernel
theorem dX8_measure_11 : decode cX8_measure 11 = .ok (.iconst 0, 1) := by decide +kernel
theorem dX8_measure_12 : decode cX8_measure 12 = .ok (.iconst 1, 1) := by decide +kernel
theorem dX8_measure_13 : decode cX8_measure 13 = .ok (.invokestatic 64, 3) := by decide +kernel
theorem dX8_measure_16 : decode cX8_measure 16 = .ok (.ifCond .ne 6, 3) := by decide +kernel
theorem dX8_measure_19 : decode cX8_measure 19 = .ok (.bipush (-2), 2) := by decide +kernel
theorem dX8_measure_21 : decode cX8_measure 21 = .ok (.ireturn, 1) := by decide +kernel
theorem dX8_measure_22 : decode cX8_measure 22 = .ok (.iconst 0, 1) := by decide +kernel
theorem dX8_measure_23 : decode cX8_measure 23 = .ok (.istore_n 3, 1) := by decide +kernel
theorem dX8_measure_24 : decode cX8_measure 24 = .ok (.iconst (-1), 1) := by decide +kernel
theorem dX8_measure_25 : decode cX8_measure 25 = .ok (.istore 4, 2) := by decide +kernel
theorem dX8_measure_27 : decode cX8_measure 27 = .ok (.iconst 0, 1) := by decide +kernel
theorem dX8_measure_28 : decode cX8_measure 28 = .ok (.istore 5, 2) := by decide +kernel
theorem dX8_measure_30 : decode cX8_measure 30 = .ok (.iload 5, 2) := by decide +kernel
theorem dX8_measure_32 : decode cX8_measure 32 = .ok (.aload_n 0, 1) := by decide +kernel
theorem dX8_measure_33 : decode cX8_measure 33 = .ok (.getfield 68, 3) := by decide +kernel
theorem dX8_measure_36 : decode cX8_measure 36 = .ok (.if_icmp .ge 37, 3) := by decide +kernel
theorem dX8_measure_39 : decode cX8_measure 39 = .ok (.aload_n 0, 1) := by decide +kernel
theorem dX8_measure_40 : decode cX8_measure 40 = .ok (.iload_n 1, 1) := by decide +kernel
theorem dX8_measure_41 : decode cX8_measure 41 = .ok (.iload 5, 2) := by decide +kernel
theorem dX8_measure_43 : decode cX8_measure 43 = .ok (.invokevirtual 122, 3) := by decide +kernel
theorem dX8_measure_46 : decode cX8_measure 46 = .ok (.invokestatic 149, 3) := by decide +kernel
theorem dX8_measure_49 : decode cX8_measure 49 = .ok (.iconst 1, 1) := by decide +kernel
theorem dX8_measure_50 : decode cX8_measure 50 = .ok (.isub, 1) := by decide +kernel
theorem dX8_measure_51 : decode cX8_measure 51 = .ok (.istore 6, 2) := by decide +kernel
theorem dX8_measure_53 : decode cX8_measure 53 = .ok (.iload 6, 2) := by decide +kernel
theorem dX8_measure_55 : decode cX8_measure 55 = .ok (.iload 4, 2) := by decide +kernel
theorem dX8_measure_57 : decode cX8_measure 57 = .ok (.if_icmp .le 10, 3) := by decide +kernel
theorem dX8_measure_60 : decode cX8_measure 60 = .ok (.iload 6, 2) := by decide +kernel
theorem dX8_measure_62 : decode cX8_measure 62 = .ok (.istore 4, 2) := by decide +kernel
theorem dX8_measure_64 : decode cX8_measure 64 = .ok (.iload 5, 2) := by decide +kernel
theorem dX8_measure_66 : decode cX8_measure 66 = .ok (.istore_n 3, 1) := by decide +kernel
theorem dX8_measure_67 : decode cX8_measure 67 = .ok (.iinc 5 1, 3) := by decide +kernel
theorem dX8_measure_70 : decode cX8_measure 70 = .ok (.goto (-40), 3) := by decide +kernel
theorem dX8_measure_73 : decode cX8_measure 73 = .ok (.iload_n 2, 1) := by decide +kernel
theorem dX8_measure_74 : decode cX8_measure 74 = .ok (.ifCond .ne 7, 3) := by decide +kernel
theorem dX8_measure_77 : decode cX8_measure 77 = .ok (.iload_n 3, 1) := by decide +kernel
theorem dX8_measure_78 : decode cX8_measure 78 = .ok (.goto 5, 3) := by decide +kernel
theorem dX8_measure_81 : decode cX8_measure 81 = .ok (.iload 4, 2) := by decide +kernel
theorem dX8_measure_83 : decode cX8_measure 83 = .ok (.ireturn, 1) := by decide +kernel
theorem dX8_greatest_0 : decode cX8_greatest 0 = .ok (.aload_n 0, 1) := by decide +kernel
theorem dX8_greatest_1 : decode cX8_greatest 1 = .ok (.getfield 25, 3) := by decide +kernel
theorem dX8_greatest_4 : decode cX8_greatest 4 = .ok (.iload_n 1, 1) := by decide +kernel
theorem dX8_greatest_5 : decode cX8_greatest 5 = .ok (.iaload, 1) := by decide +kernel
theorem dX8_greatest_6 : decode cX8_greatest 6 = .ok (.iconst 2, 1) := by decide +kernel
theorem dX8_greatest_7 : decode cX8_greatest 7 = .ok (.if_icmp .ne 17, 3) := by decide +kernel
theorem dX8_greatest_10 : decode cX8_greatest 10 = .ok (.iload_n 2, 1) := by decide +kernel
theorem dX8_greatest_11 : decode cX8_greatest 11 = .ok (.iload_n 2, 1) := by decide +kernel
theorem dX8_greatest_12 : decode cX8_greatest 12 = .ok (.iconst 1, 1) := by decide +kernel
theorem dX8_greatest_13 : decode cX8_greatest 13 = .ok (.isub, 1) := by decide +kernel
theorem dX8_greatest_14 : decode cX8_greatest 14 = .ok (.aload_n 0, 1) := by decide +kernel
theorem dX8_greatest_15 : decode cX8_greatest 15 = .ok (.iload_n 1, 1) := by decide +kernel
theorem dX8_greatest_16 : decode cX8_greatest 16 = .ok (.invokevirtual 110, 3) := by decide +kernel
theorem dX8_greatest_19 : decode cX8_greatest 19 = .ok (.idiv, 1) := by decide +kernel
theorem dX8_greatest_20 : decode cX8_greatest 20 = .ok (.iadd, 1) := by decide +kernel
theorem dX8_greatest_21 : decode cX8_greatest 21 = .ok (.goto 12, 3) := by decide +kernel
theorem dX8_greatest_24 : decode cX8_greatest 24 = .ok (.iload_n 2, 1) := by decide +kernel
theorem dX8_greatest_25 : decode cX8_greatest 25 = .ok (.iload_n 2, 1) := by decide +kernel
theorem dX8_greatest_26 : decode cX8_greatest 26 = .ok (.aload_n 0, 1) := by decide +kernel
theorem dX8_greatest_27 : decode cX8_greatest 27 = .ok (.iload_n 1, 1) := by decide +kernel
theorem dX8_greatest_28 : decode cX8_greatest 28 = .ok (.invokevirtual 110, 3) := by decide +kernel
theorem dX8_greatest_31 : decode cX8_greatest 31 = .ok (.idiv, 1) := by decide +kernel
theorem dX8_greatest_32 : decode cX8_greatest 32 = .ok (.iadd, 1) := by decide +kernel
theorem dX8_greatest_33 : decode cX8_greatest 33 = .ok (.ireturn, 1) := by decide +kernel
theorem dX8_least_0 : decode cX8_least 0 = .ok (.aload_n 0, 1) := by decide +kernel
theorem dX8_least_1 : decode cX8_least 1 = .ok (.iload_n 1, 1) := by decide +kernel
theorem dX8_least_2 : decode cX8_least 2 = .ok (.invokevirtual 110, 3) := by decide +kernel
theorem dX8_least_5 : decode cX8_least 5 = .ok (.iconst 1, 1) := by decide +kernel
theorem dX8_least_6 : decode cX8_least 6 = .ok (.iadd, 1) := by decide +kernel
theorem dX8_least_7 : decode cX8_least 7 = .ok (.istore_n 3, 1) := by decide +kernel
theorem dX8_least_8 : decode cX8_least 8 = .ok (.iload_n 2, 1) := by decide +kernel
theorem dX8_least_9 : decode cX8_least 9 = .ok (.aload_n 0, 1) := by decide +kernel
theorem dX8_least_10 : decode cX8_least 10 = .ok (.iload_n 1, 1) := by decide +kernel
theorem dX8_least_11 : decode cX8_least 11 = .ok (.invokevirtual 110, 3) := by decide +kernel
theorem dX8_least_14 : decode cX8_least 14 = .ok (.imul, 1) := by decide +kernel
theorem dX8_least_15 : decode cX8_least 15 = .ok (.istore 4, 2) := by decide +kernel
theorem dX8_least_17 : decode cX8_least 17 = .ok (.aload_n 0, 1) := by decide +kernel
theorem dX8_least_18 : decode cX8_least 18 = .ok (.getfield 25, 3) := by decide +kernel
theorem dX8_least_21 : decode cX8_least 21 = .ok (.iload_n 1, 1) := by decide +kernel
theorem dX8_least_22 : decode cX8_least 22 = .ok (.iaload, 1) := by decide +kernel
theorem dX8_least_23 : decode cX8_least 23 = .ok (.iconst 2, 1) := by decide +kernel
theorem dX8_least_24 : decode cX8_least 24 = .ok (.if_icmp .ne 12, 3) := by decide +kernel
theorem dX8_least_27 : decode cX8_least 27 = .ok (.iload 4, 2) := by decide +kernel
theorem dX8_least_29 : decode cX8_least 29 = .ok (.iload_n 3, 1) := by decide +kernel
theorem dX8_least_30 : decode cX8_least 30 = .ok (.idiv, 1) := by decide +kernel
theorem dX8_least_31 : decode cX8_least 31 = .ok (.iconst 1, 1) := by decide +kernel
theorem dX8_least_32 : decode cX8_least 32 = .ok (.iadd, 1) := by decide +kernel
theorem dX8_least_33 : decode cX8_least 33 = .ok (.goto 11, 3) := by decide +kernel
theorem dX8_least_36 : decode cX8_least 36 = .ok (.iload 4, 2) := by decide +kernel
theorem dX8_least_38 : decode cX8_least 38 = .ok (.iload_n 3, 1) := by decide +kernel
theorem dX8_least_39 : decode cX8_least 39 = .ok (.iadd, 1) := by decide +kernel
theorem dX8_least_40 : decode cX8_least 40 = .ok (.iconst 1, 1) := by decide +kernel
theorem dX8_least_41 : decode cX8_least 41 = .ok (.isub, 1) := by decide +kernel
theorem dX8_least_42 : decode cX8_least 42 = .ok (.iload_n 3, 1) := by decide +kernel
theorem dX8_least_43 : decode cX8_least 43 = .ok (.idiv, 1) := by decide +kernel
theorem dX8_least_44 : decode cX8_least 44 = .ok (.istore 5, 2) := by decide +kernel
theorem dX8_least_46 : decode cX8_least 46 = .ok (.iload 5, 2) := by decide +kernel
theorem dX8_least_48 : decode cX8_least 48 = .ok (.iconst 1, 1) := by decide +kernel
theorem dX8_least_49 : decode cX8_least 49 = .ok (.if_icmp .ge 7, 3) := by decide +kernel
theorem dX8_least_52 : decode cX8_least 52 = .ok (.iconst 1, 1) := by decide +kernel
theorem dX8_least_53 : decode cX8_least 53 = .ok (.goto 5, 3) := by decide +kernel
theorem dX8_least_56 : decode cX8_least 56 = .ok (.iload 5, 2) := by decide +kernel
theorem dX8_least_58 : decode cX8_least 58 = .ok (.ireturn, 1) := by decide +kernel
theorem dX8_copied_0 : decode cX8_copied 0 = .ok (.iload_n 1, 1) := by decide +kernel
theorem dX8_copied_1 : decode cX8_copied 1 = .ok (.istore 4, 2) := by decide +kernel
theorem dX8_copied_3 : decode cX8_copied 3 = .ok (.iload_n 1, 1) := by decide +kernel
theorem dX8_copied_4 : decode cX8_copied 4 = .ok (.istore 5, 2) := by decide +kernel
theorem dX8_copied_6 : decode cX8_copied 6 = .ok (.iconst 0, 1) := by decide +kernel
theorem dX8_copied_7 : decode cX8_copied 7 = .ok (.istore 6, 2) := by decide +kernel
theorem dX8_copied_9 : decode cX8_copied 9 = .ok (.iload 6, 2) := by decide +kernel
theorem dX8_copied_11 : decode cX8_copied 11 = .ok (.iload_n 2, 1) := by decide +kernel
theorem dX8_copied_12 : decode cX8_copied 12 = .ok (.if_icmp .ge 39, 3) := by decide +kernel
theorem dX8_copied_15 : decode cX8_copied 15 = .ok (.aload_n 0, 1) := by decide +kernel
theorem dX8_copied_16 : decode cX8_copied 16 = .ok (.aload_n 0, 1) := by decide +kernel
theorem dX8_copied_17 : decode cX8_copied 17 = .ok (.getfield 52, 3) := by decide +kernel
theorem dX8_copied_20 : decode cX8_copied 20 = .ok (.iload 6, 2) := by decide +kernel
theorem dX8_copied_22 : decode cX8_copied 22 = .ok (.iaload, 1) := by decide +kernel
theorem dX8_copied_23 : decode cX8_copied 23 = .ok (.iload 4, 2) := by decide +kernel
theorem dX8_copied_25 : decode cX8_copied 25 = .ok (.invokevirtual 156, 3) := by decide +kernel
theorem dX8_copied_28 : decode cX8_copied 28 = .ok (.istore 4, 2) := by decide +kernel
theorem dX8_copied_30 : decode cX8_copied 30 = .ok (.aload_n 0, 1) := by decide +kernel
theorem dX8_copied_31 : decode cX8_copied 31 = .ok (.aload_n 0, 1) := by decide +kernel
theorem dX8_copied_32 : decode cX8_copied 32 = .ok (.getfield 52, 3) := by decide +kernel
theorem dX8_copied_35 : decode cX8_copied 35 = .ok (.iload 6, 2) := by decide +kernel
theorem dX8_copied_37 : decode cX8_copied 37 = .ok (.iaload, 1) := by decide +kernel
theorem dX8_copied_38 : decode cX8_copied 38 = .ok (.iload 5, 2) := by decide +kernel
theorem dX8_copied_40 : decode cX8_copied 40 = .ok (.invokevirtual 159, 3) := by decide +kernel
theorem dX8_copied_43 : decode cX8_copied 43 = .ok (.istore 5, 2) := by decide +kernel
theorem dX8_copied_45 : decode cX8_copied 45 = .ok (.iinc 6 1, 3) := by decide +kernel
theorem dX8_copied_48 : decode cX8_copied 48 = .ok (.goto (-39), 3) := by decide +kernel
theorem dX8_copied_51 : decode cX8_copied 51 = .ok (.iload_n 3, 1) := by decide +kernel
theorem dX8_copied_52 : decode cX8_copied 52 = .ok (.ifCond .ne 8, 3) := by decide +kernel
theorem dX8_copied_55 : decode cX8_copied 55 = .ok (.iload 4, 2) := by decide +kernel
theorem dX8_copied_57 : decode cX8_copied 57 = .ok (.goto 18, 3) := by decide +kernel
theorem dX8_copied_60 : decode cX8_copied 60 = .ok (.iload_n 3, 1) := by decide +kernel
theorem dX8_copied_61 : decode cX8_copied 61 = .ok (.iconst 1, 1) := by decide +kernel
theorem dX8_copied_62 : decode cX8_copied 62 = .ok (.if_icmp .ne 8, 3) := by decide +kernel
theorem dX8_copied_65 : decode cX8_copied 65 = .ok (.iload 5, 2) := by decide +kernel
theorem dX8_copied_67 : decode cX8_copied 67 = .ok (.goto 8, 3) := by decide +kernel
theorem dX8_copied_70 : decode cX8_copied 70 = .ok (.iload 4, 2) := by decide +kernel
theorem dX8_copied_72 : decode cX8_copied 72 = .ok (.iload 5, 2) := by decide +kernel
theorem dX8_copied_74 : decode cX8_copied 74 = .ok (.isub, 1) := by decide +kernel
theorem dX8_copied_75 : decode cX8_copied 75 = .ok (.ireturn, 1) := by decide +kernel
theorem dX8_layRow_0 : decode cX8_layRow 0 = .ok (.iload_n 3, 1) := by decide +kernel
theorem dX8_layRow_1 : decode cX8_layRow 1 = .ok (.iconst 1, 1) := by decide +kernel
theorem dX8_layRow_2 : decode cX8_layRow 2 = .ok (.iconst 5, 1) := by decide +kernel
theorem dX8_layRow_3 : decode cX8_layRow 3 = .ok (.invokestatic 64, 3) := by decide +kernel
theorem dX8_layRow_6 : decode cX8_layRow 6 = .ok (.ifCond .ne 6, 3) := by decide +kernel
theorem dX8_layRow_9 : decode cX8_layRow 9 = .ok (.bipush (-2), 2) := by decide +kernel
theorem dX8_layRow_11 : decode cX8_layRow 11 = .ok (.ireturn, 1) := by decide +kernel
theorem dX8_layRow_12 : decode cX8_layRow 12 = .ok (.bipush 40, 2) := by decide +kernel
theorem dX8_layRow_14 : decode cX8_layRow 14 = .ok (.iload_n 1, 1) := by decide +kernel
theorem dX8_layRow_15 : decode cX8_layRow 15 = .ok (.imul, 1) := by decide +kernel
theorem dX8_layRow_16 : decode cX8_layRow 16 = .ok (.iload_n 2, 1) := by decide +kernel
theorem dX8_layRow_17 : decode cX8_layRow 17 = .ok (.iadd, 1) := by decide +kernel
theorem dX8_layRow_18 : decode cX8_layRow 18 = .ok (.istore 4, 2) := by decide +kernel
theorem dX8_layRow_20 : decode cX8_layRow 20 = .ok (.iconst 0, 1) := by decide +kernel
theorem dX8_layRow_21 : decode cX8_layRow 21 = .ok (.istore 5, 2) := by decide +kernel
theorem dX8_layRow_23 : decode cX8_layRow 23 = .ok (.iload 5, 2) := by decide +kernel
theorem dX8_layRow_25 : decode cX8_layRow 25 = .ok (.iload_n 3, 1) := by decide +kernel
theorem dX8_layRow_26 : decode cX8_layRow 26 = .ok (.if_icmp .ge 45, 3) := by decide +kernel
theorem dX8_layRow_29 : decode cX8_layRow 29 = .ok (.aload_n 0, 1) := by decide +kernel
theorem dX8_layRow_30 : decode cX8_layRow 30 = .ok (.aload_n 0, 1) := by decide +kernel
theorem dX8_layRow_31 : decode cX8_layRow 31 = .ok (.getfield 16, 3) := by decide +kernel
theorem dX8_layRow_34 : decode cX8_layRow 34 = .ok (.iload 4, 2) := by decide +kernel
theorem dX8_layRow_36 : decode cX8_layRow 36 = .ok (.iload 5, 2) := by decide +kernel
theorem dX8_layRow_38 : decode cX8_layRow 38 = .ok (.iadd, 1) := by decide +kernel
theorem dX8_layRow_39 : decode cX8_layRow 39 = .ok (.iaload, 1) := by decide +kernel
theorem dX8_layRow_40 : decode cX8_layRow 40 = .ok (.invokevirtual 107, 3) := by decide +kernel
theorem dX8_layRow_43 : decode cX8_layRow 43 = .ok (.ifCond .ne 5, 3) := by decide +kernel
theorem dX8_layRow_46 : decode cX8_layRow 46 = .ok (.iconst (-1), 1) := by decide +kernel
theorem dX8_layRow_47 : decode cX8_layRow 47 = .ok (.ireturn, 1) := by decide +kernel
theorem dX8_layRow_48 : decode cX8_layRow 48 = .ok (.aload_n 0, 1) := by decide +kernel
theorem dX8_layRow_49 : decode cX8_layRow 49 = .ok (.getfield 52, 3) := by decide +kernel
theorem dX8_layRow_52 : decode cX8_layRow 52 = .ok (.iload 5, 2) := by decide +kernel
theorem dX8_layRow_54 : decode cX8_layRow 54 = .ok (.aload_n 0, 1) := by decide +kernel
theorem dX8_layRow_55 : decode cX8_layRow 55 = .ok (.getfield 16, 3) := by decide +kernel
theorem dX8_layRow_58 : decode cX8_layRow 58 = .ok (.iload 4, 2) := by decide +kernel
theorem dX8_layRow_60 : decode cX8_layRow 60 = .ok (.iload 5, 2) := by decide +kernel
theorem dX8_layRow_62 : decode cX8_layRow 62 = .ok (.iadd, 1) := by decide +kernel
theorem dX8_layRow_63 : decode cX8_layRow 63 = .ok (.iaload, 1) := by decide +kernel
theorem dX8_layRow_64 : decode cX8_layRow 64 = .ok (.iastore, 1) := by decide +kernel
theorem dX8_layRow_65 : decode cX8_layRow 65 = .ok (.iinc 5 1, 3) := by decide +kernel
theorem dX8_layRow_68 : decode cX8_layRow 68 = .ok (.goto (-45), 3) := by decide +kernel
theorem dX8_layRow_71 : decode cX8_layRow 71 = .ok (.iconst 0, 1) := by decide +kernel
theorem dX8_layRow_72 : decode cX8_layRow 72 = .ok (.ireturn, 1) := by decide +kernel
theorem dX8_copies_0 : decode cX8_copies 0 = .ok (.aload_n 0, 1) := by decide +kernel
theorem dX8_copies_1 : decode cX8_copies 1 = .ok (.iconst 0, 1) := by decide +kernel
theorem dX8_copies_2 : decode cX8_copies 2 = .ok (.putfield 58, 3) := by decide +kernel
theorem dX8_copies_5 : decode cX8_copies 5 = .ok (.iload_n 2, 1) := by decide +kernel
theorem dX8_copies_6 : decode cX8_copies 6 = .ok (.invokestatic 71, 3) := by decide +kernel
theorem dX8_copies_9 : decode cX8_copies 9 = .ok (.ifCond .ne 5, 3) := by decide +kernel
theorem dX8_copies_12 : decode cX8_copies 12 = .ok (.iconst (-1), 1) := by decide +kernel
theorem dX8_copies_13 : decode cX8_copies 13 = .ok (.ireturn, 1) := by decide +kernel
theorem dX8_copies_14 : decode cX8_copies 14 = .ok (.iload_n 3, 1) := by decide +kernel
theorem dX8_copies_15 : decode cX8_copies 15 = .ok (.invokestatic 75, 3) := by decide +kernel
theorem dX8_copies_18 : decode cX8_copies 18 = .ok (.ifCond .eq 20, 3) := by decide +kernel
theorem dX8_copies_21 : decode cX8_copies 21 = .ok (.iload_n 1, 1) := by decide +kernel
theorem dX8_copies_22 : decode cX8_copies 22 = .ok (.invokestatic 104, 3) := by decide +kernel
theorem dX8_copies_25 : decode cX8_copies 25 = .ok (.ifCond .eq 13, 3) := by decide +kernel
theorem dX8_copies_28 : decode cX8_copies 28 = .ok (.iload 6, 2) := by decide +kernel
theorem dX8_copies_30 : decode cX8_copies 30 = .ok (.iconst 0, 1) := by decide +kernel
theorem dX8_copies_31 : decode cX8_copies 31 = .ok (.iconst 1, 1) := by decide +kernel
theorem dX8_copies_32 : decode cX8_copies 32 = .ok (.invokestatic 64, 3) := by decide +kernel
theorem dX8_copies_35 : decode cX8_copies 35 = .ok (.ifCond .ne 6, 3) := by decide +kernel
theorem dX8_copies_38 : decode cX8_copies 38 = .ok (.bipush (-2), 2) := by decide +kernel
theorem dX8_copies_40 : decode cX8_copies 40 = .ok (.ireturn, 1) := by decide +kernel
theorem dX8_copies_41 : decode cX8_copies 41 = .ok (.aload_n 0, 1) := by decide +kernel
theorem dX8_copies_42 : decode cX8_copies 42 = .ok (.iload_n 2, 1) := by decide +kernel
theorem dX8_copies_43 : decode cX8_copies 43 = .ok (.iload_n 3, 1) := by decide +kernel
theorem dX8_copies_44 : decode cX8_copies 44 = .ok (.iload 4, 2) := by decide +kernel
theorem dX8_copies_46 : decode cX8_copies 46 = .ok (.iload 5, 2) := by decide +kernel
theorem dX8_copies_48 : decode cX8_copies 48 = .ok (.invokevirtual 78, 3) := by decide +kernel
theorem dX8_copies_51 : decode cX8_copies 51 = .ok (.istore 7, 2) := by decide +kernel
theorem dX8_copies_53 : decode cX8_copies 53 = .ok (.iload 7, 2) := by decide +kernel
theorem dX8_copies_55 : decode cX8_copies 55 = .ok (.ifCond .eq 10, 3) := by decide +kernel
theorem dX8_copies_58 : decode cX8_copies 58 = .ok (.aload_n 0, 1) := by decide +kernel
theorem dX8_copies_59 : decode cX8_copies 59 = .ok (.iload 7, 2) := by decide +kernel
theorem dX8_copies_61 : decode cX8_copies 61 = .ok (.invokevirtual 82, 3) := by decide +kernel
theorem dX8_copies_64 : decode cX8_copies 64 = .ok (.ireturn, 1) := by decide +kernel
theorem dX8_copies_65 : decode cX8_copies 65 = .ok (.aload_n 0, 1) := by decide +kernel
theorem dX8_copies_66 : decode cX8_copies 66 = .ok (.iload_n 2, 1) := by decide +kernel
theorem dX8_copies_67 : decode cX8_copies 67 = .ok (.iload 4, 2) := by decide +kernel
theorem dX8_copies_69 : decode cX8_copies 69 = .ok (.iload 5, 2) := by decide +kernel
theorem dX8_copies_71 : decode cX8_copies 71 = .ok (.invokevirtual 162, 3) := by decide +kernel
theorem dX8_copies_74 : decode cX8_copies 74 = .ok (.istore 8, 2) := by decide +kernel
theorem dX8_copies_76 : decode cX8_copies 76 = .ok (.iload 8, 2) := by decide +kernel
theorem dX8_copies_78 : decode cX8_copies 78 = .ok (.ifCond .eq 8, 3) := by decide +kernel
theorem dX8_copies_81 : decode cX8_copies 81 = .ok (.iload 8, 2) := by decide +kernel
theorem dX8_copies_83 : decode cX8_copies 83 = .ok (.goto 12, 3) := by decide +kernel
theorem dX8_copies_86 : decode cX8_copies 86 = .ok (.aload_n 0, 1) := by decide +kernel
theorem dX8_copies_87 : decode cX8_copies 87 = .ok (.iload_n 1, 1) := by decide +kernel
theorem dX8_copies_88 : decode cX8_copies 88 = .ok (.iload 5, 2) := by decide +kernel
theorem dX8_copies_90 : decode cX8_copies 90 = .ok (.iload 6, 2) := by decide +kernel
theorem dX8_copies_92 : decode cX8_copies 92 = .ok (.invokevirtual 166, 3) := by decide +kernel
theorem dX8_copies_95 : decode cX8_copies 95 = .ok (.ireturn, 1) := by decide +kernel
theorem dX8_exchange_0 : decode cX8_exchange 0 = .ok (.aload_n 0, 1) := by decide +kernel
theorem dX8_exchange_1 : decode cX8_exchange 1 = .ok (.getfield 52, 3) := by decide +kernel
theorem dX8_exchange_4 : decode cX8_exchange 4 = .ok (.iload_n 1, 1) := by decide +kernel
theorem dX8_exchange_5 : decode cX8_exchange 5 = .ok (.iaload, 1) := by decide +kernel
theorem dX8_exchange_6 : decode cX8_exchange 6 = .ok (.istore_n 3, 1) := by decide +kernel
theorem dX8_exchange_7 : decode cX8_exchange 7 = .ok (.aload_n 0, 1) := by decide +kernel
theorem dX8_exchange_8 : decode cX8_exchange 8 = .ok (.getfield 52, 3) := by decide +kernel
theorem dX8_exchange_11 : decode cX8_exchange 11 = .ok (.iload_n 1, 1) := by decide +kernel
theorem dX8_exchange_12 : decode cX8_exchange 12 = .ok (.aload_n 0, 1) := by decide +kernel
theorem dX8_exchange_13 : decode cX8_exchange 13 = .ok (.getfield 52, 3) := by decide +kernel
theorem dX8_exchange_16 : decode cX8_exchange 16 = .ok (.iload_n 2, 1) := by decide +kernel
theorem dX8_exchange_17 : decode cX8_exchange 17 = .ok (.iaload, 1) := by decide +kernel
theorem dX8_exchange_18 : decode cX8_exchange 18 = .ok (.iastore, 1) := by decide +kernel
theorem dX8_exchange_19 : decode cX8_exchange 19 = .ok (.aload_n 0, 1) := by decide +kernel
theorem dX8_exchange_20 : decode cX8_exchange 20 = .ok (.getfield 52, 3) := by decide +kernel
theorem dX8_exchange_23 : decode cX8_exchange 23 = .ok (.iload_n 2, 1) := by decide +kernel
theorem dX8_exchange_24 : decode cX8_exchange 24 = .ok (.iload_n 3, 1) := by decide +kernel
theorem dX8_exchange_25 : decode cX8_exchange 25 = .ok (.iastore, 1) := by decide +kernel
theorem dX8_exchange_26 : decode cX8_exchange 26 = .ok (.return_, 1) := by decide +kernel
theorem dX8_nextRow_0 : decode cX8_nextRow 0 = .ok (.iload_n 1, 1) := by decide +kernel
theorem dX8_nextRow_1 : decode cX8_nextRow 1 = .ok (.iconst 2, 1) := by decide +kernel
theorem dX8_nextRow_2 : decode cX8_nextRow 2 = .ok (.isub, 1) := by decide +kernel
theorem dX8_nextRow_3 : decode cX8_nextRow 3 = .ok (.istore_n 2, 1) := by decide +kernel
theorem dX8_nextRow_4 : decode cX8_nextRow 4 = .ok (.iload_n 2, 1) := by decide +kernel
theorem dX8_nextRow_5 : decode cX8_nextRow 5 = .ok (.ifCond .lt 26, 3) := by decide +kernel
theorem dX8_nextRow_8 : decode cX8_nextRow 8 = .ok (.aload_n 0, 1) := by decide +kernel
theorem dX8_nextRow_9 : decode cX8_nextRow 9 = .ok (.getfield 52, 3) := by decide +kernel
theorem dX8_nextRow_12 : decode cX8_nextRow 12 = .ok (.iload_n 2, 1) := by decide +kernel
theorem dX8_nextRow_13 : decode cX8_nextRow 13 = .ok (.iaload, 1) := by decide +kernel
theorem dX8_nextRow_14 : decode cX8_nextRow 14 = .ok (.aload_n 0, 1) := by decide +kernel
theorem dX8_nextRow_15 : decode cX8_nextRow 15 = .ok (.getfield 52, 3) := by decide +kernel
theorem dX8_nextRow_18 : decode cX8_nextRow 18 = .ok (.iload_n 2, 1) := by decide +kernel
theorem dX8_nextRow_19 : decode cX8_nextRow 19 = .ok (.iconst 1, 1) := by decide +kernel
theorem dX8_nextRow_20 : decode cX8_nextRow 20 = .ok (.iadd, 1) := by decide +kernel
theorem dX8_nextRow_21 : decode cX8_nextRow 21 = .ok (.iaload, 1) := by decide +kernel
theorem dX8_nextRow_22 : decode cX8_nextRow 22 = .ok (.if_icmp .lt 9, 3) := by decide +kernel
theorem dX8_nextRow_25 : decode cX8_nextRow 25 = .ok (.iinc 2 (-1), 3) := by decide +kernel
theorem dX8_nextRow_28 : decode cX8_nextRow 28 = .ok (.goto (-24), 3) := by decide +kernel
theorem dX8_nextRow_31 : decode cX8_nextRow 31 = .ok (.iload_n 2, 1) := by decide +kernel
theorem dX8_nextRow_32 : decode cX8_nextRow 32 = .ok (.ifCond .ge 5, 3) := by decide +kernel
theorem dX8_nextRow_35 : decode cX8_nextRow 35 = .ok (.iconst 0, 1) := by decide +kernel
theorem dX8_nextRow_36 : decode cX8_nextRow 36 = .ok (.ireturn, 1) := by decide +kernel
theorem dX8_nextRow_37 : decode cX8_nextRow 37 = .ok (.iload_n 1, 1) := by decide +kernel
theorem dX8_nextRow_38 : decode cX8_nextRow 38 = .ok (.iconst 1, 1) := by decide +kernel
theorem dX8_nextRow_39 : decode cX8_nextRow 39 = .ok (.isub, 1) := by decide +kernel
theorem dX8_nextRow_40 : decode cX8_nextRow 40 = .ok (.istore_n 3, 1) := by decide +kernel
theorem dX8_nextRow_41 : decode cX8_nextRow 41 = .ok (.aload_n 0, 1) := by decide +kernel
theorem dX8_nextRow_42 : decode cX8_nextRow 42 = .ok (.getfield 52, 3) := by decide +kernel
theorem dX8_nextRow_45 : decode cX8_nextRow 45 = .ok (.iload_n 3, 1) := by decide +kernel
theorem dX8_nextRow_46 : decode cX8_nextRow 46 = .ok (.iaload, 1) := by decide +kernel
theorem dX8_nextRow_47 : decode cX8_nextRow 47 = .ok (.aload_n 0, 1) := by decide +kernel
theorem dX8_nextRow_48 : decode cX8_nextRow 48 = .ok (.getfield 52, 3) := by decide +kernel
theorem dX8_nextRow_51 : decode cX8_nextRow 51 = .ok (.iload_n 2, 1) := by decide +kernel
theorem dX8_nextRow_52 : decode cX8_nextRow 52 = .ok (.iaload, 1) := by decide +kernel
theorem dX8_nextRow_53 : decode cX8_nextRow 53 = .ok (.if_icmp .gt 9, 3) := by decide +kernel
theorem dX8_nextRow_56 : decode cX8_nextRow 56 = .ok (.iinc 3 (-1), 3) := by decide +kernel
theorem dX8_nextRow_59 : decode cX8_nextRow 59 = .ok (.goto (-18), 3) := by decide +kernel
theorem dX8_nextRow_62 : decode cX8_nextRow 62 = .ok (.aload_n 0, 1) := by decide +kernel
theorem dX8_nextRow_63 : decode cX8_nextRow 63 = .ok (.iload_n 2, 1) := by decide +kernel
theorem dX8_nextRow_64 : decode cX8_nextRow 64 = .ok (.iload_n 3, 1) := by decide +kernel
theorem dX8_nextRow_65 : decode cX8_nextRow 65 = .ok (.invokevirtual 169, 3) := by decide +kernel
theorem dX8_nextRow_68 : decode cX8_nextRow 68 = .ok (.iload_n 2, 1) := by decide +kernel
theorem dX8_nextRow_69 : decode cX8_nextRow 69 = .ok (.iconst 1, 1) := by decide +kernel
theorem dX8_nextRow_70 : decode cX8_nextRow 70 = .ok (.iadd, 1) := by decide +kernel
theorem dX8_nextRow_71 : decode cX8_nextRow 71 = .ok (.istore 4, 2) := by decide +kernel
theorem dX8_nextRow_73 : decode cX8_nextRow 73 = .ok (.iload_n 1, 1) := by decide +kernel
theorem dX8_nextRow_74 : decode cX8_nextRow 74 = .ok (.iconst 1, 1) := by decide +kernel
theorem dX8_nextRow_75 : decode cX8_nextRow 75 = .ok (.isub, 1) := by decide +kernel
theorem dX8_nextRow_76 : decode cX8_nextRow 76 = .ok (.istore 5, 2) := by decide +kernel
theorem dX8_nextRow_78 : decode cX8_nextRow 78 = .ok (.iload 4, 2) := by decide +kernel
theorem dX8_nextRow_80 : decode cX8_nextRow 80 = .ok (.iload 5, 2) := by decide +kernel
theorem dX8_nextRow_82 : decode cX8_nextRow 82 = .ok (.if_icmp .ge 20, 3) := by decide +kernel
theorem dX8_nextRow_85 : decode cX8_nextRow 85 = .ok (.aload_n 0, 1) := by decide +kernel
theorem dX8_nextRow_86 : decode cX8_nextRow 86 = .ok (.iload 4, 2) := by decide +kernel
theorem dX8_nextRow_88 : decode cX8_nextRow 88 = .ok (.iload 5, 2) := by decide +kernel
theorem dX8_nextRow_90 : decode cX8_nextRow 90 = .ok (.invokevirtual 169, 3) := by decide +kernel
theorem dX8_nextRow_93 : decode cX8_nextRow 93 = .ok (.iinc 4 1, 3) := by decide +kernel
theorem dX8_nextRow_96 : decode cX8_nextRow 96 = .ok (.iinc 5 (-1), 3) := by decide +kernel
theorem dX8_nextRow_99 : decode cX8_nextRow 99 = .ok (.goto (-21), 3) := by decide +kernel
theorem dX8_nextRow_102 : decode cX8_nextRow 102 = .ok (.iconst 1, 1) := by decide +kernel
theorem dX8_nextRow_103 : decode cX8_nextRow 103 = .ok (.ireturn, 1) := by decide +kernel
theorem dX8_findBestRow_0 : decode cX8_findBestRow 0 = .ok (.iconst 1, 1) := by decide +kernel
theorem dX8_findBestRow_1 : decode cX8_findBestRow 1 = .ok (.istore_n 3, 1) := by decide +kernel
theorem dX8_findBestRow_2 : decode cX8_findBestRow 2 = .ok (.iload_n 3, 1) := by decide +kernel
theorem dX8_findBestRow_3 : decode cX8_findBestRow 3 = .ok (.iload_n 2, 1) := by decide +kernel
theorem dX8_findBestRow_4 : decode cX8_findBestRow 4 = .ok (.if_icmp .ge 52, 3) := by decide +kernel
theorem dX8_findBestRow_7 : decode cX8_findBestRow 7 = .ok (.iload_n 3, 1) := by decide +kernel
theorem dX8_findBestRow_8 : decode cX8_findBestRow 8 = .ok (.istore 4, 2) := by decide +kernel
theorem dX8_findBestRow_10 : decode cX8_findBestRow 10 = .ok (.iload 4, 2) := by decide +kernel
theorem dX8_findBestRow_12 : decode cX8_findBestRow 12 = .ok (.ifCond .le 38, 3) := by decide +kernel
theorem dX8_findBestRow_15 : decode cX8_findBestRow 15 = .ok (.aload_n 0, 1) := by decide +kernel
theorem dX8_findBestRow_16 : decode cX8_findBestRow 16 = .ok (.getfield 52, 3) := by decide +kernel
theorem dX8_findBestRow_19 : decode cX8_findBestRow 19 = .ok (.iload 4, 2) := by decide +kernel
theorem dX8_findBestRow_21 : decode cX8_findBestRow 21 = .ok (.iaload, 1) := by decide +kernel
theorem dX8_findBestRow_22 : decode cX8_findBestRow 22 = .ok (.aload_n 0, 1) := by decide +kernel
theorem dX8_findBestRow_23 : decode cX8_findBestRow 23 = .ok (.getfield 52, 3) := by decide +kernel
theorem dX8_findBestRow_26 : decode cX8_findBestRow 26 = .ok (.iload 4, 2) := by decide +kernel
theorem dX8_findBestRow_28 : decode cX8_findBestRow 28 = .ok (.iconst 1, 1) := by decide +kernel
theorem dX8_findBestRow_29 : decode cX8_findBestRow 29 = .ok (.isub, 1) := by decide +kernel
theorem dX8_findBestRow_30 : decode cX8_findBestRow 30 = .ok (.iaload, 1) := by decide +kernel
theorem dX8_findBestRow_31 : decode cX8_findBestRow 31 = .ok (.if_icmp .ge 19, 3) := by decide +kernel
theorem dX8_findBestRow_34 : decode cX8_findBestRow 34 = .ok (.aload_n 0, 1) := by decide +kernel
theorem dX8_findBestRow_35 : decode cX8_findBestRow 35 = .ok (.iload 4, 2) := by decide +kernel
theorem dX8_findBestRow_37 : decode cX8_findBestRow 37 = .ok (.iload 4, 2) := by decide +kernel
theorem dX8_findBestRow_39 : decode cX8_findBestRow 39 = .ok (.iconst 1, 1) := by decide +kernel
theorem dX8_findBestRow_40 : decode cX8_findBestRow 40 = .ok (.isub, 1) := by decide +kernel
theorem dX8_findBestRow_41 : decode cX8_findBestRow 41 = .ok (.invokevirtual 169, 3) := by decide +kernel
theorem dX8_findBestRow_44 : decode cX8_findBestRow 44 = .ok (.iinc 4 (-1), 3) := by decide +kernel
theorem dX8_findBestRow_47 : decode cX8_findBestRow 47 = .ok (.goto (-37), 3) := by decide +kernel
theorem dX8_findBestRow_50 : decode cX8_findBestRow 50 = .ok (.iinc 3 1, 3) := by decide +kernel
theorem dX8_findBestRow_53 : decode cX8_findBestRow 53 = .ok (.goto (-51), 3) := by decide +kernel
theorem dX8_findBestRow_56 : decode cX8_findBestRow 56 = .ok (.bipush (-9), 2) := by decide +kernel
theorem dX8_findBestRow_58 : decode cX8_findBestRow 58 = .ok (.istore_n 3, 1) := by decide +kernel
theorem dX8_findBestRow_59 : decode cX8_findBestRow 59 = .ok (.iconst 1, 1) := by decide +kernel
theorem dX8_findBestRow_60 : decode cX8_findBestRow 60 = .ok (.istore 4, 2) := by decide +kernel
theorem dX8_findBestRow_62 : decode cX8_findBestRow 62 = .ok (.iload 4, 2) := by decide +kernel
theorem dX8_findBestRow_64 : decode cX8_findBestRow 64 = .ok (.ifCond .eq 66, 3) := by decide +kernel
theorem dX8_findBestRow_67 : decode cX8_findBestRow 67 = .ok (.aload_n 0, 1) := by decide +kernel
theorem dX8_findBestRow_68 : decode cX8_findBestRow 68 = .ok (.iload_n 1, 1) := by decide +kernel
theorem dX8_findBestRow_69 : decode cX8_findBestRow 69 = .ok (.iload_n 2, 1) := by decide +kernel
theorem dX8_findBestRow_70 : decode cX8_findBestRow 70 = .ok (.iconst 2, 1) := by decide +kernel
theorem dX8_findBestRow_71 : decode cX8_findBestRow 71 = .ok (.invokevirtual 166, 3) := by decide +kernel
theorem dX8_findBestRow_74 : decode cX8_findBestRow 74 = .ok (.istore 5, 2) := by decide +kernel
theorem dX8_findBestRow_76 : decode cX8_findBestRow 76 = .ok (.iload_n 3, 1) := by decide +kernel
theorem dX8_findBestRow_77 : decode cX8_findBestRow 77 = .ok (.bipush (-9), 2) := by decide +kernel
theorem dX8_findBestRow_79 : decode cX8_findBestRow 79 = .ok (.if_icmp .eq 9, 3) := by decide +kernel
theorem dX8_findBestRow_82 : decode cX8_findBestRow 82 = .ok (.iload 5, 2) := by decide +kernel
theorem dX8_findBestRow_84 : decode cX8_findBestRow 84 = .ok (.iload_n 3, 1) := by decide +kernel
theorem dX8_findBestRow_85 : decode cX8_findBestRow 85 = .ok (.if_icmp .ge 35, 3) := by decide +kernel
theorem dX8_findBestRow_88 : decode cX8_findBestRow 88 = .ok (.iload 5, 2) := by decide +kernel
theorem dX8_findBestRow_90 : decode cX8_findBestRow 90 = .ok (.istore_n 3, 1) := by decide +kernel
theorem dX8_findBestRow_91 : decode cX8_findBestRow 91 = .ok (.iconst 0, 1) := by decide +kernel
theorem dX8_findBestRow_92 : decode cX8_findBestRow 92 = .ok (.istore 6, 2) := by decide +kernel
theorem dX8_findBestRow_94 : decode cX8_findBestRow 94 = .ok (.iload 6, 2) := by decide +kernel
theorem dX8_findBestRow_96 : decode cX8_findBestRow 96 = .ok (.iload_n 2, 1) := by decide +kernel
theorem dX8_findBestRow_97 : decode cX8_findBestRow 97 = .ok (.if_icmp .ge 23, 3) := by decide +kernel
theorem dX8_findBestRow_100 : decode cX8_findBestRow 100 = .ok (.aload_n 0, 1) := by decide +kernel
theorem dX8_findBestRow_101 : decode cX8_findBestRow 101 = .ok (.getfield 55, 3) := by decide +kernel
theorem dX8_findBestRow_104 : decode cX8_findBestRow 104 = .ok (.iload 6, 2) := by decide +kernel
theorem dX8_findBestRow_106 : decode cX8_findBestRow 106 = .ok (.aload_n 0, 1) := by decide +kernel
theorem dX8_findBestRow_107 : decode cX8_findBestRow 107 = .ok (.getfield 52, 3) := by decide +kernel
theorem dX8_findBestRow_110 : decode cX8_findBestRow 110 = .ok (.iload 6, 2) := by decide +kernel
theorem dX8_findBestRow_112 : decode cX8_findBestRow 112 = .ok (.iaload, 1) := by decide +kernel
theorem dX8_findBestRow_113 : decode cX8_findBestRow 113 = .ok (.iastore, 1) := by decide +kernel
theorem dX8_findBestRow_114 : decode cX8_findBestRow 114 = .ok (.iinc 6 1, 3) := by decide +kernel
theorem dX8_findBestRow_117 : decode cX8_findBestRow 117 = .ok (.goto (-23), 3) := by decide +kernel
theorem dX8_findBestRow_120 : decode cX8_findBestRow 120 = .ok (.aload_n 0, 1) := by decide +kernel
theorem dX8_findBestRow_121 : decode cX8_findBestRow 121 = .ok (.iload_n 2, 1) := by decide +kernel
theorem dX8_findBestRow_122 : decode cX8_findBestRow 122 = .ok (.invokevirtual 172, 3) := by decide +kernel
theorem dX8_findBestRow_125 : decode cX8_findBestRow 125 = .ok (.istore 4, 2) := by decide +kernel
theorem dX8_findBestRow_127 : decode cX8_findBestRow 127 = .ok (.goto (-65), 3) := by decide +kernel
theorem dX8_findBestRow_130 : decode cX8_findBestRow 130 = .ok (.iload_n 3, 1) := by decide +kernel
theorem dX8_findBestRow_131 : decode cX8_findBestRow 131 = .ok (.ireturn, 1) := by decide +kernel
theorem dX8_bestRow_0 : decode cX8_bestRow 0 = .ok (.aload_n 0, 1) := by decide +kernel
theorem dX8_bestRow_1 : decode cX8_bestRow 1 = .ok (.iconst 0, 1) := by decide +kernel
theorem dX8_bestRow_2 : decode cX8_bestRow 2 = .ok (.putfield 58, 3) := by decide +kernel
theorem dX8_bestRow_5 : decode cX8_bestRow 5 = .ok (.iload_n 2, 1) := by decide +kernel
theorem dX8_bestRow_6 : decode cX8_bestRow 6 = .ok (.invokestatic 71, 3) := by decide +kernel
theorem dX8_bestRow_9 : decode cX8_bestRow 9 = .ok (.ifCond .ne 5, 3) := by decide +kernel
theorem dX8_bestRow_12 : decode cX8_bestRow 12 = .ok (.iconst (-1), 1) := by decide +kernel
theorem dX8_bestRow_13 : decode cX8_bestRow 13 = .ok (.ireturn, 1) := by decide +kernel
theorem dX8_bestRow_14 : decode cX8_bestRow 14 = .ok (.iload_n 3, 1) := by decide +kernel
theorem dX8_bestRow_15 : decode cX8_bestRow 15 = .ok (.invokestatic 75, 3) := by decide +kernel
theorem dX8_bestRow_18 : decode cX8_bestRow 18 = .ok (.ifCond .eq 10, 3) := by decide +kernel
theorem dX8_bestRow_21 : decode cX8_bestRow 21 = .ok (.iload_n 1, 1) := by decide +kernel
theorem dX8_bestRow_22 : decode cX8_bestRow 22 = .ok (.invokestatic 104, 3) := by decide +kernel
theorem dX8_bestRow_25 : decode cX8_bestRow 25 = .ok (.ifCond .ne 6, 3) := by decide +kernel
theorem dX8_bestRow_28 : decode cX8_bestRow 28 = .ok (.bipush (-2), 2) := by decide +kernel
theorem dX8_bestRow_30 : decode cX8_bestRow 30 = .ok (.ireturn, 1) := by decide +kernel
theorem dX8_bestRow_31 : decode cX8_bestRow 31 = .ok (.aload_n 0, 1) := by decide +kernel
theorem dX8_bestRow_32 : decode cX8_bestRow 32 = .ok (.iload_n 2, 1) := by decide +kernel
theorem dX8_bestRow_33 : decode cX8_bestRow 33 = .ok (.iload_n 3, 1) := by decide +kernel
theorem dX8_bestRow_34 : decode cX8_bestRow 34 = .ok (.iload 4, 2) := by decide +kernel
theorem dX8_bestRow_36 : decode cX8_bestRow 36 = .ok (.iload 5, 2) := by decide +kernel
theorem dX8_bestRow_38 : decode cX8_bestRow 38 = .ok (.invokevirtual 78, 3) := by decide +kernel
theorem dX8_bestRow_41 : decode cX8_bestRow 41 = .ok (.istore 7, 2) := by decide +kernel
theorem dX8_bestRow_43 : decode cX8_bestRow 43 = .ok (.iload 7, 2) := by decide +kernel
theorem dX8_bestRow_45 : decode cX8_bestRow 45 = .ok (.ifCond .eq 10, 3) := by decide +kernel
theorem dX8_bestRow_48 : decode cX8_bestRow 48 = .ok (.aload_n 0, 1) := by decide +kernel
theorem dX8_bestRow_49 : decode cX8_bestRow 49 = .ok (.iload 7, 2) := by decide +kernel
theorem dX8_bestRow_51 : decode cX8_bestRow 51 = .ok (.invokevirtual 82, 3) := by decide +kernel
theorem dX8_bestRow_54 : decode cX8_bestRow 54 = .ok (.ireturn, 1) := by decide +kernel
theorem dX8_bestRow_55 : decode cX8_bestRow 55 = .ok (.aload_n 0, 1) := by decide +kernel
theorem dX8_bestRow_56 : decode cX8_bestRow 56 = .ok (.iload_n 2, 1) := by decide +kernel
theorem dX8_bestRow_57 : decode cX8_bestRow 57 = .ok (.iload 4, 2) := by decide +kernel
theorem dX8_bestRow_59 : decode cX8_bestRow 59 = .ok (.iload 5, 2) := by decide +kernel
theorem dX8_bestRow_61 : decode cX8_bestRow 61 = .ok (.invokevirtual 162, 3) := by decide +kernel
theorem dX8_bestRow_64 : decode cX8_bestRow 64 = .ok (.istore 8, 2) := by decide +kernel
theorem dX8_bestRow_66 : decode cX8_bestRow 66 = .ok (.iload 8, 2) := by decide +kernel
theorem dX8_bestRow_68 : decode cX8_bestRow 68 = .ok (.ifCond .eq 6, 3) := by decide +kernel
theorem dX8_bestRow_71 : decode cX8_bestRow 71 = .ok (.iload 8, 2) := by decide +kernel
theorem dX8_bestRow_73 : decode cX8_bestRow 73 = .ok (.ireturn, 1) := by decide +kernel
theorem dX8_bestRow_74 : decode cX8_bestRow 74 = .ok (.iload 6, 2) := by decide +kernel
theorem dX8_bestRow_76 : decode cX8_bestRow 76 = .ok (.iconst (-1), 1) := by decide +kernel
theorem dX8_bestRow_77 : decode cX8_bestRow 77 = .ok (.iload 5, 2) := by decide +kernel
theorem dX8_bestRow_79 : decode cX8_bestRow 79 = .ok (.iconst 1, 1) := by decide +kernel
theorem dX8_bestRow_80 : decode cX8_bestRow 80 = .ok (.isub, 1) := by decide +kernel
theorem dX8_bestRow_81 : decode cX8_bestRow 81 = .ok (.invokestatic 64, 3) := by decide +kernel
theorem dX8_bestRow_84 : decode cX8_bestRow 84 = .ok (.ifCond .ne 5, 3) := by decide +kernel
theorem dX8_bestRow_87 : decode cX8_bestRow 87 = .ok (.iconst (-1), 1) := by decide +kernel
theorem dX8_bestRow_88 : decode cX8_bestRow 88 = .ok (.ireturn, 1) := by decide +kernel
theorem dX8_bestRow_89 : decode cX8_bestRow 89 = .ok (.aload_n 0, 1) := by decide +kernel
theorem dX8_bestRow_90 : decode cX8_bestRow 90 = .ok (.iload_n 1, 1) := by decide +kernel
theorem dX8_bestRow_91 : decode cX8_bestRow 91 = .ok (.iload 5, 2) := by decide +kernel
theorem dX8_bestRow_93 : decode cX8_bestRow 93 = .ok (.invokevirtual 175, 3) := by decide +kernel
theorem dX8_bestRow_96 : decode cX8_bestRow 96 = .ok (.istore 9, 2) := by decide +kernel
theorem dX8_bestRow_98 : decode cX8_bestRow 98 = .ok (.iload 6, 2) := by decide +kernel
theorem dX8_bestRow_100 : decode cX8_bestRow 100 = .ok (.iconst (-1), 1) := by decide +kernel
theorem dX8_bestRow_101 : decode cX8_bestRow 101 = .ok (.if_icmp .ne 8, 3) := by decide +kernel
theorem dX8_bestRow_104 : decode cX8_bestRow 104 = .ok (.iload 9, 2) := by decide +kernel
theorem dX8_bestRow_106 : decode cX8_bestRow 106 = .ok (.goto 10, 3) := by decide +kernel
theorem dX8_bestRow_109 : decode cX8_bestRow 109 = .ok (.aload_n 0, 1) := by decide +kernel
theorem dX8_bestRow_110 : decode cX8_bestRow 110 = .ok (.getfield 55, 3) := by decide +kernel
theorem dX8_bestRow_113 : decode cX8_bestRow 113 = .ok (.iload 6, 2) := by decide +kernel
theorem dX8_bestRow_115 : decode cX8_bestRow 115 = .ok (.iaload, 1) := by decide +kernel
theorem dX8_bestRow_116 : decode cX8_bestRow 116 = .ok (.ireturn, 1) := by decide +kernel
theorem dX8_sumOf_0 : decode cX8_sumOf 0 = .ok (.iconst 0, 1) := by decide +kernel
theorem dX8_sumOf_1 : decode cX8_sumOf 1 = .ok (.istore_n 2, 1) := by decide +kernel
theorem dX8_sumOf_2 : decode cX8_sumOf 2 = .ok (.iconst 0, 1) := by decide +kernel
theorem dX8_sumOf_3 : decode cX8_sumOf 3 = .ok (.istore_n 3, 1) := by decide +kernel
theorem dX8_sumOf_4 : decode cX8_sumOf 4 = .ok (.iload_n 3, 1) := by decide +kernel
theorem dX8_sumOf_5 : decode cX8_sumOf 5 = .ok (.aload_n 0, 1) := by decide +kernel
theorem dX8_sumOf_6 : decode cX8_sumOf 6 = .ok (.getfield 68, 3) := by decide +kernel
theorem dX8_sumOf_9 : decode cX8_sumOf 9 = .ok (.if_icmp .ge 31, 3) := by decide +kernel
theorem dX8_sumOf_12 : decode cX8_sumOf 12 = .ok (.iload_n 2, 1) := by decide +kernel
theorem dX8_sumOf_13 : decode cX8_sumOf 13 = .ok (.iload_n 1, 1) := by decide +kernel
theorem dX8_sumOf_14 : decode cX8_sumOf 14 = .ok (.iload_n 3, 1) := by decide +kernel
theorem dX8_sumOf_15 : decode cX8_sumOf 15 = .ok (.ishr, 1) := by decide +kernel
theorem dX8_sumOf_16 : decode cX8_sumOf 16 = .ok (.iconst 1, 1) := by decide +kernel
theorem dX8_sumOf_17 : decode cX8_sumOf 17 = .ok (.iand, 1) := by decide +kernel
theorem dX8_sumOf_18 : decode cX8_sumOf 18 = .ok (.iconst 1, 1) := by decide +kernel
theorem dX8_sumOf_19 : decode cX8_sumOf 19 = .ok (.if_icmp .ne 12, 3) := by decide +kernel
theorem dX8_sumOf_22 : decode cX8_sumOf 22 = .ok (.aload_n 0, 1) := by decide +kernel
theorem dX8_sumOf_23 : decode cX8_sumOf 23 = .ok (.getfield 19, 3) := by decide +kernel
theorem dX8_sumOf_26 : decode cX8_sumOf 26 = .ok (.iload_n 3, 1) := by decide +kernel
theorem dX8_sumOf_27 : decode cX8_sumOf 27 = .ok (.iaload, 1) := by decide +kernel
theorem dX8_sumOf_28 : decode cX8_sumOf 28 = .ok (.goto 4, 3) := by decide +kernel
theorem dX8_sumOf_31 : decode cX8_sumOf 31 = .ok (.iconst 0, 1) := by decide +kernel
theorem dX8_sumOf_32 : decode cX8_sumOf 32 = .ok (.iadd, 1) := by decide +kernel
theorem dX8_sumOf_33 : decode cX8_sumOf 33 = .ok (.istore_n 2, 1) := by decide +kernel
theorem dX8_sumOf_34 : decode cX8_sumOf 34 = .ok (.iinc 3 1, 3) := by decide +kernel
theorem dX8_sumOf_37 : decode cX8_sumOf 37 = .ok (.goto (-33), 3) := by decide +kernel
theorem dX8_sumOf_40 : decode cX8_sumOf 40 = .ok (.iload_n 2, 1) := by decide +kernel
theorem dX8_sumOf_41 : decode cX8_sumOf 41 = .ok (.ireturn, 1) := by decide +kernel
theorem dX8_areEven_0 : decode cX8_areEven 0 = .ok (.aload_n 0, 1) := by decide +kernel
theorem dX8_areEven_1 : decode cX8_areEven 1 = .ok (.iload_n 1, 1) := by decide +kernel
theorem dX8_areEven_2 : decode cX8_areEven 2 = .ok (.aload_n 0, 1) := by decide +kernel
theorem dX8_areEven_3 : decode cX8_areEven 3 = .ok (.iload_n 2, 1) := by decide +kernel
theorem dX8_areEven_4 : decode cX8_areEven 4 = .ok (.invokevirtual 178, 3) := by decide +kernel
theorem dX8_areEven_7 : decode cX8_areEven 7 = .ok (.aload_n 0, 1) := by decide +kernel
theorem dX8_areEven_8 : decode cX8_areEven 8 = .ok (.iload_n 3, 1) := by decide +kernel
theorem dX8_areEven_9 : decode cX8_areEven 9 = .ok (.invokevirtual 178, 3) := by decide +kernel
theorem dX8_areEven_12 : decode cX8_areEven 12 = .ok (.invokevirtual 113, 3) := by decide +kernel
theorem dX8_areEven_15 : decode cX8_areEven 15 = .ok (.ifCond .ne 25, 3) := by decide +kernel
theorem dX8_areEven_18 : decode cX8_areEven 18 = .ok (.aload_n 0, 1) := by decide +kernel
theorem dX8_areEven_19 : decode cX8_areEven 19 = .ok (.iload_n 1, 1) := by decide +kernel
theorem dX8_areEven_20 : decode cX8_areEven 20 = .ok (.aload_n 0, 1) := by decide +kernel
theorem dX8_areEven_21 : decode cX8_areEven 21 = .ok (.iload_n 3, 1) := by decide +kernel
theorem dX8_areEven_22 : decode cX8_areEven 22 = .ok (.invokevirtual 178, 3) := by decide +kernel
theorem dX8_areEven_25 : decode cX8_areEven 25 = .ok (.aload_n 0, 1) := by decide +kernel
theorem dX8_areEven_26 : decode cX8_areEven 26 = .ok (.iload_n 2, 1) := by decide +kernel
theorem dX8_areEven_27 : decode cX8_areEven 27 = .ok (.invokevirtual 178, 3) := by decide +kernel
theorem dX8_areEven_30 : decode cX8_areEven 30 = .ok (.invokevirtual 113, 3) := by decide +kernel
theorem dX8_areEven_33 : decode cX8_areEven 33 = .ok (.ifCond .ne 7, 3) := by decide +kernel
theorem dX8_areEven_36 : decode cX8_areEven 36 = .ok (.iconst 1, 1) := by decide +kernel
theorem dX8_areEven_37 : decode cX8_areEven 37 = .ok (.goto 4, 3) := by decide +kernel
theorem dX8_areEven_40 : decode cX8_areEven 40 = .ok (.iconst 0, 1) := by decide +kernel
theorem dX8_areEven_41 : decode cX8_areEven 41 = .ok (.ireturn, 1) := by decide +kernel
theorem dX8_even_0 : decode cX8_even 0 = .ok (.aload_n 0, 1) := by decide +kernel
theorem dX8_even_1 : decode cX8_even 1 = .ok (.iload_n 1, 1) := by decide +kernel
theorem dX8_even_2 : decode cX8_even 2 = .ok (.invokevirtual 107, 3) := by decide +kernel
theorem dX8_even_5 : decode cX8_even 5 = .ok (.ifCond .ne 5, 3) := by decide +kernel
theorem dX8_even_8 : decode cX8_even 8 = .ok (.iconst (-1), 1) := by decide +kernel
theorem dX8_even_9 : decode cX8_even 9 = .ok (.ireturn, 1) := by decide +kernel
theorem dX8_even_10 : decode cX8_even 10 = .ok (.iload_n 2, 1) := by decide +kernel
theorem dX8_even_11 : decode cX8_even 11 = .ok (.iconst 0, 1) := by decide +kernel
theorem dX8_even_12 : decode cX8_even 12 = .ok (.iconst 1, 1) := by decide +kernel
theorem dX8_even_13 : decode cX8_even 13 = .ok (.invokestatic 64, 3) := by decide +kernel
theorem dX8_even_16 : decode cX8_even 16 = .ok (.ifCond .ne 6, 3) := by decide +kernel
theorem dX8_even_19 : decode cX8_even 19 = .ok (.bipush (-2), 2) := by decide +kernel
theorem dX8_even_21 : decode cX8_even 21 = .ok (.ireturn, 1) := by decide +kernel
theorem dX8_even_22 : decode cX8_even 22 = .ok (.bipush (-9), 2) := by decide +kernel
theorem dX8_even_24 : decode cX8_even 24 = .ok (.istore_n 3, 1) := by decide +kernel
theorem dX8_even_25 : decode cX8_even 25 = .ok (.bipush (-9), 2) := by decide +kernel
theorem dX8_even_27 : decode cX8_even 27 = .ok (.istore 4, 2) := by decide +kernel
theorem dX8_even_29 : decode cX8_even 29 = .ok (.iconst 0, 1) := by decide +kernel
theorem dX8_even_30 : decode cX8_even 30 = .ok (.istore 5, 2) := by decide +kernel
theorem dX8_even_32 : decode cX8_even 32 = .ok (.iconst 1, 1) := by decide +kernel
theorem dX8_even_33 : decode cX8_even 33 = .ok (.istore 6, 2) := by decide +kernel
theorem dX8_even_35 : decode cX8_even 35 = .ok (.iload 6, 2) := by decide +kernel
theorem dX8_even_37 : decode cX8_even 37 = .ok (.iconst 1, 1) := by decide +kernel
theorem dX8_even_38 : decode cX8_even 38 = .ok (.aload_n 0, 1) := by decide +kernel
theorem dX8_even_39 : decode cX8_even 39 = .ok (.getfield 68, 3) := by decide +kernel
theorem dX8_even_42 : decode cX8_even 42 = .ok (.ishl, 1) := by decide +kernel
theorem dX8_even_43 : decode cX8_even 43 = .ok (.if_icmp .ge 88, 3) := by decide +kernel
theorem dX8_even_46 : decode cX8_even 46 = .ok (.iload 6, 2) := by decide +kernel
theorem dX8_even_48 : decode cX8_even 48 = .ok (.iconst 1, 1) := by decide +kernel
theorem dX8_even_49 : decode cX8_even 49 = .ok (.iadd, 1) := by decide +kernel
theorem dX8_even_50 : decode cX8_even 50 = .ok (.istore 7, 2) := by decide +kernel
theorem dX8_even_52 : decode cX8_even 52 = .ok (.iload 7, 2) := by decide +kernel
theorem dX8_even_54 : decode cX8_even 54 = .ok (.iconst 1, 1) := by decide +kernel
theorem dX8_even_55 : decode cX8_even 55 = .ok (.aload_n 0, 1) := by decide +kernel
theorem dX8_even_56 : decode cX8_even 56 = .ok (.getfield 68, 3) := by decide +kernel
theorem dX8_even_59 : decode cX8_even 59 = .ok (.ishl, 1) := by decide +kernel
theorem dX8_even_60 : decode cX8_even 60 = .ok (.if_icmp .ge 65, 3) := by decide +kernel
theorem dX8_even_63 : decode cX8_even 63 = .ok (.iload 6, 2) := by decide +kernel
theorem dX8_even_65 : decode cX8_even 65 = .ok (.iload 7, 2) := by decide +kernel
theorem dX8_even_67 : decode cX8_even 67 = .ok (.iand, 1) := by decide +kernel
theorem dX8_even_68 : decode cX8_even 68 = .ok (.ifCond .ne 51, 3) := by decide +kernel
theorem dX8_even_71 : decode cX8_even 71 = .ok (.iload 6, 2) := by decide +kernel
theorem dX8_even_73 : decode cX8_even 73 = .ok (.invokestatic 149, 3) := by decide +kernel
theorem dX8_even_76 : decode cX8_even 76 = .ok (.iload 7, 2) := by decide +kernel
theorem dX8_even_78 : decode cX8_even 78 = .ok (.invokestatic 149, 3) := by decide +kernel
theorem dX8_even_81 : decode cX8_even 81 = .ok (.iadd, 1) := by decide +kernel
theorem dX8_even_82 : decode cX8_even 82 = .ok (.iload 5, 2) := by decide +kernel
theorem dX8_even_84 : decode cX8_even 84 = .ok (.if_icmp .le 35, 3) := by decide +kernel
theorem dX8_even_87 : decode cX8_even 87 = .ok (.aload_n 0, 1) := by decide +kernel
theorem dX8_even_88 : decode cX8_even 88 = .ok (.iload_n 1, 1) := by decide +kernel
theorem dX8_even_89 : decode cX8_even 89 = .ok (.iload 6, 2) := by decide +kernel
theorem dX8_even_91 : decode cX8_even 91 = .ok (.iload 7, 2) := by decide +kernel
theorem dX8_even_93 : decode cX8_even 93 = .ok (.invokevirtual 181, 3) := by decide +kernel
theorem dX8_even_96 : decode cX8_even 96 = .ok (.ifCond .eq 23, 3) := by decide +kernel
theorem dX8_even_99 : decode cX8_even 99 = .ok (.iload 6, 2) := by decide +kernel
theorem dX8_even_101 : decode cX8_even 101 = .ok (.invokestatic 149, 3) := by decide +kernel
theorem dX8_even_104 : decode cX8_even 104 = .ok (.iload 7, 2) := by decide +kernel
theorem dX8_even_106 : decode cX8_even 106 = .ok (.invokestatic 149, 3) := by decide +kernel
theorem dX8_even_109 : decode cX8_even 109 = .ok (.iadd, 1) := by decide +kernel
theorem dX8_even_110 : decode cX8_even 110 = .ok (.istore 5, 2) := by decide +kernel
theorem dX8_even_112 : decode cX8_even 112 = .ok (.iload 6, 2) := by decide +kernel
theorem dX8_even_114 : decode cX8_even 114 = .ok (.istore_n 3, 1) := by decide +kernel
theorem dX8_even_115 : decode cX8_even 115 = .ok (.iload 7, 2) := by decide +kernel
theorem dX8_even_117 : decode cX8_even 117 = .ok (.istore 4, 2) := by decide +kernel
theorem dX8_even_119 : decode cX8_even 119 = .ok (.iinc 7 1, 3) := by decide +kernel
theorem dX8_even_122 : decode cX8_even 122 = .ok (.goto (-70), 3) := by decide +kernel
theorem dX8_even_125 : decode cX8_even 125 = .ok (.iinc 6 1, 3) := by decide +kernel
theorem dX8_even_128 : decode cX8_even 128 = .ok (.goto (-93), 3) := by decide +kernel
theorem dX8_even_131 : decode cX8_even 131 = .ok (.iload_n 2, 1) := by decide +kernel
theorem dX8_even_132 : decode cX8_even 132 = .ok (.ifCond .ne 7, 3) := by decide +kernel
theorem dX8_even_135 : decode cX8_even 135 = .ok (.iload_n 3, 1) := by decide +kernel
theorem dX8_even_136 : decode cX8_even 136 = .ok (.goto 5, 3) := by decide +kernel
theorem dX8_even_139 : decode cX8_even 139 = .ok (.iload 4, 2) := by decide +kernel
theorem dX8_even_141 : decode cX8_even 141 = .ok (.ireturn, 1) := by decide +kernel
theorem dX8_odds_0 : decode cX8_odds 0 = .ok (.aload_n 0, 1) := by decide +kernel
theorem dX8_odds_1 : decode cX8_odds 1 = .ok (.iload_n 1, 1) := by decide +kernel
theorem dX8_odds_2 : decode cX8_odds 2 = .ok (.invokevirtual 107, 3) := by decide +kernel
theorem dX8_odds_5 : decode cX8_odds 5 = .ok (.ifCond .eq 12, 3) := by decide +kernel
theorem dX8_odds_8 : decode cX8_odds 8 = .ok (.iload_n 2, 1) := by decide +kernel
theorem dX8_odds_9 : decode cX8_odds 9 = .ok (.iconst 0, 1) := by decide +kernel
theorem dX8_odds_10 : decode cX8_odds 10 = .ok (.iconst 1, 1) := by decide +kernel
theorem dX8_odds_11 : decode cX8_odds 11 = .ok (.invokestatic 64, 3) := by decide +kernel
theorem dX8_odds_14 : decode cX8_odds 14 = .ok (.ifCond .ne 7, 3) := by decide +kernel
theorem dX8_odds_17 : decode cX8_odds 17 = .ok (.ldc2_w 62, 3) := by decide +kernel
theorem dX8_odds_20 : decode cX8_odds 20 = .ok (.lreturn, 1) := by decide +kernel
theorem dX8_odds_21 : decode cX8_odds 21 = .ok (.iconst 0, 1) := by decide +kernel
theorem dX8_odds_22 : decode cX8_odds 22 = .ok (.istore_n 3, 1) := by decide +kernel
theorem dX8_odds_23 : decode cX8_odds 23 = .ok (.iconst 0, 1) := by decide +kernel
theorem dX8_odds_24 : decode cX8_odds 24 = .ok (.istore 4, 2) := by decide +kernel
theorem dX8_odds_26 : decode cX8_odds 26 = .ok (.iload 4, 2) := by decide +kernel
theorem dX8_odds_28 : decode cX8_odds 28 = .ok (.aload_n 0, 1) := by decide +kernel
theorem dX8_odds_29 : decode cX8_odds 29 = .ok (.getfield 68, 3) := by decide +kernel
theorem dX8_odds_32 : decode cX8_odds 32 = .ok (.if_icmp .ge 45, 3) := by decide +kernel
theorem dX8_odds_35 : decode cX8_odds 35 = .ok (.iconst 0, 1) := by decide +kernel
theorem dX8_odds_36 : decode cX8_odds 36 = .ok (.istore 5, 2) := by decide +kernel
theorem dX8_odds_38 : decode cX8_odds 38 = .ok (.iload 5, 2) := by decide +kernel
theorem dX8_odds_40 : decode cX8_odds 40 = .ok (.iload 4, 2) := by decide +kernel
theorem dX8_odds_42 : decode cX8_odds 42 = .ok (.if_icmp .ge 29, 3) := by decide +kernel
theorem dX8_odds_45 : decode cX8_odds 45 = .ok (.iload_n 3, 1) := by decide +kernel
theorem dX8_odds_46 : decode cX8_odds 46 = .ok (.aload_n 0, 1) := by decide +kernel
theorem dX8_odds_47 : decode cX8_odds 47 = .ok (.iload_n 1, 1) := by decide +kernel
theorem dX8_odds_48 : decode cX8_odds 48 = .ok (.iload 4, 2) := by decide +kernel
theorem dX8_odds_50 : decode cX8_odds 50 = .ok (.iload 5, 2) := by decide +kernel
theorem dX8_odds_52 : decode cX8_odds 52 = .ok (.invokevirtual 119, 3) := by decide +kernel
theorem dX8_odds_55 : decode cX8_odds 55 = .ok (.ifCond .eq 7, 3) := by decide +kernel
theorem dX8_odds_58 : decode cX8_odds 58 = .ok (.iconst 0, 1) := by decide +kernel
theorem dX8_odds_59 : decode cX8_odds 59 = .ok (.goto 4, 3) := by decide +kernel
theorem dX8_odds_62 : decode cX8_odds 62 = .ok (.iconst 1, 1) := by decide +kernel
theorem dX8_odds_63 : decode cX8_odds 63 = .ok (.iadd, 1) := by decide +kernel
theorem dX8_odds_64 : decode cX8_odds 64 = .ok (.istore_n 3, 1) := by decide +kernel
theorem dX8_odds_65 : decode cX8_odds 65 = .ok (.iinc 5 1, 3) := by decide +kernel
theorem dX8_odds_68 : decode cX8_odds 68 = .ok (.goto (-30), 3) := by decide +kernel
theorem dX8_odds_71 : decode cX8_odds 71 = .ok (.iinc 4 1, 3) := by decide +kernel
theorem dX8_odds_74 : decode cX8_odds 74 = .ok (.goto (-48), 3) := by decide +kernel
theorem dX8_odds_77 : decode cX8_odds 77 = .ok (.iload_n 3, 1) := by decide +kernel
theorem dX8_odds_78 : decode cX8_odds 78 = .ok (.i2l, 1) := by decide +kernel
theorem dX8_odds_79 : decode cX8_odds 79 = .ok (.aload_n 0, 1) := by decide +kernel
theorem dX8_odds_80 : decode cX8_odds 80 = .ok (.getfield 68, 3) := by decide +kernel
theorem dX8_odds_83 : decode cX8_odds 83 = .ok (.aload_n 0, 1) := by decide +kernel
theorem dX8_odds_84 : decode cX8_odds 84 = .ok (.getfield 68, 3) := by decide +kernel
theorem dX8_odds_87 : decode cX8_odds 87 = .ok (.iconst 1, 1) := by decide +kernel
theorem dX8_odds_88 : decode cX8_odds 88 = .ok (.isub, 1) := by decide +kernel
theorem dX8_odds_89 : decode cX8_odds 89 = .ok (.imul, 1) := by decide +kernel
theorem dX8_odds_90 : decode cX8_odds 90 = .ok (.iconst 2, 1) := by decide +kernel
theorem dX8_odds_91 : decode cX8_odds 91 = .ok (.idiv, 1) := by decide +kernel
theorem dX8_odds_92 : decode cX8_odds 92 = .ok (.i2l, 1) := by decide +kernel
theorem dX8_odds_93 : decode cX8_odds 93 = .ok (.iload_n 2, 1) := by decide +kernel
theorem dX8_odds_94 : decode cX8_odds 94 = .ok (.invokestatic 184, 3) := by decide +kernel
theorem dX8_odds_97 : decode cX8_odds 97 = .ok (.lreturn, 1) := by decide +kernel
theorem dX8_sheet_0 : decode cX8_sheet 0 = .ok (.aload_n 0, 1) := by decide +kernel
theorem dX8_sheet_1 : decode cX8_sheet 1 = .ok (.iconst 0, 1) := by decide +kernel
theorem dX8_sheet_2 : decode cX8_sheet 2 = .ok (.putfield 58, 3) := by decide +kernel
theorem dX8_sheet_5 : decode cX8_sheet 5 = .ok (.iload_n 1, 1) := by decide +kernel
theorem dX8_sheet_6 : decode cX8_sheet 6 = .ok (.invokestatic 71, 3) := by decide +kernel
theorem dX8_sheet_9 : decode cX8_sheet 9 = .ok (.ifCond .ne 5, 3) := by decide +kernel
theorem dX8_sheet_12 : decode cX8_sheet 12 = .ok (.iconst (-1), 1) := by decide +kernel
theorem dX8_sheet_13 : decode cX8_sheet 13 = .ok (.ireturn, 1) := by decide +kernel
theorem dX8_sheet_14 : decode cX8_sheet 14 = .ok (.iload_n 2, 1) := by decide +kernel
theorem dX8_sheet_15 : decode cX8_sheet 15 = .ok (.invokestatic 75, 3) := by decide +kernel
theorem dX8_sheet_18 : decode cX8_sheet 18 = .ok (.ifCond .eq 9, 3) := by decide +kernel
theorem dX8_sheet_21 : decode cX8_sheet 21 = .ok (.iload_n 3, 1) := by decide +kernel
theorem dX8_sheet_22 : decode cX8_sheet 22 = .ok (.bipush 40, 2) := by decide +kernel
theorem dX8_sheet_24 : decode cX8_sheet 24 = .ok (.if_icmp .le 6, 3) := by decide +kernel
theorem dX8_sheet_27 : decode cX8_sheet 27 = .ok (.bipush (-2), 2) := by decide +kernel
theorem dX8_sheet_29 : decode cX8_sheet 29 = .ok (.ireturn, 1) := by decide +kernel
theorem dX8_sheet_30 : decode cX8_sheet 30 = .ok (.iload_n 3, 1) := by decide +kernel
theorem dX8_sheet_31 : decode cX8_sheet 31 = .ok (.ifCond .ge 9, 3) := by decide +kernel
theorem dX8_sheet_34 : decode cX8_sheet 34 = .ok (.aload_n 0, 1) := by decide +kernel
theorem dX8_sheet_35 : decode cX8_sheet 35 = .ok (.iconst 4, 1) := by decide +kernel
theorem dX8_sheet_36 : decode cX8_sheet 36 = .ok (.invokevirtual 82, 3) := by decide +kernel
theorem dX8_sheet_39 : decode cX8_sheet 39 = .ok (.ireturn, 1) := by decide +kernel
theorem dX8_sheet_40 : decode cX8_sheet 40 = .ok (.aload_n 0, 1) := by decide +kernel
theorem dX8_sheet_41 : decode cX8_sheet 41 = .ok (.getfield 9, 3) := by decide +kernel
theorem dX8_sheet_44 : decode cX8_sheet 44 = .ok (.iload_n 1, 1) := by decide +kernel
theorem dX8_sheet_45 : decode cX8_sheet 45 = .ok (.iload_n 2, 1) := by decide +kernel
theorem dX8_sheet_46 : decode cX8_sheet 46 = .ok (.iastore, 1) := by decide +kernel
theorem dX8_sheet_47 : decode cX8_sheet 47 = .ok (.aload_n 0, 1) := by decide +kernel
theorem dX8_sheet_48 : decode cX8_sheet 48 = .ok (.getfield 13, 3) := by decide +kernel
theorem dX8_sheet_51 : decode cX8_sheet 51 = .ok (.iload_n 1, 1) := by decide +kernel
theorem dX8_sheet_52 : decode cX8_sheet 52 = .ok (.iload_n 3, 1) := by decide +kernel
theorem dX8_sheet_53 : decode cX8_sheet 53 = .ok (.iastore, 1) := by decide +kernel
theorem dX8_sheet_54 : decode cX8_sheet 54 = .ok (.iconst 0, 1) := by decide +kernel
theorem dX8_sheet_55 : decode cX8_sheet 55 = .ok (.istore 4, 2) := by decide +kernel
theorem dX8_sheet_57 : decode cX8_sheet 57 = .ok (.iload 4, 2) := by decide +kernel
theorem dX8_sheet_59 : decode cX8_sheet 59 = .ok (.bipush 40, 2) := by decide +kernel
theorem dX8_sheet_61 : decode cX8_sheet 61 = .ok (.if_icmp .ge 22, 3) := by decide +kernel
theorem dX8_sheet_64 : decode cX8_sheet 64 = .ok (.aload_n 0, 1) := by decide +kernel
theorem dX8_sheet_65 : decode cX8_sheet 65 = .ok (.getfield 16, 3) := by decide +kernel
theorem dX8_sheet_68 : decode cX8_sheet 68 = .ok (.bipush 40, 2) := by decide +kernel
theorem dX8_sheet_70 : decode cX8_sheet 70 = .ok (.iload_n 1, 1) := by decide +kernel
theorem dX8_sheet_71 : decode cX8_sheet 71 = .ok (.imul, 1) := by decide +kernel
theorem dX8_sheet_72 : decode cX8_sheet 72 = .ok (.iload 4, 2) := by decide +kernel
theorem dX8_sheet_74 : decode cX8_sheet 74 = .ok (.iadd, 1) := by decide +kernel
theorem dX8_sheet_75 : decode cX8_sheet 75 = .ok (.iconst 0, 1) := by decide +kernel
theorem dX8_sheet_76 : decode cX8_sheet 76 = .ok (.iastore, 1) := by decide +kernel
theorem dX8_sheet_77 : decode cX8_sheet 77 = .ok (.iinc 4 1, 3) := by decide +kernel
theorem dX8_sheet_80 : decode cX8_sheet 80 = .ok (.goto (-23), 3) := by decide +kernel
theorem dX8_sheet_83 : decode cX8_sheet 83 = .ok (.iconst 1, 1) := by decide +kernel
theorem dX8_sheet_84 : decode cX8_sheet 84 = .ok (.ireturn, 1) := by decide +kernel
theorem dX8_lose_0 : decode cX8_lose 0 = .ok (.iload_n 1, 1) := by decide +kernel
theorem dX8_lose_1 : decode cX8_lose 1 = .ok (.invokestatic 71, 3) := by decide +kernel
theorem dX8_lose_4 : decode cX8_lose 4 = .ok (.ifCond .ne 5, 3) := by decide +kernel
theorem dX8_lose_7 : decode cX8_lose 7 = .ok (.iconst (-1), 1) := by decide +kernel
theorem dX8_lose_8 : decode cX8_lose 8 = .ok (.ireturn, 1) := by decide +kernel
theorem dX8_lose_9 : decode cX8_lose 9 = .ok (.aload_n 0, 1) := by decide +kernel
theorem dX8_lose_10 : decode cX8_lose 10 = .ok (.getfield 9, 3) := by decide +kernel
theorem dX8_lose_13 : decode cX8_lose 13 = .ok (.iload_n 1, 1) := by decide +kernel
theorem dX8_lose_14 : decode cX8_lose 14 = .ok (.iaload, 1) := by decide +kernel
theorem dX8_lose_15 : decode cX8_lose 15 = .ok (.bipush (-9), 2) := by decide +kernel
theorem dX8_lose_17 : decode cX8_lose 17 = .ok (.if_icmp .ne 7, 3) := by decide +kernel
theorem dX8_lose_20 : decode cX8_lose 20 = .ok (.iconst 0, 1) := by decide +kernel
theorem dX8_lose_21 : decode cX8_lose 21 = .ok (.goto 4, 3) := by decide +kernel
theorem dX8_lose_24 : decode cX8_lose 24 = .ok (.iconst 1, 1) := by decide +kernel
theorem dX8_lose_25 : decode cX8_lose 25 = .ok (.istore_n 2, 1) := by decide +kernel
theorem dX8_lose_26 : decode cX8_lose 26 = .ok (.aload_n 0, 1) := by decide +kernel
theorem dX8_lose_27 : decode cX8_lose 27 = .ok (.getfield 9, 3) := by decide +kernel
theorem dX8_lose_30 : decode cX8_lose 30 = .ok (.iload_n 1, 1) := by decide +kernel
theorem dX8_lose_31 : decode cX8_lose 31 = .ok (.bipush (-9), 2) := by decide +kernel
theorem dX8_lose_33 : decode cX8_lose 33 = .ok (.iastore, 1) := by decide +kernel
theorem dX8_lose_34 : decode cX8_lose 34 = .ok (.iload_n 2, 1) := by decide +kernel
theorem dX8_lose_35 : decode cX8_lose 35 = .ok (.ireturn, 1) := by decide +kernel
theorem dX8_put_0 : decode cX8_put 0 = .ok (.aload_n 0, 1) := by decide +kernel
theorem dX8_put_1 : decode cX8_put 1 = .ok (.iconst 0, 1) := by decide +kernel
theorem dX8_put_2 : decode cX8_put 2 = .ok (.putfield 58, 3) := by decide +kernel
theorem dX8_put_5 : decode cX8_put 5 = .ok (.iload_n 1, 1) := by decide +kernel
theorem dX8_put_6 : decode cX8_put 6 = .ok (.invokestatic 71, 3) := by decide +kernel
theorem dX8_put_9 : decode cX8_put 9 = .ok (.ifCond .ne 5, 3) := by decide +kernel
theorem dX8_put_12 : decode cX8_put 12 = .ok (.iconst (-1), 1) := by decide +kernel
theorem dX8_put_13 : decode cX8_put 13 = .ok (.ireturn, 1) := by decide +kernel
theorem dX8_put_14 : decode cX8_put 14 = .ok (.aload_n 0, 1) := by decide +kernel
theorem dX8_put_15 : decode cX8_put 15 = .ok (.getfield 9, 3) := by decide +kernel
theorem dX8_put_18 : decode cX8_put 18 = .ok (.iload_n 1, 1) := by decide +kernel
theorem dX8_put_19 : decode cX8_put 19 = .ok (.iaload, 1) := by decide +kernel
theorem dX8_put_20 : decode cX8_put 20 = .ok (.bipush (-9), 2) := by decide +kernel
theorem dX8_put_22 : decode cX8_put 22 = .ok (.if_icmp .ne 9, 3) := by decide +kernel
theorem dX8_put_25 : decode cX8_put 25 = .ok (.aload_n 0, 1) := by decide +kernel
theorem dX8_put_26 : decode cX8_put 26 = .ok (.iconst 1, 1) := by decide +kernel
theorem dX8_put_27 : decode cX8_put 27 = .ok (.invokevirtual 82, 3) := by decide +kernel
theorem dX8_put_30 : decode cX8_put 30 = .ok (.ireturn, 1) := by decide +kernel
theorem dX8_put_31 : decode cX8_put 31 = .ok (.iload_n 2, 1) := by decide +kernel
theorem dX8_put_32 : decode cX8_put 32 = .ok (.iconst 0, 1) := by decide +kernel
theorem dX8_put_33 : decode cX8_put 33 = .ok (.aload_n 0, 1) := by decide +kernel
theorem dX8_put_34 : decode cX8_put 34 = .ok (.getfield 13, 3) := by decide +kernel
theorem dX8_put_37 : decode cX8_put 37 = .ok (.iload_n 1, 1) := by decide +kernel
theorem dX8_put_38 : decode cX8_put 38 = .ok (.iaload, 1) := by decide +kernel
theorem dX8_put_39 : decode cX8_put 39 = .ok (.iconst 1, 1) := by decide +kernel
theorem dX8_put_40 : decode cX8_put 40 = .ok (.isub, 1) := by decide +kernel
theorem dX8_put_41 : decode cX8_put 41 = .ok (.invokestatic 64, 3) := by decide +kernel
theorem dX8_put_44 : decode cX8_put 44 = .ok (.ifCond .ne 9, 3) := by decide +kernel
theorem dX8_put_47 : decode cX8_put 47 = .ok (.aload_n 0, 1) := by decide +kernel
theorem dX8_put_48 : decode cX8_put 48 = .ok (.iconst 3, 1) := by decide +kernel
theorem dX8_put_49 : decode cX8_put 49 = .ok (.invokevirtual 82, 3) := by decide +kernel
theorem dX8_put_52 : decode cX8_put 52 = .ok (.ireturn, 1) := by decide +kernel
theorem dX8_put_53 : decode cX8_put 53 = .ok (.aload_n 0, 1) := by decide +kernel
theorem dX8_put_54 : decode cX8_put 54 = .ok (.getfield 16, 3) := by decide +kernel
theorem dX8_put_57 : decode cX8_put 57 = .ok (.bipush 40, 2) := by decide +kernel
theorem dX8_put_59 : decode cX8_put 59 = .ok (.iload_n 1, 1) := by decide +kernel
theorem dX8_put_60 : decode cX8_put 60 = .ok (.imul, 1) := by decide +kernel
theorem dX8_put_61 : decode cX8_put 61 = .ok (.iload_n 2, 1) := by decide +kernel
theorem dX8_put_62 : decode cX8_put 62 = .ok (.iadd, 1) := by decide +kernel
theorem dX8_put_63 : decode cX8_put 63 = .ok (.aload_n 0, 1) := by decide +kernel
theorem dX8_put_64 : decode cX8_put 64 = .ok (.getfield 9, 3) := by decide +kernel
theorem dX8_put_67 : decode cX8_put 67 = .ok (.iload_n 1, 1) := by decide +kernel
theorem dX8_put_68 : decode cX8_put 68 = .ok (.iaload, 1) := by decide +kernel
theorem dX8_put_69 : decode cX8_put 69 = .ok (.ifCond .ne 8, 3) := by decide +kernel
theorem dX8_put_72 : decode cX8_put 72 = .ok (.iload_n 3, 1) := by decide +kernel
theorem dX8_put_73 : decode cX8_put 73 = .ok (.i2b, 1) := by decide +kernel
theorem dX8_put_74 : decode cX8_put 74 = .ok (.goto 19, 3) := by decide +kernel
theorem dX8_put_77 : decode cX8_put 77 = .ok (.aload_n 0, 1) := by decide +kernel
theorem dX8_put_78 : decode cX8_put 78 = .ok (.getfield 9, 3) := by decide +kernel
theorem dX8_put_81 : decode cX8_put 81 = .ok (.iload_n 1, 1) := by decide +kernel
theorem dX8_put_82 : decode cX8_put 82 = .ok (.iaload, 1) := by decide +kernel
theorem dX8_put_83 : decode cX8_put 83 = .ok (.iconst 1, 1) := by decide +kernel
theorem dX8_put_84 : decode cX8_put 84 = .ok (.if_icmp .ne 8, 3) := by decide +kernel
theorem dX8_put_87 : decode cX8_put 87 = .ok (.iload_n 3, 1) := by decide +kernel
theorem dX8_put_88 : decode cX8_put 88 = .ok (.i2s, 1) := by decide +kernel
theorem dX8_put_89 : decode cX8_put 89 = .ok (.goto 4, 3) := by decide +kernel
theorem dX8_put_92 : decode cX8_put 92 = .ok (.iload_n 3, 1) := by decide +kernel
theorem dX8_put_93 : decode cX8_put 93 = .ok (.iastore, 1) := by decide +kernel
theorem dX8_put_94 : decode cX8_put 94 = .ok (.iconst 1, 1) := by decide +kernel
theorem dX8_put_95 : decode cX8_put 95 = .ok (.ireturn, 1) := by decide +kernel
theorem dX8_cell_0 : decode cX8_cell 0 = .ok (.aload_n 0, 1) := by decide +kernel
theorem dX8_cell_1 : decode cX8_cell 1 = .ok (.iconst 0, 1) := by decide +kernel
theorem dX8_cell_2 : decode cX8_cell 2 = .ok (.putfield 58, 3) := by decide +kernel
theorem dX8_cell_5 : decode cX8_cell 5 = .ok (.iload_n 1, 1) := by decide +kernel
theorem dX8_cell_6 : decode cX8_cell 6 = .ok (.invokestatic 71, 3) := by decide +kernel
theorem dX8_cell_9 : decode cX8_cell 9 = .ok (.ifCond .eq 10, 3) := by decide +kernel
theorem dX8_cell_12 : decode cX8_cell 12 = .ok (.iload_n 3, 1) := by decide +kernel
theorem dX8_cell_13 : decode cX8_cell 13 = .ok (.invokestatic 75, 3) := by decide +kernel
theorem dX8_cell_16 : decode cX8_cell 16 = .ok (.ifCond .ne 7, 3) := by decide +kernel
theorem dX8_cell_19 : decode cX8_cell 19 = .ok (.ldc2_w 62, 3) := by decide +kernel
theorem dX8_cell_22 : decode cX8_cell 22 = .ok (.lreturn, 1) := by decide +kernel
theorem dX8_cell_23 : decode cX8_cell 23 = .ok (.aload_n 0, 1) := by decide +kernel
theorem dX8_cell_24 : decode cX8_cell 24 = .ok (.getfield 9, 3) := by decide +kernel
theorem dX8_cell_27 : decode cX8_cell 27 = .ok (.iload_n 1, 1) := by decide +kernel
theorem dX8_cell_28 : decode cX8_cell 28 = .ok (.iaload, 1) := by decide +kernel
theorem dX8_cell_29 : decode cX8_cell 29 = .ok (.bipush (-9), 2) := by decide +kernel
theorem dX8_cell_31 : decode cX8_cell 31 = .ok (.if_icmp .eq 19, 3) := by decide +kernel
theorem dX8_cell_34 : decode cX8_cell 34 = .ok (.aload_n 0, 1) := by decide +kernel
theorem dX8_cell_35 : decode cX8_cell 35 = .ok (.getfield 9, 3) := by decide +kernel
theorem dX8_cell_38 : decode cX8_cell 38 = .ok (.iload_n 1, 1) := by decide +kernel
theorem dX8_cell_39 : decode cX8_cell 39 = .ok (.iaload, 1) := by decide +kernel
theorem dX8_cell_40 : decode cX8_cell 40 = .ok (.iload_n 3, 1) := by decide +kernel
theorem dX8_cell_41 : decode cX8_cell 41 = .ok (.if_icmp .eq 9, 3) := by decide +kernel
theorem dX8_cell_44 : decode cX8_cell 44 = .ok (.aload_n 0, 1) := by decide +kernel
theorem dX8_cell_45 : decode cX8_cell 45 = .ok (.iconst 2, 1) := by decide +kernel
theorem dX8_cell_46 : decode cX8_cell 46 = .ok (.invokevirtual 188, 3) := by decide +kernel
theorem dX8_cell_49 : decode cX8_cell 49 = .ok (.lreturn, 1) := by decide +kernel
theorem dX8_cell_50 : decode cX8_cell 50 = .ok (.aload_n 0, 1) := by decide +kernel
theorem dX8_cell_51 : decode cX8_cell 51 = .ok (.getfield 9, 3) := by decide +kernel
theorem dX8_cell_54 : decode cX8_cell 54 = .ok (.iload_n 1, 1) := by decide +kernel
theorem dX8_cell_55 : decode cX8_cell 55 = .ok (.iaload, 1) := by decide +kernel
theorem dX8_cell_56 : decode cX8_cell 56 = .ok (.bipush (-9), 2) := by decide +kernel
theorem dX8_cell_58 : decode cX8_cell 58 = .ok (.if_icmp .ne 9, 3) := by decide +kernel
theorem dX8_cell_61 : decode cX8_cell 61 = .ok (.aload_n 0, 1) := by decide +kernel
theorem dX8_cell_62 : decode cX8_cell 62 = .ok (.iconst 1, 1) := by decide +kernel
theorem dX8_cell_63 : decode cX8_cell 63 = .ok (.invokevirtual 188, 3) := by decide +kernel
theorem dX8_cell_66 : decode cX8_cell 66 = .ok (.lreturn, 1) := by decide +kernel
theorem dX8_cell_67 : decode cX8_cell 67 = .ok (.iload_n 2, 1) := by decide +kernel
theorem dX8_cell_68 : decode cX8_cell 68 = .ok (.iconst 0, 1) := by decide +kernel
theorem dX8_cell_69 : decode cX8_cell 69 = .ok (.aload_n 0, 1) := by decide +kernel
theorem dX8_cell_70 : decode cX8_cell 70 = .ok (.getfield 13, 3) := by decide +kernel
theorem dX8_cell_73 : decode cX8_cell 73 = .ok (.iload_n 1, 1) := by decide +kernel
theorem dX8_cell_74 : decode cX8_cell 74 = .ok (.iaload, 1) := by decide +kernel
theorem dX8_cell_75 : decode cX8_cell 75 = .ok (.iconst 1, 1) := by decide +kernel
theorem dX8_cell_76 : decode cX8_cell 76 = .ok (.isub, 1) := by decide +kernel
theorem dX8_cell_77 : decode cX8_cell 77 = .ok (.invokestatic 64, 3) := by decide +kernel
theorem dX8_cell_80 : decode cX8_cell 80 = .ok (.ifCond .ne 9, 3) := by decide +kernel
theorem dX8_cell_83 : decode cX8_cell 83 = .ok (.aload_n 0, 1) := by decide +kernel
theorem dX8_cell_84 : decode cX8_cell 84 = .ok (.iconst 3, 1) := by decide +kernel
theorem dX8_cell_85 : decode cX8_cell 85 = .ok (.invokevirtual 188, 3) := by decide +kernel
theorem dX8_cell_88 : decode cX8_cell 88 = .ok (.lreturn, 1) := by decide +kernel
theorem dX8_cell_89 : decode cX8_cell 89 = .ok (.aload_n 0, 1) := by decide +kernel
theorem dX8_cell_90 : decode cX8_cell 90 = .ok (.getfield 16, 3) := by decide +kernel
theorem dX8_cell_93 : decode cX8_cell 93 = .ok (.bipush 40, 2) := by decide +kernel
theorem dX8_cell_95 : decode cX8_cell 95 = .ok (.iload_n 1, 1) := by decide +kernel
theorem dX8_cell_96 : decode cX8_cell 96 = .ok (.imul, 1) := by decide +kernel
theorem dX8_cell_97 : decode cX8_cell 97 = .ok (.iload_n 2, 1) := by decide +kernel
theorem dX8_cell_98 : decode cX8_cell 98 = .ok (.iadd, 1) := by decide +kernel
theorem dX8_cell_99 : decode cX8_cell 99 = .ok (.iaload, 1) := by decide +kernel
theorem dX8_cell_100 : decode cX8_cell 100 = .ok (.i2l, 1) := by decide +kernel
theorem dX8_cell_101 : decode cX8_cell 101 = .ok (.lreturn, 1) := by decide +kernel
theorem dX8_copy_0 : decode cX8_copy 0 = .ok (.aload_n 0, 1) := by decide +kernel
theorem dX8_copy_1 : decode cX8_copy 1 = .ok (.iconst 0, 1) := by decide +kernel
theorem dX8_copy_2 : decode cX8_copy 2 = .ok (.putfield 58, 3) := by decide +kernel
theorem dX8_copy_5 : decode cX8_copy 5 = .ok (.iload_n 1, 1) := by decide +kernel
theorem dX8_copy_6 : decode cX8_copy 6 = .ok (.invokestatic 71, 3) := by decide +kernel
theorem dX8_copy_9 : decode cX8_copy 9 = .ok (.ifCond .eq 10, 3) := by decide +kernel
theorem dX8_copy_12 : decode cX8_copy 12 = .ok (.iload_n 3, 1) := by decide +kernel
theorem dX8_copy_13 : decode cX8_copy 13 = .ok (.invokestatic 71, 3) := by decide +kernel
theorem dX8_copy_16 : decode cX8_copy 16 = .ok (.ifCond .ne 5, 3) := by decide +kernel
theorem dX8_copy_19 : decode cX8_copy 19 = .ok (.iconst (-1), 1) := by decide +kernel
theorem dX8_copy_20 : decode cX8_copy 20 = .ok (.ireturn, 1) := by decide +kernel
theorem dX8_copy_21 : decode cX8_copy 21 = .ok (.aload_n 0, 1) := by decide +kernel
theorem dX8_copy_22 : decode cX8_copy 22 = .ok (.getfield 9, 3) := by decide +kernel
theorem dX8_copy_25 : decode cX8_copy 25 = .ok (.iload_n 1, 1) := by decide +kernel
theorem dX8_copy_26 : decode cX8_copy 26 = .ok (.iaload, 1) := by decide +kernel
theorem dX8_copy_27 : decode cX8_copy 27 = .ok (.bipush (-9), 2) := by decide +kernel
theorem dX8_copy_29 : decode cX8_copy 29 = .ok (.if_icmp .eq 14, 3) := by decide +kernel
theorem dX8_copy_32 : decode cX8_copy 32 = .ok (.aload_n 0, 1) := by decide +kernel
theorem dX8_copy_33 : decode cX8_copy 33 = .ok (.getfield 9, 3) := by decide +kernel
theorem dX8_copy_36 : decode cX8_copy 36 = .ok (.iload_n 3, 1) := by decide +kernel
theorem dX8_copy_37 : decode cX8_copy 37 = .ok (.iaload, 1) := by decide +kernel
theorem dX8_copy_38 : decode cX8_copy 38 = .ok (.bipush (-9), 2) := by decide +kernel
theorem dX8_copy_40 : decode cX8_copy 40 = .ok (.if_icmp .ne 9, 3) := by decide +kernel
theorem dX8_copy_43 : decode cX8_copy 43 = .ok (.aload_n 0, 1) := by decide +kernel
theorem dX8_copy_44 : decode cX8_copy 44 = .ok (.iconst 1, 1) := by decide +kernel
theorem dX8_copy_45 : decode cX8_copy 45 = .ok (.invokevirtual 82, 3) := by decide +kernel
theorem dX8_copy_48 : decode cX8_copy 48 = .ok (.ireturn, 1) := by decide +kernel
theorem dX8_copy_49 : decode cX8_copy 49 = .ok (.aload_n 0, 1) := by decide +kernel
theorem dX8_copy_50 : decode cX8_copy 50 = .ok (.getfield 9, 3) := by decide +kernel
theorem dX8_copy_53 : decode cX8_copy 53 = .ok (.iload_n 1, 1) := by decide +kernel
theorem dX8_copy_54 : decode cX8_copy 54 = .ok (.iaload, 1) := by decide +kernel
theorem dX8_copy_55 : decode cX8_copy 55 = .ok (.aload_n 0, 1) := by decide +kernel
theorem dX8_copy_56 : decode cX8_copy 56 = .ok (.getfield 9, 3) := by decide +kernel
theorem dX8_copy_59 : decode cX8_copy 59 = .ok (.iload_n 3, 1) := by decide +kernel
theorem dX8_copy_60 : decode cX8_copy 60 = .ok (.iaload, 1) := by decide +kernel
theorem dX8_copy_61 : decode cX8_copy 61 = .ok (.if_icmp .eq 9, 3) := by decide +kernel
theorem dX8_copy_64 : decode cX8_copy 64 = .ok (.aload_n 0, 1) := by decide +kernel
theorem dX8_copy_65 : decode cX8_copy 65 = .ok (.iconst 2, 1) := by decide +kernel
theorem dX8_copy_66 : decode cX8_copy 66 = .ok (.invokevirtual 82, 3) := by decide +kernel
theorem dX8_copy_69 : decode cX8_copy 69 = .ok (.ireturn, 1) := by decide +kernel
theorem dX8_copy_70 : decode cX8_copy 70 = .ok (.iload_n 2, 1) := by decide +kernel
theorem dX8_copy_71 : decode cX8_copy 71 = .ok (.ifCond .lt 38, 3) := by decide +kernel
theorem dX8_copy_74 : decode cX8_copy 74 = .ok (.iload 4, 2) := by decide +kernel
theorem dX8_copy_76 : decode cX8_copy 76 = .ok (.ifCond .lt 33, 3) := by decide +kernel
theorem dX8_copy_79 : decode cX8_copy 79 = .ok (.iload 5, 2) := by decide +kernel
theorem dX8_copy_81 : decode cX8_copy 81 = .ok (.ifCond .lt 28, 3) := by decide +kernel
theorem dX8_copy_84 : decode cX8_copy 84 = .ok (.iload_n 2, 1) := by decide +kernel
theorem dX8_copy_85 : decode cX8_copy 85 = .ok (.aload_n 0, 1) := by decide +kernel
theorem dX8_copy_86 : decode cX8_copy 86 = .ok (.getfield 13, 3) := by decide +kernel
theorem dX8_copy_89 : decode cX8_copy 89 = .ok (.iload_n 1, 1) := by decide +kernel
theorem dX8_copy_90 : decode cX8_copy 90 = .ok (.iaload, 1) := by decide +kernel
theorem dX8_copy_91 : decode cX8_copy 91 = .ok (.if_icmp .gt 18, 3) := by decide +kernel
theorem dX8_copy_94 : decode cX8_copy 94 = .ok (.iload 4, 2) := by decide +kernel
theorem dX8_copy_96 : decode cX8_copy 96 = .ok (.aload_n 0, 1) := by decide +kernel
theorem dX8_copy_97 : decode cX8_copy 97 = .ok (.getfield 13, 3) := by decide +kernel
theorem dX8_copy_100 : decode cX8_copy 100 = .ok (.iload_n 3, 1) := by decide +kernel
theorem dX8_copy_101 : decode cX8_copy 101 = .ok (.iaload, 1) := by decide +kernel
theorem dX8_copy_102 : decode cX8_copy 102 = .ok (.if_icmp .gt 7, 3) := by decide +kernel
theorem dX8_copy_105 : decode cX8_copy 105 = .ok (.iconst 1, 1) := by decide +kernel
theorem dX8_copy_106 : decode cX8_copy 106 = .ok (.goto 4, 3) := by decide +kernel
theorem dX8_copy_109 : decode cX8_copy 109 = .ok (.iconst 0, 1) := by decide +kernel
theorem dX8_copy_110 : decode cX8_copy 110 = .ok (.istore 6, 2) := by decide +kernel
theorem dX8_copy_112 : decode cX8_copy 112 = .ok (.iload 6, 2) := by decide +kernel
theorem dX8_copy_114 : decode cX8_copy 114 = .ok (.ifCond .eq 30, 3) := by decide +kernel
theorem dX8_copy_117 : decode cX8_copy 117 = .ok (.iload 5, 2) := by decide +kernel
theorem dX8_copy_119 : decode cX8_copy 119 = .ok (.aload_n 0, 1) := by decide +kernel
theorem dX8_copy_120 : decode cX8_copy 120 = .ok (.getfield 13, 3) := by decide +kernel
theorem dX8_copy_123 : decode cX8_copy 123 = .ok (.iload_n 1, 1) := by decide +kernel
theorem dX8_copy_124 : decode cX8_copy 124 = .ok (.iaload, 1) := by decide +kernel
theorem dX8_copy_125 : decode cX8_copy 125 = .ok (.iload_n 2, 1) := by decide +kernel
theorem dX8_copy_126 : decode cX8_copy 126 = .ok (.isub, 1) := by decide +kernel
theorem dX8_copy_127 : decode cX8_copy 127 = .ok (.if_icmp .gt 17, 3) := by decide +kernel
theorem dX8_copy_130 : decode cX8_copy 130 = .ok (.iload 5, 2) := by decide +kernel
theorem dX8_copy_132 : decode cX8_copy 132 = .ok (.aload_n 0, 1) := by decide +kernel
theorem dX8_copy_133 : decode cX8_copy 133 = .ok (.getfield 13, 3) := by decide +kernel
theorem dX8_copy_136 : decode cX8_copy 136 = .ok (.iload_n 3, 1) := by decide +kernel
theorem dX8_copy_137 : decode cX8_copy 137 = .ok (.iaload, 1) := by decide +kernel
theorem dX8_copy_138 : decode cX8_copy 138 = .ok (.iload 4, 2) := by decide +kernel
theorem dX8_copy_140 : decode cX8_copy 140 = .ok (.isub, 1) := by decide +kernel
theorem dX8_copy_141 : decode cX8_copy 141 = .ok (.if_icmp .le 9, 3) := by decide +kernel
theorem dX8_copy_144 : decode cX8_copy 144 = .ok (.aload_n 0, 1) := by decide +kernel
theorem dX8_copy_145 : decode cX8_copy 145 = .ok (.iconst 3, 1) := by decide +kernel
theorem dX8_copy_146 : decode cX8_copy 146 = .ok (.invokevirtual 82, 3) := by decide +kernel
theorem dX8_copy_149 : decode cX8_copy 149 = .ok (.ireturn, 1) := by decide +kernel
theorem dX8_copy_150 : decode cX8_copy 150 = .ok (.iload_n 2, 1) := by decide +kernel
theorem dX8_copy_151 : decode cX8_copy 151 = .ok (.iload 4, 2) := by decide +kernel
theorem dX8_copy_153 : decode cX8_copy 153 = .ok (.if_icmp .ge 7, 3) := by decide +kernel
theorem dX8_copy_156 : decode cX8_copy 156 = .ok (.iconst 1, 1) := by decide +kernel
theorem dX8_copy_157 : decode cX8_copy 157 = .ok (.goto 4, 3) := by decide +kernel
theorem dX8_copy_160 : decode cX8_copy 160 = .ok (.iconst 0, 1) := by decide +kernel
theorem dX8_copy_161 : decode cX8_copy 161 = .ok (.istore 7, 2) := by decide +kernel
theorem dX8_copy_163 : decode cX8_copy 163 = .ok (.iconst 0, 1) := by decide +kernel
theorem dX8_copy_164 : decode cX8_copy 164 = .ok (.istore 8, 2) := by decide +kernel
theorem dX8_copy_166 : decode cX8_copy 166 = .ok (.iload 8, 2) := by decide +kernel
theorem dX8_copy_168 : decode cX8_copy 168 = .ok (.iload 5, 2) := by decide +kernel
theorem dX8_copy_170 : decode cX8_copy 170 = .ok (.if_icmp .ge 57, 3) := by decide +kernel
theorem dX8_copy_173 : decode cX8_copy 173 = .ok (.iload 7, 2) := by decide +kernel
theorem dX8_copy_175 : decode cX8_copy 175 = .ok (.ifCond .eq 13, 3) := by decide +kernel
theorem dX8_copy_178 : decode cX8_copy 178 = .ok (.iload 5, 2) := by decide +kernel
theorem dX8_copy_180 : decode cX8_copy 180 = .ok (.iconst 1, 1) := by decide +kernel
theorem dX8_copy_181 : decode cX8_copy 181 = .ok (.isub, 1) := by decide +kernel
theorem dX8_copy_182 : decode cX8_copy 182 = .ok (.iload 8, 2) := by decide +kernel
theorem dX8_copy_184 : decode cX8_copy 184 = .ok (.isub, 1) := by decide +kernel
theorem dX8_copy_185 : decode cX8_copy 185 = .ok (.goto 5, 3) := by decide +kernel
theorem dX8_copy_188 : decode cX8_copy 188 = .ok (.iload 8, 2) := by decide +kernel
theorem dX8_copy_190 : decode cX8_copy 190 = .ok (.istore 9, 2) := by decide +kernel
theorem dX8_copy_192 : decode cX8_copy 192 = .ok (.aload_n 0, 1) := by decide +kernel
theorem dX8_copy_193 : decode cX8_copy 193 = .ok (.getfield 16, 3) := by decide +kernel
theorem dX8_copy_196 : decode cX8_copy 196 = .ok (.bipush 40, 2) := by decide +kernel
theorem dX8_copy_198 : decode cX8_copy 198 = .ok (.iload_n 3, 1) := by decide +kernel
theorem dX8_copy_199 : decode cX8_copy 199 = .ok (.imul, 1) := by decide +kernel
theorem dX8_copy_200 : decode cX8_copy 200 = .ok (.iload 4, 2) := by decide +kernel
theorem dX8_copy_202 : decode cX8_copy 202 = .ok (.iadd, 1) := by decide +kernel
theorem dX8_copy_203 : decode cX8_copy 203 = .ok (.iload 9, 2) := by decide +kernel
theorem dX8_copy_205 : decode cX8_copy 205 = .ok (.iadd, 1) := by decide +kernel
theorem dX8_copy_206 : decode cX8_copy 206 = .ok (.aload_n 0, 1) := by decide +kernel
theorem dX8_copy_207 : decode cX8_copy 207 = .ok (.getfield 16, 3) := by decide +kernel
theorem dX8_copy_210 : decode cX8_copy 210 = .ok (.bipush 40, 2) := by decide +kernel
theorem dX8_copy_212 : decode cX8_copy 212 = .ok (.iload_n 1, 1) := by decide +kernel
theorem dX8_copy_213 : decode cX8_copy 213 = .ok (.imul, 1) := by decide +kernel
theorem dX8_copy_214 : decode cX8_copy 214 = .ok (.iload_n 2, 1) := by decide +kernel
theorem dX8_copy_215 : decode cX8_copy 215 = .ok (.iadd, 1) := by decide +kernel
theorem dX8_copy_216 : decode cX8_copy 216 = .ok (.iload 9, 2) := by decide +kernel
theorem dX8_copy_218 : decode cX8_copy 218 = .ok (.iadd, 1) := by decide +kernel
theorem dX8_copy_219 : decode cX8_copy 219 = .ok (.iaload, 1) := by decide +kernel
theorem dX8_copy_220 : decode cX8_copy 220 = .ok (.iastore, 1) := by decide +kernel
theorem dX8_copy_221 : decode cX8_copy 221 = .ok (.iinc 8 1, 3) := by decide +kernel
theorem dX8_copy_224 : decode cX8_copy 224 = .ok (.goto (-58), 3) := by decide +kernel
theorem dX8_copy_227 : decode cX8_copy 227 = .ok (.iload 5, 2) := by decide +kernel
theorem dX8_copy_229 : decode cX8_copy 229 = .ok (.ireturn, 1) := by decide +kernel
theorem dX8_begins_0 : decode cX8_begins 0 = .ok (.aload_n 0, 1) := by decide +kernel
theorem dX8_begins_1 : decode cX8_begins 1 = .ok (.bipush 31, 2) := by decide +kernel
theorem dX8_begins_3 : decode cX8_begins 3 = .ok (.aload_n 0, 1) := by decide +kernel
theorem dX8_begins_4 : decode cX8_begins 4 = .ok (.getfield 192, 3) := by decide +kernel
theorem dX8_begins_7 : decode cX8_begins 7 = .ok (.imul, 1) := by decide +kernel
theorem dX8_begins_8 : decode cX8_begins 8 = .ok (.iload_n 1, 1) := by decide +kernel
theorem dX8_begins_9 : decode cX8_begins 9 = .ok (.iadd, 1) := by decide +kernel
theorem dX8_begins_10 : decode cX8_begins 10 = .ok (.putfield 192, 3) := by decide +kernel
theorem dX8_begins_13 : decode cX8_begins 13 = .ok (.return_, 1) := by decide +kernel
theorem dX8_tell_0 : decode cX8_tell 0 = .ok (.aload_n 0, 1) := by decide +kernel
theorem dX8_tell_1 : decode cX8_tell 1 = .ok (.iload_n 1, 1) := by decide +kernel
theorem dX8_tell_2 : decode cX8_tell 2 = .ok (.invokevirtual 107, 3) := by decide +kernel
theorem dX8_tell_5 : decode cX8_tell 5 = .ok (.ifCond .ne 5, 3) := by decide +kernel
theorem dX8_tell_8 : decode cX8_tell 8 = .ok (.iconst (-1), 1) := by decide +kernel
theorem dX8_tell_9 : decode cX8_tell 9 = .ok (.ireturn, 1) := by decide +kernel
theorem dX8_tell_10 : decode cX8_tell 10 = .ok (.aload_n 0, 1) := by decide +kernel
theorem dX8_tell_11 : decode cX8_tell 11 = .ok (.getfield 28, 3) := by decide +kernel
theorem dX8_tell_14 : decode cX8_tell 14 = .ok (.iload_n 1, 1) := by decide +kernel
theorem dX8_tell_15 : decode cX8_tell 15 = .ok (.iaload, 1) := by decide +kernel
theorem dX8_tell_16 : decode cX8_tell 16 = .ok (.istore_n 2, 1) := by decide +kernel
theorem dX8_tell_17 : decode cX8_tell 17 = .ok (.aload_n 0, 1) := by decide +kernel
theorem dX8_tell_18 : decode cX8_tell 18 = .ok (.getfield 25, 3) := by decide +kernel
theorem dX8_tell_21 : decode cX8_tell 21 = .ok (.iload_n 1, 1) := by decide +kernel
theorem dX8_tell_22 : decode cX8_tell 22 = .ok (.iaload, 1) := by decide +kernel
theorem dX8_tell_23 : decode cX8_tell 23 = .ok (.lookupswitch 67 #[(1, 25), (2, 40)], 25) := by decide +kernel
theorem dX8_tell_48 : decode cX8_tell 48 = .ok (.aload_n 0, 1) := by decide +kernel
theorem dX8_tell_49 : decode cX8_tell 49 = .ok (.iconst 2, 1) := by decide +kernel
theorem dX8_tell_50 : decode cX8_tell 50 = .ok (.invokevirtual 195, 3) := by decide +kernel
theorem dX8_tell_53 : decode cX8_tell 53 = .ok (.aload_n 0, 1) := by decide +kernel
theorem dX8_tell_54 : decode cX8_tell 54 = .ok (.iconst 1, 1) := by decide +kernel
theorem dX8_tell_55 : decode cX8_tell 55 = .ok (.invokevirtual 195, 3) := by decide +kernel
theorem dX8_tell_58 : decode cX8_tell 58 = .ok (.iload_n 2, 1) := by decide +kernel
theorem dX8_tell_59 : decode cX8_tell 59 = .ok (.bipush 100, 2) := by decide +kernel
theorem dX8_tell_61 : decode cX8_tell 61 = .ok (.iadd, 1) := by decide +kernel
theorem dX8_tell_62 : decode cX8_tell 62 = .ok (.ireturn, 1) := by decide +kernel
theorem dX8_tell_63 : decode cX8_tell 63 = .ok (.aload_n 0, 1) := by decide +kernel
theorem dX8_tell_64 : decode cX8_tell 64 = .ok (.iconst 3, 1) := by decide +kernel
theorem dX8_tell_65 : decode cX8_tell 65 = .ok (.invokevirtual 195, 3) := by decide +kernel
theorem dX8_tell_68 : decode cX8_tell 68 = .ok (.aload_n 0, 1) := by decide +kernel
theorem dX8_tell_69 : decode cX8_tell 69 = .ok (.iconst 2, 1) := by decide +kernel
theorem dX8_tell_70 : decode cX8_tell 70 = .ok (.invokevirtual 195, 3) := by decide +kernel
theorem dX8_tell_73 : decode cX8_tell 73 = .ok (.aload_n 0, 1) := by decide +kernel
theorem dX8_tell_74 : decode cX8_tell 74 = .ok (.iconst 1, 1) := by decide +kernel
theorem dX8_tell_75 : decode cX8_tell 75 = .ok (.invokevirtual 195, 3) := by decide +kernel
theorem dX8_tell_78 : decode cX8_tell 78 = .ok (.aload_n 0, 1) := by decide +kernel
theorem dX8_tell_79 : decode cX8_tell 79 = .ok (.iconst 1, 1) := by decide +kernel
theorem dX8_tell_80 : decode cX8_tell 80 = .ok (.invokevirtual 195, 3) := by decide +kernel
theorem dX8_tell_83 : decode cX8_tell 83 = .ok (.iconst 2, 1) := by decide +kernel
theorem dX8_tell_84 : decode cX8_tell 84 = .ok (.iload_n 2, 1) := by decide +kernel
theorem dX8_tell_85 : decode cX8_tell 85 = .ok (.imul, 1) := by decide +kernel
theorem dX8_tell_86 : decode cX8_tell 86 = .ok (.bipush 100, 2) := by decide +kernel
theorem dX8_tell_88 : decode cX8_tell 88 = .ok (.iadd, 1) := by decide +kernel
theorem dX8_tell_89 : decode cX8_tell 89 = .ok (.ireturn, 1) := by decide +kernel
theorem dX8_tell_90 : decode cX8_tell 90 = .ok (.aload_n 0, 1) := by decide +kernel
theorem dX8_tell_91 : decode cX8_tell 91 = .ok (.iconst 1, 1) := by decide +kernel
theorem dX8_tell_92 : decode cX8_tell 92 = .ok (.invokevirtual 195, 3) := by decide +kernel
theorem dX8_tell_95 : decode cX8_tell 95 = .ok (.iload_n 2, 1) := by decide +kernel
theorem dX8_tell_96 : decode cX8_tell 96 = .ok (.ireturn, 1) := by decide +kernel
theorem dX8_shake_0 : decode cX8_shake 0 = .ok (.aload_n 0, 1) := by decide +kernel
theorem dX8_shake_1 : decode cX8_shake 1 = .ok (.iload_n 1, 1) := by decide +kernel
theorem dX8_shake_2 : decode cX8_shake 2 = .ok (.invokevirtual 107, 3) := by decide +kernel
theorem dX8_shake_5 : decode cX8_shake 5 = .ok (.ifCond .ne 5, 3) := by decide +kernel
theorem dX8_shake_8 : decode cX8_shake 8 = .ok (.iconst (-1), 1) := by decide +kernel
theorem dX8_shake_9 : decode cX8_shake 9 = .ok (.ireturn, 1) := by decide +kernel
theorem dX8_shake_10 : decode cX8_shake 10 = .ok (.aload_n 0, 1) := by decide +kernel
theorem dX8_shake_11 : decode cX8_shake 11 = .ok (.aload_n 0, 1) := by decide +kernel
theorem dX8_shake_12 : decode cX8_shake 12 = .ok (.getfield 25, 3) := by decide +kernel
theorem dX8_shake_15 : decode cX8_shake 15 = .ok (.iload_n 1, 1) := by decide +kernel
theorem dX8_shake_16 : decode cX8_shake 16 = .ok (.iaload, 1) := by decide +kernel
theorem dX8_shake_17 : decode cX8_shake 17 = .ok (.iconst 2, 1) := by decide +kernel
theorem dX8_shake_18 : decode cX8_shake 18 = .ok (.if_icmp .ne 7, 3) := by decide +kernel
theorem dX8_shake_21 : decode cX8_shake 21 = .ok (.iconst 5, 1) := by decide +kernel
theorem dX8_shake_22 : decode cX8_shake 22 = .ok (.goto 4, 3) := by decide +kernel
theorem dX8_shake_25 : decode cX8_shake 25 = .ok (.iconst 4, 1) := by decide +kernel
theorem dX8_shake_26 : decode cX8_shake 26 = .ok (.invokevirtual 195, 3) := by decide +kernel
theorem dX8_shake_29 : decode cX8_shake 29 = .ok (.aload_n 0, 1) := by decide +kernel
theorem dX8_shake_30 : decode cX8_shake 30 = .ok (.getfield 25, 3) := by decide +kernel
theorem dX8_shake_33 : decode cX8_shake 33 = .ok (.iload_n 1, 1) := by decide +kernel
theorem dX8_shake_34 : decode cX8_shake 34 = .ok (.iaload, 1) := by decide +kernel
theorem dX8_shake_35 : decode cX8_shake 35 = .ok (.iconst 2, 1) := by decide +kernel
theorem dX8_shake_36 : decode cX8_shake 36 = .ok (.if_icmp .ne 8, 3) := by decide +kernel
theorem dX8_shake_39 : decode cX8_shake 39 = .ok (.bipush 60, 2) := by decide +kernel
theorem dX8_shake_41 : decode cX8_shake 41 = .ok (.goto 4, 3) := by decide +kernel
theorem dX8_shake_44 : decode cX8_shake 44 = .ok (.iload_n 1, 1) := by decide +kernel
theorem dX8_shake_45 : decode cX8_shake 45 = .ok (.ireturn, 1) := by decide +kernel
theorem dX8_as_0 : decode cX8_as 0 = .ok (.aload_n 0, 1) := by decide +kernel
theorem dX8_as_1 : decode cX8_as 1 = .ok (.iconst 0, 1) := by decide +kernel
theorem dX8_as_2 : decode cX8_as 2 = .ok (.putfield 58, 3) := by decide +kernel
theorem dX8_as_5 : decode cX8_as 5 = .ok (.aload_n 0, 1) := by decide +kernel
theorem dX8_as_6 : decode cX8_as 6 = .ok (.iload_n 1, 1) := by decide +kernel
theorem dX8_as_7 : decode cX8_as 7 = .ok (.invokevirtual 107, 3) := by decide +kernel
theorem dX8_as_10 : decode cX8_as 10 = .ok (.ifCond .ne 5, 3) := by decide +kernel
theorem dX8_as_13 : decode cX8_as 13 = .ok (.iconst (-1), 1) := by decide +kernel
theorem dX8_as_14 : decode cX8_as 14 = .ok (.ireturn, 1) := by decide +kernel
theorem dX8_as_15 : decode cX8_as 15 = .ok (.iload_n 2, 1) := by decide +kernel
theorem dX8_as_16 : decode cX8_as 16 = .ok (.iconst 0, 1) := by decide +kernel
theorem dX8_as_17 : decode cX8_as 17 = .ok (.iconst 2, 1) := by decide +kernel
theorem dX8_as_18 : decode cX8_as 18 = .ok (.invokestatic 64, 3) := by decide +kernel
theorem dX8_as_21 : decode cX8_as 21 = .ok (.ifCond .ne 6, 3) := by decide +kernel
theorem dX8_as_24 : decode cX8_as 24 = .ok (.bipush (-2), 2) := by decide +kernel
theorem dX8_as_26 : decode cX8_as 26 = .ok (.ireturn, 1) := by decide +kernel
theorem dX8_as_27 : decode cX8_as 27 = .ok (.aload_n 0, 1) := by decide +kernel
theorem dX8_as_28 : decode cX8_as 28 = .ok (.getfield 25, 3) := by decide +kernel
theorem dX8_as_31 : decode cX8_as 31 = .ok (.iload_n 1, 1) := by decide +kernel
theorem dX8_as_32 : decode cX8_as 32 = .ok (.iaload, 1) := by decide +kernel
theorem dX8_as_33 : decode cX8_as 33 = .ok (.iload_n 2, 1) := by decide +kernel
theorem dX8_as_34 : decode cX8_as 34 = .ok (.if_icmp .lt 7, 3) := by decide +kernel
theorem dX8_as_37 : decode cX8_as 37 = .ok (.iconst 1, 1) := by decide +kernel
theorem dX8_as_38 : decode cX8_as 38 = .ok (.goto 8, 3) := by decide +kernel
theorem dX8_as_41 : decode cX8_as 41 = .ok (.aload_n 0, 1) := by decide +kernel
theorem dX8_as_42 : decode cX8_as 42 = .ok (.iconst 2, 1) := by decide +kernel
theorem dX8_as_43 : decode cX8_as 43 = .ok (.invokevirtual 82, 3) := by decide +kernel
theorem dX8_as_46 : decode cX8_as 46 = .ok (.ireturn, 1) := by decide +kernel
theorem dX8_trace_0 : decode cX8_trace 0 = .ok (.aload_n 0, 1) := by decide +kernel
theorem dX8_trace_1 : decode cX8_trace 1 = .ok (.getfield 192, 3) := by decide +kernel
theorem dX8_trace_4 : decode cX8_trace 4 = .ok (.ireturn, 1) := by decide +kernel
theorem dX8_fault_0 : decode cX8_fault 0 = .ok (.aload_n 0, 1) := by decide +kernel
theorem dX8_fault_1 : decode cX8_fault 1 = .ok (.getfield 58, 3) := by decide +kernel
theorem dX8_fault_4 : decode cX8_fault 4 = .ok (.ireturn, 1) := by decide +kernel
theorem dX8_many_0 : decode cX8_many 0 = .ok (.iload_n 1, 1) := by decide +kernel
theorem dX8_many_1 : decode cX8_many 1 = .ok (.ifCond .ne 10, 3) := by decide +kernel
theorem dX8_many_4 : decode cX8_many 4 = .ok (.aload_n 0, 1) := by decide +kernel
theorem dX8_many_5 : decode cX8_many 5 = .ok (.getfield 68, 3) := by decide +kernel
theorem dX8_many_8 : decode cX8_many 8 = .ok (.goto 29, 3) := by decide +kernel
theorem dX8_many_11 : decode cX8_many 11 = .ok (.iload_n 1, 1) := by decide +kernel
theorem dX8_many_12 : decode cX8_many 12 = .ok (.iconst 1, 1) := by decide +kernel
theorem dX8_many_13 : decode cX8_many 13 = .ok (.if_icmp .ne 10, 3) := by decide +kernel
theorem dX8_many_16 : decode cX8_many 16 = .ok (.aload_n 0, 1) := by decide +kernel
theorem dX8_many_17 : decode cX8_many 17 = .ok (.getfield 95, 3) := by decide +kernel
theorem dX8_many_20 : decode cX8_many 20 = .ok (.goto 17, 3) := by decide +kernel
theorem dX8_many_23 : decode cX8_many 23 = .ok (.iload_n 1, 1) := by decide +kernel
theorem dX8_many_24 : decode cX8_many 24 = .ok (.iconst 2, 1) := by decide +kernel
theorem dX8_many_25 : decode cX8_many 25 = .ok (.if_icmp .ne 10, 3) := by decide +kernel
theorem dX8_many_28 : decode cX8_many 28 = .ok (.aload_n 0, 1) := by decide +kernel
theorem dX8_many_29 : decode cX8_many 29 = .ok (.getfield 98, 3) := by decide +kernel
theorem dX8_many_32 : decode cX8_many 32 = .ok (.goto 5, 3) := by decide +kernel
theorem dX8_many_35 : decode cX8_many 35 = .ok (.bipush (-2), 2) := by decide +kernel
theorem dX8_many_37 : decode cX8_many 37 = .ok (.ireturn, 1) := by decide +kernel
theorem dJ6_bitCount_0f7a4_0 : decode cJ6_bitCount_0f7a4 0 = .ok (.iload_n 0, 1) := by decide +kernel
theorem dJ6_bitCount_0f7a4_1 : decode cJ6_bitCount_0f7a4 1 = .ok (.iload_n 0, 1) := by decide +kernel
theorem dJ6_bitCount_0f7a4_2 : decode cJ6_bitCount_0f7a4 2 = .ok (.iconst 1, 1) := by decide +kernel
theorem dJ6_bitCount_0f7a4_3 : decode cJ6_bitCount_0f7a4 3 = .ok (.iushr, 1) := by decide +kernel
theorem dJ6_bitCount_0f7a4_4 : decode cJ6_bitCount_0f7a4 4 = .ok (.ldc_w 265, 3) := by decide +kernel
theorem dJ6_bitCount_0f7a4_7 : decode cJ6_bitCount_0f7a4 7 = .ok (.iand, 1) := by decide +kernel
theorem dJ6_bitCount_0f7a4_8 : decode cJ6_bitCount_0f7a4 8 = .ok (.isub, 1) := by decide +kernel
theorem dJ6_bitCount_0f7a4_9 : decode cJ6_bitCount_0f7a4 9 = .ok (.istore_n 0, 1) := by decide +kernel
theorem dJ6_bitCount_0f7a4_10 : decode cJ6_bitCount_0f7a4 10 = .ok (.iload_n 0, 1) := by decide +kernel
theorem dJ6_bitCount_0f7a4_11 : decode cJ6_bitCount_0f7a4 11 = .ok (.ldc_w 266, 3) := by decide +kernel
theorem dJ6_bitCount_0f7a4_14 : decode cJ6_bitCount_0f7a4 14 = .ok (.iand, 1) := by decide +kernel
theorem dJ6_bitCount_0f7a4_15 : decode cJ6_bitCount_0f7a4 15 = .ok (.iload_n 0, 1) := by decide +kernel
theorem dJ6_bitCount_0f7a4_16 : decode cJ6_bitCount_0f7a4 16 = .ok (.iconst 2, 1) := by decide +kernel
theorem dJ6_bitCount_0f7a4_17 : decode cJ6_bitCount_0f7a4 17 = .ok (.iushr, 1) := by decide +kernel
theorem dJ6_bitCount_0f7a4_18 : decode cJ6_bitCount_0f7a4 18 = .ok (.ldc_w 266, 3) := by decide +kernel
theorem dJ6_bitCount_0f7a4_21 : decode cJ6_bitCount_0f7a4 21 = .ok (.iand, 1) := by decide +kernel
theorem dJ6_bitCount_0f7a4_22 : decode cJ6_bitCount_0f7a4 22 = .ok (.iadd, 1) := by decide +kernel
theorem dJ6_bitCount_0f7a4_23 : decode cJ6_bitCount_0f7a4 23 = .ok (.istore_n 0, 1) := by decide +kernel
theorem dJ6_bitCount_0f7a4_24 : decode cJ6_bitCount_0f7a4 24 = .ok (.iload_n 0, 1) := by decide +kernel
theorem dJ6_bitCount_0f7a4_25 : decode cJ6_bitCount_0f7a4 25 = .ok (.iload_n 0, 1) := by decide +kernel
theorem dJ6_bitCount_0f7a4_26 : decode cJ6_bitCount_0f7a4 26 = .ok (.iconst 4, 1) := by decide +kernel
theorem dJ6_bitCount_0f7a4_27 : decode cJ6_bitCount_0f7a4 27 = .ok (.iushr, 1) := by decide +kernel
theorem dJ6_bitCount_0f7a4_28 : decode cJ6_bitCount_0f7a4 28 = .ok (.iadd, 1) := by decide +kernel
theorem dJ6_bitCount_0f7a4_29 : decode cJ6_bitCount_0f7a4 29 = .ok (.ldc_w 267, 3) := by decide +kernel
theorem dJ6_bitCount_0f7a4_32 : decode cJ6_bitCount_0f7a4 32 = .ok (.iand, 1) := by decide +kernel
theorem dJ6_bitCount_0f7a4_33 : decode cJ6_bitCount_0f7a4 33 = .ok (.istore_n 0, 1) := by decide +kernel
theorem dJ6_bitCount_0f7a4_34 : decode cJ6_bitCount_0f7a4 34 = .ok (.iload_n 0, 1) := by decide +kernel
theorem dJ6_bitCount_0f7a4_35 : decode cJ6_bitCount_0f7a4 35 = .ok (.iload_n 0, 1) := by decide +kernel
theorem dJ6_bitCount_0f7a4_36 : decode cJ6_bitCount_0f7a4 36 = .ok (.bipush 8, 2) := by decide +kernel
theorem dJ6_bitCount_0f7a4_38 : decode cJ6_bitCount_0f7a4 38 = .ok (.iushr, 1) := by decide +kernel
theorem dJ6_bitCount_0f7a4_39 : decode cJ6_bitCount_0f7a4 39 = .ok (.iadd, 1) := by decide +kernel
theorem dJ6_bitCount_0f7a4_40 : decode cJ6_bitCount_0f7a4 40 = .ok (.istore_n 0, 1) := by decide +kernel
theorem dJ6_bitCount_0f7a4_41 : decode cJ6_bitCount_0f7a4 41 = .ok (.iload_n 0, 1) := by decide +kernel
theorem dJ6_bitCount_0f7a4_42 : decode cJ6_bitCount_0f7a4 42 = .ok (.iload_n 0, 1) := by decide +kernel
theorem dJ6_bitCount_0f7a4_43 : decode cJ6_bitCount_0f7a4 43 = .ok (.bipush 16, 2) := by decide +kernel
theorem dJ6_bitCount_0f7a4_45 : decode cJ6_bitCount_0f7a4 45 = .ok (.iushr, 1) := by decide +kernel
theorem dJ6_bitCount_0f7a4_46 : decode cJ6_bitCount_0f7a4 46 = .ok (.iadd, 1) := by decide +kernel
theorem dJ6_bitCount_0f7a4_47 : decode cJ6_bitCount_0f7a4 47 = .ok (.istore_n 0, 1) := by decide +kernel
theorem dJ6_bitCount_0f7a4_48 : decode cJ6_bitCount_0f7a4 48 = .ok (.iload_n 0, 1) := by decide +kernel
theorem dJ6_bitCount_0f7a4_49 : decode cJ6_bitCount_0f7a4 49 = .ok (.bipush 63, 2) := by decide +kernel
theorem dJ6_bitCount_0f7a4_51 : decode cJ6_bitCount_0f7a4 51 = .ok (.iand, 1) := by decide +kernel
theorem dJ6_bitCount_0f7a4_52 : decode cJ6_bitCount_0f7a4 52 = .ok (.ireturn, 1) := by decide +kernel
theorem dJ9_max_7cf53_0 : decode cJ9_max_7cf53 0 = .ok (.iload_n 0, 1) := by decide +kernel
theorem dJ9_max_7cf53_1 : decode cJ9_max_7cf53 1 = .ok (.iload_n 1, 1) := by decide +kernel
theorem dJ9_max_7cf53_2 : decode cJ9_max_7cf53 2 = .ok (.if_icmp .lt 7, 3) := by decide +kernel
theorem dJ9_max_7cf53_5 : decode cJ9_max_7cf53 5 = .ok (.iload_n 0, 1) := by decide +kernel
theorem dJ9_max_7cf53_6 : decode cJ9_max_7cf53 6 = .ok (.goto 4, 3) := by decide +kernel
theorem dJ9_max_7cf53_9 : decode cJ9_max_7cf53 9 = .ok (.iload_n 1, 1) := by decide +kernel
theorem dJ9_max_7cf53_10 : decode cJ9_max_7cf53 10 = .ok (.ireturn, 1) := by decide +kernel
theorem dJ9_min_7cf53_0 : decode cJ9_min_7cf53 0 = .ok (.iload_n 0, 1) := by decide +kernel
theorem dJ9_min_7cf53_1 : decode cJ9_min_7cf53 1 = .ok (.iload_n 1, 1) := by decide +kernel
theorem dJ9_min_7cf53_2 : decode cJ9_min_7cf53 2 = .ok (.if_icmp .gt 7, 3) := by decide +kernel
theorem dJ9_min_7cf53_5 : decode cJ9_min_7cf53 5 = .ok (.iload_n 0, 1) := by decide +kernel
theorem dJ9_min_7cf53_6 : decode cJ9_min_7cf53 6 = .ok (.goto 4, 3) := by decide +kernel
theorem dJ9_min_7cf53_9 : decode cJ9_min_7cf53 9 = .ok (.iload_n 1, 1) := by decide +kernel
theorem dJ9_min_7cf53_10 : decode cJ9_min_7cf53 10 = .ok (.ireturn, 1) := by decide +kernel
theorem dL_law_0 : decode cL_law 0 = .ok (.new 7, 3) := by decide +kernel
theorem dL_law_3 : decode cL_law 3 = .ok (.dup, 1) := by decide +kernel
theorem dL_law_4 : decode cL_law 4 = .ok (.invokespecial 9, 3) := by decide +kernel
theorem dL_law_7 : decode cL_law 7 = .ok (.astore_n 1, 1) := by decide +kernel
theorem dL_law_8 : decode cL_law 8 = .ok (.new 10, 3) := by decide +kernel
theorem dL_law_11 : decode cL_law 11 = .ok (.dup, 1) := by decide +kernel
theorem dL_law_12 : decode cL_law 12 = .ok (.invokespecial 12, 3) := by decide +kernel
theorem dL_law_15 : decode cL_law 15 = .ok (.astore_n 2, 1) := by decide +kernel
theorem dL_law_16 : decode cL_law 16 = .ok (.iconst 0, 1) := by decide +kernel
theorem dL_law_17 : decode cL_law 17 = .ok (.istore_n 3, 1) := by decide +kernel
theorem dL_law_18 : decode cL_law 18 = .ok (.iload_n 3, 1) := by decide +kernel
theorem dL_law_19 : decode cL_law 19 = .ok (.aload_n 0, 1) := by decide +kernel
theorem dL_law_20 : decode cL_law 20 = .ok (.arraylength, 1) := by decide +kernel
theorem dL_law_21 : decode cL_law 21 = .ok (.bipush 7, 2) := by decide +kernel
theorem dL_law_23 : decode cL_law 23 = .ok (.isub, 1) := by decide +kernel
theorem dL_law_24 : decode cL_law 24 = .ok (.if_icmp .gt 1441, 3) := by decide +kernel
theorem dL_law_27 : decode cL_law 27 = .ok (.aload_n 0, 1) := by decide +kernel
theorem dL_law_28 : decode cL_law 28 = .ok (.iload_n 3, 1) := by decide +kernel
theorem dL_law_29 : decode cL_law 29 = .ok (.iaload, 1) := by decide +kernel
theorem dL_law_30 : decode cL_law 30 = .ok (.bipush 63, 2) := by decide +kernel
theorem dL_law_32 : decode cL_law 32 = .ok (.iand, 1) := by decide +kernel
theorem dL_law_33 : decode cL_law 33 = .ok (.tableswitch 1426 0 34 #[155, 208, 231, 264, 297, 330, 373, 406, 439, 492, 535, 598, 651, 674, 687, 720, 753, 786, 809, 832, 865, 940, 1015, 1048, 1082, 1125, 1148, 1191, 1235, 1298, 1321, 1344, 1377, 1390, 1403], 155) := by decide +kernel
theorem dL_law_188 : decode cL_law 188 = .ok (.aload_n 1, 1) := by decide +kernel
theorem dL_law_189 : decode cL_law 189 = .ok (.aload_n 0, 1) := by decide +kernel
theorem dL_law_190 : decode cL_law 190 = .ok (.iload_n 3, 1) := by decide +kernel
theorem dL_law_191 : decode cL_law 191 = .ok (.iconst 1, 1) := by decide +kernel
theorem dL_law_192 : decode cL_law 192 = .ok (.iadd, 1) := by decide +kernel
theorem dL_law_193 : decode cL_law 193 = .ok (.iaload, 1) := by decide +kernel
theorem dL_law_194 : decode cL_law 194 = .ok (.aload_n 0, 1) := by decide +kernel
theorem dL_law_195 : decode cL_law 195 = .ok (.iload_n 3, 1) := by decide +kernel
theorem dL_law_196 : decode cL_law 196 = .ok (.iconst 2, 1) := by decide +kernel
theorem dL_law_197 : decode cL_law 197 = .ok (.iadd, 1) := by decide +kernel
theorem dL_law_198 : decode cL_law 198 = .ok (.iaload, 1) := by decide +kernel
theorem dL_law_199 : decode cL_law 199 = .ok (.aload_n 0, 1) := by decide +kernel
theorem dL_law_200 : decode cL_law 200 = .ok (.iload_n 3, 1) := by decide +kernel
theorem dL_law_201 : decode cL_law 201 = .ok (.iconst 3, 1) := by decide +kernel
theorem dL_law_202 : decode cL_law 202 = .ok (.iadd, 1) := by decide +kernel
theorem dL_law_203 : decode cL_law 203 = .ok (.iaload, 1) := by decide +kernel
theorem dL_law_204 : decode cL_law 204 = .ok (.aload_n 0, 1) := by decide +kernel
theorem dL_law_205 : decode cL_law 205 = .ok (.iload_n 3, 1) := by decide +kernel
theorem dL_law_206 : decode cL_law 206 = .ok (.iconst 4, 1) := by decide +kernel
theorem dL_law_207 : decode cL_law 207 = .ok (.iadd, 1) := by decide +kernel
theorem dL_law_208 : decode cL_law 208 = .ok (.iaload, 1) := by decide +kernel
theorem dL_law_209 : decode cL_law 209 = .ok (.invokevirtual 13, 3) := by decide +kernel
theorem dL_law_212 : decode cL_law 212 = .ok (.aload_n 2, 1) := by decide +kernel
theorem dL_law_213 : decode cL_law 213 = .ok (.aload_n 0, 1) := by decide +kernel
theorem dL_law_214 : decode cL_law 214 = .ok (.iload_n 3, 1) := by decide +kernel
theorem dL_law_215 : decode cL_law 215 = .ok (.iconst 1, 1) := by decide +kernel
theorem dL_law_216 : decode cL_law 216 = .ok (.iadd, 1) := by decide +kernel
theorem dL_law_217 : decode cL_law 217 = .ok (.iaload, 1) := by decide +kernel
theorem dL_law_218 : decode cL_law 218 = .ok (.aload_n 0, 1) := by decide +kernel
theorem dL_law_219 : decode cL_law 219 = .ok (.iload_n 3, 1) := by decide +kernel
theorem dL_law_220 : decode cL_law 220 = .ok (.iconst 2, 1) := by decide +kernel
theorem dL_law_221 : decode cL_law 221 = .ok (.iadd, 1) := by decide +kernel
theorem dL_law_222 : decode cL_law 222 = .ok (.iaload, 1) := by decide +kernel
theorem dL_law_223 : decode cL_law 223 = .ok (.aload_n 0, 1) := by decide +kernel
theorem dL_law_224 : decode cL_law 224 = .ok (.iload_n 3, 1) := by decide +kernel
theorem dL_law_225 : decode cL_law 225 = .ok (.iconst 3, 1) := by decide +kernel
theorem dL_law_226 : decode cL_law 226 = .ok (.iadd, 1) := by decide +kernel
theorem dL_law_227 : decode cL_law 227 = .ok (.iaload, 1) := by decide +kernel
theorem dL_law_228 : decode cL_law 228 = .ok (.aload_n 0, 1) := by decide +kernel
theorem dL_law_229 : decode cL_law 229 = .ok (.iload_n 3, 1) := by decide +kernel
theorem dL_law_230 : decode cL_law 230 = .ok (.iconst 4, 1) := by decide +kernel
theorem dL_law_231 : decode cL_law 231 = .ok (.iadd, 1) := by decide +kernel
theorem dL_law_232 : decode cL_law 232 = .ok (.iaload, 1) := by decide +kernel
theorem dL_law_233 : decode cL_law 233 = .ok (.invokevirtual 17, 3) := by decide +kernel
theorem dL_law_236 : decode cL_law 236 = .ok (.if_icmp .eq 1223, 3) := by decide +kernel
theorem dL_law_239 : decode cL_law 239 = .ok (.iconst 0, 1) := by decide +kernel
theorem dL_law_240 : decode cL_law 240 = .ok (.ireturn, 1) := by decide +kernel
theorem dL_law_241 : decode cL_law 241 = .ok (.aload_n 1, 1) := by decide +kernel
theorem dL_law_242 : decode cL_law 242 = .ok (.aload_n 0, 1) := by decide +kernel
theorem dL_law_243 : decode cL_law 243 = .ok (.iload_n 3, 1) := by decide +kernel
theorem dL_law_244 : decode cL_law 244 = .ok (.iconst 1, 1) := by decide +kernel
theorem dL_law_245 : decode cL_law 245 = .ok (.iadd, 1) := by decide +kernel
theorem dL_law_246 : decode cL_law 246 = .ok (.iaload, 1) := by decide +kernel
theorem dL_law_247 : decode cL_law 247 = .ok (.invokevirtual 18, 3) := by decide +kernel
theorem dL_law_250 : decode cL_law 250 = .ok (.aload_n 2, 1) := by decide +kernel
theorem dL_law_251 : decode cL_law 251 = .ok (.aload_n 0, 1) := by decide +kernel
theorem dL_law_252 : decode cL_law 252 = .ok (.iload_n 3, 1) := by decide +kernel
theorem dL_law_253 : decode cL_law 253 = .ok (.iconst 1, 1) := by decide +kernel
theorem dL_law_254 : decode cL_law 254 = .ok (.iadd, 1) := by decide +kernel
theorem dL_law_255 : decode cL_law 255 = .ok (.iaload, 1) := by decide +kernel
theorem dL_law_256 : decode cL_law 256 = .ok (.invokevirtual 22, 3) := by decide +kernel
theorem dL_law_259 : decode cL_law 259 = .ok (.if_icmp .eq 1200, 3) := by decide +kernel
theorem dL_law_262 : decode cL_law 262 = .ok (.iconst 0, 1) := by decide +kernel
theorem dL_law_263 : decode cL_law 263 = .ok (.ireturn, 1) := by decide +kernel
theorem dL_law_264 : decode cL_law 264 = .ok (.aload_n 1, 1) := by decide +kernel
theorem dL_law_265 : decode cL_law 265 = .ok (.aload_n 0, 1) := by decide +kernel
theorem dL_law_266 : decode cL_law 266 = .ok (.iload_n 3, 1) := by decide +kernel
theorem dL_law_267 : decode cL_law 267 = .ok (.iconst 1, 1) := by decide +kernel
theorem dL_law_268 : decode cL_law 268 = .ok (.iadd, 1) := by decide +kernel
theorem dL_law_269 : decode cL_law 269 = .ok (.iaload, 1) := by decide +kernel
theorem dL_law_270 : decode cL_law 270 = .ok (.aload_n 0, 1) := by decide +kernel
theorem dL_law_271 : decode cL_law 271 = .ok (.iload_n 3, 1) := by decide +kernel
theorem dL_law_272 : decode cL_law 272 = .ok (.iconst 2, 1) := by decide +kernel
theorem dL_law_273 : decode cL_law 273 = .ok (.iadd, 1) := by decide +kernel
theorem dL_law_274 : decode cL_law 274 = .ok (.iaload, 1) := by decide +kernel
theorem dL_law_275 : decode cL_law 275 = .ok (.invokevirtual 23, 3) := by decide +kernel
theorem dL_law_278 : decode cL_law 278 = .ok (.aload_n 2, 1) := by decide +kernel
theorem dL_law_279 : decode cL_law 279 = .ok (.aload_n 0, 1) := by decide +kernel
theorem dL_law_280 : decode cL_law 280 = .ok (.iload_n 3, 1) := by decide +kernel
theorem dL_law_281 : decode cL_law 281 = .ok (.iconst 1, 1) := by decide +kernel
theorem dL_law_282 : decode cL_law 282 = .ok (.iadd, 1) := by decide +kernel
theorem dL_law_283 : decode cL_law 283 = .ok (.iaload, 1) := by decide +kernel
theorem dL_law_284 : decode cL_law 284 = .ok (.aload_n 0, 1) := by decide +kernel
theorem dL_law_285 : decode cL_law 285 = .ok (.iload_n 3, 1) := by decide +kernel
theorem dL_law_286 : decode cL_law 286 = .ok (.iconst 2, 1) := by decide +kernel
theorem dL_law_287 : decode cL_law 287 = .ok (.iadd, 1) := by decide +kernel
theorem dL_law_288 : decode cL_law 288 = .ok (.iaload, 1) := by decide +kernel
theorem dL_law_289 : decode cL_law 289 = .ok (.invokevirtual 27, 3) := by decide +kernel
theorem dL_law_292 : decode cL_law 292 = .ok (.if_icmp .eq 1167, 3) := by decide +kernel
theorem dL_law_295 : decode cL_law 295 = .ok (.iconst 0, 1) := by decide +kernel
theorem dL_law_296 : decode cL_law 296 = .ok (.ireturn, 1) := by decide +kernel
theorem dL_law_297 : decode cL_law 297 = .ok (.aload_n 1, 1) := by decide +kernel
theorem dL_law_298 : decode cL_law 298 = .ok (.aload_n 0, 1) := by decide +kernel
theorem dL_law_299 : decode cL_law 299 = .ok (.iload_n 3, 1) := by decide +kernel
theorem dL_law_300 : decode cL_law 300 = .ok (.iconst 1, 1) := by decide +kernel
theorem dL_law_301 : decode cL_law 301 = .ok (.iadd, 1) := by decide +kernel
theorem dL_law_302 : decode cL_law 302 = .ok (.iaload, 1) := by decide +kernel
theorem dL_law_303 : decode cL_law 303 = .ok (.aload_n 0, 1) := by decide +kernel
theorem dL_law_304 : decode cL_law 304 = .ok (.iload_n 3, 1) := by decide +kernel
theorem dL_law_305 : decode cL_law 305 = .ok (.iconst 2, 1) := by decide +kernel
theorem dL_law_306 : decode cL_law 306 = .ok (.iadd, 1) := by decide +kernel
theorem dL_law_307 : decode cL_law 307 = .ok (.iaload, 1) := by decide +kernel
theorem dL_law_308 : decode cL_law 308 = .ok (.invokevirtual 28, 3) := by decide +kernel
theorem dL_law_311 : decode cL_law 311 = .ok (.aload_n 2, 1) := by decide +kernel
theorem dL_law_312 : decode cL_law 312 = .ok (.aload_n 0, 1) := by decide +kernel
theorem dL_law_313 : decode cL_law 313 = .ok (.iload_n 3, 1) := by decide +kernel
theorem dL_law_314 : decode cL_law 314 = .ok (.iconst 1, 1) := by decide +kernel
theorem dL_law_315 : decode cL_law 315 = .ok (.iadd, 1) := by decide +kernel
theorem dL_law_316 : decode cL_law 316 = .ok (.iaload, 1) := by decide +kernel
theorem dL_law_317 : decode cL_law 317 = .ok (.aload_n 0, 1) := by decide +kernel
theorem dL_law_318 : decode cL_law 318 = .ok (.iload_n 3, 1) := by decide +kernel
theorem dL_law_319 : decode cL_law 319 = .ok (.iconst 2, 1) := by decide +kernel
theorem dL_law_320 : decode cL_law 320 = .ok (.iadd, 1) := by decide +kernel
theorem dL_law_321 : decode cL_law 321 = .ok (.iaload, 1) := by decide +kernel
theorem dL_law_322 : decode cL_law 322 = .ok (.invokevirtual 31, 3) := by decide +kernel
theorem dL_law_325 : decode cL_law 325 = .ok (.if_icmp .eq 1134, 3) := by decide +kernel
theorem dL_law_328 : decode cL_law 328 = .ok (.iconst 0, 1) := by decide +kernel
theorem dL_law_329 : decode cL_law 329 = .ok (.ireturn, 1) := by decide +kernel
theorem dL_law_330 : decode cL_law 330 = .ok (.aload_n 1, 1) := by decide +kernel
theorem dL_law_331 : decode cL_law 331 = .ok (.aload_n 0, 1) := by decide +kernel
theorem dL_law_332 : decode cL_law 332 = .ok (.iload_n 3, 1) := by decide +kernel
theorem dL_law_333 : decode cL_law 333 = .ok (.iconst 1, 1) := by decide +kernel
theorem dL_law_334 : decode cL_law 334 = .ok (.iadd, 1) := by decide +kernel
theorem dL_law_335 : decode cL_law 335 = .ok (.iaload, 1) := by decide +kernel
theorem dL_law_336 : decode cL_law 336 = .ok (.aload_n 0, 1) := by decide +kernel
theorem dL_law_337 : decode cL_law 337 = .ok (.iload_n 3, 1) := by decide +kernel
theorem dL_law_338 : decode cL_law 338 = .ok (.iconst 2, 1) := by decide +kernel
theorem dL_law_339 : decode cL_law 339 = .ok (.iadd, 1) := by decide +kernel
theorem dL_law_340 : decode cL_law 340 = .ok (.iaload, 1) := by decide +kernel
theorem dL_law_341 : decode cL_law 341 = .ok (.invokevirtual 32, 3) := by decide +kernel
theorem dL_law_344 : decode cL_law 344 = .ok (.aload_n 2, 1) := by decide +kernel
theorem dL_law_345 : decode cL_law 345 = .ok (.aload_n 0, 1) := by decide +kernel
theorem dL_law_346 : decode cL_law 346 = .ok (.iload_n 3, 1) := by decide +kernel
theorem dL_law_347 : decode cL_law 347 = .ok (.iconst 1, 1) := by decide +kernel
theorem dL_law_348 : decode cL_law 348 = .ok (.iadd, 1) := by decide +kernel
theorem dL_law_349 : decode cL_law 349 = .ok (.iaload, 1) := by decide +kernel
theorem dL_law_350 : decode cL_law 350 = .ok (.aload_n 0, 1) := by decide +kernel
theorem dL_law_351 : decode cL_law 351 = .ok (.iload_n 3, 1) := by decide +kernel
theorem dL_law_352 : decode cL_law 352 = .ok (.iconst 2, 1) := by decide +kernel
theorem dL_law_353 : decode cL_law 353 = .ok (.iadd, 1) := by decide +kernel
theorem dL_law_354 : decode cL_law 354 = .ok (.iaload, 1) := by decide +kernel
theorem dL_law_355 : decode cL_law 355 = .ok (.invokevirtual 35, 3) := by decide +kernel
theorem dL_law_358 : decode cL_law 358 = .ok (.if_icmp .eq 1101, 3) := by decide +kernel
theorem dL_law_361 : decode cL_law 361 = .ok (.iconst 0, 1) := by decide +kernel
theorem dL_law_362 : decode cL_law 362 = .ok (.ireturn, 1) := by decide +kernel
theorem dL_law_363 : decode cL_law 363 = .ok (.aload_n 1, 1) := by decide +kernel
theorem dL_law_364 : decode cL_law 364 = .ok (.aload_n 0, 1) := by decide +kernel
theorem dL_law_365 : decode cL_law 365 = .ok (.iload_n 3, 1) := by decide +kernel
theorem dL_law_366 : decode cL_law 366 = .ok (.iconst 1, 1) := by decide +kernel
theorem dL_law_367 : decode cL_law 367 = .ok (.iadd, 1) := by decide +kernel
theorem dL_law_368 : decode cL_law 368 = .ok (.iaload, 1) := by decide +kernel
theorem dL_law_369 : decode cL_law 369 = .ok (.aload_n 0, 1) := by decide +kernel
theorem dL_law_370 : decode cL_law 370 = .ok (.iload_n 3, 1) := by decide +kernel
theorem dL_law_371 : decode cL_law 371 = .ok (.iconst 2, 1) := by decide +kernel
theorem dL_law_372 : decode cL_law 372 = .ok (.iadd, 1) := by decide +kernel
theorem dL_law_373 : decode cL_law 373 = .ok (.iaload, 1) := by decide +kernel
theorem dL_law_374 : decode cL_law 374 = .ok (.aload_n 0, 1) := by decide +kernel
theorem dL_law_375 : decode cL_law 375 = .ok (.iload_n 3, 1) := by decide +kernel
theorem dL_law_376 : decode cL_law 376 = .ok (.iconst 3, 1) := by decide +kernel
theorem dL_law_377 : decode cL_law 377 = .ok (.iadd, 1) := by decide +kernel
theorem dL_law_378 : decode cL_law 378 = .ok (.iaload, 1) := by decide +kernel
theorem dL_law_379 : decode cL_law 379 = .ok (.invokevirtual 36, 3) := by decide +kernel
theorem dL_law_382 : decode cL_law 382 = .ok (.aload_n 2, 1) := by decide +kernel
theorem dL_law_383 : decode cL_law 383 = .ok (.aload_n 0, 1) := by decide +kernel
theorem dL_law_384 : decode cL_law 384 = .ok (.iload_n 3, 1) := by decide +kernel
theorem dL_law_385 : decode cL_law 385 = .ok (.iconst 1, 1) := by decide +kernel
theorem dL_law_386 : decode cL_law 386 = .ok (.iadd, 1) := by decide +kernel
theorem dL_law_387 : decode cL_law 387 = .ok (.iaload, 1) := by decide +kernel
theorem dL_law_388 : decode cL_law 388 = .ok (.aload_n 0, 1) := by decide +kernel
theorem dL_law_389 : decode cL_law 389 = .ok (.iload_n 3, 1) := by decide +kernel
theorem dL_law_390 : decode cL_law 390 = .ok (.iconst 2, 1) := by decide +kernel
theorem dL_law_391 : decode cL_law 391 = .ok (.iadd, 1) := by decide +kernel
theorem dL_law_392 : decode cL_law 392 = .ok (.iaload, 1) := by decide +kernel
theorem dL_law_393 : decode cL_law 393 = .ok (.aload_n 0, 1) := by decide +kernel
theorem dL_law_394 : decode cL_law 394 = .ok (.iload_n 3, 1) := by decide +kernel
theorem dL_law_395 : decode cL_law 395 = .ok (.iconst 3, 1) := by decide +kernel
theorem dL_law_396 : decode cL_law 396 = .ok (.iadd, 1) := by decide +kernel
theorem dL_law_397 : decode cL_law 397 = .ok (.iaload, 1) := by decide +kernel
theorem dL_law_398 : decode cL_law 398 = .ok (.invokevirtual 40, 3) := by decide +kernel
theorem dL_law_401 : decode cL_law 401 = .ok (.if_icmp .eq 1058, 3) := by decide +kernel
theorem dL_law_404 : decode cL_law 404 = .ok (.iconst 0, 1) := by decide +kernel
theorem dL_law_405 : decode cL_law 405 = .ok (.ireturn, 1) := by decide +kernel
theorem dL_law_406 : decode cL_law 406 = .ok (.aload_n 1, 1) := by decide +kernel
theorem dL_law_407 : decode cL_law 407 = .ok (.aload_n 0, 1) := by decide +kernel
theorem dL_law_408 : decode cL_law 408 = .ok (.iload_n 3, 1) := by decide +kernel
theorem dL_law_409 : decode cL_law 409 = .ok (.iconst 1, 1) := by decide +kernel
theorem dL_law_410 : decode cL_law 410 = .ok (.iadd, 1) := by decide +kernel
theorem dL_law_411 : decode cL_law 411 = .ok (.iaload, 1) := by decide +kernel
theorem dL_law_412 : decode cL_law 412 = .ok (.aload_n 0, 1) := by decide +kernel
theorem dL_law_413 : decode cL_law 413 = .ok (.iload_n 3, 1) := by decide +kernel
theorem dL_law_414 : decode cL_law 414 = .ok (.iconst 2, 1) := by decide +kernel
theorem dL_law_415 : decode cL_law 415 = .ok (.iadd, 1) := by decide +kernel
theorem dL_law_416 : decode cL_law 416 = .ok (.iaload, 1) := by decide +kernel
theorem dL_law_417 : decode cL_law 417 = .ok (.invokevirtual 41, 3) := by decide +kernel
theorem dL_law_420 : decode cL_law 420 = .ok (.aload_n 2, 1) := by decide +kernel
theorem dL_law_421 : decode cL_law 421 = .ok (.aload_n 0, 1) := by decide +kernel
theorem dL_law_422 : decode cL_law 422 = .ok (.iload_n 3, 1) := by decide +kernel
theorem dL_law_423 : decode cL_law 423 = .ok (.iconst 1, 1) := by decide +kernel
theorem dL_law_424 : decode cL_law 424 = .ok (.iadd, 1) := by decide +kernel
theorem dL_law_425 : decode cL_law 425 = .ok (.iaload, 1) := by decide +kernel
theorem dL_law_426 : decode cL_law 426 = .ok (.aload_n 0, 1) := by decide +kernel
theorem dL_law_427 : decode cL_law 427 = .ok (.iload_n 3, 1) := by decide +kernel
theorem dL_law_428 : decode cL_law 428 = .ok (.iconst 2, 1) := by decide +kernel
theorem dL_law_429 : decode cL_law 429 = .ok (.iadd, 1) := by decide +kernel
theorem dL_law_430 : decode cL_law 430 = .ok (.iaload, 1) := by decide +kernel
theorem dL_law_431 : decode cL_law 431 = .ok (.invokevirtual 44, 3) := by decide +kernel
theorem dL_law_434 : decode cL_law 434 = .ok (.if_icmp .eq 1025, 3) := by decide +kernel
theorem dL_law_437 : decode cL_law 437 = .ok (.iconst 0, 1) := by decide +kernel
theorem dL_law_438 : decode cL_law 438 = .ok (.ireturn, 1) := by decide +kernel
theorem dL_law_439 : decode cL_law 439 = .ok (.aload_n 1, 1) := by decide +kernel
theorem dL_law_440 : decode cL_law 440 = .ok (.aload_n 0, 1) := by decide +kernel
theorem dL_law_441 : decode cL_law 441 = .ok (.iload_n 3, 1) := by decide +kernel
theorem dL_law_442 : decode cL_law 442 = .ok (.iconst 1, 1) := by decide +kernel
theorem dL_law_443 : decode cL_law 443 = .ok (.iadd, 1) := by decide +kernel
theorem dL_law_444 : decode cL_law 444 = .ok (.iaload, 1) := by decide +kernel
theorem dL_law_445 : decode cL_law 445 = .ok (.aload_n 0, 1) := by decide +kernel
theorem dL_law_446 : decode cL_law 446 = .ok (.iload_n 3, 1) := by decide +kernel
theorem dL_law_447 : decode cL_law 447 = .ok (.iconst 2, 1) := by decide +kernel
theorem dL_law_448 : decode cL_law 448 = .ok (.iadd, 1) := by decide +kernel
theorem dL_law_449 : decode cL_law 449 = .ok (.iaload, 1) := by decide +kernel
theorem dL_law_450 : decode cL_law 450 = .ok (.invokevirtual 45, 3) := by decide +kernel
theorem dL_law_453 : decode cL_law 453 = .ok (.aload_n 2, 1) := by decide +kernel
theorem dL_law_454 : decode cL_law 454 = .ok (.aload_n 0, 1) := by decide +kernel
theorem dL_law_455 : decode cL_law 455 = .ok (.iload_n 3, 1) := by decide +kernel
theorem dL_law_456 : decode cL_law 456 = .ok (.iconst 1, 1) := by decide +kernel
theorem dL_law_457 : decode cL_law 457 = .ok (.iadd, 1) := by decide +kernel
theorem dL_law_458 : decode cL_law 458 = .ok (.iaload, 1) := by decide +kernel
theorem dL_law_459 : decode cL_law 459 = .ok (.aload_n 0, 1) := by decide +kernel
theorem dL_law_460 : decode cL_law 460 = .ok (.iload_n 3, 1) := by decide +kernel
theorem dL_law_461 : decode cL_law 461 = .ok (.iconst 2, 1) := by decide +kernel
theorem dL_law_462 : decode cL_law 462 = .ok (.iadd, 1) := by decide +kernel
theorem dL_law_463 : decode cL_law 463 = .ok (.iaload, 1) := by decide +kernel
theorem dL_law_464 : decode cL_law 464 = .ok (.invokevirtual 48, 3) := by decide +kernel
theorem dL_law_467 : decode cL_law 467 = .ok (.if_icmp .eq 992, 3) := by decide +kernel
theorem dL_law_470 : decode cL_law 470 = .ok (.iconst 0, 1) := by decide +kernel
theorem dL_law_471 : decode cL_law 471 = .ok (.ireturn, 1) := by decide +kernel
theorem dL_law_472 : decode cL_law 472 = .ok (.aload_n 1, 1) := by decide +kernel
theorem dL_law_473 : decode cL_law 473 = .ok (.aload_n 0, 1) := by decide +kernel
theorem dL_law_474 : decode cL_law 474 = .ok (.iload_n 3, 1) := by decide +kernel
theorem dL_law_475 : decode cL_law 475 = .ok (.iconst 1, 1) := by decide +kernel
theorem dL_law_476 : decode cL_law 476 = .ok (.iadd, 1) := by decide +kernel
theorem dL_law_477 : decode cL_law 477 = .ok (.iaload, 1) := by decide +kernel
theorem dL_law_478 : decode cL_law 478 = .ok (.aload_n 0, 1) := by decide +kernel
theorem dL_law_479 : decode cL_law 479 = .ok (.iload_n 3, 1) := by decide +kernel
theorem dL_law_480 : decode cL_law 480 = .ok (.iconst 2, 1) := by decide +kernel
theorem dL_law_481 : decode cL_law 481 = .ok (.iadd, 1) := by decide +kernel
theorem dL_law_482 : decode cL_law 482 = .ok (.iaload, 1) := by decide +kernel
theorem dL_law_483 : decode cL_law 483 = .ok (.aload_n 0, 1) := by decide +kernel
theorem dL_law_484 : decode cL_law 484 = .ok (.iload_n 3, 1) := by decide +kernel
theorem dL_law_485 : decode cL_law 485 = .ok (.iconst 3, 1) := by decide +kernel
theorem dL_law_486 : decode cL_law 486 = .ok (.iadd, 1) := by decide +kernel
theorem dL_law_487 : decode cL_law 487 = .ok (.iaload, 1) := by decide +kernel
theorem dL_law_488 : decode cL_law 488 = .ok (.aload_n 0, 1) := by decide +kernel
theorem dL_law_489 : decode cL_law 489 = .ok (.iload_n 3, 1) := by decide +kernel
theorem dL_law_490 : decode cL_law 490 = .ok (.iconst 4, 1) := by decide +kernel
theorem dL_law_491 : decode cL_law 491 = .ok (.iadd, 1) := by decide +kernel
theorem dL_law_492 : decode cL_law 492 = .ok (.iaload, 1) := by decide +kernel
theorem dL_law_493 : decode cL_law 493 = .ok (.invokevirtual 49, 3) := by decide +kernel
theorem dL_law_496 : decode cL_law 496 = .ok (.aload_n 2, 1) := by decide +kernel
theorem dL_law_497 : decode cL_law 497 = .ok (.aload_n 0, 1) := by decide +kernel
theorem dL_law_498 : decode cL_law 498 = .ok (.iload_n 3, 1) := by decide +kernel
theorem dL_law_499 : decode cL_law 499 = .ok (.iconst 1, 1) := by decide +kernel
theorem dL_law_500 : decode cL_law 500 = .ok (.iadd, 1) := by decide +kernel
theorem dL_law_501 : decode cL_law 501 = .ok (.iaload, 1) := by decide +kernel
theorem dL_law_502 : decode cL_law 502 = .ok (.aload_n 0, 1) := by decide +kernel
theorem dL_law_503 : decode cL_law 503 = .ok (.iload_n 3, 1) := by decide +kernel
theorem dL_law_504 : decode cL_law 504 = .ok (.iconst 2, 1) := by decide +kernel
theorem dL_law_505 : decode cL_law 505 = .ok (.iadd, 1) := by decide +kernel
theorem dL_law_506 : decode cL_law 506 = .ok (.iaload, 1) := by decide +kernel
theorem dL_law_507 : decode cL_law 507 = .ok (.aload_n 0, 1) := by decide +kernel
theorem dL_law_508 : decode cL_law 508 = .ok (.iload_n 3, 1) := by decide +kernel
theorem dL_law_509 : decode cL_law 509 = .ok (.iconst 3, 1) := by decide +kernel
theorem dL_law_510 : decode cL_law 510 = .ok (.iadd, 1) := by decide +kernel
theorem dL_law_511 : decode cL_law 511 = .ok (.iaload, 1) := by decide +kernel
theorem dL_law_512 : decode cL_law 512 = .ok (.aload_n 0, 1) := by decide +kernel
theorem dL_law_513 : decode cL_law 513 = .ok (.iload_n 3, 1) := by decide +kernel
theorem dL_law_514 : decode cL_law 514 = .ok (.iconst 4, 1) := by decide +kernel
theorem dL_law_515 : decode cL_law 515 = .ok (.iadd, 1) := by decide +kernel
theorem dL_law_516 : decode cL_law 516 = .ok (.iaload, 1) := by decide +kernel
theorem dL_law_517 : decode cL_law 517 = .ok (.invokevirtual 52, 3) := by decide +kernel
theorem dL_law_520 : decode cL_law 520 = .ok (.if_icmp .eq 939, 3) := by decide +kernel
theorem dL_law_523 : decode cL_law 523 = .ok (.iconst 0, 1) := by decide +kernel
theorem dL_law_524 : decode cL_law 524 = .ok (.ireturn, 1) := by decide +kernel
theorem dL_law_525 : decode cL_law 525 = .ok (.aload_n 1, 1) := by decide +kernel
theorem dL_law_526 : decode cL_law 526 = .ok (.aload_n 0, 1) := by decide +kernel
theorem dL_law_527 : decode cL_law 527 = .ok (.iload_n 3, 1) := by decide +kernel
theorem dL_law_528 : decode cL_law 528 = .ok (.iconst 1, 1) := by decide +kernel
theorem dL_law_529 : decode cL_law 529 = .ok (.iadd, 1) := by decide +kernel
theorem dL_law_530 : decode cL_law 530 = .ok (.iaload, 1) := by decide +kernel
theorem dL_law_531 : decode cL_law 531 = .ok (.aload_n 0, 1) := by decide +kernel
theorem dL_law_532 : decode cL_law 532 = .ok (.iload_n 3, 1) := by decide +kernel
theorem dL_law_533 : decode cL_law 533 = .ok (.iconst 2, 1) := by decide +kernel
theorem dL_law_534 : decode cL_law 534 = .ok (.iadd, 1) := by decide +kernel
theorem dL_law_535 : decode cL_law 535 = .ok (.iaload, 1) := by decide +kernel
theorem dL_law_536 : decode cL_law 536 = .ok (.aload_n 0, 1) := by decide +kernel
theorem dL_law_537 : decode cL_law 537 = .ok (.iload_n 3, 1) := by decide +kernel
theorem dL_law_538 : decode cL_law 538 = .ok (.iconst 3, 1) := by decide +kernel
theorem dL_law_539 : decode cL_law 539 = .ok (.iadd, 1) := by decide +kernel
theorem dL_law_540 : decode cL_law 540 = .ok (.iaload, 1) := by decide +kernel
theorem dL_law_541 : decode cL_law 541 = .ok (.invokevirtual 53, 3) := by decide +kernel
theorem dL_law_544 : decode cL_law 544 = .ok (.aload_n 2, 1) := by decide +kernel
theorem dL_law_545 : decode cL_law 545 = .ok (.aload_n 0, 1) := by decide +kernel
theorem dL_law_546 : decode cL_law 546 = .ok (.iload_n 3, 1) := by decide +kernel
theorem dL_law_547 : decode cL_law 547 = .ok (.iconst 1, 1) := by decide +kernel
theorem dL_law_548 : decode cL_law 548 = .ok (.iadd, 1) := by decide +kernel
theorem dL_law_549 : decode cL_law 549 = .ok (.iaload, 1) := by decide +kernel
theorem dL_law_550 : decode cL_law 550 = .ok (.aload_n 0, 1) := by decide +kernel
theorem dL_law_551 : decode cL_law 551 = .ok (.iload_n 3, 1) := by decide +kernel
theorem dL_law_552 : decode cL_law 552 = .ok (.iconst 2, 1) := by decide +kernel
theorem dL_law_553 : decode cL_law 553 = .ok (.iadd, 1) := by decide +kernel
theorem dL_law_554 : decode cL_law 554 = .ok (.iaload, 1) := by decide +kernel
theorem dL_law_555 : decode cL_law 555 = .ok (.aload_n 0, 1) := by decide +kernel
theorem dL_law_556 : decode cL_law 556 = .ok (.iload_n 3, 1) := by decide +kernel
theorem dL_law_557 : decode cL_law 557 = .ok (.iconst 3, 1) := by decide +kernel
theorem dL_law_558 : decode cL_law 558 = .ok (.iadd, 1) := by decide +kernel
theorem dL_law_559 : decode cL_law 559 = .ok (.iaload, 1) := by decide +kernel
theorem dL_law_560 : decode cL_law 560 = .ok (.invokevirtual 56, 3) := by decide +kernel
theorem dL_law_563 : decode cL_law 563 = .ok (.if_icmp .eq 896, 3) := by decide +kernel
theorem dL_law_566 : decode cL_law 566 = .ok (.iconst 0, 1) := by decide +kernel
theorem dL_law_567 : decode cL_law 567 = .ok (.ireturn, 1) := by decide +kernel
theorem dL_law_568 : decode cL_law 568 = .ok (.aload_n 1, 1) := by decide +kernel
theorem dL_law_569 : decode cL_law 569 = .ok (.aload_n 0, 1) := by decide +kernel
theorem dL_law_570 : decode cL_law 570 = .ok (.iload_n 3, 1) := by decide +kernel
theorem dL_law_571 : decode cL_law 571 = .ok (.iconst 1, 1) := by decide +kernel
theorem dL_law_572 : decode cL_law 572 = .ok (.iadd, 1) := by decide +kernel
theorem dL_law_573 : decode cL_law 573 = .ok (.iaload, 1) := by decide +kernel
theorem dL_law_574 : decode cL_law 574 = .ok (.aload_n 0, 1) := by decide +kernel
theorem dL_law_575 : decode cL_law 575 = .ok (.iload_n 3, 1) := by decide +kernel
theorem dL_law_576 : decode cL_law 576 = .ok (.iconst 2, 1) := by decide +kernel
theorem dL_law_577 : decode cL_law 577 = .ok (.iadd, 1) := by decide +kernel
theorem dL_law_578 : decode cL_law 578 = .ok (.iaload, 1) := by decide +kernel
theorem dL_law_579 : decode cL_law 579 = .ok (.aload_n 0, 1) := by decide +kernel
theorem dL_law_580 : decode cL_law 580 = .ok (.iload_n 3, 1) := by decide +kernel
theorem dL_law_581 : decode cL_law 581 = .ok (.iconst 3, 1) := by decide +kernel
theorem dL_law_582 : decode cL_law 582 = .ok (.iadd, 1) := by decide +kernel
theorem dL_law_583 : decode cL_law 583 = .ok (.iaload, 1) := by decide +kernel
theorem dL_law_584 : decode cL_law 584 = .ok (.aload_n 0, 1) := by decide +kernel
theorem dL_law_585 : decode cL_law 585 = .ok (.iload_n 3, 1) := by decide +kernel
theorem dL_law_586 : decode cL_law 586 = .ok (.iconst 4, 1) := by decide +kernel
theorem dL_law_587 : decode cL_law 587 = .ok (.iadd, 1) := by decide +kernel
theorem dL_law_588 : decode cL_law 588 = .ok (.iaload, 1) := by decide +kernel
theorem dL_law_589 : decode cL_law 589 = .ok (.aload_n 0, 1) := by decide +kernel
theorem dL_law_590 : decode cL_law 590 = .ok (.iload_n 3, 1) := by decide +kernel
theorem dL_law_591 : decode cL_law 591 = .ok (.iconst 5, 1) := by decide +kernel
theorem dL_law_592 : decode cL_law 592 = .ok (.iadd, 1) := by decide +kernel
theorem dL_law_593 : decode cL_law 593 = .ok (.iaload, 1) := by decide +kernel
theorem dL_law_594 : decode cL_law 594 = .ok (.invokevirtual 57, 3) := by decide +kernel
theorem dL_law_597 : decode cL_law 597 = .ok (.aload_n 2, 1) := by decide +kernel
theorem dL_law_598 : decode cL_law 598 = .ok (.aload_n 0, 1) := by decide +kernel
theorem dL_law_599 : decode cL_law 599 = .ok (.iload_n 3, 1) := by decide +kernel
theorem dL_law_600 : decode cL_law 600 = .ok (.iconst 1, 1) := by decide +kernel
theorem dL_law_601 : decode cL_law 601 = .ok (.iadd, 1) := by decide +kernel
theorem dL_law_602 : decode cL_law 602 = .ok (.iaload, 1) := by decide +kernel
theorem dL_law_603 : decode cL_law 603 = .ok (.aload_n 0, 1) := by decide +kernel
theorem dL_law_604 : decode cL_law 604 = .ok (.iload_n 3, 1) := by decide +kernel
theorem dL_law_605 : decode cL_law 605 = .ok (.iconst 2, 1) := by decide +kernel
theorem dL_law_606 : decode cL_law 606 = .ok (.iadd, 1) := by decide +kernel
theorem dL_law_607 : decode cL_law 607 = .ok (.iaload, 1) := by decide +kernel
theorem dL_law_608 : decode cL_law 608 = .ok (.aload_n 0, 1) := by decide +kernel
theorem dL_law_609 : decode cL_law 609 = .ok (.iload_n 3, 1) := by decide +kernel
theorem dL_law_610 : decode cL_law 610 = .ok (.iconst 3, 1) := by decide +kernel
theorem dL_law_611 : decode cL_law 611 = .ok (.iadd, 1) := by decide +kernel
theorem dL_law_612 : decode cL_law 612 = .ok (.iaload, 1) := by decide +kernel
theorem dL_law_613 : decode cL_law 613 = .ok (.aload_n 0, 1) := by decide +kernel
theorem dL_law_614 : decode cL_law 614 = .ok (.iload_n 3, 1) := by decide +kernel
theorem dL_law_615 : decode cL_law 615 = .ok (.iconst 4, 1) := by decide +kernel
theorem dL_law_616 : decode cL_law 616 = .ok (.iadd, 1) := by decide +kernel
theorem dL_law_617 : decode cL_law 617 = .ok (.iaload, 1) := by decide +kernel
theorem dL_law_618 : decode cL_law 618 = .ok (.aload_n 0, 1) := by decide +kernel
theorem dL_law_619 : decode cL_law 619 = .ok (.iload_n 3, 1) := by decide +kernel
theorem dL_law_620 : decode cL_law 620 = .ok (.iconst 5, 1) := by decide +kernel
theorem dL_law_621 : decode cL_law 621 = .ok (.iadd, 1) := by decide +kernel
theorem dL_law_622 : decode cL_law 622 = .ok (.iaload, 1) := by decide +kernel
theorem dL_law_623 : decode cL_law 623 = .ok (.invokevirtual 61, 3) := by decide +kernel
theorem dL_law_626 : decode cL_law 626 = .ok (.if_icmp .eq 833, 3) := by decide +kernel
theorem dL_law_629 : decode cL_law 629 = .ok (.iconst 0, 1) := by decide +kernel
theorem dL_law_630 : decode cL_law 630 = .ok (.ireturn, 1) := by decide +kernel
theorem dL_law_631 : decode cL_law 631 = .ok (.aload_n 1, 1) := by decide +kernel
theorem dL_law_632 : decode cL_law 632 = .ok (.aload_n 0, 1) := by decide +kernel
theorem dL_law_633 : decode cL_law 633 = .ok (.iload_n 3, 1) := by decide +kernel
theorem dL_law_634 : decode cL_law 634 = .ok (.iconst 1, 1) := by decide +kernel
theorem dL_law_635 : decode cL_law 635 = .ok (.iadd, 1) := by decide +kernel
theorem dL_law_636 : decode cL_law 636 = .ok (.iaload, 1) := by decide +kernel
theorem dL_law_637 : decode cL_law 637 = .ok (.aload_n 0, 1) := by decide +kernel
theorem dL_law_638 : decode cL_law 638 = .ok (.iload_n 3, 1) := by decide +kernel
theorem dL_law_639 : decode cL_law 639 = .ok (.iconst 2, 1) := by decide +kernel
theorem dL_law_640 : decode cL_law 640 = .ok (.iadd, 1) := by decide +kernel
theorem dL_law_641 : decode cL_law 641 = .ok (.iaload, 1) := by decide +kernel
theorem dL_law_642 : decode cL_law 642 = .ok (.aload_n 0, 1) := by decide +kernel
theorem dL_law_643 : decode cL_law 643 = .ok (.iload_n 3, 1) := by decide +kernel
theorem dL_law_644 : decode cL_law 644 = .ok (.iconst 3, 1) := by decide +kernel
theorem dL_law_645 : decode cL_law 645 = .ok (.iadd, 1) := by decide +kernel
theorem dL_law_646 : decode cL_law 646 = .ok (.iaload, 1) := by decide +kernel
theorem dL_law_647 : decode cL_law 647 = .ok (.aload_n 0, 1) := by decide +kernel
theorem dL_law_648 : decode cL_law 648 = .ok (.iload_n 3, 1) := by decide +kernel
theorem dL_law_649 : decode cL_law 649 = .ok (.iconst 4, 1) := by decide +kernel
theorem dL_law_650 : decode cL_law 650 = .ok (.iadd, 1) := by decide +kernel
theorem dL_law_651 : decode cL_law 651 = .ok (.iaload, 1) := by decide +kernel
theorem dL_law_652 : decode cL_law 652 = .ok (.invokevirtual 62, 3) := by decide +kernel
theorem dL_law_655 : decode cL_law 655 = .ok (.aload_n 2, 1) := by decide +kernel
theorem dL_law_656 : decode cL_law 656 = .ok (.aload_n 0, 1) := by decide +kernel
theorem dL_law_657 : decode cL_law 657 = .ok (.iload_n 3, 1) := by decide +kernel
theorem dL_law_658 : decode cL_law 658 = .ok (.iconst 1, 1) := by decide +kernel
theorem dL_law_659 : decode cL_law 659 = .ok (.iadd, 1) := by decide +kernel
theorem dL_law_660 : decode cL_law 660 = .ok (.iaload, 1) := by decide +kernel
theorem dL_law_661 : decode cL_law 661 = .ok (.aload_n 0, 1) := by decide +kernel
theorem dL_law_662 : decode cL_law 662 = .ok (.iload_n 3, 1) := by decide +kernel
theorem dL_law_663 : decode cL_law 663 = .ok (.iconst 2, 1) := by decide +kernel
theorem dL_law_664 : decode cL_law 664 = .ok (.iadd, 1) := by decide +kernel
theorem dL_law_665 : decode cL_law 665 = .ok (.iaload, 1) := by decide +kernel
theorem dL_law_666 : decode cL_law 666 = .ok (.aload_n 0, 1) := by decide +kernel
theorem dL_law_667 : decode cL_law 667 = .ok (.iload_n 3, 1) := by decide +kernel
theorem dL_law_668 : decode cL_law 668 = .ok (.iconst 3, 1) := by decide +kernel
theorem dL_law_669 : decode cL_law 669 = .ok (.iadd, 1) := by decide +kernel
theorem dL_law_670 : decode cL_law 670 = .ok (.iaload, 1) := by decide +kernel
theorem dL_law_671 : decode cL_law 671 = .ok (.aload_n 0, 1) := by decide +kernel
theorem dL_law_672 : decode cL_law 672 = .ok (.iload_n 3, 1) := by decide +kernel
theorem dL_law_673 : decode cL_law 673 = .ok (.iconst 4, 1) := by decide +kernel
theorem dL_law_674 : decode cL_law 674 = .ok (.iadd, 1) := by decide +kernel
theorem dL_law_675 : decode cL_law 675 = .ok (.iaload, 1) := by decide +kernel
theorem dL_law_676 : decode cL_law 676 = .ok (.invokevirtual 65, 3) := by decide +kernel
theorem dL_law_679 : decode cL_law 679 = .ok (.if_icmp .eq 780, 3) := by decide +kernel
theorem dL_law_682 : decode cL_law 682 = .ok (.iconst 0, 1) := by decide +kernel
theorem dL_law_683 : decode cL_law 683 = .ok (.ireturn, 1) := by decide +kernel
theorem dL_law_684 : decode cL_law 684 = .ok (.aload_n 1, 1) := by decide +kernel
theorem dL_law_685 : decode cL_law 685 = .ok (.aload_n 0, 1) := by decide +kernel
theorem dL_law_686 : decode cL_law 686 = .ok (.iload_n 3, 1) := by decide +kernel
theorem dL_law_687 : decode cL_law 687 = .ok (.iconst 1, 1) := by decide +kernel
theorem dL_law_688 : decode cL_law 688 = .ok (.iadd, 1) := by decide +kernel
theorem dL_law_689 : decode cL_law 689 = .ok (.iaload, 1) := by decide +kernel
theorem dL_law_690 : decode cL_law 690 = .ok (.invokevirtual 66, 3) := by decide +kernel
theorem dL_law_693 : decode cL_law 693 = .ok (.aload_n 2, 1) := by decide +kernel
theorem dL_law_694 : decode cL_law 694 = .ok (.aload_n 0, 1) := by decide +kernel
theorem dL_law_695 : decode cL_law 695 = .ok (.iload_n 3, 1) := by decide +kernel
theorem dL_law_696 : decode cL_law 696 = .ok (.iconst 1, 1) := by decide +kernel
theorem dL_law_697 : decode cL_law 697 = .ok (.iadd, 1) := by decide +kernel
theorem dL_law_698 : decode cL_law 698 = .ok (.iaload, 1) := by decide +kernel
theorem dL_law_699 : decode cL_law 699 = .ok (.invokevirtual 69, 3) := by decide +kernel
theorem dL_law_702 : decode cL_law 702 = .ok (.if_icmp .eq 757, 3) := by decide +kernel
theorem dL_law_705 : decode cL_law 705 = .ok (.iconst 0, 1) := by decide +kernel
theorem dL_law_706 : decode cL_law 706 = .ok (.ireturn, 1) := by decide +kernel
theorem dL_law_707 : decode cL_law 707 = .ok (.aload_n 1, 1) := by decide +kernel
theorem dL_law_708 : decode cL_law 708 = .ok (.invokevirtual 70, 3) := by decide +kernel
theorem dL_law_711 : decode cL_law 711 = .ok (.aload_n 2, 1) := by decide +kernel
theorem dL_law_712 : decode cL_law 712 = .ok (.invokevirtual 74, 3) := by decide +kernel
theorem dL_law_715 : decode cL_law 715 = .ok (.if_icmp .eq 744, 3) := by decide +kernel
theorem dL_law_718 : decode cL_law 718 = .ok (.iconst 0, 1) := by decide +kernel
theorem dL_law_719 : decode cL_law 719 = .ok (.ireturn, 1) := by decide +kernel
theorem dL_law_720 : decode cL_law 720 = .ok (.aload_n 1, 1) := by decide +kernel
theorem dL_law_721 : decode cL_law 721 = .ok (.aload_n 0, 1) := by decide +kernel
theorem dL_law_722 : decode cL_law 722 = .ok (.iload_n 3, 1) := by decide +kernel
theorem dL_law_723 : decode cL_law 723 = .ok (.iconst 1, 1) := by decide +kernel
theorem dL_law_724 : decode cL_law 724 = .ok (.iadd, 1) := by decide +kernel
theorem dL_law_725 : decode cL_law 725 = .ok (.iaload, 1) := by decide +kernel
theorem dL_law_726 : decode cL_law 726 = .ok (.aload_n 0, 1) := by decide +kernel
theorem dL_law_727 : decode cL_law 727 = .ok (.iload_n 3, 1) := by decide +kernel
theorem dL_law_728 : decode cL_law 728 = .ok (.iconst 2, 1) := by decide +kernel
theorem dL_law_729 : decode cL_law 729 = .ok (.iadd, 1) := by decide +kernel
theorem dL_law_730 : decode cL_law 730 = .ok (.iaload, 1) := by decide +kernel
theorem dL_law_731 : decode cL_law 731 = .ok (.invokevirtual 75, 3) := by decide +kernel
theorem dL_law_734 : decode cL_law 734 = .ok (.aload_n 2, 1) := by decide +kernel
theorem dL_law_735 : decode cL_law 735 = .ok (.aload_n 0, 1) := by decide +kernel
theorem dL_law_736 : decode cL_law 736 = .ok (.iload_n 3, 1) := by decide +kernel
theorem dL_law_737 : decode cL_law 737 = .ok (.iconst 1, 1) := by decide +kernel
theorem dL_law_738 : decode cL_law 738 = .ok (.iadd, 1) := by decide +kernel
theorem dL_law_739 : decode cL_law 739 = .ok (.iaload, 1) := by decide +kernel
theorem dL_law_740 : decode cL_law 740 = .ok (.aload_n 0, 1) := by decide +kernel
theorem dL_law_741 : decode cL_law 741 = .ok (.iload_n 3, 1) := by decide +kernel
theorem dL_law_742 : decode cL_law 742 = .ok (.iconst 2, 1) := by decide +kernel
theorem dL_law_743 : decode cL_law 743 = .ok (.iadd, 1) := by decide +kernel
theorem dL_law_744 : decode cL_law 744 = .ok (.iaload, 1) := by decide +kernel
theorem dL_law_745 : decode cL_law 745 = .ok (.invokevirtual 78, 3) := by decide +kernel
theorem dL_law_748 : decode cL_law 748 = .ok (.if_icmp .eq 711, 3) := by decide +kernel
theorem dL_law_751 : decode cL_law 751 = .ok (.iconst 0, 1) := by decide +kernel
theorem dL_law_752 : decode cL_law 752 = .ok (.ireturn, 1) := by decide +kernel
theorem dL_law_753 : decode cL_law 753 = .ok (.aload_n 1, 1) := by decide +kernel
theorem dL_law_754 : decode cL_law 754 = .ok (.aload_n 0, 1) := by decide +kernel
theorem dL_law_755 : decode cL_law 755 = .ok (.iload_n 3, 1) := by decide +kernel
theorem dL_law_756 : decode cL_law 756 = .ok (.iconst 1, 1) := by decide +kernel
theorem dL_law_757 : decode cL_law 757 = .ok (.iadd, 1) := by decide +kernel
theorem dL_law_758 : decode cL_law 758 = .ok (.iaload, 1) := by decide +kernel
theorem dL_law_759 : decode cL_law 759 = .ok (.aload_n 0, 1) := by decide +kernel
theorem dL_law_760 : decode cL_law 760 = .ok (.iload_n 3, 1) := by decide +kernel
theorem dL_law_761 : decode cL_law 761 = .ok (.iconst 2, 1) := by decide +kernel
theorem dL_law_762 : decode cL_law 762 = .ok (.iadd, 1) := by decide +kernel
theorem dL_law_763 : decode cL_law 763 = .ok (.iaload, 1) := by decide +kernel
theorem dL_law_764 : decode cL_law 764 = .ok (.invokevirtual 79, 3) := by decide +kernel
theorem dL_law_767 : decode cL_law 767 = .ok (.aload_n 2, 1) := by decide +kernel
theorem dL_law_768 : decode cL_law 768 = .ok (.aload_n 0, 1) := by decide +kernel
theorem dL_law_769 : decode cL_law 769 = .ok (.iload_n 3, 1) := by decide +kernel
theorem dL_law_770 : decode cL_law 770 = .ok (.iconst 1, 1) := by decide +kernel
theorem dL_law_771 : decode cL_law 771 = .ok (.iadd, 1) := by decide +kernel
theorem dL_law_772 : decode cL_law 772 = .ok (.iaload, 1) := by decide +kernel
theorem dL_law_773 : decode cL_law 773 = .ok (.aload_n 0, 1) := by decide +kernel
theorem dL_law_774 : decode cL_law 774 = .ok (.iload_n 3, 1) := by decide +kernel
theorem dL_law_775 : decode cL_law 775 = .ok (.iconst 2, 1) := by decide +kernel
theorem dL_law_776 : decode cL_law 776 = .ok (.iadd, 1) := by decide +kernel
theorem dL_law_777 : decode cL_law 777 = .ok (.iaload, 1) := by decide +kernel
theorem dL_law_778 : decode cL_law 778 = .ok (.invokevirtual 82, 3) := by decide +kernel
theorem dL_law_781 : decode cL_law 781 = .ok (.if_icmp .eq 678, 3) := by decide +kernel
theorem dL_law_784 : decode cL_law 784 = .ok (.iconst 0, 1) := by decide +kernel
theorem dL_law_785 : decode cL_law 785 = .ok (.ireturn, 1) := by decide +kernel
theorem dL_law_786 : decode cL_law 786 = .ok (.aload_n 1, 1) := by decide +kernel
theorem dL_law_787 : decode cL_law 787 = .ok (.aload_n 0, 1) := by decide +kernel
theorem dL_law_788 : decode cL_law 788 = .ok (.iload_n 3, 1) := by decide +kernel
theorem dL_law_789 : decode cL_law 789 = .ok (.iconst 1, 1) := by decide +kernel
theorem dL_law_790 : decode cL_law 790 = .ok (.iadd, 1) := by decide +kernel
theorem dL_law_791 : decode cL_law 791 = .ok (.iaload, 1) := by decide +kernel
theorem dL_law_792 : decode cL_law 792 = .ok (.aload_n 0, 1) := by decide +kernel
theorem dL_law_793 : decode cL_law 793 = .ok (.iload_n 3, 1) := by decide +kernel
theorem dL_law_794 : decode cL_law 794 = .ok (.iconst 2, 1) := by decide +kernel
theorem dL_law_795 : decode cL_law 795 = .ok (.iadd, 1) := by decide +kernel
theorem dL_law_796 : decode cL_law 796 = .ok (.iaload, 1) := by decide +kernel
theorem dL_law_797 : decode cL_law 797 = .ok (.invokevirtual 83, 3) := by decide +kernel
theorem dL_law_800 : decode cL_law 800 = .ok (.aload_n 2, 1) := by decide +kernel
theorem dL_law_801 : decode cL_law 801 = .ok (.aload_n 0, 1) := by decide +kernel
theorem dL_law_802 : decode cL_law 802 = .ok (.iload_n 3, 1) := by decide +kernel
theorem dL_law_803 : decode cL_law 803 = .ok (.iconst 1, 1) := by decide +kernel
theorem dL_law_804 : decode cL_law 804 = .ok (.iadd, 1) := by decide +kernel
theorem dL_law_805 : decode cL_law 805 = .ok (.iaload, 1) := by decide +kernel
theorem dL_law_806 : decode cL_law 806 = .ok (.aload_n 0, 1) := by decide +kernel
theorem dL_law_807 : decode cL_law 807 = .ok (.iload_n 3, 1) := by decide +kernel
theorem dL_law_808 : decode cL_law 808 = .ok (.iconst 2, 1) := by decide +kernel
theorem dL_law_809 : decode cL_law 809 = .ok (.iadd, 1) := by decide +kernel
theorem dL_law_810 : decode cL_law 810 = .ok (.iaload, 1) := by decide +kernel
theorem dL_law_811 : decode cL_law 811 = .ok (.invokevirtual 86, 3) := by decide +kernel
theorem dL_law_814 : decode cL_law 814 = .ok (.if_icmp .eq 645, 3) := by decide +kernel
theorem dL_law_817 : decode cL_law 817 = .ok (.iconst 0, 1) := by decide +kernel
theorem dL_law_818 : decode cL_law 818 = .ok (.ireturn, 1) := by decide +kernel
theorem dL_law_819 : decode cL_law 819 = .ok (.aload_n 1, 1) := by decide +kernel
theorem dL_law_820 : decode cL_law 820 = .ok (.aload_n 0, 1) := by decide +kernel
theorem dL_law_821 : decode cL_law 821 = .ok (.iload_n 3, 1) := by decide +kernel
theorem dL_law_822 : decode cL_law 822 = .ok (.iconst 1, 1) := by decide +kernel
theorem dL_law_823 : decode cL_law 823 = .ok (.iadd, 1) := by decide +kernel
theorem dL_law_824 : decode cL_law 824 = .ok (.iaload, 1) := by decide +kernel
theorem dL_law_825 : decode cL_law 825 = .ok (.invokevirtual 87, 3) := by decide +kernel
theorem dL_law_828 : decode cL_law 828 = .ok (.aload_n 2, 1) := by decide +kernel
theorem dL_law_829 : decode cL_law 829 = .ok (.aload_n 0, 1) := by decide +kernel
theorem dL_law_830 : decode cL_law 830 = .ok (.iload_n 3, 1) := by decide +kernel
theorem dL_law_831 : decode cL_law 831 = .ok (.iconst 1, 1) := by decide +kernel
theorem dL_law_832 : decode cL_law 832 = .ok (.iadd, 1) := by decide +kernel
theorem dL_law_833 : decode cL_law 833 = .ok (.iaload, 1) := by decide +kernel
theorem dL_law_834 : decode cL_law 834 = .ok (.invokevirtual 90, 3) := by decide +kernel
theorem dL_law_837 : decode cL_law 837 = .ok (.if_icmp .eq 622, 3) := by decide +kernel
theorem dL_law_840 : decode cL_law 840 = .ok (.iconst 0, 1) := by decide +kernel
theorem dL_law_841 : decode cL_law 841 = .ok (.ireturn, 1) := by decide +kernel
theorem dL_law_842 : decode cL_law 842 = .ok (.aload_n 1, 1) := by decide +kernel
theorem dL_law_843 : decode cL_law 843 = .ok (.aload_n 0, 1) := by decide +kernel
theorem dL_law_844 : decode cL_law 844 = .ok (.iload_n 3, 1) := by decide +kernel
theorem dL_law_845 : decode cL_law 845 = .ok (.iconst 1, 1) := by decide +kernel
theorem dL_law_846 : decode cL_law 846 = .ok (.iadd, 1) := by decide +kernel
theorem dL_law_847 : decode cL_law 847 = .ok (.iaload, 1) := by decide +kernel
theorem dL_law_848 : decode cL_law 848 = .ok (.invokevirtual 91, 3) := by decide +kernel
theorem dL_law_851 : decode cL_law 851 = .ok (.aload_n 2, 1) := by decide +kernel
theorem dL_law_852 : decode cL_law 852 = .ok (.aload_n 0, 1) := by decide +kernel
theorem dL_law_853 : decode cL_law 853 = .ok (.iload_n 3, 1) := by decide +kernel
theorem dL_law_854 : decode cL_law 854 = .ok (.iconst 1, 1) := by decide +kernel
theorem dL_law_855 : decode cL_law 855 = .ok (.iadd, 1) := by decide +kernel
theorem dL_law_856 : decode cL_law 856 = .ok (.iaload, 1) := by decide +kernel
theorem dL_law_857 : decode cL_law 857 = .ok (.invokevirtual 94, 3) := by decide +kernel
theorem dL_law_860 : decode cL_law 860 = .ok (.if_icmp .eq 599, 3) := by decide +kernel
theorem dL_law_863 : decode cL_law 863 = .ok (.iconst 0, 1) := by decide +kernel
theorem dL_law_864 : decode cL_law 864 = .ok (.ireturn, 1) := by decide +kernel
theorem dL_law_865 : decode cL_law 865 = .ok (.aload_n 1, 1) := by decide +kernel
theorem dL_law_866 : decode cL_law 866 = .ok (.aload_n 0, 1) := by decide +kernel
theorem dL_law_867 : decode cL_law 867 = .ok (.iload_n 3, 1) := by decide +kernel
theorem dL_law_868 : decode cL_law 868 = .ok (.iconst 1, 1) := by decide +kernel
theorem dL_law_869 : decode cL_law 869 = .ok (.iadd, 1) := by decide +kernel
theorem dL_law_870 : decode cL_law 870 = .ok (.iaload, 1) := by decide +kernel
theorem dL_law_871 : decode cL_law 871 = .ok (.aload_n 0, 1) := by decide +kernel
theorem dL_law_872 : decode cL_law 872 = .ok (.iload_n 3, 1) := by decide +kernel
theorem dL_law_873 : decode cL_law 873 = .ok (.iconst 2, 1) := by decide +kernel
theorem dL_law_874 : decode cL_law 874 = .ok (.iadd, 1) := by decide +kernel
theorem dL_law_875 : decode cL_law 875 = .ok (.iaload, 1) := by decide +kernel
theorem dL_law_876 : decode cL_law 876 = .ok (.invokevirtual 95, 3) := by decide +kernel
theorem dL_law_879 : decode cL_law 879 = .ok (.aload_n 2, 1) := by decide +kernel
theorem dL_law_880 : decode cL_law 880 = .ok (.aload_n 0, 1) := by decide +kernel
theorem dL_law_881 : decode cL_law 881 = .ok (.iload_n 3, 1) := by decide +kernel
theorem dL_law_882 : decode cL_law 882 = .ok (.iconst 1, 1) := by decide +kernel
theorem dL_law_883 : decode cL_law 883 = .ok (.iadd, 1) := by decide +kernel
theorem dL_law_884 : decode cL_law 884 = .ok (.iaload, 1) := by decide +kernel
theorem dL_law_885 : decode cL_law 885 = .ok (.aload_n 0, 1) := by decide +kernel
theorem dL_law_886 : decode cL_law 886 = .ok (.iload_n 3, 1) := by decide +kernel
theorem dL_law_887 : decode cL_law 887 = .ok (.iconst 2, 1) := by decide +kernel
theorem dL_law_888 : decode cL_law 888 = .ok (.iadd, 1) := by decide +kernel
theorem dL_law_889 : decode cL_law 889 = .ok (.iaload, 1) := by decide +kernel
theorem dL_law_890 : decode cL_law 890 = .ok (.invokevirtual 98, 3) := by decide +kernel
theorem dL_law_893 : decode cL_law 893 = .ok (.if_icmp .eq 566, 3) := by decide +kernel
theorem dL_law_896 : decode cL_law 896 = .ok (.iconst 0, 1) := by decide +kernel
theorem dL_law_897 : decode cL_law 897 = .ok (.ireturn, 1) := by decide +kernel
theorem dL_law_898 : decode cL_law 898 = .ok (.aload_n 1, 1) := by decide +kernel
theorem dL_law_899 : decode cL_law 899 = .ok (.aload_n 0, 1) := by decide +kernel
theorem dL_law_900 : decode cL_law 900 = .ok (.iload_n 3, 1) := by decide +kernel
theorem dL_law_901 : decode cL_law 901 = .ok (.iconst 1, 1) := by decide +kernel
theorem dL_law_902 : decode cL_law 902 = .ok (.iadd, 1) := by decide +kernel
theorem dL_law_903 : decode cL_law 903 = .ok (.iaload, 1) := by decide +kernel
theorem dL_law_904 : decode cL_law 904 = .ok (.aload_n 0, 1) := by decide +kernel
theorem dL_law_905 : decode cL_law 905 = .ok (.iload_n 3, 1) := by decide +kernel
theorem dL_law_906 : decode cL_law 906 = .ok (.iconst 2, 1) := by decide +kernel
theorem dL_law_907 : decode cL_law 907 = .ok (.iadd, 1) := by decide +kernel
theorem dL_law_908 : decode cL_law 908 = .ok (.iaload, 1) := by decide +kernel
theorem dL_law_909 : decode cL_law 909 = .ok (.aload_n 0, 1) := by decide +kernel
theorem dL_law_910 : decode cL_law 910 = .ok (.iload_n 3, 1) := by decide +kernel
theorem dL_law_911 : decode cL_law 911 = .ok (.iconst 3, 1) := by decide +kernel
theorem dL_law_912 : decode cL_law 912 = .ok (.iadd, 1) := by decide +kernel
theorem dL_law_913 : decode cL_law 913 = .ok (.iaload, 1) := by decide +kernel
theorem dL_law_914 : decode cL_law 914 = .ok (.aload_n 0, 1) := by decide +kernel
theorem dL_law_915 : decode cL_law 915 = .ok (.iload_n 3, 1) := by decide +kernel
theorem dL_law_916 : decode cL_law 916 = .ok (.iconst 4, 1) := by decide +kernel
theorem dL_law_917 : decode cL_law 917 = .ok (.iadd, 1) := by decide +kernel
theorem dL_law_918 : decode cL_law 918 = .ok (.iaload, 1) := by decide +kernel
theorem dL_law_919 : decode cL_law 919 = .ok (.aload_n 0, 1) := by decide +kernel
theorem dL_law_920 : decode cL_law 920 = .ok (.iload_n 3, 1) := by decide +kernel
theorem dL_law_921 : decode cL_law 921 = .ok (.iconst 5, 1) := by decide +kernel
theorem dL_law_922 : decode cL_law 922 = .ok (.iadd, 1) := by decide +kernel
theorem dL_law_923 : decode cL_law 923 = .ok (.iaload, 1) := by decide +kernel
theorem dL_law_924 : decode cL_law 924 = .ok (.aload_n 0, 1) := by decide +kernel
theorem dL_law_925 : decode cL_law 925 = .ok (.iload_n 3, 1) := by decide +kernel
theorem dL_law_926 : decode cL_law 926 = .ok (.bipush 6, 2) := by decide +kernel
theorem dL_law_928 : decode cL_law 928 = .ok (.iadd, 1) := by decide +kernel
theorem dL_law_929 : decode cL_law 929 = .ok (.iaload, 1) := by decide +kernel
theorem dL_law_930 : decode cL_law 930 = .ok (.invokevirtual 99, 3) := by decide +kernel
theorem dL_law_933 : decode cL_law 933 = .ok (.aload_n 2, 1) := by decide +kernel
theorem dL_law_934 : decode cL_law 934 = .ok (.aload_n 0, 1) := by decide +kernel
theorem dL_law_935 : decode cL_law 935 = .ok (.iload_n 3, 1) := by decide +kernel
theorem dL_law_936 : decode cL_law 936 = .ok (.iconst 1, 1) := by decide +kernel
theorem dL_law_937 : decode cL_law 937 = .ok (.iadd, 1) := by decide +kernel
theorem dL_law_938 : decode cL_law 938 = .ok (.iaload, 1) := by decide +kernel
theorem dL_law_939 : decode cL_law 939 = .ok (.aload_n 0, 1) := by decide +kernel
theorem dL_law_940 : decode cL_law 940 = .ok (.iload_n 3, 1) := by decide +kernel
theorem dL_law_941 : decode cL_law 941 = .ok (.iconst 2, 1) := by decide +kernel
theorem dL_law_942 : decode cL_law 942 = .ok (.iadd, 1) := by decide +kernel
theorem dL_law_943 : decode cL_law 943 = .ok (.iaload, 1) := by decide +kernel
theorem dL_law_944 : decode cL_law 944 = .ok (.aload_n 0, 1) := by decide +kernel
theorem dL_law_945 : decode cL_law 945 = .ok (.iload_n 3, 1) := by decide +kernel
theorem dL_law_946 : decode cL_law 946 = .ok (.iconst 3, 1) := by decide +kernel
theorem dL_law_947 : decode cL_law 947 = .ok (.iadd, 1) := by decide +kernel
theorem dL_law_948 : decode cL_law 948 = .ok (.iaload, 1) := by decide +kernel
theorem dL_law_949 : decode cL_law 949 = .ok (.aload_n 0, 1) := by decide +kernel
theorem dL_law_950 : decode cL_law 950 = .ok (.iload_n 3, 1) := by decide +kernel
theorem dL_law_951 : decode cL_law 951 = .ok (.iconst 4, 1) := by decide +kernel
theorem dL_law_952 : decode cL_law 952 = .ok (.iadd, 1) := by decide +kernel
theorem dL_law_953 : decode cL_law 953 = .ok (.iaload, 1) := by decide +kernel
theorem dL_law_954 : decode cL_law 954 = .ok (.aload_n 0, 1) := by decide +kernel
theorem dL_law_955 : decode cL_law 955 = .ok (.iload_n 3, 1) := by decide +kernel
theorem dL_law_956 : decode cL_law 956 = .ok (.iconst 5, 1) := by decide +kernel
theorem dL_law_957 : decode cL_law 957 = .ok (.iadd, 1) := by decide +kernel
theorem dL_law_958 : decode cL_law 958 = .ok (.iaload, 1) := by decide +kernel
theorem dL_law_959 : decode cL_law 959 = .ok (.aload_n 0, 1) := by decide +kernel
theorem dL_law_960 : decode cL_law 960 = .ok (.iload_n 3, 1) := by decide +kernel
theorem dL_law_961 : decode cL_law 961 = .ok (.bipush 6, 2) := by decide +kernel
theorem dL_law_963 : decode cL_law 963 = .ok (.iadd, 1) := by decide +kernel
theorem dL_law_964 : decode cL_law 964 = .ok (.iaload, 1) := by decide +kernel
theorem dL_law_965 : decode cL_law 965 = .ok (.invokevirtual 103, 3) := by decide +kernel
theorem dL_law_968 : decode cL_law 968 = .ok (.if_icmp .eq 491, 3) := by decide +kernel
theorem dL_law_971 : decode cL_law 971 = .ok (.iconst 0, 1) := by decide +kernel
theorem dL_law_972 : decode cL_law 972 = .ok (.ireturn, 1) := by decide +kernel
theorem dL_law_973 : decode cL_law 973 = .ok (.aload_n 1, 1) := by decide +kernel
theorem dL_law_974 : decode cL_law 974 = .ok (.aload_n 0, 1) := by decide +kernel
theorem dL_law_975 : decode cL_law 975 = .ok (.iload_n 3, 1) := by decide +kernel
theorem dL_law_976 : decode cL_law 976 = .ok (.iconst 1, 1) := by decide +kernel
theorem dL_law_977 : decode cL_law 977 = .ok (.iadd, 1) := by decide +kernel
theorem dL_law_978 : decode cL_law 978 = .ok (.iaload, 1) := by decide +kernel
theorem dL_law_979 : decode cL_law 979 = .ok (.aload_n 0, 1) := by decide +kernel
theorem dL_law_980 : decode cL_law 980 = .ok (.iload_n 3, 1) := by decide +kernel
theorem dL_law_981 : decode cL_law 981 = .ok (.iconst 2, 1) := by decide +kernel
theorem dL_law_982 : decode cL_law 982 = .ok (.iadd, 1) := by decide +kernel
theorem dL_law_983 : decode cL_law 983 = .ok (.iaload, 1) := by decide +kernel
theorem dL_law_984 : decode cL_law 984 = .ok (.aload_n 0, 1) := by decide +kernel
theorem dL_law_985 : decode cL_law 985 = .ok (.iload_n 3, 1) := by decide +kernel
theorem dL_law_986 : decode cL_law 986 = .ok (.iconst 3, 1) := by decide +kernel
theorem dL_law_987 : decode cL_law 987 = .ok (.iadd, 1) := by decide +kernel
theorem dL_law_988 : decode cL_law 988 = .ok (.iaload, 1) := by decide +kernel
theorem dL_law_989 : decode cL_law 989 = .ok (.aload_n 0, 1) := by decide +kernel
theorem dL_law_990 : decode cL_law 990 = .ok (.iload_n 3, 1) := by decide +kernel
theorem dL_law_991 : decode cL_law 991 = .ok (.iconst 4, 1) := by decide +kernel
theorem dL_law_992 : decode cL_law 992 = .ok (.iadd, 1) := by decide +kernel
theorem dL_law_993 : decode cL_law 993 = .ok (.iaload, 1) := by decide +kernel
theorem dL_law_994 : decode cL_law 994 = .ok (.aload_n 0, 1) := by decide +kernel
theorem dL_law_995 : decode cL_law 995 = .ok (.iload_n 3, 1) := by decide +kernel
theorem dL_law_996 : decode cL_law 996 = .ok (.iconst 5, 1) := by decide +kernel
theorem dL_law_997 : decode cL_law 997 = .ok (.iadd, 1) := by decide +kernel
theorem dL_law_998 : decode cL_law 998 = .ok (.iaload, 1) := by decide +kernel
theorem dL_law_999 : decode cL_law 999 = .ok (.aload_n 0, 1) := by decide +kernel
theorem dL_law_1000 : decode cL_law 1000 = .ok (.iload_n 3, 1) := by decide +kernel
theorem dL_law_1001 : decode cL_law 1001 = .ok (.bipush 6, 2) := by decide +kernel
theorem dL_law_1003 : decode cL_law 1003 = .ok (.iadd, 1) := by decide +kernel
theorem dL_law_1004 : decode cL_law 1004 = .ok (.iaload, 1) := by decide +kernel
theorem dL_law_1005 : decode cL_law 1005 = .ok (.invokevirtual 104, 3) := by decide +kernel
theorem dL_law_1008 : decode cL_law 1008 = .ok (.aload_n 2, 1) := by decide +kernel
theorem dL_law_1009 : decode cL_law 1009 = .ok (.aload_n 0, 1) := by decide +kernel
theorem dL_law_1010 : decode cL_law 1010 = .ok (.iload_n 3, 1) := by decide +kernel
theorem dL_law_1011 : decode cL_law 1011 = .ok (.iconst 1, 1) := by decide +kernel
theorem dL_law_1012 : decode cL_law 1012 = .ok (.iadd, 1) := by decide +kernel
theorem dL_law_1013 : decode cL_law 1013 = .ok (.iaload, 1) := by decide +kernel
theorem dL_law_1014 : decode cL_law 1014 = .ok (.aload_n 0, 1) := by decide +kernel
theorem dL_law_1015 : decode cL_law 1015 = .ok (.iload_n 3, 1) := by decide +kernel
theorem dL_law_1016 : decode cL_law 1016 = .ok (.iconst 2, 1) := by decide +kernel
theorem dL_law_1017 : decode cL_law 1017 = .ok (.iadd, 1) := by decide +kernel
theorem dL_law_1018 : decode cL_law 1018 = .ok (.iaload, 1) := by decide +kernel
theorem dL_law_1019 : decode cL_law 1019 = .ok (.aload_n 0, 1) := by decide +kernel
theorem dL_law_1020 : decode cL_law 1020 = .ok (.iload_n 3, 1) := by decide +kernel
theorem dL_law_1021 : decode cL_law 1021 = .ok (.iconst 3, 1) := by decide +kernel
theorem dL_law_1022 : decode cL_law 1022 = .ok (.iadd, 1) := by decide +kernel
theorem dL_law_1023 : decode cL_law 1023 = .ok (.iaload, 1) := by decide +kernel
theorem dL_law_1024 : decode cL_law 1024 = .ok (.aload_n 0, 1) := by decide +kernel
theorem dL_law_1025 : decode cL_law 1025 = .ok (.iload_n 3, 1) := by decide +kernel
theorem dL_law_1026 : decode cL_law 1026 = .ok (.iconst 4, 1) := by decide +kernel
theorem dL_law_1027 : decode cL_law 1027 = .ok (.iadd, 1) := by decide +kernel
theorem dL_law_1028 : decode cL_law 1028 = .ok (.iaload, 1) := by decide +kernel
theorem dL_law_1029 : decode cL_law 1029 = .ok (.aload_n 0, 1) := by decide +kernel
theorem dL_law_1030 : decode cL_law 1030 = .ok (.iload_n 3, 1) := by decide +kernel
theorem dL_law_1031 : decode cL_law 1031 = .ok (.iconst 5, 1) := by decide +kernel
theorem dL_law_1032 : decode cL_law 1032 = .ok (.iadd, 1) := by decide +kernel
theorem dL_law_1033 : decode cL_law 1033 = .ok (.iaload, 1) := by decide +kernel
theorem dL_law_1034 : decode cL_law 1034 = .ok (.aload_n 0, 1) := by decide +kernel
theorem dL_law_1035 : decode cL_law 1035 = .ok (.iload_n 3, 1) := by decide +kernel
theorem dL_law_1036 : decode cL_law 1036 = .ok (.bipush 6, 2) := by decide +kernel
theorem dL_law_1038 : decode cL_law 1038 = .ok (.iadd, 1) := by decide +kernel
theorem dL_law_1039 : decode cL_law 1039 = .ok (.iaload, 1) := by decide +kernel
theorem dL_law_1040 : decode cL_law 1040 = .ok (.invokevirtual 107, 3) := by decide +kernel
theorem dL_law_1043 : decode cL_law 1043 = .ok (.if_icmp .eq 416, 3) := by decide +kernel
theorem dL_law_1046 : decode cL_law 1046 = .ok (.iconst 0, 1) := by decide +kernel
theorem dL_law_1047 : decode cL_law 1047 = .ok (.ireturn, 1) := by decide +kernel
theorem dL_law_1048 : decode cL_law 1048 = .ok (.aload_n 1, 1) := by decide +kernel
theorem dL_law_1049 : decode cL_law 1049 = .ok (.aload_n 0, 1) := by decide +kernel
theorem dL_law_1050 : decode cL_law 1050 = .ok (.iload_n 3, 1) := by decide +kernel
theorem dL_law_1051 : decode cL_law 1051 = .ok (.iconst 1, 1) := by decide +kernel
theorem dL_law_1052 : decode cL_law 1052 = .ok (.iadd, 1) := by decide +kernel
theorem dL_law_1053 : decode cL_law 1053 = .ok (.iaload, 1) := by decide +kernel
theorem dL_law_1054 : decode cL_law 1054 = .ok (.aload_n 0, 1) := by decide +kernel
theorem dL_law_1055 : decode cL_law 1055 = .ok (.iload_n 3, 1) := by decide +kernel
theorem dL_law_1056 : decode cL_law 1056 = .ok (.iconst 2, 1) := by decide +kernel
theorem dL_law_1057 : decode cL_law 1057 = .ok (.iadd, 1) := by decide +kernel
theorem dL_law_1058 : decode cL_law 1058 = .ok (.iaload, 1) := by decide +kernel
theorem dL_law_1059 : decode cL_law 1059 = .ok (.invokevirtual 108, 3) := by decide +kernel
theorem dL_law_1062 : decode cL_law 1062 = .ok (.aload_n 2, 1) := by decide +kernel
theorem dL_law_1063 : decode cL_law 1063 = .ok (.aload_n 0, 1) := by decide +kernel
theorem dL_law_1064 : decode cL_law 1064 = .ok (.iload_n 3, 1) := by decide +kernel
theorem dL_law_1065 : decode cL_law 1065 = .ok (.iconst 1, 1) := by decide +kernel
theorem dL_law_1066 : decode cL_law 1066 = .ok (.iadd, 1) := by decide +kernel
theorem dL_law_1067 : decode cL_law 1067 = .ok (.iaload, 1) := by decide +kernel
theorem dL_law_1068 : decode cL_law 1068 = .ok (.aload_n 0, 1) := by decide +kernel
theorem dL_law_1069 : decode cL_law 1069 = .ok (.iload_n 3, 1) := by decide +kernel
theorem dL_law_1070 : decode cL_law 1070 = .ok (.iconst 2, 1) := by decide +kernel
theorem dL_law_1071 : decode cL_law 1071 = .ok (.iadd, 1) := by decide +kernel
theorem dL_law_1072 : decode cL_law 1072 = .ok (.iaload, 1) := by decide +kernel
theorem dL_law_1073 : decode cL_law 1073 = .ok (.invokevirtual 111, 3) := by decide +kernel
theorem dL_law_1076 : decode cL_law 1076 = .ok (.if_icmp .eq 383, 3) := by decide +kernel
theorem dL_law_1079 : decode cL_law 1079 = .ok (.iconst 0, 1) := by decide +kernel
theorem dL_law_1080 : decode cL_law 1080 = .ok (.ireturn, 1) := by decide +kernel
theorem dL_law_1081 : decode cL_law 1081 = .ok (.aload_n 1, 1) := by decide +kernel
theorem dL_law_1082 : decode cL_law 1082 = .ok (.aload_n 0, 1) := by decide +kernel
theorem dL_law_1083 : decode cL_law 1083 = .ok (.iload_n 3, 1) := by decide +kernel
theorem dL_law_1084 : decode cL_law 1084 = .ok (.iconst 1, 1) := by decide +kernel
theorem dL_law_1085 : decode cL_law 1085 = .ok (.iadd, 1) := by decide +kernel
theorem dL_law_1086 : decode cL_law 1086 = .ok (.iaload, 1) := by decide +kernel
theorem dL_law_1087 : decode cL_law 1087 = .ok (.aload_n 0, 1) := by decide +kernel
theorem dL_law_1088 : decode cL_law 1088 = .ok (.iload_n 3, 1) := by decide +kernel
theorem dL_law_1089 : decode cL_law 1089 = .ok (.iconst 2, 1) := by decide +kernel
theorem dL_law_1090 : decode cL_law 1090 = .ok (.iadd, 1) := by decide +kernel
theorem dL_law_1091 : decode cL_law 1091 = .ok (.iaload, 1) := by decide +kernel
theorem dL_law_1092 : decode cL_law 1092 = .ok (.invokevirtual 112, 3) := by decide +kernel
theorem dL_law_1095 : decode cL_law 1095 = .ok (.aload_n 2, 1) := by decide +kernel
theorem dL_law_1096 : decode cL_law 1096 = .ok (.aload_n 0, 1) := by decide +kernel
theorem dL_law_1097 : decode cL_law 1097 = .ok (.iload_n 3, 1) := by decide +kernel
theorem dL_law_1098 : decode cL_law 1098 = .ok (.iconst 1, 1) := by decide +kernel
theorem dL_law_1099 : decode cL_law 1099 = .ok (.iadd, 1) := by decide +kernel
theorem dL_law_1100 : decode cL_law 1100 = .ok (.iaload, 1) := by decide +kernel
theorem dL_law_1101 : decode cL_law 1101 = .ok (.aload_n 0, 1) := by decide +kernel
theorem dL_law_1102 : decode cL_law 1102 = .ok (.iload_n 3, 1) := by decide +kernel
theorem dL_law_1103 : decode cL_law 1103 = .ok (.iconst 2, 1) := by decide +kernel
theorem dL_law_1104 : decode cL_law 1104 = .ok (.iadd, 1) := by decide +kernel
theorem dL_law_1105 : decode cL_law 1105 = .ok (.iaload, 1) := by decide +kernel
theorem dL_law_1106 : decode cL_law 1106 = .ok (.invokevirtual 116, 3) := by decide +kernel
theorem dL_law_1109 : decode cL_law 1109 = .ok (.lcmp, 1) := by decide +kernel
theorem dL_law_1110 : decode cL_law 1110 = .ok (.ifCond .eq 349, 3) := by decide +kernel
theorem dL_law_1113 : decode cL_law 1113 = .ok (.iconst 0, 1) := by decide +kernel
theorem dL_law_1114 : decode cL_law 1114 = .ok (.ireturn, 1) := by decide +kernel
theorem dL_law_1115 : decode cL_law 1115 = .ok (.aload_n 1, 1) := by decide +kernel
theorem dL_law_1116 : decode cL_law 1116 = .ok (.aload_n 0, 1) := by decide +kernel
theorem dL_law_1117 : decode cL_law 1117 = .ok (.iload_n 3, 1) := by decide +kernel
theorem dL_law_1118 : decode cL_law 1118 = .ok (.iconst 1, 1) := by decide +kernel
theorem dL_law_1119 : decode cL_law 1119 = .ok (.iadd, 1) := by decide +kernel
theorem dL_law_1120 : decode cL_law 1120 = .ok (.iaload, 1) := by decide +kernel
theorem dL_law_1121 : decode cL_law 1121 = .ok (.aload_n 0, 1) := by decide +kernel
theorem dL_law_1122 : decode cL_law 1122 = .ok (.iload_n 3, 1) := by decide +kernel
theorem dL_law_1123 : decode cL_law 1123 = .ok (.iconst 2, 1) := by decide +kernel
theorem dL_law_1124 : decode cL_law 1124 = .ok (.iadd, 1) := by decide +kernel
theorem dL_law_1125 : decode cL_law 1125 = .ok (.iaload, 1) := by decide +kernel
theorem dL_law_1126 : decode cL_law 1126 = .ok (.aload_n 0, 1) := by decide +kernel
theorem dL_law_1127 : decode cL_law 1127 = .ok (.iload_n 3, 1) := by decide +kernel
theorem dL_law_1128 : decode cL_law 1128 = .ok (.iconst 3, 1) := by decide +kernel
theorem dL_law_1129 : decode cL_law 1129 = .ok (.iadd, 1) := by decide +kernel
theorem dL_law_1130 : decode cL_law 1130 = .ok (.iaload, 1) := by decide +kernel
theorem dL_law_1131 : decode cL_law 1131 = .ok (.invokevirtual 117, 3) := by decide +kernel
theorem dL_law_1134 : decode cL_law 1134 = .ok (.aload_n 2, 1) := by decide +kernel
theorem dL_law_1135 : decode cL_law 1135 = .ok (.aload_n 0, 1) := by decide +kernel
theorem dL_law_1136 : decode cL_law 1136 = .ok (.iload_n 3, 1) := by decide +kernel
theorem dL_law_1137 : decode cL_law 1137 = .ok (.iconst 1, 1) := by decide +kernel
theorem dL_law_1138 : decode cL_law 1138 = .ok (.iadd, 1) := by decide +kernel
theorem dL_law_1139 : decode cL_law 1139 = .ok (.iaload, 1) := by decide +kernel
theorem dL_law_1140 : decode cL_law 1140 = .ok (.aload_n 0, 1) := by decide +kernel
theorem dL_law_1141 : decode cL_law 1141 = .ok (.iload_n 3, 1) := by decide +kernel
theorem dL_law_1142 : decode cL_law 1142 = .ok (.iconst 2, 1) := by decide +kernel
theorem dL_law_1143 : decode cL_law 1143 = .ok (.iadd, 1) := by decide +kernel
theorem dL_law_1144 : decode cL_law 1144 = .ok (.iaload, 1) := by decide +kernel
theorem dL_law_1145 : decode cL_law 1145 = .ok (.aload_n 0, 1) := by decide +kernel
theorem dL_law_1146 : decode cL_law 1146 = .ok (.iload_n 3, 1) := by decide +kernel
theorem dL_law_1147 : decode cL_law 1147 = .ok (.iconst 3, 1) := by decide +kernel
theorem dL_law_1148 : decode cL_law 1148 = .ok (.iadd, 1) := by decide +kernel
theorem dL_law_1149 : decode cL_law 1149 = .ok (.iaload, 1) := by decide +kernel
theorem dL_law_1150 : decode cL_law 1150 = .ok (.invokevirtual 120, 3) := by decide +kernel
theorem dL_law_1153 : decode cL_law 1153 = .ok (.if_icmp .eq 306, 3) := by decide +kernel
theorem dL_law_1156 : decode cL_law 1156 = .ok (.iconst 0, 1) := by decide +kernel
theorem dL_law_1157 : decode cL_law 1157 = .ok (.ireturn, 1) := by decide +kernel
theorem dL_law_1158 : decode cL_law 1158 = .ok (.aload_n 1, 1) := by decide +kernel
theorem dL_law_1159 : decode cL_law 1159 = .ok (.aload_n 0, 1) := by decide +kernel
theorem dL_law_1160 : decode cL_law 1160 = .ok (.iload_n 3, 1) := by decide +kernel
theorem dL_law_1161 : decode cL_law 1161 = .ok (.iconst 1, 1) := by decide +kernel
theorem dL_law_1162 : decode cL_law 1162 = .ok (.iadd, 1) := by decide +kernel
theorem dL_law_1163 : decode cL_law 1163 = .ok (.iaload, 1) := by decide +kernel
theorem dL_law_1164 : decode cL_law 1164 = .ok (.invokevirtual 121, 3) := by decide +kernel
theorem dL_law_1167 : decode cL_law 1167 = .ok (.aload_n 2, 1) := by decide +kernel
theorem dL_law_1168 : decode cL_law 1168 = .ok (.aload_n 0, 1) := by decide +kernel
theorem dL_law_1169 : decode cL_law 1169 = .ok (.iload_n 3, 1) := by decide +kernel
theorem dL_law_1170 : decode cL_law 1170 = .ok (.iconst 1, 1) := by decide +kernel
theorem dL_law_1171 : decode cL_law 1171 = .ok (.iadd, 1) := by decide +kernel
theorem dL_law_1172 : decode cL_law 1172 = .ok (.iaload, 1) := by decide +kernel
theorem dL_law_1173 : decode cL_law 1173 = .ok (.invokevirtual 124, 3) := by decide +kernel
theorem dL_law_1176 : decode cL_law 1176 = .ok (.if_icmp .eq 283, 3) := by decide +kernel
theorem dL_law_1179 : decode cL_law 1179 = .ok (.iconst 0, 1) := by decide +kernel
theorem dL_law_1180 : decode cL_law 1180 = .ok (.ireturn, 1) := by decide +kernel
theorem dL_law_1181 : decode cL_law 1181 = .ok (.aload_n 1, 1) := by decide +kernel
theorem dL_law_1182 : decode cL_law 1182 = .ok (.aload_n 0, 1) := by decide +kernel
theorem dL_law_1183 : decode cL_law 1183 = .ok (.iload_n 3, 1) := by decide +kernel
theorem dL_law_1184 : decode cL_law 1184 = .ok (.iconst 1, 1) := by decide +kernel
theorem dL_law_1185 : decode cL_law 1185 = .ok (.iadd, 1) := by decide +kernel
theorem dL_law_1186 : decode cL_law 1186 = .ok (.iaload, 1) := by decide +kernel
theorem dL_law_1187 : decode cL_law 1187 = .ok (.aload_n 0, 1) := by decide +kernel
theorem dL_law_1188 : decode cL_law 1188 = .ok (.iload_n 3, 1) := by decide +kernel
theorem dL_law_1189 : decode cL_law 1189 = .ok (.iconst 2, 1) := by decide +kernel
theorem dL_law_1190 : decode cL_law 1190 = .ok (.iadd, 1) := by decide +kernel
theorem dL_law_1191 : decode cL_law 1191 = .ok (.iaload, 1) := by decide +kernel
theorem dL_law_1192 : decode cL_law 1192 = .ok (.aload_n 0, 1) := by decide +kernel
theorem dL_law_1193 : decode cL_law 1193 = .ok (.iload_n 3, 1) := by decide +kernel
theorem dL_law_1194 : decode cL_law 1194 = .ok (.iconst 3, 1) := by decide +kernel
theorem dL_law_1195 : decode cL_law 1195 = .ok (.iadd, 1) := by decide +kernel
theorem dL_law_1196 : decode cL_law 1196 = .ok (.iaload, 1) := by decide +kernel
theorem dL_law_1197 : decode cL_law 1197 = .ok (.invokevirtual 125, 3) := by decide +kernel
theorem dL_law_1200 : decode cL_law 1200 = .ok (.aload_n 2, 1) := by decide +kernel
theorem dL_law_1201 : decode cL_law 1201 = .ok (.aload_n 0, 1) := by decide +kernel
theorem dL_law_1202 : decode cL_law 1202 = .ok (.iload_n 3, 1) := by decide +kernel
theorem dL_law_1203 : decode cL_law 1203 = .ok (.iconst 1, 1) := by decide +kernel
theorem dL_law_1204 : decode cL_law 1204 = .ok (.iadd, 1) := by decide +kernel
theorem dL_law_1205 : decode cL_law 1205 = .ok (.iaload, 1) := by decide +kernel
theorem dL_law_1206 : decode cL_law 1206 = .ok (.aload_n 0, 1) := by decide +kernel
theorem dL_law_1207 : decode cL_law 1207 = .ok (.iload_n 3, 1) := by decide +kernel
theorem dL_law_1208 : decode cL_law 1208 = .ok (.iconst 2, 1) := by decide +kernel
theorem dL_law_1209 : decode cL_law 1209 = .ok (.iadd, 1) := by decide +kernel
theorem dL_law_1210 : decode cL_law 1210 = .ok (.iaload, 1) := by decide +kernel
theorem dL_law_1211 : decode cL_law 1211 = .ok (.aload_n 0, 1) := by decide +kernel
theorem dL_law_1212 : decode cL_law 1212 = .ok (.iload_n 3, 1) := by decide +kernel
theorem dL_law_1213 : decode cL_law 1213 = .ok (.iconst 3, 1) := by decide +kernel
theorem dL_law_1214 : decode cL_law 1214 = .ok (.iadd, 1) := by decide +kernel
theorem dL_law_1215 : decode cL_law 1215 = .ok (.iaload, 1) := by decide +kernel
theorem dL_law_1216 : decode cL_law 1216 = .ok (.invokevirtual 128, 3) := by decide +kernel
theorem dL_law_1219 : decode cL_law 1219 = .ok (.if_icmp .eq 240, 3) := by decide +kernel
theorem dL_law_1222 : decode cL_law 1222 = .ok (.iconst 0, 1) := by decide +kernel
theorem dL_law_1223 : decode cL_law 1223 = .ok (.ireturn, 1) := by decide +kernel
theorem dL_law_1224 : decode cL_law 1224 = .ok (.aload_n 1, 1) := by decide +kernel
theorem dL_law_1225 : decode cL_law 1225 = .ok (.aload_n 0, 1) := by decide +kernel
theorem dL_law_1226 : decode cL_law 1226 = .ok (.iload_n 3, 1) := by decide +kernel
theorem dL_law_1227 : decode cL_law 1227 = .ok (.iconst 1, 1) := by decide +kernel
theorem dL_law_1228 : decode cL_law 1228 = .ok (.iadd, 1) := by decide +kernel
theorem dL_law_1229 : decode cL_law 1229 = .ok (.iaload, 1) := by decide +kernel
theorem dL_law_1230 : decode cL_law 1230 = .ok (.aload_n 0, 1) := by decide +kernel
theorem dL_law_1231 : decode cL_law 1231 = .ok (.iload_n 3, 1) := by decide +kernel
theorem dL_law_1232 : decode cL_law 1232 = .ok (.iconst 2, 1) := by decide +kernel
theorem dL_law_1233 : decode cL_law 1233 = .ok (.iadd, 1) := by decide +kernel
theorem dL_law_1234 : decode cL_law 1234 = .ok (.iaload, 1) := by decide +kernel
theorem dL_law_1235 : decode cL_law 1235 = .ok (.aload_n 0, 1) := by decide +kernel
theorem dL_law_1236 : decode cL_law 1236 = .ok (.iload_n 3, 1) := by decide +kernel
theorem dL_law_1237 : decode cL_law 1237 = .ok (.iconst 3, 1) := by decide +kernel
theorem dL_law_1238 : decode cL_law 1238 = .ok (.iadd, 1) := by decide +kernel
theorem dL_law_1239 : decode cL_law 1239 = .ok (.iaload, 1) := by decide +kernel
theorem dL_law_1240 : decode cL_law 1240 = .ok (.invokevirtual 129, 3) := by decide +kernel
theorem dL_law_1243 : decode cL_law 1243 = .ok (.aload_n 2, 1) := by decide +kernel
theorem dL_law_1244 : decode cL_law 1244 = .ok (.aload_n 0, 1) := by decide +kernel
theorem dL_law_1245 : decode cL_law 1245 = .ok (.iload_n 3, 1) := by decide +kernel
theorem dL_law_1246 : decode cL_law 1246 = .ok (.iconst 1, 1) := by decide +kernel
theorem dL_law_1247 : decode cL_law 1247 = .ok (.iadd, 1) := by decide +kernel
theorem dL_law_1248 : decode cL_law 1248 = .ok (.iaload, 1) := by decide +kernel
theorem dL_law_1249 : decode cL_law 1249 = .ok (.aload_n 0, 1) := by decide +kernel
theorem dL_law_1250 : decode cL_law 1250 = .ok (.iload_n 3, 1) := by decide +kernel
theorem dL_law_1251 : decode cL_law 1251 = .ok (.iconst 2, 1) := by decide +kernel
theorem dL_law_1252 : decode cL_law 1252 = .ok (.iadd, 1) := by decide +kernel
theorem dL_law_1253 : decode cL_law 1253 = .ok (.iaload, 1) := by decide +kernel
theorem dL_law_1254 : decode cL_law 1254 = .ok (.aload_n 0, 1) := by decide +kernel
theorem dL_law_1255 : decode cL_law 1255 = .ok (.iload_n 3, 1) := by decide +kernel
theorem dL_law_1256 : decode cL_law 1256 = .ok (.iconst 3, 1) := by decide +kernel
theorem dL_law_1257 : decode cL_law 1257 = .ok (.iadd, 1) := by decide +kernel
theorem dL_law_1258 : decode cL_law 1258 = .ok (.iaload, 1) := by decide +kernel
theorem dL_law_1259 : decode cL_law 1259 = .ok (.invokevirtual 133, 3) := by decide +kernel
theorem dL_law_1262 : decode cL_law 1262 = .ok (.lcmp, 1) := by decide +kernel
theorem dL_law_1263 : decode cL_law 1263 = .ok (.ifCond .eq 196, 3) := by decide +kernel
theorem dL_law_1266 : decode cL_law 1266 = .ok (.iconst 0, 1) := by decide +kernel
theorem dL_law_1267 : decode cL_law 1267 = .ok (.ireturn, 1) := by decide +kernel
theorem dL_law_1268 : decode cL_law 1268 = .ok (.aload_n 1, 1) := by decide +kernel
theorem dL_law_1269 : decode cL_law 1269 = .ok (.aload_n 0, 1) := by decide +kernel
theorem dL_law_1270 : decode cL_law 1270 = .ok (.iload_n 3, 1) := by decide +kernel
theorem dL_law_1271 : decode cL_law 1271 = .ok (.iconst 1, 1) := by decide +kernel
theorem dL_law_1272 : decode cL_law 1272 = .ok (.iadd, 1) := by decide +kernel
theorem dL_law_1273 : decode cL_law 1273 = .ok (.iaload, 1) := by decide +kernel
theorem dL_law_1274 : decode cL_law 1274 = .ok (.aload_n 0, 1) := by decide +kernel
theorem dL_law_1275 : decode cL_law 1275 = .ok (.iload_n 3, 1) := by decide +kernel
theorem dL_law_1276 : decode cL_law 1276 = .ok (.iconst 2, 1) := by decide +kernel
theorem dL_law_1277 : decode cL_law 1277 = .ok (.iadd, 1) := by decide +kernel
theorem dL_law_1278 : decode cL_law 1278 = .ok (.iaload, 1) := by decide +kernel
theorem dL_law_1279 : decode cL_law 1279 = .ok (.aload_n 0, 1) := by decide +kernel
theorem dL_law_1280 : decode cL_law 1280 = .ok (.iload_n 3, 1) := by decide +kernel
theorem dL_law_1281 : decode cL_law 1281 = .ok (.iconst 3, 1) := by decide +kernel
theorem dL_law_1282 : decode cL_law 1282 = .ok (.iadd, 1) := by decide +kernel
theorem dL_law_1283 : decode cL_law 1283 = .ok (.iaload, 1) := by decide +kernel
theorem dL_law_1284 : decode cL_law 1284 = .ok (.aload_n 0, 1) := by decide +kernel
theorem dL_law_1285 : decode cL_law 1285 = .ok (.iload_n 3, 1) := by decide +kernel
theorem dL_law_1286 : decode cL_law 1286 = .ok (.iconst 4, 1) := by decide +kernel
theorem dL_law_1287 : decode cL_law 1287 = .ok (.iadd, 1) := by decide +kernel
theorem dL_law_1288 : decode cL_law 1288 = .ok (.iaload, 1) := by decide +kernel
theorem dL_law_1289 : decode cL_law 1289 = .ok (.aload_n 0, 1) := by decide +kernel
theorem dL_law_1290 : decode cL_law 1290 = .ok (.iload_n 3, 1) := by decide +kernel
theorem dL_law_1291 : decode cL_law 1291 = .ok (.iconst 5, 1) := by decide +kernel
theorem dL_law_1292 : decode cL_law 1292 = .ok (.iadd, 1) := by decide +kernel
theorem dL_law_1293 : decode cL_law 1293 = .ok (.iaload, 1) := by decide +kernel
theorem dL_law_1294 : decode cL_law 1294 = .ok (.invokevirtual 134, 3) := by decide +kernel
theorem dL_law_1297 : decode cL_law 1297 = .ok (.aload_n 2, 1) := by decide +kernel
theorem dL_law_1298 : decode cL_law 1298 = .ok (.aload_n 0, 1) := by decide +kernel
theorem dL_law_1299 : decode cL_law 1299 = .ok (.iload_n 3, 1) := by decide +kernel
theorem dL_law_1300 : decode cL_law 1300 = .ok (.iconst 1, 1) := by decide +kernel
theorem dL_law_1301 : decode cL_law 1301 = .ok (.iadd, 1) := by decide +kernel
theorem dL_law_1302 : decode cL_law 1302 = .ok (.iaload, 1) := by decide +kernel
theorem dL_law_1303 : decode cL_law 1303 = .ok (.aload_n 0, 1) := by decide +kernel
theorem dL_law_1304 : decode cL_law 1304 = .ok (.iload_n 3, 1) := by decide +kernel
theorem dL_law_1305 : decode cL_law 1305 = .ok (.iconst 2, 1) := by decide +kernel
theorem dL_law_1306 : decode cL_law 1306 = .ok (.iadd, 1) := by decide +kernel
theorem dL_law_1307 : decode cL_law 1307 = .ok (.iaload, 1) := by decide +kernel
theorem dL_law_1308 : decode cL_law 1308 = .ok (.aload_n 0, 1) := by decide +kernel
theorem dL_law_1309 : decode cL_law 1309 = .ok (.iload_n 3, 1) := by decide +kernel
theorem dL_law_1310 : decode cL_law 1310 = .ok (.iconst 3, 1) := by decide +kernel
theorem dL_law_1311 : decode cL_law 1311 = .ok (.iadd, 1) := by decide +kernel
theorem dL_law_1312 : decode cL_law 1312 = .ok (.iaload, 1) := by decide +kernel
theorem dL_law_1313 : decode cL_law 1313 = .ok (.aload_n 0, 1) := by decide +kernel
theorem dL_law_1314 : decode cL_law 1314 = .ok (.iload_n 3, 1) := by decide +kernel
theorem dL_law_1315 : decode cL_law 1315 = .ok (.iconst 4, 1) := by decide +kernel
theorem dL_law_1316 : decode cL_law 1316 = .ok (.iadd, 1) := by decide +kernel
theorem dL_law_1317 : decode cL_law 1317 = .ok (.iaload, 1) := by decide +kernel
theorem dL_law_1318 : decode cL_law 1318 = .ok (.aload_n 0, 1) := by decide +kernel
theorem dL_law_1319 : decode cL_law 1319 = .ok (.iload_n 3, 1) := by decide +kernel
theorem dL_law_1320 : decode cL_law 1320 = .ok (.iconst 5, 1) := by decide +kernel
theorem dL_law_1321 : decode cL_law 1321 = .ok (.iadd, 1) := by decide +kernel
theorem dL_law_1322 : decode cL_law 1322 = .ok (.iaload, 1) := by decide +kernel
theorem dL_law_1323 : decode cL_law 1323 = .ok (.invokevirtual 137, 3) := by decide +kernel
theorem dL_law_1326 : decode cL_law 1326 = .ok (.if_icmp .eq 133, 3) := by decide +kernel
theorem dL_law_1329 : decode cL_law 1329 = .ok (.iconst 0, 1) := by decide +kernel
theorem dL_law_1330 : decode cL_law 1330 = .ok (.ireturn, 1) := by decide +kernel
theorem dL_law_1331 : decode cL_law 1331 = .ok (.aload_n 1, 1) := by decide +kernel
theorem dL_law_1332 : decode cL_law 1332 = .ok (.aload_n 0, 1) := by decide +kernel
theorem dL_law_1333 : decode cL_law 1333 = .ok (.iload_n 3, 1) := by decide +kernel
theorem dL_law_1334 : decode cL_law 1334 = .ok (.iconst 1, 1) := by decide +kernel
theorem dL_law_1335 : decode cL_law 1335 = .ok (.iadd, 1) := by decide +kernel
theorem dL_law_1336 : decode cL_law 1336 = .ok (.iaload, 1) := by decide +kernel
theorem dL_law_1337 : decode cL_law 1337 = .ok (.invokevirtual 138, 3) := by decide +kernel
theorem dL_law_1340 : decode cL_law 1340 = .ok (.aload_n 2, 1) := by decide +kernel
theorem dL_law_1341 : decode cL_law 1341 = .ok (.aload_n 0, 1) := by decide +kernel
theorem dL_law_1342 : decode cL_law 1342 = .ok (.iload_n 3, 1) := by decide +kernel
theorem dL_law_1343 : decode cL_law 1343 = .ok (.iconst 1, 1) := by decide +kernel
theorem dL_law_1344 : decode cL_law 1344 = .ok (.iadd, 1) := by decide +kernel
theorem dL_law_1345 : decode cL_law 1345 = .ok (.iaload, 1) := by decide +kernel
theorem dL_law_1346 : decode cL_law 1346 = .ok (.invokevirtual 141, 3) := by decide +kernel
theorem dL_law_1349 : decode cL_law 1349 = .ok (.if_icmp .eq 110, 3) := by decide +kernel
theorem dL_law_1352 : decode cL_law 1352 = .ok (.iconst 0, 1) := by decide +kernel
theorem dL_law_1353 : decode cL_law 1353 = .ok (.ireturn, 1) := by decide +kernel
theorem dL_law_1354 : decode cL_law 1354 = .ok (.aload_n 1, 1) := by decide +kernel
theorem dL_law_1355 : decode cL_law 1355 = .ok (.aload_n 0, 1) := by decide +kernel
theorem dL_law_1356 : decode cL_law 1356 = .ok (.iload_n 3, 1) := by decide +kernel
theorem dL_law_1357 : decode cL_law 1357 = .ok (.iconst 1, 1) := by decide +kernel
theorem dL_law_1358 : decode cL_law 1358 = .ok (.iadd, 1) := by decide +kernel
theorem dL_law_1359 : decode cL_law 1359 = .ok (.iaload, 1) := by decide +kernel
theorem dL_law_1360 : decode cL_law 1360 = .ok (.invokevirtual 142, 3) := by decide +kernel
theorem dL_law_1363 : decode cL_law 1363 = .ok (.aload_n 2, 1) := by decide +kernel
theorem dL_law_1364 : decode cL_law 1364 = .ok (.aload_n 0, 1) := by decide +kernel
theorem dL_law_1365 : decode cL_law 1365 = .ok (.iload_n 3, 1) := by decide +kernel
theorem dL_law_1366 : decode cL_law 1366 = .ok (.iconst 1, 1) := by decide +kernel
theorem dL_law_1367 : decode cL_law 1367 = .ok (.iadd, 1) := by decide +kernel
theorem dL_law_1368 : decode cL_law 1368 = .ok (.iaload, 1) := by decide +kernel
theorem dL_law_1369 : decode cL_law 1369 = .ok (.invokevirtual 145, 3) := by decide +kernel
theorem dL_law_1372 : decode cL_law 1372 = .ok (.if_icmp .eq 87, 3) := by decide +kernel
theorem dL_law_1375 : decode cL_law 1375 = .ok (.iconst 0, 1) := by decide +kernel
theorem dL_law_1376 : decode cL_law 1376 = .ok (.ireturn, 1) := by decide +kernel
theorem dL_law_1377 : decode cL_law 1377 = .ok (.aload_n 1, 1) := by decide +kernel
theorem dL_law_1378 : decode cL_law 1378 = .ok (.aload_n 0, 1) := by decide +kernel
theorem dL_law_1379 : decode cL_law 1379 = .ok (.iload_n 3, 1) := by decide +kernel
theorem dL_law_1380 : decode cL_law 1380 = .ok (.iconst 1, 1) := by decide +kernel
theorem dL_law_1381 : decode cL_law 1381 = .ok (.iadd, 1) := by decide +kernel
theorem dL_law_1382 : decode cL_law 1382 = .ok (.iaload, 1) := by decide +kernel
theorem dL_law_1383 : decode cL_law 1383 = .ok (.aload_n 0, 1) := by decide +kernel
theorem dL_law_1384 : decode cL_law 1384 = .ok (.iload_n 3, 1) := by decide +kernel
theorem dL_law_1385 : decode cL_law 1385 = .ok (.iconst 2, 1) := by decide +kernel
theorem dL_law_1386 : decode cL_law 1386 = .ok (.iadd, 1) := by decide +kernel
theorem dL_law_1387 : decode cL_law 1387 = .ok (.iaload, 1) := by decide +kernel
theorem dL_law_1388 : decode cL_law 1388 = .ok (.invokevirtual 146, 3) := by decide +kernel
theorem dL_law_1391 : decode cL_law 1391 = .ok (.aload_n 2, 1) := by decide +kernel
theorem dL_law_1392 : decode cL_law 1392 = .ok (.aload_n 0, 1) := by decide +kernel
theorem dL_law_1393 : decode cL_law 1393 = .ok (.iload_n 3, 1) := by decide +kernel
theorem dL_law_1394 : decode cL_law 1394 = .ok (.iconst 1, 1) := by decide +kernel
theorem dL_law_1395 : decode cL_law 1395 = .ok (.iadd, 1) := by decide +kernel
theorem dL_law_1396 : decode cL_law 1396 = .ok (.iaload, 1) := by decide +kernel
theorem dL_law_1397 : decode cL_law 1397 = .ok (.aload_n 0, 1) := by decide +kernel
theorem dL_law_1398 : decode cL_law 1398 = .ok (.iload_n 3, 1) := by decide +kernel
theorem dL_law_1399 : decode cL_law 1399 = .ok (.iconst 2, 1) := by decide +kernel
theorem dL_law_1400 : decode cL_law 1400 = .ok (.iadd, 1) := by decide +kernel
theorem dL_law_1401 : decode cL_law 1401 = .ok (.iaload, 1) := by decide +kernel
theorem dL_law_1402 : decode cL_law 1402 = .ok (.invokevirtual 149, 3) := by decide +kernel
theorem dL_law_1405 : decode cL_law 1405 = .ok (.if_icmp .eq 54, 3) := by decide +kernel
theorem dL_law_1408 : decode cL_law 1408 = .ok (.iconst 0, 1) := by decide +kernel
theorem dL_law_1409 : decode cL_law 1409 = .ok (.ireturn, 1) := by decide +kernel
theorem dL_law_1410 : decode cL_law 1410 = .ok (.aload_n 1, 1) := by decide +kernel
theorem dL_law_1411 : decode cL_law 1411 = .ok (.invokevirtual 150, 3) := by decide +kernel
theorem dL_law_1414 : decode cL_law 1414 = .ok (.aload_n 2, 1) := by decide +kernel
theorem dL_law_1415 : decode cL_law 1415 = .ok (.invokevirtual 153, 3) := by decide +kernel
theorem dL_law_1418 : decode cL_law 1418 = .ok (.if_icmp .eq 41, 3) := by decide +kernel
theorem dL_law_1421 : decode cL_law 1421 = .ok (.iconst 0, 1) := by decide +kernel
theorem dL_law_1422 : decode cL_law 1422 = .ok (.ireturn, 1) := by decide +kernel
theorem dL_law_1423 : decode cL_law 1423 = .ok (.aload_n 1, 1) := by decide +kernel
theorem dL_law_1424 : decode cL_law 1424 = .ok (.invokevirtual 154, 3) := by decide +kernel
theorem dL_law_1427 : decode cL_law 1427 = .ok (.aload_n 2, 1) := by decide +kernel
theorem dL_law_1428 : decode cL_law 1428 = .ok (.invokevirtual 157, 3) := by decide +kernel
theorem dL_law_1431 : decode cL_law 1431 = .ok (.if_icmp .eq 28, 3) := by decide +kernel
theorem dL_law_1434 : decode cL_law 1434 = .ok (.iconst 0, 1) := by decide +kernel
theorem dL_law_1435 : decode cL_law 1435 = .ok (.ireturn, 1) := by decide +kernel
theorem dL_law_1436 : decode cL_law 1436 = .ok (.aload_n 1, 1) := by decide +kernel
theorem dL_law_1437 : decode cL_law 1437 = .ok (.aload_n 0, 1) := by decide +kernel
theorem dL_law_1438 : decode cL_law 1438 = .ok (.iload_n 3, 1) := by decide +kernel
theorem dL_law_1439 : decode cL_law 1439 = .ok (.iconst 1, 1) := by decide +kernel
theorem dL_law_1440 : decode cL_law 1440 = .ok (.iadd, 1) := by decide +kernel
theorem dL_law_1441 : decode cL_law 1441 = .ok (.iaload, 1) := by decide +kernel
theorem dL_law_1442 : decode cL_law 1442 = .ok (.invokevirtual 158, 3) := by decide +kernel
theorem dL_law_1445 : decode cL_law 1445 = .ok (.aload_n 2, 1) := by decide +kernel
theorem dL_law_1446 : decode cL_law 1446 = .ok (.aload_n 0, 1) := by decide +kernel
theorem dL_law_1447 : decode cL_law 1447 = .ok (.iload_n 3, 1) := by decide +kernel
theorem dL_law_1448 : decode cL_law 1448 = .ok (.iconst 1, 1) := by decide +kernel
theorem dL_law_1449 : decode cL_law 1449 = .ok (.iadd, 1) := by decide +kernel
theorem dL_law_1450 : decode cL_law 1450 = .ok (.iaload, 1) := by decide +kernel
theorem dL_law_1451 : decode cL_law 1451 = .ok (.invokevirtual 161, 3) := by decide +kernel
theorem dL_law_1454 : decode cL_law 1454 = .ok (.if_icmp .eq 5, 3) := by decide +kernel
theorem dL_law_1457 : decode cL_law 1457 = .ok (.iconst 0, 1) := by decide +kernel
theorem dL_law_1458 : decode cL_law 1458 = .ok (.ireturn, 1) := by decide +kernel
theorem dL_law_1459 : decode cL_law 1459 = .ok (.iinc 3 7, 3) := by decide +kernel
theorem dL_law_1462 : decode cL_law 1462 = .ok (.goto (-1444), 3) := by decide +kernel
theorem dL_law_1465 : decode cL_law 1465 = .ok (.iconst 1, 1) := by decide +kernel
theorem dL_law_1466 : decode cL_law 1466 = .ok (.ireturn, 1) := by decide +kernel
end
section
/-! Nats in ints, cells put back by places -/
theorem nI_bv (n : Nat) : (nI n).toBitVec = BitVec.ofNat 32 n := rfl
theorem nI_and (a b : Nat) : nI a &&& nI b = nI (a &&& b) := by
  apply Int32.toBitVec_inj.mp
  rw [Int32.toBitVec_and, nI_bv, nI_bv, nI_bv, BitVec.ofNat_and]
theorem nI_or (a b : Nat) : nI a ||| nI b = nI (a ||| b) := by
  apply Int32.toBitVec_inj.mp
  rw [Int32.toBitVec_or, nI_bv, nI_bv, nI_bv, BitVec.ofNat_or]
/-- the bits of b that a has not -/
def sdiff (b a : Nat) : Nat := b ^^^ (b &&& a)
theorem sdiff_bit (b a i : Nat) : (sdiff b a).testBit i = (b.testBit i && !a.testBit i) := by
  simp only [sdiff, Nat.testBit_xor, Nat.testBit_and]
  cases b.testBit i <;> cases a.testBit i <;> rfl
theorem nI_sdiff (b a : Nat) : nI b &&& (nI a ^^^ (-1)) = nI (sdiff b a) := by
  apply Int32.toBitVec_inj.mp
  rw [Int32.toBitVec_and, Int32.toBitVec_xor, nI_bv, nI_bv, nI_bv]
  unfold sdiff
  rw [BitVec.ofNat_xor, BitVec.ofNat_and]
  generalize BitVec.ofNat 32 a = u
  generalize BitVec.ofNat 32 b = v
  show v &&& (u ^^^ BitVec.allOnes 32) = v ^^^ (v &&& u)
  ext i hi
  simp only [BitVec.getElem_and, BitVec.getElem_xor, BitVec.getElem_allOnes]
  cases v[i] <;> cases u[i] <;> rfl
theorem smod32 : ∀ k : Fin 32, ((nI k.1).toBitVec.smod 32).toNat = k.1 := by decide +kernel
theorem nI_31 {b : Nat} (hb : b < 32) : nI b &&& 31 = nI b := by
  rw [pk_andN (by omega) 5 (by decide), Nat.mod_eq_of_lt (by omega)]
theorem nI_shl1 {b : Nat} (hb : b < 32) : nI 1 <<< (nI b &&& 31) = nI (2 ^ b) := by
  rw [nI_31 hb]
  have h2 : (2 : Nat) ^ b ≤ 2 ^ 31 := Nat.pow_le_pow_right (by decide) (by omega)
  rw [pk_shlN (n := 1) (nI b) b (smod32 ⟨b, hb⟩) (by omega), Nat.one_mul]
theorem nI_shr {a b : Nat} (ha : a < 2 ^ 31) (hb : b < 32) : nI a >>> (nI b &&& 31) = nI (a / 2 ^ b) := by
  rw [nI_31 hb]
  exact pk_shrN ha (nI b) b (smod32 ⟨b, hb⟩)
/-- f, but v at i -/
def up (w : Nat → Nat) (i v : Nat) : Nat → Nat := fun j => if j = i then v else w j
theorem up_self (w : Nat → Nat) (i v : Nat) : up w i v i = v := by simp [up]
theorem up_ne (w : Nat → Nat) {i j : Nat} (v : Nat) (h : j ≠ i) : up w i v j = w j := by simp [up, h]
theorem upd_nI (w : Nat → Nat) (i v : Nat) : upd (fun j => nI (w j)) i (nI v) = fun j => nI (up w i v j) := by
  funext j
  by_cases h : j = i <;> simp [upd, up, h]
def vset : va_W → List Nat → va_W → va_W
  | ws, i :: is, d :: ds => vset (ws.set i d) is ds
  | ws, [], _ => ws
  | ws, _ :: _, [] => ws
theorem vset_get : ∀ (is : List Nat) (wo ws : va_W) (k : Nat) (q : Nat × va_E), is.length = wo.length → (vset ws is wo)[k]? = some q → (∃ j : Nat, is[j]? = some k ∧ wo[j]? = some q) ∨ (ws[k]? = some q ∧ k ∉ is)
  | [], wo, ws, k, q, _, h => by
    right
    refine ⟨?_, by simp⟩
    cases wo <;> exact h
  | i :: is, [], ws, k, q, hl, _ => by simp at hl
  | i :: is, d :: wo, ws, k, q, hl, h => by
    rcases vset_get is wo (ws.set i d) k q (by simpa using hl) h with ⟨j, h1, h2⟩ | ⟨h1, h2⟩
    · exact Or.inl ⟨j + 1, by simpa using h1, by simpa using h2⟩
    · by_cases e : k = i
      · subst e
        left
        refine ⟨0, by simp, ?_⟩
        have hlt : k < ws.length := by
          have := (List.getElem?_eq_some_iff.mp h1).1
          simpa using this
        rw [List.getElem?_set_self hlt] at h1
        simpa using h1
      · right
        rw [List.getElem?_set_ne (fun z => e z.symm)] at h1
        exact ⟨h1, by simp [e, h2]⟩
theorem vset_fst : ∀ (is : List Nat) (wo ws : va_W), (∀ (j i : Nat) (d : Nat × va_E), is[j]? = some i → wo[j]? = some d → (ws.map (fun q => q.1))[i]? = some d.1) → (vset ws is wo).map (fun q => q.1) = ws.map (fun q => q.1)
  | [], wo, ws, _ => by cases wo <;> rfl
  | i :: is, [], ws, _ => rfl
  | i :: is, d :: wo, ws, h => by
    have h0 := h 0 i d (by simp) (by simp)
    have e : (ws.set i d).map (fun q => q.1) = ws.map (fun q => q.1) := by
      apply List.ext_getElem?
      intro k
      rw [List.getElem?_map, List.getElem?_map]
      by_cases hk : k = i
      · subst hk
        rw [List.getElem?_map] at h0
        cases hw : ws[k]? with
        | none => rw [hw] at h0; simp at h0
        | some z =>
          rw [hw] at h0
          have hlt := (List.getElem?_eq_some_iff.mp hw).1
          rw [List.getElem?_set_self hlt]
          simpa using h0.symm
      · rw [List.getElem?_set_ne (fun z => hk z.symm)]
    show (vset (ws.set i d) is wo).map _ = _
    rw [vset_fst is wo (ws.set i d) (fun j i2 d2 h1 h2 => by rw [e]; exact h (j + 1) i2 d2 (by simpa using h1) (by simpa using h2)), e]
theorem va_D_fst {A : Nat → Prop} {ws ws' : va_W} (he : ws'.map (fun q => q.1) = ws.map (fun q => q.1)) (h : va_D A ws) : va_D A ws' := by
  have key : ∀ (i : Nat) (p : Nat × va_E), ws'[i]? = some p → ∃ q, ws[i]? = some q ∧ q.1 = p.1 := by
    intro i p hp
    have h1 : (ws'.map (fun q => q.1))[i]? = some p.1 := by rw [List.getElem?_map, hp]; rfl
    rw [he, List.getElem?_map] at h1
    cases hw : ws[i]? with
    | none => rw [hw] at h1; simp at h1
    | some z => rw [hw] at h1; exact ⟨z, rfl, by simpa using h1⟩
  refine ⟨fun i j p q hp hq e => ?_, fun k q hq => ?_⟩
  · obtain ⟨p', h1, h2⟩ := key i p hp
    obtain ⟨q', h3, h4⟩ := key j q hq
    exact h.1 i j p' q' h1 h3 (by rw [h2, h4, e])
  · obtain ⟨q', h3, h4⟩ := key k q hq
    rw [← h4]
    exact h.2 k q' h3
theorem filterMap_of_map {α β : Type} {f : α → Option β} : ∀ {l : List α} {w : List β}, l.map f = w.map some → l.filterMap f = w
  | [], [], _ => rfl
  | [], _ :: _, h => by simp at h
  | _ :: _, [], h => by simp at h
  | a :: l, b :: w, h => by
    have h1 : f a = some b := by simpa using (List.cons.inj (by simpa using h)).1
    have h2 : l.map f = w.map some := (List.cons.inj (by simpa using h)).2
    rw [List.filterMap_cons, h1, filterMap_of_map h2]
/-! the walk's own judgement: a context x, the pc, the locals by position, the operand stack, the cells -/
abbrev vG : Type := Launch × va_G × ClassId × ClassId × ClassId
abbrev gD (g : vG) : va_G := g.2.1
abbrev gI (g : vG) : ClassId := g.2.2.1
abbrev gZ (g : vG) : ClassId := g.2.2.2.1
abbrev gA (g : vG) : ClassId := g.2.2.2.2
abbrev gT (g : vG) : List (ClassId × FieldType) := [(gI g, .int), (gZ g, .boolean), (gA g, .array .int)]
/-- the links between nest mates -/
def vNw (U : State) : Prop := va_Nw (.methodLinkNest RX6 23 yX7_isIn RX7) U ∧ va_Nw (.methodLinkNest RX4 67 yX7_isIn RX7) U
theorem vNw.warm {s U : State} (hW : s.WarmedH U.vm) (h : vNw s) : vNw U := ⟨va_Nw.warmM hW h.1, va_Nw.warmM hW h.2⟩
theorem vNw.same {u U : State} (hv : u.vm = U.vm) (h : vNw u) : vNw U := ⟨va_Nw.same rfl hv h.1, va_Nw.same rfl hv h.2⟩
def vL (ls : Array Slot) (nL : Nat) (lv : List (Option Value)) : Prop := ls.size = nL ∧ lv_wf ls ∧ ∀ (i : Nat) (v : Value), lv[i]? = some (some v) → ls[i]? = some (.val v) ∧ v.category = 1
abbrev vX : Type := vG × Program × Env × Room × State × MethodId × Array Value × List Frame × Method × Code × Nat × Nat × (State → Prop) × (Nat → Prop) × Nat
def vM : vX → Nat → List (Option Value) → List Value → va_W → Prop
  | (g, p, e, R, s, m, args, below, meth, c, cells, slots, Q, A, nL), pc, lv, st, ws => ∀ (H : Heap) (locs : List Loc) (ls : Array Slot), va_P (gD g) vwCl ws H → va_D A ws → va_S A s.heap H locs → vL ls nL lv → W p g.1 e R s m args below meth c H locs cells slots Q (F0 m pc ls st)
def Ok : vX → vG → ByteArray → String → Room → Nat → Prop
  | (g, p, e, R, s, m, args, below, meth, c, cells, slots, Q, A, nL), g', cc, own, rm, nL' => g = g' ∧ R = rm ∧ nL = nL' ∧ p.tables.exec = Jvm.exec ∧ c.code = cc ∧ c.maxLocals = nL ∧ s.vm.findClass own = some m.cls ∧ (∀ w ∈ wsL_law, w.before args s = true) ∧ va_K (gD g) vwCl (gT g) s ∧ (∀ q : Nat, s.heap.size ≤ q → A q) ∧ meth.locks = false ∧ vNw s ∧ cells ≤ R.cells ∧ slots ≤ R.slots
/-- what a return needs -/
def Ret : vX → Option FieldType → Option Value → va_W → Prop
  | (g, p, e, R, s, m, args, below, meth, c, cells, slots, Q, A, nL), ret, r, wo => meth.sig.returnType = ret ∧ ∃ (Qc : Array Value → State → Outcome → State → Prop) (free : Addr → Prop), Q = MQ below Qc args s cells slots free ∧ (∀ q, A q → free q) ∧ ∀ (t : State) (H : Heap) (locs : List Loc), t.heap = H → s.WarmedH t.vm → va_P (gD g) vwCl wo H → va_S A s.heap H locs → Qc args s (.returned r) t
/-- a contract: from the cells wi, with these arguments, the method answers r and leaves the cells wo -/
def vPre (g : vG) (wi : va_W) (sz : Nat) (U : State) : Prop := U.heap.size = sz ∧ va_P (gD g) vwCl wi U.heap ∧ va_K (gD g) vwCl (gT g) U ∧ va_D (fun _ => True) wi ∧ vNw U
def vPost (g : vG) (wi : va_W) (r : Option Value) (wo : va_W) (sz : Nat) : Array Value → State → Outcome → State → Prop := fun _ st oc t => (oc = .returned r ∧ va_P (gD g) vwCl wo t.heap) ∧ va_F (va_A wi sz) st t
def Ct (g : vG) (y : MethodName) (cc : ByteArray) (maxL : Nat) (ret : Option FieldType) (rm : Room) (wi : va_W) (av : List Value) (r : Option Value) (wo : va_W) : Prop :=
  wo.map (fun q => q.1) = wi.map (fun q => q.1) ∧ ∀ sz : Nat, Met g.1 y (.code y cc maxL ret :: wsL_law) rm (va_Pc av (vPre g wi sz)) (vPost g wi r wo sz) 0 0 (va_A wi sz)
/-- a room by frames and words of locals, no cells -/
abbrev rmOf (f w : Nat) : Room := { frames := f, cells := 0, slots := 0, locals := w }
theorem vL_entry (av : List Value) (nL : Nat) (hn : av.length ≤ nL) (hc : ∀ v ∈ av, v.category = 1) : vL ((lg_sl av ++ List.replicate (nL - (lg_sl av).length) Slot.unset).toArray) nL (av.map some ++ List.replicate (nL - av.length) none) := by
  have hsl : ∀ (l : List Value), (∀ v ∈ l, v.category = 1) → (lg_sl l).length = l.length := by
    intro l
    induction l with
    | nil => intro _; rfl
    | cons v vs ih =>
      intro h
      have h1 : v.category = 1 := h v List.mem_cons_self
      have h2 := ih (fun w hw => h w (List.mem_cons_of_mem _ hw))
      have e : lg_sl (v :: vs) = Slot.val v :: lg_sl vs := by simp [lg_sl, h1]
      rw [e, List.length_cons, h2, List.length_cons]
  have har : ∀ (l : List Value) (k : Nat), (∀ v ∈ l, v.category = 1) → ∀ (i : Nat) (v : Value), l[i]? = some v → (k + i, v) ∈ lv_args k l := by
    intro l
    induction l with
    | nil => intro k _ i v h; simp at h
    | cons w ws ih =>
      intro k h i v hi
      have h1 : w.category = 1 := h w List.mem_cons_self
      cases i with
      | zero => simp at hi; subst hi; simp [lv_args]
      | succ i =>
        have h2 := ih (k + 1) (fun z hz => h z (List.mem_cons_of_mem _ hz)) i v (by simpa using hi)
        have h3 : (if w.category = 2 then k + 2 else k + 1) = k + 1 := by rw [if_neg (by omega)]
        unfold lv_args
        rw [h3]
        refine List.mem_cons_of_mem _ ?_
        rw [show k + (i + 1) = k + 1 + i by omega]
        exact h2
  have h0 := lv_entry av (n := nL) (by rw [hsl av hc]; exact hn)
  refine ⟨h0.1, h0.2.1, fun i v hi => ?_⟩
  have hi2 : av[i]? = some v := by
    by_cases hlt : i < av.length
    · rw [List.getElem?_append_left (by simpa using hlt)] at hi
      simpa using hi
    · rw [List.getElem?_append_right (by simpa using hlt)] at hi
      rw [List.getElem?_replicate] at hi
      split at hi <;> simp at hi
  have h1 := h0.2.2 (i, v) (by have := har av 0 hc i v hi2; simpa using this)
  exact ⟨h1, hc v (List.mem_of_getElem? hi2)⟩
theorem Ct.ofV {g : vG} {y : MethodName} {cc : ByteArray} {maxL : Nat} {ret : Option FieldType} {rm : Room} {wi wo : va_W} {av : List Value} {r : Option Value} (own : String) (hown : y.cls = own) (hy : plainName y.cls = true) (hcs : rm.cells = 0) (hsl : rm.slots = 0) (hwo : wo.map (fun q => q.1) = wi.map (fun q => q.1)) (hn : av.length ≤ maxL) (hc : ∀ v ∈ av, v.category = 1)
    (body : ∀ x : vX, Ok x g cc own rm maxL → Ret x ret r wo → vM x 0 (av.map some ++ List.replicate (maxL - av.length) none) [] wi) : Ct g y cc maxL ret rm wi av r wo := by
  refine ⟨hwo, fun sz => Met.ofW (cc := cc) (maxL := maxL) (ret := ret) hy rfl ?_⟩
  intro p e s m args below meth c s₁ B hml hv
  obtain ⟨rfl, hsz, hP, hK, hD0, hnw⟩ := hv
  have hts := atoms_spec (ws := .code y cc maxL ret :: wsL_law) B.pre
  have hfc : s.vm.findClass own = some m.cls := hown ▸ findClass_of_methodNamed B.named
  subst hsz
  have hb := body (g, p, e, (headSpec (.code y cc maxL ret :: wsL_law) rm).room, s, m, av.toArray, below, meth, c, 0, 0, MQ below (vPost g wi r wo s.heap.size) av.toArray s 0 0 (va_A wi s.heap.size), va_A wi s.heap.size, maxL)
    ⟨rfl, rfl, rfl, B.exec, B.bytes, hml, hfc, fun w hw => hts w (List.mem_cons_of_mem _ hw), hK, fun q hq => Or.inr hq, B.notSynchronized, hnw, Nat.zero_le _, Nat.zero_le _⟩
    ⟨B.returns, _, _, rfl, fun q h => h, fun t H locs ht hW hP2 hS => ⟨⟨rfl, by rw [ht]; exact hP2⟩, hS.F ht⟩⟩
  rw [lg_entry_eq]
  exact hb s.heap [] _ hP hD0.self va_S.rf (vL_entry av maxL hn hc)
theorem vM.le {x : vX} {pc : Nat} {lv : List (Option Value)} {st : List Value} {ws ws' : va_W} {st' : List Value} {lv' : List (Option Value)} (h1 : lv = lv') (h2 : st = st') (h3 : ws = ws') (k : vM x pc lv' st' ws') : vM x pc lv st ws := by subst h1; subst h2; subst h3; exact k
/-- forget locals -/
theorem vL.weak {ls : Array Slot} {nL : Nat} {lv lv' : List (Option Value)} (h : vL ls nL lv) (hw : ∀ (i : Nat) (v : Value), lv'[i]? = some (some v) → lv[i]? = some (some v)) : vL ls nL lv' := ⟨h.1, h.2.1, fun i v hi => h.2.2 i v (hw i v hi)⟩
/-- which local lists say less -/
def vfg : List (Option Value) → List (Option Value) → Prop
  | _, [] => True
  | a :: l, none :: l' => vfg l l'
  | a :: l, some b :: l' => a = some b ∧ vfg l l'
  | [], _ :: _ => False
theorem vfg_get : ∀ {l l' : List (Option Value)}, vfg l l' → ∀ (i : Nat) (v : Value), l'[i]? = some (some v) → l[i]? = some (some v)
  | _, [], _, i, v, h => by simp at h
  | a :: l, none :: l', h, 0, v, hi => by simp at hi
  | a :: l, none :: l', h, i + 1, v, hi => by
    have := vfg_get (l := l) (l' := l') h i v (by simpa using hi)
    simpa using this
  | a :: l, some b :: l', h, 0, v, hi => by
    have : b = v := by simpa using hi
    rw [← this]; simpa using h.1
  | a :: l, some b :: l', h, i + 1, v, hi => by
    have := vfg_get (l := l) (l' := l') h.2 i v (by simpa using hi)
    simpa using this
  | [], none :: _, h, _, _, _ => False.elim (by simp [vfg] at h)
  | [], some _ :: _, h, _, _, _ => False.elim (by simp [vfg] at h)
theorem vM.forget {x : vX} {pc : Nat} {lv lv' : List (Option Value)} {st : List Value} {ws : va_W} (h : vfg lv lv') (k : vM x pc lv' st ws) : vM x pc lv st ws := by
  obtain ⟨g, p, e, R, s, m, args, below, meth, c, cells, slots, Q, A, nL⟩ := x
  exact fun H locs ls hP hD hS hl => k H locs ls hP hD hS (hl.weak (vfg_get h))
theorem vM.fg {x : vX} {pc : Nat} {lv lv' : List (Option Value)} {st : List Value} {ws : va_W} (k : vM x pc lv' st ws) (h : vfg lv lv') : vM x pc lv st ws := vM.forget h k
theorem vL_enum {ls : Array Slot} {nL : Nat} {lv : List (Option Value)} (h : vL ls nL lv) : ∃ l : List (Nat × Value), lv_has ls nL l ∧ (∀ q ∈ l, q.2.category = 1) ∧ ∀ (i : Nat) (v : Value), lv[i]? = some (some v) → (i, v) ∈ l := by
  refine ⟨(List.range lv.length).filterMap (fun i => (lv[i]?).bind (fun o => o.map (fun v => (i, v)))), ⟨h.1, h.2.1, fun q hq => ?_⟩, fun q hq => ?_, fun i v hi => ?_⟩
  · obtain ⟨i, -, hi⟩ := List.mem_filterMap.mp hq
    rcases ho : lv[i]? with _ | _ | v
    · rw [ho] at hi; simp at hi
    · rw [ho] at hi; simp at hi
    · rw [ho] at hi
      have : q = (i, v) := by simpa using hi.symm
      rw [this]
      exact (h.2.2 i v ho).1
  · obtain ⟨i, -, hi⟩ := List.mem_filterMap.mp hq
    rcases ho : lv[i]? with _ | _ | v
    · rw [ho] at hi; simp at hi
    · rw [ho] at hi; simp at hi
    · rw [ho] at hi
      have : q = (i, v) := by simpa using hi.symm
      rw [this]
      exact (h.2.2 i v ho).2
  · refine List.mem_filterMap.mpr ⟨i, ?_, by rw [hi]; rfl⟩
    exact List.mem_range.mpr (List.getElem?_eq_some_iff.mp hi).1
theorem vL_store {ls' : Array Slot} {nL i : Nat} {w : Value} {lv : List (Option Value)} {l : List (Nat × Value)} (hl : ∀ q ∈ l, q.2.category = 1) (he : ∀ (j : Nat) (v : Value), lv[j]? = some (some v) → (j, v) ∈ l) (hw : w.category = 1) (h : lv_has ls' nL ((i, w) :: l.filter (fun q => !(q.1 == i) && !(q.1 + 1 == i && q.2.category == 2)))) : vL ls' nL (lv.set i (some w)) := by
  refine ⟨h.1, h.2.1, fun j v hj => ?_⟩
  by_cases e : j = i
  · subst e
    have hlen : j < lv.length := by
      have := (List.getElem?_eq_some_iff.mp hj).1
      simpa using this
    rw [List.getElem?_set_self hlen] at hj
    have : w = v := by simpa using hj
    subst this
    exact ⟨h.2.2 (j, w) List.mem_cons_self, hw⟩
  · rw [List.getElem?_set_ne (fun q => e q.symm)] at hj
    have hm := he j v hj
    have hc := hl _ hm
    refine ⟨h.2.2 (j, v) (List.mem_cons_of_mem _ (List.mem_filter.mpr ⟨hm, ?_⟩)), hc⟩
    have hc2 : v.category = 1 := hc
    simp [e, hc2]
def bN (b : Bool) : Nat := if b then 1 else 0
theorem bN_t {b : Bool} (h : b = true) : bN b = 1 := by simp [bN, h]
theorem bN_f {b : Bool} (h : b = false) : bN b = 0 := by simp [bN, h]
theorem bN_le (b : Bool) : bN b ≤ 1 := by cases b <;> simp [bN]
theorem nI_int (k : Nat) (v : Int32) (h : v = Int32.ofNat k) : Value.int v = .int (nI k) := by rw [h]; rfl
theorem vcI (a : Int32) : (Value.int a).category = 1 := rfl
section VMR
variable {x : vX} {g : vG} {cc : ByteArray} {own : String} {rm : Room} {nL : Nat} {pc : Nat} {lv : List (Option Value)} {st : List Value} {ws : va_W}
theorem v_iload_n0 (h : Ok x g cc own rm nL) {lt : List (Option Value)} {v : Int32} (hd : decode cc pc = .ok (.iload_n 0, 1)) (k : vM x (pc + 1) (some (.int v) :: lt) (.int v :: st) ws) : vM x pc (some (.int v) :: lt) (st) ws := by
  obtain ⟨g0, p, e, R, s, m, args, below, meth, c, cells, slots, Q, A, nL0⟩ := x
  obtain ⟨rfl, rfl, rfl, hx, hb, hml, hown, hts, hK, hA, hlk, hnw, hcl, hsl⟩ := h
  exact fun H locs ls hP hD hS hl => lv_iload_n hx hb hd rfl (hl.2.2 0 _ rfl).1 (k _ _ _ hP hD hS hl)
theorem v_iload0 (h : Ok x g cc own rm nL) {lt : List (Option Value)} {v : Int32} (hd : decode cc pc = .ok (.iload 0, 2)) (k : vM x (pc + 2) (some (.int v) :: lt) (.int v :: st) ws) : vM x pc (some (.int v) :: lt) (st) ws := by
  obtain ⟨g0, p, e, R, s, m, args, below, meth, c, cells, slots, Q, A, nL0⟩ := x
  obtain ⟨rfl, rfl, rfl, hx, hb, hml, hown, hts, hK, hA, hlk, hnw, hcl, hsl⟩ := h
  exact fun H locs ls hP hD hS hl => lv_iload hx hb hd (hl.2.2 0 _ rfl).1 (k _ _ _ hP hD hS hl)
theorem v_istore_n0 (h : Ok x g cc own rm nL) {lt : List (Option Value)} {lo : Option Value} {v : Int32} (hn : 0 < nL) (hd : decode cc pc = .ok (.istore_n 0, 1)) (k : vM x (pc + 1) (some (.int v) :: lt) st ws) : vM x pc (lo :: lt) (.int v :: st) ws := by
  obtain ⟨g0, p, e, R, s, m, args, below, meth, c, cells, slots, Q, A, nL0⟩ := x
  obtain ⟨rfl, rfl, rfl, hx, hb, hml, hown, hts, hK, hA, hlk, hnw, hcl, hsl⟩ := h
  intro H locs ls hP hD hS hl
  obtain ⟨l, q1, q2, q3⟩ := vL_enum hl
  exact lv_istore_n hx hb hd rfl q1 hn rfl (fun ls2 hl2 => k _ _ _ hP hD hS (by have q4 := vL_store q2 q3 rfl hl2; exact q4))
theorem v_istore0 (h : Ok x g cc own rm nL) {lt : List (Option Value)} {lo : Option Value} {v : Int32} (hn : 0 < nL) (hd : decode cc pc = .ok (.istore 0, 2)) (k : vM x (pc + 2) (some (.int v) :: lt) st ws) : vM x pc (lo :: lt) (.int v :: st) ws := by
  obtain ⟨g0, p, e, R, s, m, args, below, meth, c, cells, slots, Q, A, nL0⟩ := x
  obtain ⟨rfl, rfl, rfl, hx, hb, hml, hown, hts, hK, hA, hlk, hnw, hcl, hsl⟩ := h
  intro H locs ls hP hD hS hl
  obtain ⟨l, q1, q2, q3⟩ := vL_enum hl
  exact lv_istore hx hb hd q1 hn rfl (fun ls2 hl2 => k _ _ _ hP hD hS (by have q4 := vL_store q2 q3 rfl hl2; exact q4))
theorem v_aload_n0 (h : Ok x g cc own rm nL) {lt : List (Option Value)} {v : Nat} (hd : decode cc pc = .ok (.aload_n 0, 1)) (k : vM x (pc + 1) (some (.ref v) :: lt) (.ref v :: st) ws) : vM x pc (some (.ref v) :: lt) (st) ws := by
  obtain ⟨g0, p, e, R, s, m, args, below, meth, c, cells, slots, Q, A, nL0⟩ := x
  obtain ⟨rfl, rfl, rfl, hx, hb, hml, hown, hts, hK, hA, hlk, hnw, hcl, hsl⟩ := h
  exact fun H locs ls hP hD hS hl => lv_aload_n hx hb hd rfl (hl.2.2 0 _ rfl).1 (k _ _ _ hP hD hS hl)
theorem v_aload0 (h : Ok x g cc own rm nL) {lt : List (Option Value)} {v : Nat} (hd : decode cc pc = .ok (.aload 0, 2)) (k : vM x (pc + 2) (some (.ref v) :: lt) (.ref v :: st) ws) : vM x pc (some (.ref v) :: lt) (st) ws := by
  obtain ⟨g0, p, e, R, s, m, args, below, meth, c, cells, slots, Q, A, nL0⟩ := x
  obtain ⟨rfl, rfl, rfl, hx, hb, hml, hown, hts, hK, hA, hlk, hnw, hcl, hsl⟩ := h
  exact fun H locs ls hP hD hS hl => lv_aload hx hb hd (hl.2.2 0 _ rfl).1 (k _ _ _ hP hD hS hl)
theorem v_astore_n0 (h : Ok x g cc own rm nL) {lt : List (Option Value)} {lo : Option Value} {v : Nat} (hn : 0 < nL) (hd : decode cc pc = .ok (.astore_n 0, 1)) (k : vM x (pc + 1) (some (.ref v) :: lt) st ws) : vM x pc (lo :: lt) (.ref v :: st) ws := by
  obtain ⟨g0, p, e, R, s, m, args, below, meth, c, cells, slots, Q, A, nL0⟩ := x
  obtain ⟨rfl, rfl, rfl, hx, hb, hml, hown, hts, hK, hA, hlk, hnw, hcl, hsl⟩ := h
  intro H locs ls hP hD hS hl
  obtain ⟨l, q1, q2, q3⟩ := vL_enum hl
  exact lv_astore_n hx hb hd rfl q1 hn rfl (fun ls2 hl2 => k _ _ _ hP hD hS (by have q4 := vL_store q2 q3 rfl hl2; exact q4))
theorem v_astore0 (h : Ok x g cc own rm nL) {lt : List (Option Value)} {lo : Option Value} {v : Nat} (hn : 0 < nL) (hd : decode cc pc = .ok (.astore 0, 2)) (k : vM x (pc + 2) (some (.ref v) :: lt) st ws) : vM x pc (lo :: lt) (.ref v :: st) ws := by
  obtain ⟨g0, p, e, R, s, m, args, below, meth, c, cells, slots, Q, A, nL0⟩ := x
  obtain ⟨rfl, rfl, rfl, hx, hb, hml, hown, hts, hK, hA, hlk, hnw, hcl, hsl⟩ := h
  intro H locs ls hP hD hS hl
  obtain ⟨l, q1, q2, q3⟩ := vL_enum hl
  exact lv_astore hx hb hd q1 hn rfl (fun ls2 hl2 => k _ _ _ hP hD hS (by have q4 := vL_store q2 q3 rfl hl2; exact q4))
theorem v_iinc0 (h : Ok x g cc own rm nL) {lt : List (Option Value)} {v : Int32} {d : Int} (hn : 0 < nL) (hd : decode cc pc = .ok (.iinc 0 d, 3)) (k : vM x (pc + 3) (some (.int (v + Int32.ofInt d)) :: lt) st ws) : vM x pc (some (.int v) :: lt) st ws := by
  obtain ⟨g0, p, e, R, s, m, args, below, meth, c, cells, slots, Q, A, nL0⟩ := x
  obtain ⟨rfl, rfl, rfl, hx, hb, hml, hown, hts, hK, hA, hlk, hnw, hcl, hsl⟩ := h
  intro H locs ls hP hD hS hl
  obtain ⟨l, q1, q2, q3⟩ := vL_enum hl
  obtain ⟨kk, hkk⟩ := List.getElem?_of_mem (q3 0 _ rfl)
  exact lv_iinc hx hb hd q1 hkk rfl hn rfl (fun ls2 hl2 => k _ _ _ hP hD hS (by have q4 := vL_store q2 q3 rfl hl2; exact q4))
theorem v_iincN0 (h : Ok x g cc own rm nL) {lt : List (Option Value)} {v : Nat} (hn : 0 < nL) (hd : decode cc pc = .ok (.iinc 0 1, 3)) (k : vM x (pc + 3) (some (.int (nI (v + 1))) :: lt) st ws) : vM x pc (some (.int (nI v)) :: lt) st ws := by
  refine v_iinc0 h hn hd ?_
  rw [show nI v + Int32.ofInt 1 = nI (v + 1) from nI_1 v]
  exact k
theorem v_idecN0 (h : Ok x g cc own rm nL) {lt : List (Option Value)} {v : Nat} (hn : 0 < nL) (hd : decode cc pc = .ok (.iinc 0 (-1), 3)) (k : vM x (pc + 3) (some (.int (nI v)) :: lt) st ws) : vM x pc (some (.int (nI (v + 1))) :: lt) st ws := by
  refine v_iinc0 h hn hd ?_
  rw [show nI (v + 1) + Int32.ofInt (-1) = nI v from pk_m1 v]
  exact k
theorem v_iload_n1 (h : Ok x g cc own rm nL) {l0 : Option Value} {lt : List (Option Value)} {v : Int32} (hd : decode cc pc = .ok (.iload_n 1, 1)) (k : vM x (pc + 1) (l0 :: some (.int v) :: lt) (.int v :: st) ws) : vM x pc (l0 :: some (.int v) :: lt) (st) ws := by
  obtain ⟨g0, p, e, R, s, m, args, below, meth, c, cells, slots, Q, A, nL0⟩ := x
  obtain ⟨rfl, rfl, rfl, hx, hb, hml, hown, hts, hK, hA, hlk, hnw, hcl, hsl⟩ := h
  exact fun H locs ls hP hD hS hl => lv_iload_n hx hb hd rfl (hl.2.2 1 _ rfl).1 (k _ _ _ hP hD hS hl)
theorem v_iload1 (h : Ok x g cc own rm nL) {l0 : Option Value} {lt : List (Option Value)} {v : Int32} (hd : decode cc pc = .ok (.iload 1, 2)) (k : vM x (pc + 2) (l0 :: some (.int v) :: lt) (.int v :: st) ws) : vM x pc (l0 :: some (.int v) :: lt) (st) ws := by
  obtain ⟨g0, p, e, R, s, m, args, below, meth, c, cells, slots, Q, A, nL0⟩ := x
  obtain ⟨rfl, rfl, rfl, hx, hb, hml, hown, hts, hK, hA, hlk, hnw, hcl, hsl⟩ := h
  exact fun H locs ls hP hD hS hl => lv_iload hx hb hd (hl.2.2 1 _ rfl).1 (k _ _ _ hP hD hS hl)
theorem v_istore_n1 (h : Ok x g cc own rm nL) {l0 : Option Value} {lt : List (Option Value)} {lo : Option Value} {v : Int32} (hn : 1 < nL) (hd : decode cc pc = .ok (.istore_n 1, 1)) (k : vM x (pc + 1) (l0 :: some (.int v) :: lt) st ws) : vM x pc (l0 :: lo :: lt) (.int v :: st) ws := by
  obtain ⟨g0, p, e, R, s, m, args, below, meth, c, cells, slots, Q, A, nL0⟩ := x
  obtain ⟨rfl, rfl, rfl, hx, hb, hml, hown, hts, hK, hA, hlk, hnw, hcl, hsl⟩ := h
  intro H locs ls hP hD hS hl
  obtain ⟨l, q1, q2, q3⟩ := vL_enum hl
  exact lv_istore_n hx hb hd rfl q1 hn rfl (fun ls2 hl2 => k _ _ _ hP hD hS (by have q4 := vL_store q2 q3 rfl hl2; exact q4))
theorem v_istore1 (h : Ok x g cc own rm nL) {l0 : Option Value} {lt : List (Option Value)} {lo : Option Value} {v : Int32} (hn : 1 < nL) (hd : decode cc pc = .ok (.istore 1, 2)) (k : vM x (pc + 2) (l0 :: some (.int v) :: lt) st ws) : vM x pc (l0 :: lo :: lt) (.int v :: st) ws := by
  obtain ⟨g0, p, e, R, s, m, args, below, meth, c, cells, slots, Q, A, nL0⟩ := x
  obtain ⟨rfl, rfl, rfl, hx, hb, hml, hown, hts, hK, hA, hlk, hnw, hcl, hsl⟩ := h
  intro H locs ls hP hD hS hl
  obtain ⟨l, q1, q2, q3⟩ := vL_enum hl
  exact lv_istore hx hb hd q1 hn rfl (fun ls2 hl2 => k _ _ _ hP hD hS (by have q4 := vL_store q2 q3 rfl hl2; exact q4))
theorem v_aload_n1 (h : Ok x g cc own rm nL) {l0 : Option Value} {lt : List (Option Value)} {v : Nat} (hd : decode cc pc = .ok (.aload_n 1, 1)) (k : vM x (pc + 1) (l0 :: some (.ref v) :: lt) (.ref v :: st) ws) : vM x pc (l0 :: some (.ref v) :: lt) (st) ws := by
  obtain ⟨g0, p, e, R, s, m, args, below, meth, c, cells, slots, Q, A, nL0⟩ := x
  obtain ⟨rfl, rfl, rfl, hx, hb, hml, hown, hts, hK, hA, hlk, hnw, hcl, hsl⟩ := h
  exact fun H locs ls hP hD hS hl => lv_aload_n hx hb hd rfl (hl.2.2 1 _ rfl).1 (k _ _ _ hP hD hS hl)
theorem v_aload1 (h : Ok x g cc own rm nL) {l0 : Option Value} {lt : List (Option Value)} {v : Nat} (hd : decode cc pc = .ok (.aload 1, 2)) (k : vM x (pc + 2) (l0 :: some (.ref v) :: lt) (.ref v :: st) ws) : vM x pc (l0 :: some (.ref v) :: lt) (st) ws := by
  obtain ⟨g0, p, e, R, s, m, args, below, meth, c, cells, slots, Q, A, nL0⟩ := x
  obtain ⟨rfl, rfl, rfl, hx, hb, hml, hown, hts, hK, hA, hlk, hnw, hcl, hsl⟩ := h
  exact fun H locs ls hP hD hS hl => lv_aload hx hb hd (hl.2.2 1 _ rfl).1 (k _ _ _ hP hD hS hl)
theorem v_astore_n1 (h : Ok x g cc own rm nL) {l0 : Option Value} {lt : List (Option Value)} {lo : Option Value} {v : Nat} (hn : 1 < nL) (hd : decode cc pc = .ok (.astore_n 1, 1)) (k : vM x (pc + 1) (l0 :: some (.ref v) :: lt) st ws) : vM x pc (l0 :: lo :: lt) (.ref v :: st) ws := by
  obtain ⟨g0, p, e, R, s, m, args, below, meth, c, cells, slots, Q, A, nL0⟩ := x
  obtain ⟨rfl, rfl, rfl, hx, hb, hml, hown, hts, hK, hA, hlk, hnw, hcl, hsl⟩ := h
  intro H locs ls hP hD hS hl
  obtain ⟨l, q1, q2, q3⟩ := vL_enum hl
  exact lv_astore_n hx hb hd rfl q1 hn rfl (fun ls2 hl2 => k _ _ _ hP hD hS (by have q4 := vL_store q2 q3 rfl hl2; exact q4))
theorem v_astore1 (h : Ok x g cc own rm nL) {l0 : Option Value} {lt : List (Option Value)} {lo : Option Value} {v : Nat} (hn : 1 < nL) (hd : decode cc pc = .ok (.astore 1, 2)) (k : vM x (pc + 2) (l0 :: some (.ref v) :: lt) st ws) : vM x pc (l0 :: lo :: lt) (.ref v :: st) ws := by
  obtain ⟨g0, p, e, R, s, m, args, below, meth, c, cells, slots, Q, A, nL0⟩ := x
  obtain ⟨rfl, rfl, rfl, hx, hb, hml, hown, hts, hK, hA, hlk, hnw, hcl, hsl⟩ := h
  intro H locs ls hP hD hS hl
  obtain ⟨l, q1, q2, q3⟩ := vL_enum hl
  exact lv_astore hx hb hd q1 hn rfl (fun ls2 hl2 => k _ _ _ hP hD hS (by have q4 := vL_store q2 q3 rfl hl2; exact q4))
theorem v_iinc1 (h : Ok x g cc own rm nL) {l0 : Option Value} {lt : List (Option Value)} {v : Int32} {d : Int} (hn : 1 < nL) (hd : decode cc pc = .ok (.iinc 1 d, 3)) (k : vM x (pc + 3) (l0 :: some (.int (v + Int32.ofInt d)) :: lt) st ws) : vM x pc (l0 :: some (.int v) :: lt) st ws := by
  obtain ⟨g0, p, e, R, s, m, args, below, meth, c, cells, slots, Q, A, nL0⟩ := x
  obtain ⟨rfl, rfl, rfl, hx, hb, hml, hown, hts, hK, hA, hlk, hnw, hcl, hsl⟩ := h
  intro H locs ls hP hD hS hl
  obtain ⟨l, q1, q2, q3⟩ := vL_enum hl
  obtain ⟨kk, hkk⟩ := List.getElem?_of_mem (q3 1 _ rfl)
  exact lv_iinc hx hb hd q1 hkk rfl hn rfl (fun ls2 hl2 => k _ _ _ hP hD hS (by have q4 := vL_store q2 q3 rfl hl2; exact q4))
theorem v_iincN1 (h : Ok x g cc own rm nL) {l0 : Option Value} {lt : List (Option Value)} {v : Nat} (hn : 1 < nL) (hd : decode cc pc = .ok (.iinc 1 1, 3)) (k : vM x (pc + 3) (l0 :: some (.int (nI (v + 1))) :: lt) st ws) : vM x pc (l0 :: some (.int (nI v)) :: lt) st ws := by
  refine v_iinc1 h hn hd ?_
  rw [show nI v + Int32.ofInt 1 = nI (v + 1) from nI_1 v]
  exact k
theorem v_idecN1 (h : Ok x g cc own rm nL) {l0 : Option Value} {lt : List (Option Value)} {v : Nat} (hn : 1 < nL) (hd : decode cc pc = .ok (.iinc 1 (-1), 3)) (k : vM x (pc + 3) (l0 :: some (.int (nI v)) :: lt) st ws) : vM x pc (l0 :: some (.int (nI (v + 1))) :: lt) st ws := by
  refine v_iinc1 h hn hd ?_
  rw [show nI (v + 1) + Int32.ofInt (-1) = nI v from pk_m1 v]
  exact k
theorem v_iload_n2 (h : Ok x g cc own rm nL) {l0 l1 : Option Value} {lt : List (Option Value)} {v : Int32} (hd : decode cc pc = .ok (.iload_n 2, 1)) (k : vM x (pc + 1) (l0 :: l1 :: some (.int v) :: lt) (.int v :: st) ws) : vM x pc (l0 :: l1 :: some (.int v) :: lt) (st) ws := by
  obtain ⟨g0, p, e, R, s, m, args, below, meth, c, cells, slots, Q, A, nL0⟩ := x
  obtain ⟨rfl, rfl, rfl, hx, hb, hml, hown, hts, hK, hA, hlk, hnw, hcl, hsl⟩ := h
  exact fun H locs ls hP hD hS hl => lv_iload_n hx hb hd rfl (hl.2.2 2 _ rfl).1 (k _ _ _ hP hD hS hl)
theorem v_iload2 (h : Ok x g cc own rm nL) {l0 l1 : Option Value} {lt : List (Option Value)} {v : Int32} (hd : decode cc pc = .ok (.iload 2, 2)) (k : vM x (pc + 2) (l0 :: l1 :: some (.int v) :: lt) (.int v :: st) ws) : vM x pc (l0 :: l1 :: some (.int v) :: lt) (st) ws := by
  obtain ⟨g0, p, e, R, s, m, args, below, meth, c, cells, slots, Q, A, nL0⟩ := x
  obtain ⟨rfl, rfl, rfl, hx, hb, hml, hown, hts, hK, hA, hlk, hnw, hcl, hsl⟩ := h
  exact fun H locs ls hP hD hS hl => lv_iload hx hb hd (hl.2.2 2 _ rfl).1 (k _ _ _ hP hD hS hl)
theorem v_istore_n2 (h : Ok x g cc own rm nL) {l0 l1 : Option Value} {lt : List (Option Value)} {lo : Option Value} {v : Int32} (hn : 2 < nL) (hd : decode cc pc = .ok (.istore_n 2, 1)) (k : vM x (pc + 1) (l0 :: l1 :: some (.int v) :: lt) st ws) : vM x pc (l0 :: l1 :: lo :: lt) (.int v :: st) ws := by
  obtain ⟨g0, p, e, R, s, m, args, below, meth, c, cells, slots, Q, A, nL0⟩ := x
  obtain ⟨rfl, rfl, rfl, hx, hb, hml, hown, hts, hK, hA, hlk, hnw, hcl, hsl⟩ := h
  intro H locs ls hP hD hS hl
  obtain ⟨l, q1, q2, q3⟩ := vL_enum hl
  exact lv_istore_n hx hb hd rfl q1 hn rfl (fun ls2 hl2 => k _ _ _ hP hD hS (by have q4 := vL_store q2 q3 rfl hl2; exact q4))
theorem v_istore2 (h : Ok x g cc own rm nL) {l0 l1 : Option Value} {lt : List (Option Value)} {lo : Option Value} {v : Int32} (hn : 2 < nL) (hd : decode cc pc = .ok (.istore 2, 2)) (k : vM x (pc + 2) (l0 :: l1 :: some (.int v) :: lt) st ws) : vM x pc (l0 :: l1 :: lo :: lt) (.int v :: st) ws := by
  obtain ⟨g0, p, e, R, s, m, args, below, meth, c, cells, slots, Q, A, nL0⟩ := x
  obtain ⟨rfl, rfl, rfl, hx, hb, hml, hown, hts, hK, hA, hlk, hnw, hcl, hsl⟩ := h
  intro H locs ls hP hD hS hl
  obtain ⟨l, q1, q2, q3⟩ := vL_enum hl
  exact lv_istore hx hb hd q1 hn rfl (fun ls2 hl2 => k _ _ _ hP hD hS (by have q4 := vL_store q2 q3 rfl hl2; exact q4))
theorem v_aload_n2 (h : Ok x g cc own rm nL) {l0 l1 : Option Value} {lt : List (Option Value)} {v : Nat} (hd : decode cc pc = .ok (.aload_n 2, 1)) (k : vM x (pc + 1) (l0 :: l1 :: some (.ref v) :: lt) (.ref v :: st) ws) : vM x pc (l0 :: l1 :: some (.ref v) :: lt) (st) ws := by
  obtain ⟨g0, p, e, R, s, m, args, below, meth, c, cells, slots, Q, A, nL0⟩ := x
  obtain ⟨rfl, rfl, rfl, hx, hb, hml, hown, hts, hK, hA, hlk, hnw, hcl, hsl⟩ := h
  exact fun H locs ls hP hD hS hl => lv_aload_n hx hb hd rfl (hl.2.2 2 _ rfl).1 (k _ _ _ hP hD hS hl)
theorem v_aload2 (h : Ok x g cc own rm nL) {l0 l1 : Option Value} {lt : List (Option Value)} {v : Nat} (hd : decode cc pc = .ok (.aload 2, 2)) (k : vM x (pc + 2) (l0 :: l1 :: some (.ref v) :: lt) (.ref v :: st) ws) : vM x pc (l0 :: l1 :: some (.ref v) :: lt) (st) ws := by
  obtain ⟨g0, p, e, R, s, m, args, below, meth, c, cells, slots, Q, A, nL0⟩ := x
  obtain ⟨rfl, rfl, rfl, hx, hb, hml, hown, hts, hK, hA, hlk, hnw, hcl, hsl⟩ := h
  exact fun H locs ls hP hD hS hl => lv_aload hx hb hd (hl.2.2 2 _ rfl).1 (k _ _ _ hP hD hS hl)
theorem v_astore_n2 (h : Ok x g cc own rm nL) {l0 l1 : Option Value} {lt : List (Option Value)} {lo : Option Value} {v : Nat} (hn : 2 < nL) (hd : decode cc pc = .ok (.astore_n 2, 1)) (k : vM x (pc + 1) (l0 :: l1 :: some (.ref v) :: lt) st ws) : vM x pc (l0 :: l1 :: lo :: lt) (.ref v :: st) ws := by
  obtain ⟨g0, p, e, R, s, m, args, below, meth, c, cells, slots, Q, A, nL0⟩ := x
  obtain ⟨rfl, rfl, rfl, hx, hb, hml, hown, hts, hK, hA, hlk, hnw, hcl, hsl⟩ := h
  intro H locs ls hP hD hS hl
  obtain ⟨l, q1, q2, q3⟩ := vL_enum hl
  exact lv_astore_n hx hb hd rfl q1 hn rfl (fun ls2 hl2 => k _ _ _ hP hD hS (by have q4 := vL_store q2 q3 rfl hl2; exact q4))
theorem v_astore2 (h : Ok x g cc own rm nL) {l0 l1 : Option Value} {lt : List (Option Value)} {lo : Option Value} {v : Nat} (hn : 2 < nL) (hd : decode cc pc = .ok (.astore 2, 2)) (k : vM x (pc + 2) (l0 :: l1 :: some (.ref v) :: lt) st ws) : vM x pc (l0 :: l1 :: lo :: lt) (.ref v :: st) ws := by
  obtain ⟨g0, p, e, R, s, m, args, below, meth, c, cells, slots, Q, A, nL0⟩ := x
  obtain ⟨rfl, rfl, rfl, hx, hb, hml, hown, hts, hK, hA, hlk, hnw, hcl, hsl⟩ := h
  intro H locs ls hP hD hS hl
  obtain ⟨l, q1, q2, q3⟩ := vL_enum hl
  exact lv_astore hx hb hd q1 hn rfl (fun ls2 hl2 => k _ _ _ hP hD hS (by have q4 := vL_store q2 q3 rfl hl2; exact q4))
theorem v_iinc2 (h : Ok x g cc own rm nL) {l0 l1 : Option Value} {lt : List (Option Value)} {v : Int32} {d : Int} (hn : 2 < nL) (hd : decode cc pc = .ok (.iinc 2 d, 3)) (k : vM x (pc + 3) (l0 :: l1 :: some (.int (v + Int32.ofInt d)) :: lt) st ws) : vM x pc (l0 :: l1 :: some (.int v) :: lt) st ws := by
  obtain ⟨g0, p, e, R, s, m, args, below, meth, c, cells, slots, Q, A, nL0⟩ := x
  obtain ⟨rfl, rfl, rfl, hx, hb, hml, hown, hts, hK, hA, hlk, hnw, hcl, hsl⟩ := h
  intro H locs ls hP hD hS hl
  obtain ⟨l, q1, q2, q3⟩ := vL_enum hl
  obtain ⟨kk, hkk⟩ := List.getElem?_of_mem (q3 2 _ rfl)
  exact lv_iinc hx hb hd q1 hkk rfl hn rfl (fun ls2 hl2 => k _ _ _ hP hD hS (by have q4 := vL_store q2 q3 rfl hl2; exact q4))
theorem v_iincN2 (h : Ok x g cc own rm nL) {l0 l1 : Option Value} {lt : List (Option Value)} {v : Nat} (hn : 2 < nL) (hd : decode cc pc = .ok (.iinc 2 1, 3)) (k : vM x (pc + 3) (l0 :: l1 :: some (.int (nI (v + 1))) :: lt) st ws) : vM x pc (l0 :: l1 :: some (.int (nI v)) :: lt) st ws := by
  refine v_iinc2 h hn hd ?_
  rw [show nI v + Int32.ofInt 1 = nI (v + 1) from nI_1 v]
  exact k
theorem v_idecN2 (h : Ok x g cc own rm nL) {l0 l1 : Option Value} {lt : List (Option Value)} {v : Nat} (hn : 2 < nL) (hd : decode cc pc = .ok (.iinc 2 (-1), 3)) (k : vM x (pc + 3) (l0 :: l1 :: some (.int (nI v)) :: lt) st ws) : vM x pc (l0 :: l1 :: some (.int (nI (v + 1))) :: lt) st ws := by
  refine v_iinc2 h hn hd ?_
  rw [show nI (v + 1) + Int32.ofInt (-1) = nI v from pk_m1 v]
  exact k
theorem v_iload_n3 (h : Ok x g cc own rm nL) {l0 l1 l2 : Option Value} {lt : List (Option Value)} {v : Int32} (hd : decode cc pc = .ok (.iload_n 3, 1)) (k : vM x (pc + 1) (l0 :: l1 :: l2 :: some (.int v) :: lt) (.int v :: st) ws) : vM x pc (l0 :: l1 :: l2 :: some (.int v) :: lt) (st) ws := by
  obtain ⟨g0, p, e, R, s, m, args, below, meth, c, cells, slots, Q, A, nL0⟩ := x
  obtain ⟨rfl, rfl, rfl, hx, hb, hml, hown, hts, hK, hA, hlk, hnw, hcl, hsl⟩ := h
  exact fun H locs ls hP hD hS hl => lv_iload_n hx hb hd rfl (hl.2.2 3 _ rfl).1 (k _ _ _ hP hD hS hl)
theorem v_iload3 (h : Ok x g cc own rm nL) {l0 l1 l2 : Option Value} {lt : List (Option Value)} {v : Int32} (hd : decode cc pc = .ok (.iload 3, 2)) (k : vM x (pc + 2) (l0 :: l1 :: l2 :: some (.int v) :: lt) (.int v :: st) ws) : vM x pc (l0 :: l1 :: l2 :: some (.int v) :: lt) (st) ws := by
  obtain ⟨g0, p, e, R, s, m, args, below, meth, c, cells, slots, Q, A, nL0⟩ := x
  obtain ⟨rfl, rfl, rfl, hx, hb, hml, hown, hts, hK, hA, hlk, hnw, hcl, hsl⟩ := h
  exact fun H locs ls hP hD hS hl => lv_iload hx hb hd (hl.2.2 3 _ rfl).1 (k _ _ _ hP hD hS hl)
theorem v_istore_n3 (h : Ok x g cc own rm nL) {l0 l1 l2 : Option Value} {lt : List (Option Value)} {lo : Option Value} {v : Int32} (hn : 3 < nL) (hd : decode cc pc = .ok (.istore_n 3, 1)) (k : vM x (pc + 1) (l0 :: l1 :: l2 :: some (.int v) :: lt) st ws) : vM x pc (l0 :: l1 :: l2 :: lo :: lt) (.int v :: st) ws := by
  obtain ⟨g0, p, e, R, s, m, args, below, meth, c, cells, slots, Q, A, nL0⟩ := x
  obtain ⟨rfl, rfl, rfl, hx, hb, hml, hown, hts, hK, hA, hlk, hnw, hcl, hsl⟩ := h
  intro H locs ls hP hD hS hl
  obtain ⟨l, q1, q2, q3⟩ := vL_enum hl
  exact lv_istore_n hx hb hd rfl q1 hn rfl (fun ls2 hl2 => k _ _ _ hP hD hS (by have q4 := vL_store q2 q3 rfl hl2; exact q4))
theorem v_istore3 (h : Ok x g cc own rm nL) {l0 l1 l2 : Option Value} {lt : List (Option Value)} {lo : Option Value} {v : Int32} (hn : 3 < nL) (hd : decode cc pc = .ok (.istore 3, 2)) (k : vM x (pc + 2) (l0 :: l1 :: l2 :: some (.int v) :: lt) st ws) : vM x pc (l0 :: l1 :: l2 :: lo :: lt) (.int v :: st) ws := by
  obtain ⟨g0, p, e, R, s, m, args, below, meth, c, cells, slots, Q, A, nL0⟩ := x
  obtain ⟨rfl, rfl, rfl, hx, hb, hml, hown, hts, hK, hA, hlk, hnw, hcl, hsl⟩ := h
  intro H locs ls hP hD hS hl
  obtain ⟨l, q1, q2, q3⟩ := vL_enum hl
  exact lv_istore hx hb hd q1 hn rfl (fun ls2 hl2 => k _ _ _ hP hD hS (by have q4 := vL_store q2 q3 rfl hl2; exact q4))
theorem v_aload_n3 (h : Ok x g cc own rm nL) {l0 l1 l2 : Option Value} {lt : List (Option Value)} {v : Nat} (hd : decode cc pc = .ok (.aload_n 3, 1)) (k : vM x (pc + 1) (l0 :: l1 :: l2 :: some (.ref v) :: lt) (.ref v :: st) ws) : vM x pc (l0 :: l1 :: l2 :: some (.ref v) :: lt) (st) ws := by
  obtain ⟨g0, p, e, R, s, m, args, below, meth, c, cells, slots, Q, A, nL0⟩ := x
  obtain ⟨rfl, rfl, rfl, hx, hb, hml, hown, hts, hK, hA, hlk, hnw, hcl, hsl⟩ := h
  exact fun H locs ls hP hD hS hl => lv_aload_n hx hb hd rfl (hl.2.2 3 _ rfl).1 (k _ _ _ hP hD hS hl)
theorem v_aload3 (h : Ok x g cc own rm nL) {l0 l1 l2 : Option Value} {lt : List (Option Value)} {v : Nat} (hd : decode cc pc = .ok (.aload 3, 2)) (k : vM x (pc + 2) (l0 :: l1 :: l2 :: some (.ref v) :: lt) (.ref v :: st) ws) : vM x pc (l0 :: l1 :: l2 :: some (.ref v) :: lt) (st) ws := by
  obtain ⟨g0, p, e, R, s, m, args, below, meth, c, cells, slots, Q, A, nL0⟩ := x
  obtain ⟨rfl, rfl, rfl, hx, hb, hml, hown, hts, hK, hA, hlk, hnw, hcl, hsl⟩ := h
  exact fun H locs ls hP hD hS hl => lv_aload hx hb hd (hl.2.2 3 _ rfl).1 (k _ _ _ hP hD hS hl)
theorem v_astore_n3 (h : Ok x g cc own rm nL) {l0 l1 l2 : Option Value} {lt : List (Option Value)} {lo : Option Value} {v : Nat} (hn : 3 < nL) (hd : decode cc pc = .ok (.astore_n 3, 1)) (k : vM x (pc + 1) (l0 :: l1 :: l2 :: some (.ref v) :: lt) st ws) : vM x pc (l0 :: l1 :: l2 :: lo :: lt) (.ref v :: st) ws := by
  obtain ⟨g0, p, e, R, s, m, args, below, meth, c, cells, slots, Q, A, nL0⟩ := x
  obtain ⟨rfl, rfl, rfl, hx, hb, hml, hown, hts, hK, hA, hlk, hnw, hcl, hsl⟩ := h
  intro H locs ls hP hD hS hl
  obtain ⟨l, q1, q2, q3⟩ := vL_enum hl
  exact lv_astore_n hx hb hd rfl q1 hn rfl (fun ls2 hl2 => k _ _ _ hP hD hS (by have q4 := vL_store q2 q3 rfl hl2; exact q4))
theorem v_astore3 (h : Ok x g cc own rm nL) {l0 l1 l2 : Option Value} {lt : List (Option Value)} {lo : Option Value} {v : Nat} (hn : 3 < nL) (hd : decode cc pc = .ok (.astore 3, 2)) (k : vM x (pc + 2) (l0 :: l1 :: l2 :: some (.ref v) :: lt) st ws) : vM x pc (l0 :: l1 :: l2 :: lo :: lt) (.ref v :: st) ws := by
  obtain ⟨g0, p, e, R, s, m, args, below, meth, c, cells, slots, Q, A, nL0⟩ := x
  obtain ⟨rfl, rfl, rfl, hx, hb, hml, hown, hts, hK, hA, hlk, hnw, hcl, hsl⟩ := h
  intro H locs ls hP hD hS hl
  obtain ⟨l, q1, q2, q3⟩ := vL_enum hl
  exact lv_astore hx hb hd q1 hn rfl (fun ls2 hl2 => k _ _ _ hP hD hS (by have q4 := vL_store q2 q3 rfl hl2; exact q4))
theorem v_iinc3 (h : Ok x g cc own rm nL) {l0 l1 l2 : Option Value} {lt : List (Option Value)} {v : Int32} {d : Int} (hn : 3 < nL) (hd : decode cc pc = .ok (.iinc 3 d, 3)) (k : vM x (pc + 3) (l0 :: l1 :: l2 :: some (.int (v + Int32.ofInt d)) :: lt) st ws) : vM x pc (l0 :: l1 :: l2 :: some (.int v) :: lt) st ws := by
  obtain ⟨g0, p, e, R, s, m, args, below, meth, c, cells, slots, Q, A, nL0⟩ := x
  obtain ⟨rfl, rfl, rfl, hx, hb, hml, hown, hts, hK, hA, hlk, hnw, hcl, hsl⟩ := h
  intro H locs ls hP hD hS hl
  obtain ⟨l, q1, q2, q3⟩ := vL_enum hl
  obtain ⟨kk, hkk⟩ := List.getElem?_of_mem (q3 3 _ rfl)
  exact lv_iinc hx hb hd q1 hkk rfl hn rfl (fun ls2 hl2 => k _ _ _ hP hD hS (by have q4 := vL_store q2 q3 rfl hl2; exact q4))
theorem v_iincN3 (h : Ok x g cc own rm nL) {l0 l1 l2 : Option Value} {lt : List (Option Value)} {v : Nat} (hn : 3 < nL) (hd : decode cc pc = .ok (.iinc 3 1, 3)) (k : vM x (pc + 3) (l0 :: l1 :: l2 :: some (.int (nI (v + 1))) :: lt) st ws) : vM x pc (l0 :: l1 :: l2 :: some (.int (nI v)) :: lt) st ws := by
  refine v_iinc3 h hn hd ?_
  rw [show nI v + Int32.ofInt 1 = nI (v + 1) from nI_1 v]
  exact k
theorem v_idecN3 (h : Ok x g cc own rm nL) {l0 l1 l2 : Option Value} {lt : List (Option Value)} {v : Nat} (hn : 3 < nL) (hd : decode cc pc = .ok (.iinc 3 (-1), 3)) (k : vM x (pc + 3) (l0 :: l1 :: l2 :: some (.int (nI v)) :: lt) st ws) : vM x pc (l0 :: l1 :: l2 :: some (.int (nI (v + 1))) :: lt) st ws := by
  refine v_iinc3 h hn hd ?_
  rw [show nI (v + 1) + Int32.ofInt (-1) = nI v from pk_m1 v]
  exact k
theorem v_iload4 (h : Ok x g cc own rm nL) {l0 l1 l2 l3 : Option Value} {lt : List (Option Value)} {v : Int32} (hd : decode cc pc = .ok (.iload 4, 2)) (k : vM x (pc + 2) (l0 :: l1 :: l2 :: l3 :: some (.int v) :: lt) (.int v :: st) ws) : vM x pc (l0 :: l1 :: l2 :: l3 :: some (.int v) :: lt) (st) ws := by
  obtain ⟨g0, p, e, R, s, m, args, below, meth, c, cells, slots, Q, A, nL0⟩ := x
  obtain ⟨rfl, rfl, rfl, hx, hb, hml, hown, hts, hK, hA, hlk, hnw, hcl, hsl⟩ := h
  exact fun H locs ls hP hD hS hl => lv_iload hx hb hd (hl.2.2 4 _ rfl).1 (k _ _ _ hP hD hS hl)
theorem v_istore4 (h : Ok x g cc own rm nL) {l0 l1 l2 l3 : Option Value} {lt : List (Option Value)} {lo : Option Value} {v : Int32} (hn : 4 < nL) (hd : decode cc pc = .ok (.istore 4, 2)) (k : vM x (pc + 2) (l0 :: l1 :: l2 :: l3 :: some (.int v) :: lt) st ws) : vM x pc (l0 :: l1 :: l2 :: l3 :: lo :: lt) (.int v :: st) ws := by
  obtain ⟨g0, p, e, R, s, m, args, below, meth, c, cells, slots, Q, A, nL0⟩ := x
  obtain ⟨rfl, rfl, rfl, hx, hb, hml, hown, hts, hK, hA, hlk, hnw, hcl, hsl⟩ := h
  intro H locs ls hP hD hS hl
  obtain ⟨l, q1, q2, q3⟩ := vL_enum hl
  exact lv_istore hx hb hd q1 hn rfl (fun ls2 hl2 => k _ _ _ hP hD hS (by have q4 := vL_store q2 q3 rfl hl2; exact q4))
theorem v_aload4 (h : Ok x g cc own rm nL) {l0 l1 l2 l3 : Option Value} {lt : List (Option Value)} {v : Nat} (hd : decode cc pc = .ok (.aload 4, 2)) (k : vM x (pc + 2) (l0 :: l1 :: l2 :: l3 :: some (.ref v) :: lt) (.ref v :: st) ws) : vM x pc (l0 :: l1 :: l2 :: l3 :: some (.ref v) :: lt) (st) ws := by
  obtain ⟨g0, p, e, R, s, m, args, below, meth, c, cells, slots, Q, A, nL0⟩ := x
  obtain ⟨rfl, rfl, rfl, hx, hb, hml, hown, hts, hK, hA, hlk, hnw, hcl, hsl⟩ := h
  exact fun H locs ls hP hD hS hl => lv_aload hx hb hd (hl.2.2 4 _ rfl).1 (k _ _ _ hP hD hS hl)
theorem v_astore4 (h : Ok x g cc own rm nL) {l0 l1 l2 l3 : Option Value} {lt : List (Option Value)} {lo : Option Value} {v : Nat} (hn : 4 < nL) (hd : decode cc pc = .ok (.astore 4, 2)) (k : vM x (pc + 2) (l0 :: l1 :: l2 :: l3 :: some (.ref v) :: lt) st ws) : vM x pc (l0 :: l1 :: l2 :: l3 :: lo :: lt) (.ref v :: st) ws := by
  obtain ⟨g0, p, e, R, s, m, args, below, meth, c, cells, slots, Q, A, nL0⟩ := x
  obtain ⟨rfl, rfl, rfl, hx, hb, hml, hown, hts, hK, hA, hlk, hnw, hcl, hsl⟩ := h
  intro H locs ls hP hD hS hl
  obtain ⟨l, q1, q2, q3⟩ := vL_enum hl
  exact lv_astore hx hb hd q1 hn rfl (fun ls2 hl2 => k _ _ _ hP hD hS (by have q4 := vL_store q2 q3 rfl hl2; exact q4))
theorem v_iinc4 (h : Ok x g cc own rm nL) {l0 l1 l2 l3 : Option Value} {lt : List (Option Value)} {v : Int32} {d : Int} (hn : 4 < nL) (hd : decode cc pc = .ok (.iinc 4 d, 3)) (k : vM x (pc + 3) (l0 :: l1 :: l2 :: l3 :: some (.int (v + Int32.ofInt d)) :: lt) st ws) : vM x pc (l0 :: l1 :: l2 :: l3 :: some (.int v) :: lt) st ws := by
  obtain ⟨g0, p, e, R, s, m, args, below, meth, c, cells, slots, Q, A, nL0⟩ := x
  obtain ⟨rfl, rfl, rfl, hx, hb, hml, hown, hts, hK, hA, hlk, hnw, hcl, hsl⟩ := h
  intro H locs ls hP hD hS hl
  obtain ⟨l, q1, q2, q3⟩ := vL_enum hl
  obtain ⟨kk, hkk⟩ := List.getElem?_of_mem (q3 4 _ rfl)
  exact lv_iinc hx hb hd q1 hkk rfl hn rfl (fun ls2 hl2 => k _ _ _ hP hD hS (by have q4 := vL_store q2 q3 rfl hl2; exact q4))
theorem v_iincN4 (h : Ok x g cc own rm nL) {l0 l1 l2 l3 : Option Value} {lt : List (Option Value)} {v : Nat} (hn : 4 < nL) (hd : decode cc pc = .ok (.iinc 4 1, 3)) (k : vM x (pc + 3) (l0 :: l1 :: l2 :: l3 :: some (.int (nI (v + 1))) :: lt) st ws) : vM x pc (l0 :: l1 :: l2 :: l3 :: some (.int (nI v)) :: lt) st ws := by
  refine v_iinc4 h hn hd ?_
  rw [show nI v + Int32.ofInt 1 = nI (v + 1) from nI_1 v]
  exact k
theorem v_idecN4 (h : Ok x g cc own rm nL) {l0 l1 l2 l3 : Option Value} {lt : List (Option Value)} {v : Nat} (hn : 4 < nL) (hd : decode cc pc = .ok (.iinc 4 (-1), 3)) (k : vM x (pc + 3) (l0 :: l1 :: l2 :: l3 :: some (.int (nI v)) :: lt) st ws) : vM x pc (l0 :: l1 :: l2 :: l3 :: some (.int (nI (v + 1))) :: lt) st ws := by
  refine v_iinc4 h hn hd ?_
  rw [show nI (v + 1) + Int32.ofInt (-1) = nI v from pk_m1 v]
  exact k
theorem v_iload5 (h : Ok x g cc own rm nL) {l0 l1 l2 l3 l4 : Option Value} {lt : List (Option Value)} {v : Int32} (hd : decode cc pc = .ok (.iload 5, 2)) (k : vM x (pc + 2) (l0 :: l1 :: l2 :: l3 :: l4 :: some (.int v) :: lt) (.int v :: st) ws) : vM x pc (l0 :: l1 :: l2 :: l3 :: l4 :: some (.int v) :: lt) (st) ws := by
  obtain ⟨g0, p, e, R, s, m, args, below, meth, c, cells, slots, Q, A, nL0⟩ := x
  obtain ⟨rfl, rfl, rfl, hx, hb, hml, hown, hts, hK, hA, hlk, hnw, hcl, hsl⟩ := h
  exact fun H locs ls hP hD hS hl => lv_iload hx hb hd (hl.2.2 5 _ rfl).1 (k _ _ _ hP hD hS hl)
theorem v_istore5 (h : Ok x g cc own rm nL) {l0 l1 l2 l3 l4 : Option Value} {lt : List (Option Value)} {lo : Option Value} {v : Int32} (hn : 5 < nL) (hd : decode cc pc = .ok (.istore 5, 2)) (k : vM x (pc + 2) (l0 :: l1 :: l2 :: l3 :: l4 :: some (.int v) :: lt) st ws) : vM x pc (l0 :: l1 :: l2 :: l3 :: l4 :: lo :: lt) (.int v :: st) ws := by
  obtain ⟨g0, p, e, R, s, m, args, below, meth, c, cells, slots, Q, A, nL0⟩ := x
  obtain ⟨rfl, rfl, rfl, hx, hb, hml, hown, hts, hK, hA, hlk, hnw, hcl, hsl⟩ := h
  intro H locs ls hP hD hS hl
  obtain ⟨l, q1, q2, q3⟩ := vL_enum hl
  exact lv_istore hx hb hd q1 hn rfl (fun ls2 hl2 => k _ _ _ hP hD hS (by have q4 := vL_store q2 q3 rfl hl2; exact q4))
theorem v_aload5 (h : Ok x g cc own rm nL) {l0 l1 l2 l3 l4 : Option Value} {lt : List (Option Value)} {v : Nat} (hd : decode cc pc = .ok (.aload 5, 2)) (k : vM x (pc + 2) (l0 :: l1 :: l2 :: l3 :: l4 :: some (.ref v) :: lt) (.ref v :: st) ws) : vM x pc (l0 :: l1 :: l2 :: l3 :: l4 :: some (.ref v) :: lt) (st) ws := by
  obtain ⟨g0, p, e, R, s, m, args, below, meth, c, cells, slots, Q, A, nL0⟩ := x
  obtain ⟨rfl, rfl, rfl, hx, hb, hml, hown, hts, hK, hA, hlk, hnw, hcl, hsl⟩ := h
  exact fun H locs ls hP hD hS hl => lv_aload hx hb hd (hl.2.2 5 _ rfl).1 (k _ _ _ hP hD hS hl)
theorem v_astore5 (h : Ok x g cc own rm nL) {l0 l1 l2 l3 l4 : Option Value} {lt : List (Option Value)} {lo : Option Value} {v : Nat} (hn : 5 < nL) (hd : decode cc pc = .ok (.astore 5, 2)) (k : vM x (pc + 2) (l0 :: l1 :: l2 :: l3 :: l4 :: some (.ref v) :: lt) st ws) : vM x pc (l0 :: l1 :: l2 :: l3 :: l4 :: lo :: lt) (.ref v :: st) ws := by
  obtain ⟨g0, p, e, R, s, m, args, below, meth, c, cells, slots, Q, A, nL0⟩ := x
  obtain ⟨rfl, rfl, rfl, hx, hb, hml, hown, hts, hK, hA, hlk, hnw, hcl, hsl⟩ := h
  intro H locs ls hP hD hS hl
  obtain ⟨l, q1, q2, q3⟩ := vL_enum hl
  exact lv_astore hx hb hd q1 hn rfl (fun ls2 hl2 => k _ _ _ hP hD hS (by have q4 := vL_store q2 q3 rfl hl2; exact q4))
theorem v_iinc5 (h : Ok x g cc own rm nL) {l0 l1 l2 l3 l4 : Option Value} {lt : List (Option Value)} {v : Int32} {d : Int} (hn : 5 < nL) (hd : decode cc pc = .ok (.iinc 5 d, 3)) (k : vM x (pc + 3) (l0 :: l1 :: l2 :: l3 :: l4 :: some (.int (v + Int32.ofInt d)) :: lt) st ws) : vM x pc (l0 :: l1 :: l2 :: l3 :: l4 :: some (.int v) :: lt) st ws := by
  obtain ⟨g0, p, e, R, s, m, args, below, meth, c, cells, slots, Q, A, nL0⟩ := x
  obtain ⟨rfl, rfl, rfl, hx, hb, hml, hown, hts, hK, hA, hlk, hnw, hcl, hsl⟩ := h
  intro H locs ls hP hD hS hl
  obtain ⟨l, q1, q2, q3⟩ := vL_enum hl
  obtain ⟨kk, hkk⟩ := List.getElem?_of_mem (q3 5 _ rfl)
  exact lv_iinc hx hb hd q1 hkk rfl hn rfl (fun ls2 hl2 => k _ _ _ hP hD hS (by have q4 := vL_store q2 q3 rfl hl2; exact q4))
theorem v_iincN5 (h : Ok x g cc own rm nL) {l0 l1 l2 l3 l4 : Option Value} {lt : List (Option Value)} {v : Nat} (hn : 5 < nL) (hd : decode cc pc = .ok (.iinc 5 1, 3)) (k : vM x (pc + 3) (l0 :: l1 :: l2 :: l3 :: l4 :: some (.int (nI (v + 1))) :: lt) st ws) : vM x pc (l0 :: l1 :: l2 :: l3 :: l4 :: some (.int (nI v)) :: lt) st ws := by
  refine v_iinc5 h hn hd ?_
  rw [show nI v + Int32.ofInt 1 = nI (v + 1) from nI_1 v]
  exact k
theorem v_idecN5 (h : Ok x g cc own rm nL) {l0 l1 l2 l3 l4 : Option Value} {lt : List (Option Value)} {v : Nat} (hn : 5 < nL) (hd : decode cc pc = .ok (.iinc 5 (-1), 3)) (k : vM x (pc + 3) (l0 :: l1 :: l2 :: l3 :: l4 :: some (.int (nI v)) :: lt) st ws) : vM x pc (l0 :: l1 :: l2 :: l3 :: l4 :: some (.int (nI (v + 1))) :: lt) st ws := by
  refine v_iinc5 h hn hd ?_
  rw [show nI (v + 1) + Int32.ofInt (-1) = nI v from pk_m1 v]
  exact k
theorem v_iload6 (h : Ok x g cc own rm nL) {l0 l1 l2 l3 l4 l5 : Option Value} {lt : List (Option Value)} {v : Int32} (hd : decode cc pc = .ok (.iload 6, 2)) (k : vM x (pc + 2) (l0 :: l1 :: l2 :: l3 :: l4 :: l5 :: some (.int v) :: lt) (.int v :: st) ws) : vM x pc (l0 :: l1 :: l2 :: l3 :: l4 :: l5 :: some (.int v) :: lt) (st) ws := by
  obtain ⟨g0, p, e, R, s, m, args, below, meth, c, cells, slots, Q, A, nL0⟩ := x
  obtain ⟨rfl, rfl, rfl, hx, hb, hml, hown, hts, hK, hA, hlk, hnw, hcl, hsl⟩ := h
  exact fun H locs ls hP hD hS hl => lv_iload hx hb hd (hl.2.2 6 _ rfl).1 (k _ _ _ hP hD hS hl)
theorem v_istore6 (h : Ok x g cc own rm nL) {l0 l1 l2 l3 l4 l5 : Option Value} {lt : List (Option Value)} {lo : Option Value} {v : Int32} (hn : 6 < nL) (hd : decode cc pc = .ok (.istore 6, 2)) (k : vM x (pc + 2) (l0 :: l1 :: l2 :: l3 :: l4 :: l5 :: some (.int v) :: lt) st ws) : vM x pc (l0 :: l1 :: l2 :: l3 :: l4 :: l5 :: lo :: lt) (.int v :: st) ws := by
  obtain ⟨g0, p, e, R, s, m, args, below, meth, c, cells, slots, Q, A, nL0⟩ := x
  obtain ⟨rfl, rfl, rfl, hx, hb, hml, hown, hts, hK, hA, hlk, hnw, hcl, hsl⟩ := h
  intro H locs ls hP hD hS hl
  obtain ⟨l, q1, q2, q3⟩ := vL_enum hl
  exact lv_istore hx hb hd q1 hn rfl (fun ls2 hl2 => k _ _ _ hP hD hS (by have q4 := vL_store q2 q3 rfl hl2; exact q4))
theorem v_aload6 (h : Ok x g cc own rm nL) {l0 l1 l2 l3 l4 l5 : Option Value} {lt : List (Option Value)} {v : Nat} (hd : decode cc pc = .ok (.aload 6, 2)) (k : vM x (pc + 2) (l0 :: l1 :: l2 :: l3 :: l4 :: l5 :: some (.ref v) :: lt) (.ref v :: st) ws) : vM x pc (l0 :: l1 :: l2 :: l3 :: l4 :: l5 :: some (.ref v) :: lt) (st) ws := by
  obtain ⟨g0, p, e, R, s, m, args, below, meth, c, cells, slots, Q, A, nL0⟩ := x
  obtain ⟨rfl, rfl, rfl, hx, hb, hml, hown, hts, hK, hA, hlk, hnw, hcl, hsl⟩ := h
  exact fun H locs ls hP hD hS hl => lv_aload hx hb hd (hl.2.2 6 _ rfl).1 (k _ _ _ hP hD hS hl)
theorem v_astore6 (h : Ok x g cc own rm nL) {l0 l1 l2 l3 l4 l5 : Option Value} {lt : List (Option Value)} {lo : Option Value} {v : Nat} (hn : 6 < nL) (hd : decode cc pc = .ok (.astore 6, 2)) (k : vM x (pc + 2) (l0 :: l1 :: l2 :: l3 :: l4 :: l5 :: some (.ref v) :: lt) st ws) : vM x pc (l0 :: l1 :: l2 :: l3 :: l4 :: l5 :: lo :: lt) (.ref v :: st) ws := by
  obtain ⟨g0, p, e, R, s, m, args, below, meth, c, cells, slots, Q, A, nL0⟩ := x
  obtain ⟨rfl, rfl, rfl, hx, hb, hml, hown, hts, hK, hA, hlk, hnw, hcl, hsl⟩ := h
  intro H locs ls hP hD hS hl
  obtain ⟨l, q1, q2, q3⟩ := vL_enum hl
  exact lv_astore hx hb hd q1 hn rfl (fun ls2 hl2 => k _ _ _ hP hD hS (by have q4 := vL_store q2 q3 rfl hl2; exact q4))
theorem v_iinc6 (h : Ok x g cc own rm nL) {l0 l1 l2 l3 l4 l5 : Option Value} {lt : List (Option Value)} {v : Int32} {d : Int} (hn : 6 < nL) (hd : decode cc pc = .ok (.iinc 6 d, 3)) (k : vM x (pc + 3) (l0 :: l1 :: l2 :: l3 :: l4 :: l5 :: some (.int (v + Int32.ofInt d)) :: lt) st ws) : vM x pc (l0 :: l1 :: l2 :: l3 :: l4 :: l5 :: some (.int v) :: lt) st ws := by
  obtain ⟨g0, p, e, R, s, m, args, below, meth, c, cells, slots, Q, A, nL0⟩ := x
  obtain ⟨rfl, rfl, rfl, hx, hb, hml, hown, hts, hK, hA, hlk, hnw, hcl, hsl⟩ := h
  intro H locs ls hP hD hS hl
  obtain ⟨l, q1, q2, q3⟩ := vL_enum hl
  obtain ⟨kk, hkk⟩ := List.getElem?_of_mem (q3 6 _ rfl)
  exact lv_iinc hx hb hd q1 hkk rfl hn rfl (fun ls2 hl2 => k _ _ _ hP hD hS (by have q4 := vL_store q2 q3 rfl hl2; exact q4))
theorem v_iincN6 (h : Ok x g cc own rm nL) {l0 l1 l2 l3 l4 l5 : Option Value} {lt : List (Option Value)} {v : Nat} (hn : 6 < nL) (hd : decode cc pc = .ok (.iinc 6 1, 3)) (k : vM x (pc + 3) (l0 :: l1 :: l2 :: l3 :: l4 :: l5 :: some (.int (nI (v + 1))) :: lt) st ws) : vM x pc (l0 :: l1 :: l2 :: l3 :: l4 :: l5 :: some (.int (nI v)) :: lt) st ws := by
  refine v_iinc6 h hn hd ?_
  rw [show nI v + Int32.ofInt 1 = nI (v + 1) from nI_1 v]
  exact k
theorem v_idecN6 (h : Ok x g cc own rm nL) {l0 l1 l2 l3 l4 l5 : Option Value} {lt : List (Option Value)} {v : Nat} (hn : 6 < nL) (hd : decode cc pc = .ok (.iinc 6 (-1), 3)) (k : vM x (pc + 3) (l0 :: l1 :: l2 :: l3 :: l4 :: l5 :: some (.int (nI v)) :: lt) st ws) : vM x pc (l0 :: l1 :: l2 :: l3 :: l4 :: l5 :: some (.int (nI (v + 1))) :: lt) st ws := by
  refine v_iinc6 h hn hd ?_
  rw [show nI (v + 1) + Int32.ofInt (-1) = nI v from pk_m1 v]
  exact k
theorem v_iload7 (h : Ok x g cc own rm nL) {l0 l1 l2 l3 l4 l5 l6 : Option Value} {lt : List (Option Value)} {v : Int32} (hd : decode cc pc = .ok (.iload 7, 2)) (k : vM x (pc + 2) (l0 :: l1 :: l2 :: l3 :: l4 :: l5 :: l6 :: some (.int v) :: lt) (.int v :: st) ws) : vM x pc (l0 :: l1 :: l2 :: l3 :: l4 :: l5 :: l6 :: some (.int v) :: lt) (st) ws := by
  obtain ⟨g0, p, e, R, s, m, args, below, meth, c, cells, slots, Q, A, nL0⟩ := x
  obtain ⟨rfl, rfl, rfl, hx, hb, hml, hown, hts, hK, hA, hlk, hnw, hcl, hsl⟩ := h
  exact fun H locs ls hP hD hS hl => lv_iload hx hb hd (hl.2.2 7 _ rfl).1 (k _ _ _ hP hD hS hl)
theorem v_istore7 (h : Ok x g cc own rm nL) {l0 l1 l2 l3 l4 l5 l6 : Option Value} {lt : List (Option Value)} {lo : Option Value} {v : Int32} (hn : 7 < nL) (hd : decode cc pc = .ok (.istore 7, 2)) (k : vM x (pc + 2) (l0 :: l1 :: l2 :: l3 :: l4 :: l5 :: l6 :: some (.int v) :: lt) st ws) : vM x pc (l0 :: l1 :: l2 :: l3 :: l4 :: l5 :: l6 :: lo :: lt) (.int v :: st) ws := by
  obtain ⟨g0, p, e, R, s, m, args, below, meth, c, cells, slots, Q, A, nL0⟩ := x
  obtain ⟨rfl, rfl, rfl, hx, hb, hml, hown, hts, hK, hA, hlk, hnw, hcl, hsl⟩ := h
  intro H locs ls hP hD hS hl
  obtain ⟨l, q1, q2, q3⟩ := vL_enum hl
  exact lv_istore hx hb hd q1 hn rfl (fun ls2 hl2 => k _ _ _ hP hD hS (by have q4 := vL_store q2 q3 rfl hl2; exact q4))
theorem v_aload7 (h : Ok x g cc own rm nL) {l0 l1 l2 l3 l4 l5 l6 : Option Value} {lt : List (Option Value)} {v : Nat} (hd : decode cc pc = .ok (.aload 7, 2)) (k : vM x (pc + 2) (l0 :: l1 :: l2 :: l3 :: l4 :: l5 :: l6 :: some (.ref v) :: lt) (.ref v :: st) ws) : vM x pc (l0 :: l1 :: l2 :: l3 :: l4 :: l5 :: l6 :: some (.ref v) :: lt) (st) ws := by
  obtain ⟨g0, p, e, R, s, m, args, below, meth, c, cells, slots, Q, A, nL0⟩ := x
  obtain ⟨rfl, rfl, rfl, hx, hb, hml, hown, hts, hK, hA, hlk, hnw, hcl, hsl⟩ := h
  exact fun H locs ls hP hD hS hl => lv_aload hx hb hd (hl.2.2 7 _ rfl).1 (k _ _ _ hP hD hS hl)
theorem v_astore7 (h : Ok x g cc own rm nL) {l0 l1 l2 l3 l4 l5 l6 : Option Value} {lt : List (Option Value)} {lo : Option Value} {v : Nat} (hn : 7 < nL) (hd : decode cc pc = .ok (.astore 7, 2)) (k : vM x (pc + 2) (l0 :: l1 :: l2 :: l3 :: l4 :: l5 :: l6 :: some (.ref v) :: lt) st ws) : vM x pc (l0 :: l1 :: l2 :: l3 :: l4 :: l5 :: l6 :: lo :: lt) (.ref v :: st) ws := by
  obtain ⟨g0, p, e, R, s, m, args, below, meth, c, cells, slots, Q, A, nL0⟩ := x
  obtain ⟨rfl, rfl, rfl, hx, hb, hml, hown, hts, hK, hA, hlk, hnw, hcl, hsl⟩ := h
  intro H locs ls hP hD hS hl
  obtain ⟨l, q1, q2, q3⟩ := vL_enum hl
  exact lv_astore hx hb hd q1 hn rfl (fun ls2 hl2 => k _ _ _ hP hD hS (by have q4 := vL_store q2 q3 rfl hl2; exact q4))
theorem v_iinc7 (h : Ok x g cc own rm nL) {l0 l1 l2 l3 l4 l5 l6 : Option Value} {lt : List (Option Value)} {v : Int32} {d : Int} (hn : 7 < nL) (hd : decode cc pc = .ok (.iinc 7 d, 3)) (k : vM x (pc + 3) (l0 :: l1 :: l2 :: l3 :: l4 :: l5 :: l6 :: some (.int (v + Int32.ofInt d)) :: lt) st ws) : vM x pc (l0 :: l1 :: l2 :: l3 :: l4 :: l5 :: l6 :: some (.int v) :: lt) st ws := by
  obtain ⟨g0, p, e, R, s, m, args, below, meth, c, cells, slots, Q, A, nL0⟩ := x
  obtain ⟨rfl, rfl, rfl, hx, hb, hml, hown, hts, hK, hA, hlk, hnw, hcl, hsl⟩ := h
  intro H locs ls hP hD hS hl
  obtain ⟨l, q1, q2, q3⟩ := vL_enum hl
  obtain ⟨kk, hkk⟩ := List.getElem?_of_mem (q3 7 _ rfl)
  exact lv_iinc hx hb hd q1 hkk rfl hn rfl (fun ls2 hl2 => k _ _ _ hP hD hS (by have q4 := vL_store q2 q3 rfl hl2; exact q4))
theorem v_iincN7 (h : Ok x g cc own rm nL) {l0 l1 l2 l3 l4 l5 l6 : Option Value} {lt : List (Option Value)} {v : Nat} (hn : 7 < nL) (hd : decode cc pc = .ok (.iinc 7 1, 3)) (k : vM x (pc + 3) (l0 :: l1 :: l2 :: l3 :: l4 :: l5 :: l6 :: some (.int (nI (v + 1))) :: lt) st ws) : vM x pc (l0 :: l1 :: l2 :: l3 :: l4 :: l5 :: l6 :: some (.int (nI v)) :: lt) st ws := by
  refine v_iinc7 h hn hd ?_
  rw [show nI v + Int32.ofInt 1 = nI (v + 1) from nI_1 v]
  exact k
theorem v_idecN7 (h : Ok x g cc own rm nL) {l0 l1 l2 l3 l4 l5 l6 : Option Value} {lt : List (Option Value)} {v : Nat} (hn : 7 < nL) (hd : decode cc pc = .ok (.iinc 7 (-1), 3)) (k : vM x (pc + 3) (l0 :: l1 :: l2 :: l3 :: l4 :: l5 :: l6 :: some (.int (nI v)) :: lt) st ws) : vM x pc (l0 :: l1 :: l2 :: l3 :: l4 :: l5 :: l6 :: some (.int (nI (v + 1))) :: lt) st ws := by
  refine v_iinc7 h hn hd ?_
  rw [show nI (v + 1) + Int32.ofInt (-1) = nI v from pk_m1 v]
  exact k
theorem v_iload8 (h : Ok x g cc own rm nL) {l0 l1 l2 l3 l4 l5 l6 l7 : Option Value} {lt : List (Option Value)} {v : Int32} (hd : decode cc pc = .ok (.iload 8, 2)) (k : vM x (pc + 2) (l0 :: l1 :: l2 :: l3 :: l4 :: l5 :: l6 :: l7 :: some (.int v) :: lt) (.int v :: st) ws) : vM x pc (l0 :: l1 :: l2 :: l3 :: l4 :: l5 :: l6 :: l7 :: some (.int v) :: lt) (st) ws := by
  obtain ⟨g0, p, e, R, s, m, args, below, meth, c, cells, slots, Q, A, nL0⟩ := x
  obtain ⟨rfl, rfl, rfl, hx, hb, hml, hown, hts, hK, hA, hlk, hnw, hcl, hsl⟩ := h
  exact fun H locs ls hP hD hS hl => lv_iload hx hb hd (hl.2.2 8 _ rfl).1 (k _ _ _ hP hD hS hl)
theorem v_istore8 (h : Ok x g cc own rm nL) {l0 l1 l2 l3 l4 l5 l6 l7 : Option Value} {lt : List (Option Value)} {lo : Option Value} {v : Int32} (hn : 8 < nL) (hd : decode cc pc = .ok (.istore 8, 2)) (k : vM x (pc + 2) (l0 :: l1 :: l2 :: l3 :: l4 :: l5 :: l6 :: l7 :: some (.int v) :: lt) st ws) : vM x pc (l0 :: l1 :: l2 :: l3 :: l4 :: l5 :: l6 :: l7 :: lo :: lt) (.int v :: st) ws := by
  obtain ⟨g0, p, e, R, s, m, args, below, meth, c, cells, slots, Q, A, nL0⟩ := x
  obtain ⟨rfl, rfl, rfl, hx, hb, hml, hown, hts, hK, hA, hlk, hnw, hcl, hsl⟩ := h
  intro H locs ls hP hD hS hl
  obtain ⟨l, q1, q2, q3⟩ := vL_enum hl
  exact lv_istore hx hb hd q1 hn rfl (fun ls2 hl2 => k _ _ _ hP hD hS (by have q4 := vL_store q2 q3 rfl hl2; exact q4))
theorem v_aload8 (h : Ok x g cc own rm nL) {l0 l1 l2 l3 l4 l5 l6 l7 : Option Value} {lt : List (Option Value)} {v : Nat} (hd : decode cc pc = .ok (.aload 8, 2)) (k : vM x (pc + 2) (l0 :: l1 :: l2 :: l3 :: l4 :: l5 :: l6 :: l7 :: some (.ref v) :: lt) (.ref v :: st) ws) : vM x pc (l0 :: l1 :: l2 :: l3 :: l4 :: l5 :: l6 :: l7 :: some (.ref v) :: lt) (st) ws := by
  obtain ⟨g0, p, e, R, s, m, args, below, meth, c, cells, slots, Q, A, nL0⟩ := x
  obtain ⟨rfl, rfl, rfl, hx, hb, hml, hown, hts, hK, hA, hlk, hnw, hcl, hsl⟩ := h
  exact fun H locs ls hP hD hS hl => lv_aload hx hb hd (hl.2.2 8 _ rfl).1 (k _ _ _ hP hD hS hl)
theorem v_astore8 (h : Ok x g cc own rm nL) {l0 l1 l2 l3 l4 l5 l6 l7 : Option Value} {lt : List (Option Value)} {lo : Option Value} {v : Nat} (hn : 8 < nL) (hd : decode cc pc = .ok (.astore 8, 2)) (k : vM x (pc + 2) (l0 :: l1 :: l2 :: l3 :: l4 :: l5 :: l6 :: l7 :: some (.ref v) :: lt) st ws) : vM x pc (l0 :: l1 :: l2 :: l3 :: l4 :: l5 :: l6 :: l7 :: lo :: lt) (.ref v :: st) ws := by
  obtain ⟨g0, p, e, R, s, m, args, below, meth, c, cells, slots, Q, A, nL0⟩ := x
  obtain ⟨rfl, rfl, rfl, hx, hb, hml, hown, hts, hK, hA, hlk, hnw, hcl, hsl⟩ := h
  intro H locs ls hP hD hS hl
  obtain ⟨l, q1, q2, q3⟩ := vL_enum hl
  exact lv_astore hx hb hd q1 hn rfl (fun ls2 hl2 => k _ _ _ hP hD hS (by have q4 := vL_store q2 q3 rfl hl2; exact q4))
theorem v_iinc8 (h : Ok x g cc own rm nL) {l0 l1 l2 l3 l4 l5 l6 l7 : Option Value} {lt : List (Option Value)} {v : Int32} {d : Int} (hn : 8 < nL) (hd : decode cc pc = .ok (.iinc 8 d, 3)) (k : vM x (pc + 3) (l0 :: l1 :: l2 :: l3 :: l4 :: l5 :: l6 :: l7 :: some (.int (v + Int32.ofInt d)) :: lt) st ws) : vM x pc (l0 :: l1 :: l2 :: l3 :: l4 :: l5 :: l6 :: l7 :: some (.int v) :: lt) st ws := by
  obtain ⟨g0, p, e, R, s, m, args, below, meth, c, cells, slots, Q, A, nL0⟩ := x
  obtain ⟨rfl, rfl, rfl, hx, hb, hml, hown, hts, hK, hA, hlk, hnw, hcl, hsl⟩ := h
  intro H locs ls hP hD hS hl
  obtain ⟨l, q1, q2, q3⟩ := vL_enum hl
  obtain ⟨kk, hkk⟩ := List.getElem?_of_mem (q3 8 _ rfl)
  exact lv_iinc hx hb hd q1 hkk rfl hn rfl (fun ls2 hl2 => k _ _ _ hP hD hS (by have q4 := vL_store q2 q3 rfl hl2; exact q4))
theorem v_iincN8 (h : Ok x g cc own rm nL) {l0 l1 l2 l3 l4 l5 l6 l7 : Option Value} {lt : List (Option Value)} {v : Nat} (hn : 8 < nL) (hd : decode cc pc = .ok (.iinc 8 1, 3)) (k : vM x (pc + 3) (l0 :: l1 :: l2 :: l3 :: l4 :: l5 :: l6 :: l7 :: some (.int (nI (v + 1))) :: lt) st ws) : vM x pc (l0 :: l1 :: l2 :: l3 :: l4 :: l5 :: l6 :: l7 :: some (.int (nI v)) :: lt) st ws := by
  refine v_iinc8 h hn hd ?_
  rw [show nI v + Int32.ofInt 1 = nI (v + 1) from nI_1 v]
  exact k
theorem v_idecN8 (h : Ok x g cc own rm nL) {l0 l1 l2 l3 l4 l5 l6 l7 : Option Value} {lt : List (Option Value)} {v : Nat} (hn : 8 < nL) (hd : decode cc pc = .ok (.iinc 8 (-1), 3)) (k : vM x (pc + 3) (l0 :: l1 :: l2 :: l3 :: l4 :: l5 :: l6 :: l7 :: some (.int (nI v)) :: lt) st ws) : vM x pc (l0 :: l1 :: l2 :: l3 :: l4 :: l5 :: l6 :: l7 :: some (.int (nI (v + 1))) :: lt) st ws := by
  refine v_iinc8 h hn hd ?_
  rw [show nI (v + 1) + Int32.ofInt (-1) = nI v from pk_m1 v]
  exact k
theorem v_iconst (h : Ok x g cc own rm nL) {n : Int} {v : Int32} (hd : decode cc pc = .ok (.iconst n, 1)) (hv : Int32.ofInt n = v) (k : vM x (pc + 1) (lv) (.int v :: st) ws) : vM x pc (lv) (st) ws := by
  obtain ⟨g0, p, e, R, s, m, args, below, meth, c, cells, slots, Q, A, nL0⟩ := x
  obtain ⟨rfl, rfl, rfl, hx, hb, hml, hown, hts, hK, hA, hlk, hnw, hcl, hsl⟩ := h
  exact fun H locs ls hP hD hS hl => lv_iconst hx hb hd hv (k _ _ _ hP hD hS hl)
theorem v_bipush (h : Ok x g cc own rm nL) {n : Int} {v : Int32} (hd : decode cc pc = .ok (.bipush n, 2)) (hv : (Int8.ofInt n).toInt32 = v) (k : vM x (pc + 2) (lv) (.int v :: st) ws) : vM x pc (lv) (st) ws := by
  obtain ⟨g0, p, e, R, s, m, args, below, meth, c, cells, slots, Q, A, nL0⟩ := x
  obtain ⟨rfl, rfl, rfl, hx, hb, hml, hown, hts, hK, hA, hlk, hnw, hcl, hsl⟩ := h
  exact fun H locs ls hP hD hS hl => lv_bipush hx hb hd hv (k _ _ _ hP hD hS hl)
theorem v_sipush (h : Ok x g cc own rm nL) {n : Int} {v : Int32} (hd : decode cc pc = .ok (.sipush n, 3)) (hv : (Int16.ofInt n).toInt32 = v) (k : vM x (pc + 3) (lv) (.int v :: st) ws) : vM x pc (lv) (st) ws := by
  obtain ⟨g0, p, e, R, s, m, args, below, meth, c, cells, slots, Q, A, nL0⟩ := x
  obtain ⟨rfl, rfl, rfl, hx, hb, hml, hown, hts, hK, hA, hlk, hnw, hcl, hsl⟩ := h
  exact fun H locs ls hP hD hS hl => lv_sipush hx hb hd hv (k _ _ _ hP hD hS hl)
theorem v_ldcw (h : Ok x g cc own rm nL) {idx : Nat} {v : Int32} (hc : Cond.constant own idx v ∈ wsL_law) (hd : decode cc pc = .ok (.ldc_w idx, 3)) (k : vM x (pc + 3) (lv) (.int v :: st) ws) : vM x pc (lv) (st) ws := by
  obtain ⟨g0, p, e, R, s, m, args, below, meth, c, cells, slots, Q, A, nL0⟩ := x
  obtain ⟨rfl, rfl, rfl, hx, hb, hml, hown, hts, hK, hA, hlk, hnw, hcl, hsl⟩ := h
  exact fun H locs ls hP hD hS hl => lv_ldcw hx hb hown (hts _ hc) hd (k _ _ _ hP hD hS hl)
theorem v_ldc2 (h : Ok x g cc own rm nL) {idx : Nat} {v : Int64} (hc : Cond.constantLong own idx v ∈ wsL_law) (hd : decode cc pc = .ok (.ldc2_w idx, 3)) (k : vM x (pc + 3) (lv) (.long v :: st) ws) : vM x pc (lv) (st) ws := by
  obtain ⟨g0, p, e, R, s, m, args, below, meth, c, cells, slots, Q, A, nL0⟩ := x
  obtain ⟨rfl, rfl, rfl, hx, hb, hml, hown, hts, hK, hA, hlk, hnw, hcl, hsl⟩ := h
  exact fun H locs ls hP hD hS hl => lv_ldc2 hx hb hown (hts _ hc) hd (k _ _ _ hP hD hS hl)
theorem v_iadd (h : Ok x g cc own rm nL) {a b : Int32} (hd : decode cc pc = .ok (.iadd, 1)) (k : vM x (pc + 1) (lv) (.int (a + b) :: st) ws) : vM x pc (lv) (.int b :: .int a :: st) ws := by
  obtain ⟨g0, p, e, R, s, m, args, below, meth, c, cells, slots, Q, A, nL0⟩ := x
  obtain ⟨rfl, rfl, rfl, hx, hb, hml, hown, hts, hK, hA, hlk, hnw, hcl, hsl⟩ := h
  exact fun H locs ls hP hD hS hl => lv_iadd hx hb hd (k _ _ _ hP hD hS hl)
theorem v_isub (h : Ok x g cc own rm nL) {a b : Int32} (hd : decode cc pc = .ok (.isub, 1)) (k : vM x (pc + 1) (lv) (.int (a - b) :: st) ws) : vM x pc (lv) (.int b :: .int a :: st) ws := by
  obtain ⟨g0, p, e, R, s, m, args, below, meth, c, cells, slots, Q, A, nL0⟩ := x
  obtain ⟨rfl, rfl, rfl, hx, hb, hml, hown, hts, hK, hA, hlk, hnw, hcl, hsl⟩ := h
  exact fun H locs ls hP hD hS hl => lv_isub hx hb hd (k _ _ _ hP hD hS hl)
theorem v_imul (h : Ok x g cc own rm nL) {a b : Int32} (hd : decode cc pc = .ok (.imul, 1)) (k : vM x (pc + 1) (lv) (.int (a * b) :: st) ws) : vM x pc (lv) (.int b :: .int a :: st) ws := by
  obtain ⟨g0, p, e, R, s, m, args, below, meth, c, cells, slots, Q, A, nL0⟩ := x
  obtain ⟨rfl, rfl, rfl, hx, hb, hml, hown, hts, hK, hA, hlk, hnw, hcl, hsl⟩ := h
  exact fun H locs ls hP hD hS hl => lv_imul hx hb hd (k _ _ _ hP hD hS hl)
theorem v_iand (h : Ok x g cc own rm nL) {a b : Int32} (hd : decode cc pc = .ok (.iand, 1)) (k : vM x (pc + 1) (lv) (.int (a &&& b) :: st) ws) : vM x pc (lv) (.int b :: .int a :: st) ws := by
  obtain ⟨g0, p, e, R, s, m, args, below, meth, c, cells, slots, Q, A, nL0⟩ := x
  obtain ⟨rfl, rfl, rfl, hx, hb, hml, hown, hts, hK, hA, hlk, hnw, hcl, hsl⟩ := h
  exact fun H locs ls hP hD hS hl => lv_iand hx hb hd (k _ _ _ hP hD hS hl)
theorem v_ior (h : Ok x g cc own rm nL) {a b : Int32} (hd : decode cc pc = .ok (.ior, 1)) (k : vM x (pc + 1) (lv) (.int (a ||| b) :: st) ws) : vM x pc (lv) (.int b :: .int a :: st) ws := by
  obtain ⟨g0, p, e, R, s, m, args, below, meth, c, cells, slots, Q, A, nL0⟩ := x
  obtain ⟨rfl, rfl, rfl, hx, hb, hml, hown, hts, hK, hA, hlk, hnw, hcl, hsl⟩ := h
  exact fun H locs ls hP hD hS hl => lv_ior hx hb hd (k _ _ _ hP hD hS hl)
theorem v_ixor (h : Ok x g cc own rm nL) {a b : Int32} (hd : decode cc pc = .ok (.ixor, 1)) (k : vM x (pc + 1) (lv) (.int (a ^^^ b) :: st) ws) : vM x pc (lv) (.int b :: .int a :: st) ws := by
  obtain ⟨g0, p, e, R, s, m, args, below, meth, c, cells, slots, Q, A, nL0⟩ := x
  obtain ⟨rfl, rfl, rfl, hx, hb, hml, hown, hts, hK, hA, hlk, hnw, hcl, hsl⟩ := h
  exact fun H locs ls hP hD hS hl => lv_ixor hx hb hd (k _ _ _ hP hD hS hl)
theorem v_ishl (h : Ok x g cc own rm nL) {a b : Int32} (hd : decode cc pc = .ok (.ishl, 1)) (k : vM x (pc + 1) (lv) (.int (a <<< (b &&& 31)) :: st) ws) : vM x pc (lv) (.int b :: .int a :: st) ws := by
  obtain ⟨g0, p, e, R, s, m, args, below, meth, c, cells, slots, Q, A, nL0⟩ := x
  obtain ⟨rfl, rfl, rfl, hx, hb, hml, hown, hts, hK, hA, hlk, hnw, hcl, hsl⟩ := h
  exact fun H locs ls hP hD hS hl => lv_ishl hx hb hd (k _ _ _ hP hD hS hl)
theorem v_ishr (h : Ok x g cc own rm nL) {a b : Int32} (hd : decode cc pc = .ok (.ishr, 1)) (k : vM x (pc + 1) (lv) (.int (a >>> (b &&& 31)) :: st) ws) : vM x pc (lv) (.int b :: .int a :: st) ws := by
  obtain ⟨g0, p, e, R, s, m, args, below, meth, c, cells, slots, Q, A, nL0⟩ := x
  obtain ⟨rfl, rfl, rfl, hx, hb, hml, hown, hts, hK, hA, hlk, hnw, hcl, hsl⟩ := h
  exact fun H locs ls hP hD hS hl => lv_ishr hx hb hd (k _ _ _ hP hD hS hl)
theorem v_iushr (h : Ok x g cc own rm nL) {a b v : Int32} (hd : decode cc pc = .ok (.iushr, 1)) (hv : (a.toUInt32 >>> (b.toUInt32 &&& Int32.toUInt32 31)).toInt32 = v) (k : vM x (pc + 1) (lv) (.int v :: st) ws) : vM x pc (lv) (.int b :: .int a :: st) ws := by
  obtain ⟨g0, p, e, R, s, m, args, below, meth, c, cells, slots, Q, A, nL0⟩ := x
  obtain ⟨rfl, rfl, rfl, hx, hb, hml, hown, hts, hK, hA, hlk, hnw, hcl, hsl⟩ := h
  exact fun H locs ls hP hD hS hl => lv_iushr hx hb hd hv (k _ _ _ hP hD hS hl)
theorem v_idiv (h : Ok x g cc own rm nL) {a b : Int32} (hd : decode cc pc = .ok (.idiv, 1)) (hb0 : ¬ b = 0) (k : vM x (pc + 1) (lv) (.int (a / b) :: st) ws) : vM x pc (lv) (.int b :: .int a :: st) ws := by
  obtain ⟨g0, p, e, R, s, m, args, below, meth, c, cells, slots, Q, A, nL0⟩ := x
  obtain ⟨rfl, rfl, rfl, hx, hb, hml, hown, hts, hK, hA, hlk, hnw, hcl, hsl⟩ := h
  exact fun H locs ls hP hD hS hl => lv_idiv hx hb hd hb0 (k _ _ _ hP hD hS hl)
theorem v_irem (h : Ok x g cc own rm nL) {a b : Int32} (hd : decode cc pc = .ok (.irem, 1)) (hb0 : ¬ b = 0) (k : vM x (pc + 1) (lv) (.int (a - a / b * b) :: st) ws) : vM x pc (lv) (.int b :: .int a :: st) ws := by
  obtain ⟨g0, p, e, R, s, m, args, below, meth, c, cells, slots, Q, A, nL0⟩ := x
  obtain ⟨rfl, rfl, rfl, hx, hb, hml, hown, hts, hK, hA, hlk, hnw, hcl, hsl⟩ := h
  exact fun H locs ls hP hD hS hl => lv_irem hx hb hd hb0 (k _ _ _ hP hD hS hl)
theorem v_i2b (h : Ok x g cc own rm nL) {a : Int32} (hd : decode cc pc = .ok (.i2b, 1)) (k : vM x (pc + 1) (lv) (.int (a.toInt8.toInt32) :: st) ws) : vM x pc (lv) (.int a :: st) ws := by
  obtain ⟨g0, p, e, R, s, m, args, below, meth, c, cells, slots, Q, A, nL0⟩ := x
  obtain ⟨rfl, rfl, rfl, hx, hb, hml, hown, hts, hK, hA, hlk, hnw, hcl, hsl⟩ := h
  exact fun H locs ls hP hD hS hl => lv_i2b hx hb hd rfl (k _ _ _ hP hD hS hl)
theorem v_i2s (h : Ok x g cc own rm nL) {a : Int32} (hd : decode cc pc = .ok (.i2s, 1)) (k : vM x (pc + 1) (lv) (.int (a.toInt16.toInt32) :: st) ws) : vM x pc (lv) (.int a :: st) ws := by
  obtain ⟨g0, p, e, R, s, m, args, below, meth, c, cells, slots, Q, A, nL0⟩ := x
  obtain ⟨rfl, rfl, rfl, hx, hb, hml, hown, hts, hK, hA, hlk, hnw, hcl, hsl⟩ := h
  exact fun H locs ls hP hD hS hl => lv_i2s hx hb hd rfl (k _ _ _ hP hD hS hl)
theorem v_i2l (h : Ok x g cc own rm nL) {a : Int32} (hd : decode cc pc = .ok (.i2l, 1)) (k : vM x (pc + 1) (lv) (.long a.toInt64 :: st) ws) : vM x pc (lv) (.int a :: st) ws := by
  obtain ⟨g0, p, e, R, s, m, args, below, meth, c, cells, slots, Q, A, nL0⟩ := x
  obtain ⟨rfl, rfl, rfl, hx, hb, hml, hown, hts, hK, hA, hlk, hnw, hcl, hsl⟩ := h
  exact fun H locs ls hP hD hS hl => lv_i2l hx hb hd rfl (k _ _ _ hP hD hS hl)
theorem v_dup (h : Ok x g cc own rm nL) {v : Value} (hd : decode cc pc = .ok (.dup, 1)) (hv : v.category = 1) (k : vM x (pc + 1) (lv) (v :: v :: st) ws) : vM x pc (lv) (v :: st) ws := by
  obtain ⟨g0, p, e, R, s, m, args, below, meth, c, cells, slots, Q, A, nL0⟩ := x
  obtain ⟨rfl, rfl, rfl, hx, hb, hml, hown, hts, hK, hA, hlk, hnw, hcl, hsl⟩ := h
  exact fun H locs ls hP hD hS hl => lv_dup hx hb hd hv (k _ _ _ hP hD hS hl)
theorem v_dup2 (h : Ok x g cc own rm nL) {v w : Value} (hd : decode cc pc = .ok (.dup2, 1)) (hv : v.category = 1) (hw : w.category = 1) (k : vM x (pc + 1) (lv) (v :: w :: v :: w :: st) ws) : vM x pc (lv) (v :: w :: st) ws := by
  obtain ⟨g0, p, e, R, s, m, args, below, meth, c, cells, slots, Q, A, nL0⟩ := x
  obtain ⟨rfl, rfl, rfl, hx, hb, hml, hown, hts, hK, hA, hlk, hnw, hcl, hsl⟩ := h
  exact fun H locs ls hP hD hS hl => lv_dup2_11 hx hb hd hv hw (k _ _ _ hP hD hS hl)
theorem v_iaddN (h : Ok x g cc own rm nL) {a b : Nat} (hd : decode cc pc = .ok (.iadd, 1)) (k : vM x (pc + 1) lv (.int (nI (a + b)) :: st) ws) : vM x pc lv (.int (nI b) :: .int (nI a) :: st) ws := by
  refine v_iadd h hd ?_
  rw [nI_add]
  exact k
theorem v_isubN (h : Ok x g cc own rm nL) {a b : Nat} (hd : decode cc pc = .ok (.isub, 1)) (hle : b ≤ a) (k : vM x (pc + 1) lv (.int (nI (a - b)) :: st) ws) : vM x pc lv (.int (nI b) :: .int (nI a) :: st) ws := by
  refine v_isub h hd ?_
  rw [pk_sub hle]
  exact k
theorem v_imulN (h : Ok x g cc own rm nL) {a b : Nat} (hd : decode cc pc = .ok (.imul, 1)) (k : vM x (pc + 1) lv (.int (nI (a * b)) :: st) ws) : vM x pc lv (.int (nI b) :: .int (nI a) :: st) ws := by
  refine v_imul h hd ?_
  rw [pk_mul]
  exact k
theorem v_idivN (h : Ok x g cc own rm nL) {a b : Nat} (hd : decode cc pc = .ok (.idiv, 1)) (ha : a < 2 ^ 31) (h0 : 0 < b) (hb2 : b < 2 ^ 31) (k : vM x (pc + 1) lv (.int (nI (a / b)) :: st) ws) : vM x pc lv (.int (nI b) :: .int (nI a) :: st) ws := by
  refine v_idiv h hd (nI_ne0 h0 hb2) ?_
  rw [pk_div ha h0 hb2]
  exact k
theorem v_iremN (h : Ok x g cc own rm nL) {a b : Nat} (hd : decode cc pc = .ok (.irem, 1)) (ha : a < 2 ^ 31) (h0 : 0 < b) (hb2 : b < 2 ^ 31) (k : vM x (pc + 1) lv (.int (nI (a % b)) :: st) ws) : vM x pc lv (.int (nI b) :: .int (nI a) :: st) ws := by
  refine v_irem h hd (nI_ne0 h0 hb2) ?_
  rw [pk_rem ha h0 hb2]
  exact k
theorem v_iandN (h : Ok x g cc own rm nL) {a b : Nat} (hd : decode cc pc = .ok (.iand, 1)) (k : vM x (pc + 1) lv (.int (nI (a &&& b)) :: st) ws) : vM x pc lv (.int (nI b) :: .int (nI a) :: st) ws := by
  refine v_iand h hd ?_
  rw [nI_and]
  exact k
theorem v_iorN (h : Ok x g cc own rm nL) {a b : Nat} (hd : decode cc pc = .ok (.ior, 1)) (k : vM x (pc + 1) lv (.int (nI (a ||| b)) :: st) ws) : vM x pc lv (.int (nI b) :: .int (nI a) :: st) ws := by
  refine v_ior h hd ?_
  rw [nI_or]
  exact k
theorem v_ishlN (h : Ok x g cc own rm nL) {b : Nat} (hd : decode cc pc = .ok (.ishl, 1)) (hb2 : b < 32) (k : vM x (pc + 1) lv (.int (nI (2 ^ b)) :: st) ws) : vM x pc lv (.int (nI b) :: .int (nI 1) :: st) ws := by
  refine v_ishl h hd ?_
  rw [nI_shl1 hb2]
  exact k
theorem v_ishrN (h : Ok x g cc own rm nL) {a b : Nat} (hd : decode cc pc = .ok (.ishr, 1)) (ha : a < 2 ^ 31) (hb2 : b < 32) (k : vM x (pc + 1) lv (.int (nI (a / 2 ^ b)) :: st) ws) : vM x pc lv (.int (nI b) :: .int (nI a) :: st) ws := by
  refine v_ishr h hd ?_
  rw [nI_shr ha hb2]
  exact k
theorem v_iandM (h : Ok x g cc own rm nL) {a b : Nat} (hd : decode cc pc = .ok (.iand, 1)) (k : vM x (pc + 1) lv (.int (nI (sdiff b a)) :: st) ws) : vM x pc lv (.int (nI a ^^^ (-1)) :: .int (nI b) :: st) ws := by
  refine v_iand h hd ?_
  rw [nI_sdiff]
  exact k
theorem v_goto (h : Ok x g cc own rm nL) {off : Int} {tgt : Nat} (hd : decode cc pc = .ok (.goto off, 3)) (ht : (pc : Int) + off = (tgt : Int)) (k : vM x (tgt) (lv) (st) ws) : vM x pc (lv) (st) ws := by
  obtain ⟨g0, p, e, R, s, m, args, below, meth, c, cells, slots, Q, A, nL0⟩ := x
  obtain ⟨rfl, rfl, rfl, hx, hb, hml, hown, hts, hK, hA, hlk, hnw, hcl, hsl⟩ := h
  exact fun H locs ls hP hD hS hl => lv_goto hx hb hd ht (k _ _ _ hP hD hS hl)
theorem v_icmp_lt (h : Ok x g cc own rm nL) {a b : Int32} {off : Int} {tgt : Nat} (hd : decode cc pc = .ok (.if_icmp .lt off, 3)) (ht : (pc : Int) + off = (tgt : Int)) (kt : a < b → vM x tgt lv st ws) (kf : ¬ a < b → vM x (pc + 3) lv st ws) : vM x pc lv (.int b :: .int a :: st) ws := by
  obtain ⟨g0, p, e, R, s, m, args, below, meth, c, cells, slots, Q, A, nL0⟩ := x
  obtain ⟨rfl, rfl, rfl, hx, hb, hml, hown, hts, hK, hA, hlk, hnw, hcl, hsl⟩ := h
  exact fun H locs ls hP hD hS hl => lv_icmp_lt hx hb hd ht (fun c9 => kt c9 _ _ _ hP hD hS hl) (fun c9 => kf c9 _ _ _ hP hD hS hl)
theorem v_if_lt (h : Ok x g cc own rm nL) {a : Int32} {off : Int} {tgt : Nat} (hd : decode cc pc = .ok (.ifCond .lt off, 3)) (ht : (pc : Int) + off = (tgt : Int)) (kt : a < 0 → vM x tgt lv st ws) (kf : ¬ a < 0 → vM x (pc + 3) lv st ws) : vM x pc lv (.int a :: st) ws := by
  obtain ⟨g0, p, e, R, s, m, args, below, meth, c, cells, slots, Q, A, nL0⟩ := x
  obtain ⟨rfl, rfl, rfl, hx, hb, hml, hown, hts, hK, hA, hlk, hnw, hcl, hsl⟩ := h
  exact fun H locs ls hP hD hS hl => lv_if_lt hx hb hd ht (fun c9 => kt c9 _ _ _ hP hD hS hl) (fun c9 => kf c9 _ _ _ hP hD hS hl)
theorem v_icmp_ge (h : Ok x g cc own rm nL) {a b : Int32} {off : Int} {tgt : Nat} (hd : decode cc pc = .ok (.if_icmp .ge off, 3)) (ht : (pc : Int) + off = (tgt : Int)) (kt : b ≤ a → vM x tgt lv st ws) (kf : ¬ b ≤ a → vM x (pc + 3) lv st ws) : vM x pc lv (.int b :: .int a :: st) ws := by
  obtain ⟨g0, p, e, R, s, m, args, below, meth, c, cells, slots, Q, A, nL0⟩ := x
  obtain ⟨rfl, rfl, rfl, hx, hb, hml, hown, hts, hK, hA, hlk, hnw, hcl, hsl⟩ := h
  exact fun H locs ls hP hD hS hl => lv_icmp_ge hx hb hd ht (fun c9 => kt c9 _ _ _ hP hD hS hl) (fun c9 => kf c9 _ _ _ hP hD hS hl)
theorem v_if_ge (h : Ok x g cc own rm nL) {a : Int32} {off : Int} {tgt : Nat} (hd : decode cc pc = .ok (.ifCond .ge off, 3)) (ht : (pc : Int) + off = (tgt : Int)) (kt : 0 ≤ a → vM x tgt lv st ws) (kf : ¬ 0 ≤ a → vM x (pc + 3) lv st ws) : vM x pc lv (.int a :: st) ws := by
  obtain ⟨g0, p, e, R, s, m, args, below, meth, c, cells, slots, Q, A, nL0⟩ := x
  obtain ⟨rfl, rfl, rfl, hx, hb, hml, hown, hts, hK, hA, hlk, hnw, hcl, hsl⟩ := h
  exact fun H locs ls hP hD hS hl => lv_if_ge hx hb hd ht (fun c9 => kt c9 _ _ _ hP hD hS hl) (fun c9 => kf c9 _ _ _ hP hD hS hl)
theorem v_icmp_gt (h : Ok x g cc own rm nL) {a b : Int32} {off : Int} {tgt : Nat} (hd : decode cc pc = .ok (.if_icmp .gt off, 3)) (ht : (pc : Int) + off = (tgt : Int)) (kt : b < a → vM x tgt lv st ws) (kf : ¬ b < a → vM x (pc + 3) lv st ws) : vM x pc lv (.int b :: .int a :: st) ws := by
  obtain ⟨g0, p, e, R, s, m, args, below, meth, c, cells, slots, Q, A, nL0⟩ := x
  obtain ⟨rfl, rfl, rfl, hx, hb, hml, hown, hts, hK, hA, hlk, hnw, hcl, hsl⟩ := h
  exact fun H locs ls hP hD hS hl => lv_icmp_gt hx hb hd ht (fun c9 => kt c9 _ _ _ hP hD hS hl) (fun c9 => kf c9 _ _ _ hP hD hS hl)
theorem v_if_gt (h : Ok x g cc own rm nL) {a : Int32} {off : Int} {tgt : Nat} (hd : decode cc pc = .ok (.ifCond .gt off, 3)) (ht : (pc : Int) + off = (tgt : Int)) (kt : 0 < a → vM x tgt lv st ws) (kf : ¬ 0 < a → vM x (pc + 3) lv st ws) : vM x pc lv (.int a :: st) ws := by
  obtain ⟨g0, p, e, R, s, m, args, below, meth, c, cells, slots, Q, A, nL0⟩ := x
  obtain ⟨rfl, rfl, rfl, hx, hb, hml, hown, hts, hK, hA, hlk, hnw, hcl, hsl⟩ := h
  exact fun H locs ls hP hD hS hl => lv_if_gt hx hb hd ht (fun c9 => kt c9 _ _ _ hP hD hS hl) (fun c9 => kf c9 _ _ _ hP hD hS hl)
theorem v_icmp_le (h : Ok x g cc own rm nL) {a b : Int32} {off : Int} {tgt : Nat} (hd : decode cc pc = .ok (.if_icmp .le off, 3)) (ht : (pc : Int) + off = (tgt : Int)) (kt : a ≤ b → vM x tgt lv st ws) (kf : ¬ a ≤ b → vM x (pc + 3) lv st ws) : vM x pc lv (.int b :: .int a :: st) ws := by
  obtain ⟨g0, p, e, R, s, m, args, below, meth, c, cells, slots, Q, A, nL0⟩ := x
  obtain ⟨rfl, rfl, rfl, hx, hb, hml, hown, hts, hK, hA, hlk, hnw, hcl, hsl⟩ := h
  exact fun H locs ls hP hD hS hl => lv_icmp_le hx hb hd ht (fun c9 => kt c9 _ _ _ hP hD hS hl) (fun c9 => kf c9 _ _ _ hP hD hS hl)
theorem v_if_le (h : Ok x g cc own rm nL) {a : Int32} {off : Int} {tgt : Nat} (hd : decode cc pc = .ok (.ifCond .le off, 3)) (ht : (pc : Int) + off = (tgt : Int)) (kt : a ≤ 0 → vM x tgt lv st ws) (kf : ¬ a ≤ 0 → vM x (pc + 3) lv st ws) : vM x pc lv (.int a :: st) ws := by
  obtain ⟨g0, p, e, R, s, m, args, below, meth, c, cells, slots, Q, A, nL0⟩ := x
  obtain ⟨rfl, rfl, rfl, hx, hb, hml, hown, hts, hK, hA, hlk, hnw, hcl, hsl⟩ := h
  exact fun H locs ls hP hD hS hl => lv_if_le hx hb hd ht (fun c9 => kt c9 _ _ _ hP hD hS hl) (fun c9 => kf c9 _ _ _ hP hD hS hl)
theorem v_icmp_eq (h : Ok x g cc own rm nL) {a b : Int32} {off : Int} {tgt : Nat} (hd : decode cc pc = .ok (.if_icmp .eq off, 3)) (ht : (pc : Int) + off = (tgt : Int)) (kt : a = b → vM x tgt lv st ws) (kf : ¬ a = b → vM x (pc + 3) lv st ws) : vM x pc lv (.int b :: .int a :: st) ws := by
  obtain ⟨g0, p, e, R, s, m, args, below, meth, c, cells, slots, Q, A, nL0⟩ := x
  obtain ⟨rfl, rfl, rfl, hx, hb, hml, hown, hts, hK, hA, hlk, hnw, hcl, hsl⟩ := h
  exact fun H locs ls hP hD hS hl => lv_icmp_eq hx hb hd ht (fun c9 => kt c9 _ _ _ hP hD hS hl) (fun c9 => kf c9 _ _ _ hP hD hS hl)
theorem v_if_eq (h : Ok x g cc own rm nL) {a : Int32} {off : Int} {tgt : Nat} (hd : decode cc pc = .ok (.ifCond .eq off, 3)) (ht : (pc : Int) + off = (tgt : Int)) (kt : a = 0 → vM x tgt lv st ws) (kf : ¬ a = 0 → vM x (pc + 3) lv st ws) : vM x pc lv (.int a :: st) ws := by
  obtain ⟨g0, p, e, R, s, m, args, below, meth, c, cells, slots, Q, A, nL0⟩ := x
  obtain ⟨rfl, rfl, rfl, hx, hb, hml, hown, hts, hK, hA, hlk, hnw, hcl, hsl⟩ := h
  exact fun H locs ls hP hD hS hl => lv_if_eq hx hb hd ht (fun c9 => kt c9 _ _ _ hP hD hS hl) (fun c9 => kf c9 _ _ _ hP hD hS hl)
theorem v_icmp_ne (h : Ok x g cc own rm nL) {a b : Int32} {off : Int} {tgt : Nat} (hd : decode cc pc = .ok (.if_icmp .ne off, 3)) (ht : (pc : Int) + off = (tgt : Int)) (kt : ¬ a = b → vM x tgt lv st ws) (kf : a = b → vM x (pc + 3) lv st ws) : vM x pc lv (.int b :: .int a :: st) ws := by
  obtain ⟨g0, p, e, R, s, m, args, below, meth, c, cells, slots, Q, A, nL0⟩ := x
  obtain ⟨rfl, rfl, rfl, hx, hb, hml, hown, hts, hK, hA, hlk, hnw, hcl, hsl⟩ := h
  exact fun H locs ls hP hD hS hl => lv_icmp_ne hx hb hd ht (fun c9 => kt c9 _ _ _ hP hD hS hl) (fun c9 => kf c9 _ _ _ hP hD hS hl)
theorem v_if_ne (h : Ok x g cc own rm nL) {a : Int32} {off : Int} {tgt : Nat} (hd : decode cc pc = .ok (.ifCond .ne off, 3)) (ht : (pc : Int) + off = (tgt : Int)) (kt : ¬ a = 0 → vM x tgt lv st ws) (kf : a = 0 → vM x (pc + 3) lv st ws) : vM x pc lv (.int a :: st) ws := by
  obtain ⟨g0, p, e, R, s, m, args, below, meth, c, cells, slots, Q, A, nL0⟩ := x
  obtain ⟨rfl, rfl, rfl, hx, hb, hml, hown, hts, hK, hA, hlk, hnw, hcl, hsl⟩ := h
  exact fun H locs ls hP hD hS hl => lv_if_ne hx hb hd ht (fun c9 => kt c9 _ _ _ hP hD hS hl) (fun c9 => kf c9 _ _ _ hP hD hS hl)
theorem v_icmp_ltN (h : Ok x g cc own rm nL) {a b : Nat} {off : Int} {tgt : Nat} (hd : decode cc pc = .ok (.if_icmp .lt off, 3)) (ht : (pc : Int) + off = (tgt : Int)) (ha : a < 2 ^ 31) (hb2 : b < 2 ^ 31) (kt : a < b → vM x tgt lv st ws) (kf : b ≤ a → vM x (pc + 3) lv st ws) : vM x pc lv (.int (nI b) :: .int (nI a) :: st) ws := v_icmp_lt h hd ht (fun c9 => kt ((nI_ltI ha hb2).mp c9)) (fun c9 => kf (by have q9 := mt (nI_ltI ha hb2).mpr c9; omega))
theorem v_icmp_geN (h : Ok x g cc own rm nL) {a b : Nat} {off : Int} {tgt : Nat} (hd : decode cc pc = .ok (.if_icmp .ge off, 3)) (ht : (pc : Int) + off = (tgt : Int)) (ha : a < 2 ^ 31) (hb2 : b < 2 ^ 31) (kt : b ≤ a → vM x tgt lv st ws) (kf : a < b → vM x (pc + 3) lv st ws) : vM x pc lv (.int (nI b) :: .int (nI a) :: st) ws := v_icmp_ge h hd ht (fun c9 => kt ((nI_leI hb2 ha).mp c9)) (fun c9 => kf (by have q9 := mt (nI_leI hb2 ha).mpr c9; omega))
theorem v_icmp_gtN (h : Ok x g cc own rm nL) {a b : Nat} {off : Int} {tgt : Nat} (hd : decode cc pc = .ok (.if_icmp .gt off, 3)) (ht : (pc : Int) + off = (tgt : Int)) (ha : a < 2 ^ 31) (hb2 : b < 2 ^ 31) (kt : b < a → vM x tgt lv st ws) (kf : a ≤ b → vM x (pc + 3) lv st ws) : vM x pc lv (.int (nI b) :: .int (nI a) :: st) ws := v_icmp_gt h hd ht (fun c9 => kt ((nI_ltI hb2 ha).mp c9)) (fun c9 => kf (by have q9 := mt (nI_ltI hb2 ha).mpr c9; omega))
theorem v_icmp_leN (h : Ok x g cc own rm nL) {a b : Nat} {off : Int} {tgt : Nat} (hd : decode cc pc = .ok (.if_icmp .le off, 3)) (ht : (pc : Int) + off = (tgt : Int)) (ha : a < 2 ^ 31) (hb2 : b < 2 ^ 31) (kt : a ≤ b → vM x tgt lv st ws) (kf : b < a → vM x (pc + 3) lv st ws) : vM x pc lv (.int (nI b) :: .int (nI a) :: st) ws := v_icmp_le h hd ht (fun c9 => kt ((nI_leI ha hb2).mp c9)) (fun c9 => kf (by have q9 := mt (nI_leI ha hb2).mpr c9; omega))
theorem v_icmp_eqN (h : Ok x g cc own rm nL) {a b : Nat} {off : Int} {tgt : Nat} (hd : decode cc pc = .ok (.if_icmp .eq off, 3)) (ht : (pc : Int) + off = (tgt : Int)) (ha : a < 2 ^ 31) (hb2 : b < 2 ^ 31) (kt : a = b → vM x tgt lv st ws) (kf : ¬ a = b → vM x (pc + 3) lv st ws) : vM x pc lv (.int (nI b) :: .int (nI a) :: st) ws := v_icmp_eq h hd ht (fun c9 => kt ((nI_eq ha hb2).mp c9)) (fun c9 => kf (fun z => c9 ((nI_eq ha hb2).mpr z)))
theorem v_icmp_neN (h : Ok x g cc own rm nL) {a b : Nat} {off : Int} {tgt : Nat} (hd : decode cc pc = .ok (.if_icmp .ne off, 3)) (ht : (pc : Int) + off = (tgt : Int)) (ha : a < 2 ^ 31) (hb2 : b < 2 ^ 31) (kt : ¬ a = b → vM x tgt lv st ws) (kf : a = b → vM x (pc + 3) lv st ws) : vM x pc lv (.int (nI b) :: .int (nI a) :: st) ws := v_icmp_ne h hd ht (fun c9 => kt (fun z => c9 ((nI_eq ha hb2).mpr z))) (fun c9 => kf ((nI_eq ha hb2).mp c9))
theorem v_if_eqN (h : Ok x g cc own rm nL) {a : Nat} {off : Int} {tgt : Nat} (hd : decode cc pc = .ok (.ifCond .eq off, 3)) (ht : (pc : Int) + off = (tgt : Int)) (ha : a < 2 ^ 31) (kt : a = 0 → vM x tgt lv st ws) (kf : 0 < a → vM x (pc + 3) lv st ws) : vM x pc lv (.int (nI a) :: st) ws := v_if_eq h hd ht (fun c9 => kt ((nI_eq (b := 0) ha (by decide)).mp c9)) (fun c9 => kf (by rcases Nat.eq_zero_or_pos a with z | z; (subst z; exact absurd rfl c9); exact z))
theorem v_if_neN (h : Ok x g cc own rm nL) {a : Nat} {off : Int} {tgt : Nat} (hd : decode cc pc = .ok (.ifCond .ne off, 3)) (ht : (pc : Int) + off = (tgt : Int)) (ha : a < 2 ^ 31) (kt : 0 < a → vM x tgt lv st ws) (kf : a = 0 → vM x (pc + 3) lv st ws) : vM x pc lv (.int (nI a) :: st) ws := v_if_ne h hd ht (fun c9 => kt (by rcases Nat.eq_zero_or_pos a with z | z; (subst z; exact absurd rfl c9); exact z)) (fun c9 => kf ((nI_eq (b := 0) ha (by decide)).mp c9))
theorem v_if_leN (h : Ok x g cc own rm nL) {a : Nat} {off : Int} {tgt : Nat} (hd : decode cc pc = .ok (.ifCond .le off, 3)) (ht : (pc : Int) + off = (tgt : Int)) (ha : a < 2 ^ 31) (kt : a = 0 → vM x tgt lv st ws) (kf : 0 < a → vM x (pc + 3) lv st ws) : vM x pc lv (.int (nI a) :: st) ws := v_if_le h hd ht (fun c9 => kt (by have := (nI_leI (b := 0) ha (by decide)).mp c9; omega)) (fun c9 => kf (by rcases Nat.eq_zero_or_pos a with z | z; (subst z; exact absurd (by decide) c9); exact z))
theorem v_if_ltN (h : Ok x g cc own rm nL) {a : Nat} {off : Int} {tgt : Nat} (hd : decode cc pc = .ok (.ifCond .lt off, 3)) (ha : a < 2 ^ 31) (ht : (pc : Int) + off = (tgt : Int)) (kf : vM x (pc + 3) lv st ws) : vM x pc lv (.int (nI a) :: st) ws := v_if_lt h hd ht (fun c9 => absurd c9 (nI_pos ha)) (fun _ => kf)
theorem v_if_geN (h : Ok x g cc own rm nL) {a : Nat} {off : Int} {tgt : Nat} (hd : decode cc pc = .ok (.ifCond .ge off, 3)) (ha : a < 2 ^ 31) (ht : (pc : Int) + off = (tgt : Int)) (kt : vM x tgt lv st ws) : vM x pc lv (.int (nI a) :: st) ws := v_if_ge h hd ht (fun _ => kt) (fun c9 => absurd (nI_pos' ha) c9)
theorem v_if_eqB (h : Ok x g cc own rm nL) {b : Bool} {off : Int} {tgt : Nat} (hd : decode cc pc = .ok (.ifCond .eq off, 3)) (ht : (pc : Int) + off = (tgt : Int)) (kt : b = false → vM x tgt lv st ws) (kf : b = true → vM x (pc + 3) lv st ws) : vM x pc lv (.int (nI (bN b)) :: st) ws := v_if_eq h hd ht (fun c9 => kt (by cases b; rfl; exact absurd c9 (by decide))) (fun c9 => kf (by cases b; exact absurd rfl c9; rfl))
theorem v_if_neB (h : Ok x g cc own rm nL) {b : Bool} {off : Int} {tgt : Nat} (hd : decode cc pc = .ok (.ifCond .ne off, 3)) (ht : (pc : Int) + off = (tgt : Int)) (kt : b = true → vM x tgt lv st ws) (kf : b = false → vM x (pc + 3) lv st ws) : vM x pc lv (.int (nI (bN b)) :: st) ws := v_if_ne h hd ht (fun c9 => kt (by cases b; exact absurd rfl c9; rfl)) (fun c9 => kf (by cases b; rfl; exact absurd c9 (by decide)))
theorem v_iret (h : Ok x g cc own rm nL) {v w : Int32} {wo : va_W} (hr : Ret x (some .int) (some (.int w)) wo) (hd : decode cc pc = .ok (.ireturn, 1)) (hv : v = w) (hw : ws = wo) : vM x pc lv [.int v] ws := by
  subst hv; subst hw
  obtain ⟨g0, p, e, R, s, m, args, below, meth, c, cells, slots, Q, A, nL0⟩ := x
  obtain ⟨rfl, rfl, rfl, hx, hb, hml, hown, hts, hK, hA, hlk, hnw, hcl, hsl⟩ := h
  obtain ⟨hrt, Qc, free, rfl, hfr, hq⟩ := hr
  exact fun H locs ls hP hD hS hl => W.iret hx hb hrt (fun t ht hW => hq t _ _ ht hW hP hS) (fun q hq2 => hfr _ (hS.2.2 q hq2)) hd
theorem v_zret (h : Ok x g cc own rm nL) {v w : Bool} {wo : va_W} (hr : Ret x (some .boolean) (some (.int (nI (bN w)))) wo) (hd : decode cc pc = .ok (.ireturn, 1)) (hv : v = w) (hw : ws = wo) : vM x pc lv [.int (nI (bN v))] ws := by
  subst hv; subst hw
  obtain ⟨g0, p, e, R, s, m, args, below, meth, c, cells, slots, Q, A, nL0⟩ := x
  obtain ⟨rfl, rfl, rfl, hx, hb, hml, hown, hts, hK, hA, hlk, hnw, hcl, hsl⟩ := h
  obtain ⟨hrt, Qc, free, rfl, hfr, hq⟩ := hr
  exact fun H locs ls hP hD hS hl => W.zret hx hb hrt (by cases v <;> rfl) (fun t ht hW => hq t _ _ ht hW hP hS) (fun q hq2 => hfr _ (hS.2.2 q hq2)) hd
theorem v_lret (h : Ok x g cc own rm nL) {v w : Int64} {wo : va_W} (hr : Ret x (some .long) (some (.long w)) wo) (hd : decode cc pc = .ok (.lreturn, 1)) (hv : v = w) (hw : ws = wo) : vM x pc lv [.long v] ws := by
  subst hv; subst hw
  obtain ⟨g0, p, e, R, s, m, args, below, meth, c, cells, slots, Q, A, nL0⟩ := x
  obtain ⟨rfl, rfl, rfl, hx, hb, hml, hown, hts, hK, hA, hlk, hnw, hcl, hsl⟩ := h
  obtain ⟨hrt, Qc, free, rfl, hfr, hq⟩ := hr
  exact fun H locs ls hP hD hS hl => W.lret hx hb hrt (fun t ht hW => hq t _ _ ht hW hP hS) (fun q hq2 => hfr _ (hS.2.2 q hq2)) hd
theorem v_vret (h : Ok x g cc own rm nL) {wo : va_W} (hr : Ret x none none wo) (hd : decode cc pc = .ok (.return_, 1)) (hw : ws = wo) : vM x pc lv [] ws := by
  subst hw
  obtain ⟨g0, p, e, R, s, m, args, below, meth, c, cells, slots, Q, A, nL0⟩ := x
  obtain ⟨rfl, rfl, rfl, hx, hb, hml, hown, hts, hK, hA, hlk, hnw, hcl, hsl⟩ := h
  obtain ⟨hrt, Qc, free, rfl, hfr, hq⟩ := hr
  exact fun H locs ls hP hD hS hl => W.vret hx hb hrt (fun t ht hW => hq t _ _ ht hW hP hS) (fun q hq2 => hfr _ (hS.2.2 q hq2)) hd

theorem v_get {C : String} {T : u_T} {N ci idx a : Nat} {fs : List Value} {v : Value} (h : Ok x g cc own rm nL) (hin : ∀ w ∈ u_ws C T N, w ∈ wsL_law) (q0 : Nat) (he : ws[q0]? = some (a, .inr (ci, fs))) (hc : vwCl[ci]? = some (C, T, N)) (k : Nat) (hk : k < N) (hlink : Cond.fieldLink own idx (T k).1 (T k).2.1 (T k).2.2.1 ∈ wsL_law) (hv : fs[k]? = some v) (hd : decode cc pc = .ok (.getfield idx, 3)) (kk : vM x (pc + 3) lv (v :: st) ws) : vM x pc lv (.ref a :: st) ws := by
  obtain ⟨g0, p, e, R, s, m, args, below, meth, c, cells, slots, Q, A, nL0⟩ := x
  obtain ⟨rfl, rfl, rfl, hx, hb, hml, hown, hts, hK, hA, hlk, hnw, hcl', hsl⟩ := h
  intro H locs ls hP hD hS hl
  exact va_get (D := gD g0) (own := own) hx hb hts hin hown hK hP q0 he hc k hk (hts _ hlink) (fun _ h9 => h9) hv hd (kk H locs ls hP hD hS hl)
theorem v_put {C : String} {T : u_T} {N ci idx a : Nat} {fs : List Value} {v : Value} {ty : FieldType} {ws' : va_W} (h : Ok x g cc own rm nL) (hin : ∀ w ∈ u_ws C T N, w ∈ wsL_law) (ty0 : Nat → FieldType) (hty : ∀ k, k < N → parseFieldDescriptor (T k).2.2.1 = some (ty0 k)) (hnm : ∀ a, a < N → ∀ b, b < N → a ≠ b → (T a).2.1 ≠ (T b).2.1) (q0 : Nat) (he : ws[q0]? = some (a, .inr (ci, fs))) (hc : vwCl[ci]? = some (C, T, N)) (k : Nat) (hk : k < N) (hlink : Cond.fieldLink own idx (T k).1 (T k).2.1 (T k).2.2.1 ∈ wsL_law) (hfin : (T k).2.2.2 = false) (hd2 : parseFieldDescriptor (T k).2.2.1 = some ty) (hn : narrow ty v = v) (hfit : fits ty v = true) (hl2 : k < fs.length) (hd : decode cc pc = .ok (.putfield idx, 3)) (hws : ws.set q0 (a, .inr (ci, fs.set k v)) = ws') (kk : vM x (pc + 3) lv st ws') : vM x pc lv (v :: .ref a :: st) ws := by
  subst hws
  obtain ⟨g0, p, e, R, s, m, args, below, meth, c, cells, slots, Q, A, nL0⟩ := x
  obtain ⟨rfl, rfl, rfl, hx, hb, hml, hown, hts, hK, hA, hlk, hnw, hcl', hsl⟩ := h
  intro H locs ls hP hD hS hl
  exact va_put (D := gD g0) (own := own) hx hb hts hin ty0 hty hnm hown hK hP hD hS q0 he hc k hk (hts _ hlink) (fun _ h9 => h9) hfin hd2 hn hfit hl2 hd (fun H1 locs1 hP1 hD1 hS1 => kk H1 locs1 ls hP1 hD1 hS1 hl)
theorem v_iald {n a : Nat} {f : Nat → Int32} {i : Int32} (h : Ok x g cc own rm nL) (q0 : Nat) (ha : ws[q0]? = some (a, .inl (gI g, n, .inl f))) (hin : vp_in i n) (hd : decode cc pc = .ok (.iaload, 1)) (kk : vM x (pc + 1) lv (.int (f i.toNatClampNeg) :: st) ws) : vM x pc lv (.int i :: .ref a :: st) ws := by
  obtain ⟨g0, p, e, R, s, m, args, below, meth, c, cells, slots, Q, A, nL0⟩ := x
  obtain ⟨rfl, rfl, rfl, hx, hb, hml, hown, hts, hK, hA, hlk, hnw, hcl', hsl⟩ := h
  intro H locs ls hP hD hS hl
  exact va_iald hx hb hK hP q0 0 ha rfl hin hd (kk H locs ls hP hD hS hl)
theorem v_ialdF {n a i : Nat} {f : Nat → Int32} (h : Ok x g cc own rm nL) (q0 : Nat) (ha : ws[q0]? = some (a, .inl (gI g, n, .inl f))) (hi : i < n) (hn : n < 2 ^ 31) (hd : decode cc pc = .ok (.iaload, 1)) (kk : vM x (pc + 1) lv (.int (f i) :: st) ws) : vM x pc lv (.int (nI i) :: .ref a :: st) ws := by
  refine v_iald h q0 ha (vp_in_nI hi hn) hd ?_
  rw [nI_clamp (by omega)]
  exact kk
theorem v_ialdN {n a i : Nat} {w : Nat → Nat} (h : Ok x g cc own rm nL) (q0 : Nat) (ha : ws[q0]? = some (a, .inl (gI g, n, .inl (fun j => nI (w j))))) (hi : i < n) (hn : n < 2 ^ 31) (hd : decode cc pc = .ok (.iaload, 1)) (kk : vM x (pc + 1) lv (.int (nI (w i)) :: st) ws) : vM x pc lv (.int (nI i) :: .ref a :: st) ws := v_ialdF h q0 ha hi hn hd kk
theorem v_zaldN {n a i : Nat} {w : Nat → Bool} (h : Ok x g cc own rm nL) (q0 : Nat) (ha : ws[q0]? = some (a, .inl (gZ g, n, .inl (fun j => nI (bN (w j)))))) (hi : i < n) (hn : n < 2 ^ 31) (hd : decode cc pc = .ok (.baload, 1)) (kk : vM x (pc + 1) lv (.int (nI (bN (w i))) :: st) ws) : vM x pc lv (.int (nI i) :: .ref a :: st) ws := by
  obtain ⟨g0, p, e, R, s, m, args, below, meth, c, cells, slots, Q, A, nL0⟩ := x
  obtain ⟨rfl, rfl, rfl, hx, hb, hml, hown, hts, hK, hA, hlk, hnw, hcl', hsl⟩ := h
  intro H locs ls hP hD hS hl
  refine va_zald hx hb hK hP q0 1 ha rfl (vp_in_nI hi hn) hd ?_
  rw [nI_clamp (by omega)]
  exact kk H locs ls hP hD hS hl
theorem v_aaldN {n a i : Nat} {f : Nat → Option Nat} (h : Ok x g cc own rm nL) (q0 : Nat) (ha : ws[q0]? = some (a, .inl (gA g, n, .inr (.inr (.inr (.inr f)))))) (hi : i < n) (hn : n < 2 ^ 31) {r : Nat} (hr : f i = some r) (hd : decode cc pc = .ok (.aaload, 1)) (kk : vM x (pc + 1) lv (.ref r :: st) ws) : vM x pc lv (.int (nI i) :: .ref a :: st) ws := by
  obtain ⟨g0, p, e, R, s, m, args, below, meth, c, cells, slots, Q, A, nL0⟩ := x
  obtain ⟨rfl, rfl, rfl, hx, hb, hml, hown, hts, hK, hA, hlk, hnw, hcl', hsl⟩ := h
  intro H locs ls hP hD hS hl
  have hin : vp_in (nI i) n := vp_in_nI hi hn
  have hlt : (nI i).toNatClampNeg < n := Nat.not_le.mp fun q => hin (Or.inr q)
  exact W.aald (v := .ref r) (ty := .array .int) hx hb (hP q0 _ ha) ((hK.2 2 _ rfl).1 n (fun j => va_rf (f j))) rfl (fun q => by cases q) (by show ¬ (nI i < 0 ∨ (arrV _ _ _).slots.size ≤ _); rw [arrV_size]; exact hin) (by show (arrV _ _ _).slots[_]? = _; rw [arrV_read _ _ hlt, nI_clamp (by omega), hr]; rfl) rfl rfl hd (kk H locs ls hP hD hS hl)
theorem v_iastF {n a i : Nat} {f : Nat → Int32} {v : Int32} {ws' : va_W} (h : Ok x g cc own rm nL) (q0 : Nat) (ha : ws[q0]? = some (a, .inl (gI g, n, .inl f))) (hi : i < n) (hn : n < 2 ^ 31) (hd : decode cc pc = .ok (.iastore, 1)) (hws : ws.set q0 (a, .inl (gI g, n, .inl (upd f i v))) = ws') (kk : vM x (pc + 1) lv st ws') : vM x pc lv (.int v :: .int (nI i) :: .ref a :: st) ws := by
  subst hws
  obtain ⟨g0, p, e, R, s, m, args, below, meth, c, cells, slots, Q, A, nL0⟩ := x
  obtain ⟨rfl, rfl, rfl, hx, hb, hml, hown, hts, hK, hA, hlk, hnw, hcl', hsl⟩ := h
  intro H locs ls hP hD hS hl
  refine va_iast hx hb hK hP hD hS q0 0 ha rfl (vp_in_nI hi hn) hd (fun H1 locs1 hP1 hD1 hS1 => ?_)
  rw [nI_clamp (by omega)] at hP1 hD1
  exact kk H1 locs1 ls hP1 hD1 hS1 hl
theorem v_iastN {n a i v : Nat} {w : Nat → Nat} {ws' : va_W} (h : Ok x g cc own rm nL) (q0 : Nat) (ha : ws[q0]? = some (a, .inl (gI g, n, .inl (fun j => nI (w j))))) (hi : i < n) (hn : n < 2 ^ 31) (hd : decode cc pc = .ok (.iastore, 1)) (hws : ws.set q0 (a, .inl (gI g, n, .inl (fun j => nI (up w i v j)))) = ws') (kk : vM x (pc + 1) lv st ws') : vM x pc lv (.int (nI v) :: .int (nI i) :: .ref a :: st) ws := v_iastF h q0 ha hi hn hd (by rw [upd_nI]; exact hws) kk
theorem nar_bN (b : Bool) : vp_nar .boolean (nI (bN b)) = nI (bN b) := by cases b <;> rfl
/-- f, but v at i -/
def upB (w : Nat → Bool) (i : Nat) (v : Bool) : Nat → Bool := fun j => if j = i then v else w j
theorem v_zastN {n a i : Nat} {v : Bool} {w : Nat → Bool} {ws' : va_W} (h : Ok x g cc own rm nL) (q0 : Nat) (ha : ws[q0]? = some (a, .inl (gZ g, n, .inl (fun j => nI (bN (w j)))))) (hi : i < n) (hn : n < 2 ^ 31) (hd : decode cc pc = .ok (.bastore, 1)) (hws : ws.set q0 (a, .inl (gZ g, n, .inl (fun j => nI (bN (upB w i v j))))) = ws') (kk : vM x (pc + 1) lv st ws') : vM x pc lv (.int (nI (bN v)) :: .int (nI i) :: .ref a :: st) ws := by
  subst hws
  obtain ⟨g0, p, e, R, s, m, args, below, meth, c, cells, slots, Q, A, nL0⟩ := x
  obtain ⟨rfl, rfl, rfl, hx, hb, hml, hown, hts, hK, hA, hlk, hnw, hcl', hsl⟩ := h
  intro H locs ls hP hD hS hl
  refine va_zast hx hb hK hP hD hS q0 1 ha rfl (vp_in_nI hi hn) hd (fun H1 locs1 hP1 hD1 hS1 => ?_)
  have e : upd (fun j => nI (bN (w j))) (nI i).toNatClampNeg (vp_nar .boolean (nI (bN v))) = fun j => nI (bN (upB w i v j)) := by
    rw [nar_bN, nI_clamp (by omega)]
    funext j
    by_cases hj : j = i <;> simp [upd, upB, hj]
  rw [e] at hP1 hD1
  exact kk H1 locs1 ls hP1 hD1 hS1 hl
theorem v_alen {n a : Nat} {f : Nat → Int32} (h : Ok x g cc own rm nL) (q0 : Nat) (ha : ws[q0]? = some (a, .inl (gI g, n, .inl f))) (hd : decode cc pc = .ok (.arraylength, 1)) (kk : vM x (pc + 1) lv (.int (nI n) :: st) ws) : vM x pc lv (.ref a :: st) ws := by
  obtain ⟨g0, p, e, R, s, m, args, below, meth, c, cells, slots, Q, A, nL0⟩ := x
  obtain ⟨rfl, rfl, rfl, hx, hb, hml, hown, hts, hK, hA, hlk, hnw, hcl', hsl⟩ := h
  intro H locs ls hP hD hS hl
  exact va_alen hx hb hK hP q0 0 ha rfl rfl hd (kk H locs ls hP hD hS hl)
/-- what links a call: instance methods, static ones, a nest mate's static ones -/
def LkV (own : String) (idx : Nat) (y : MethodName) (cc : ByteArray) (ml : Nat) (ret : Option FieldType) (n : Nat) : Prop := Cond.methodLink own idx y ∈ wsL_law ∧ Cond.instanceMethod y ∈ wsL_law ∧ Cond.selects y.cls y y ∈ wsL_law ∧ Cond.initialized y.cls ∈ wsL_law ∧ Cond.code y cc ml ret ∈ wsL_law ∧ (y.cls ≠ "java/lang/invoke/MethodHandle" ∧ y.cls ≠ "java/lang/invoke/VarHandle" ∧ (parseMethodDescriptor y.desc).map (fun d => d.parameters.length) = some n)
def LkS (own : String) (idx : Nat) (y : MethodName) (cc : ByteArray) (ml : Nat) (ret : Option FieldType) (n : Nat) : Prop := Cond.methodLink own idx y ∈ wsL_law ∧ Cond.static y ∈ wsL_law ∧ Cond.initialized y.cls ∈ wsL_law ∧ Cond.code y cc ml ret ∈ wsL_law ∧ (y.cls ≠ "java/lang/invoke/MethodHandle" ∧ y.cls ≠ "java/lang/invoke/VarHandle" ∧ (parseMethodDescriptor y.desc).map (fun d => d.parameters.length) = some n)
theorem ws_goodIn {y : MethodName} {cc : ByteArray} {ml : Nat} {ret : Option FieldType} (hc : Cond.code y cc ml ret ∈ wsL_law) : GoodIn wsL_law (Cond.code y cc ml ret :: wsL_law) := fun w hw => by
  rcases List.mem_cons.mp hw with rfl | hw
  · exact ⟨hc, wsL_good _ hc⟩
  · exact ⟨hw, wsL_good _ hw⟩
theorem vPre_blind {g : vG} {wi : va_W} {av : List Value} {sz : Nat} : FrameBlind (va_Pc av (vPre g wi sz)) := fun a U g1 mk q => by
  obtain ⟨q0, q1, qP, qK, qD, qn⟩ := q
  exact ⟨q0, q1, qP, va_K.moved (u := U) (U := U.calling g1 mk a) (Vm.Alike.refl U.vm) qK, qD, vNw.same rfl qn⟩
def RmOk (rmc rm : Room) (ml : Nat) : Prop := rmc.cells = 0 ∧ rmc.slots = 0 ∧ rmc.frames + 1 ≤ rm.frames ∧ 8 + (ml + 11) + rmc.locals ≤ rm.locals
theorem vset_P {D : va_G} {wi wo : va_W} {is : List Nat} {H H1 : Heap} {A : Nat → Prop} (hP : va_P D vwCl ws H) (hD : va_D A ws) (hC : is.map (fun i => ws[i]?) = wi.map some) (ho : va_P D vwCl wo H1) (hfst : wo.map (fun q => q.1) = wi.map (fun q => q.1)) (hk : ∀ q : Nat, q < H.size → ¬ va_A wi H.size q → H1[q]? = H[q]?) : va_P D vwCl (vset ws is wo) H1 ∧ va_D A (vset ws is wo) := by
  have hlen : is.length = wo.length := by
    have h1 := congrArg List.length hC
    have h2 := congrArg List.length hfst
    simp at h1 h2
    omega
  have hw : ∀ (j i : Nat), is[j]? = some i → ∃ z, wi[j]? = some z ∧ ws[i]? = some z := by
    intro j i hj
    have h1 : (is.map (fun i => ws[i]?))[j]? = some (ws[i]?) := by rw [List.getElem?_map, hj]; rfl
    rw [hC, List.getElem?_map] at h1
    cases hz : wi[j]? with
    | none => rw [hz] at h1; simp at h1
    | some z => rw [hz] at h1; exact ⟨z, rfl, (by simpa using h1.symm)⟩
  refine ⟨fun k q hq => ?_, va_D_fst (vset_fst is wo ws (fun j i d hj hd => ?_)) hD⟩
  · rcases vset_get is wo ws k q hlen hq with ⟨j, -, h2⟩ | ⟨h1, h2⟩
    · exact ho j q h2
    · refine (hP k q h1).kept (hk q.1 (hP k q h1).lt (fun hA => ?_))
      rcases hA with ⟨j, e, hj⟩ | hA
      · have hjl : j < is.length := by
          have := (List.getElem?_eq_some_iff.mp hj).1
          have h3 := congrArg List.length hC
          simp at h3
          omega
        obtain ⟨i, hi⟩ : ∃ i, is[j]? = some i := ⟨is[j], List.getElem?_eq_getElem hjl⟩
        obtain ⟨z, hz1, hz2⟩ := hw j i hi
        rw [hj] at hz1
        have hz3 : (q.1, e) = z := by simpa using hz1
        have := hD.1 k i q z h1 hz2 (by rw [← hz3])
        subst this
        exact h2 (List.mem_of_getElem? hi)
      · have := (hP k q h1).lt
        omega
  · obtain ⟨z, hz1, hz2⟩ := hw j i hj
    rw [List.getElem?_map, hz2]
    have h1 : (wo.map (fun q => q.1))[j]? = some d.1 := by rw [List.getElem?_map, hd]; rfl
    rw [hfst, List.getElem?_map, hz1] at h1
    simpa using h1
theorem v_callV {idx n : Nat} {y : MethodName} {bytes : ByteArray} {ml : Nat} {ret : Option FieldType} {rmc : Room} {wi wo : va_W} {a : Nat} {As rest : List Value} {r : Option Value} {ci : Nat} {q : vw_C} {fs : List Value} (h : Ok x g cc own rm nL) (hc : Ct g y bytes ml ret rmc wi (.ref a :: As) r wo) (lk : LkV own idx y bytes ml ret n) (hrm : RmOk rmc rm ml) (hcl : vwCl[ci]? = some q) (hq : y.cls = q.1) (h0 : wi[0]? = some (a, .inr (ci, fs))) (hn : As.length = n) (isC : List Nat) (hC : isC.map (fun i => ws[i]?) = wi.map some) (hnd : va_nd isC = true) (hW : (rest.map fun v => v.category).sum ≤ 8) (hd : decode cc pc = .ok (.invokevirtual idx, 3)) {ws' : va_W} (hws : vset ws isC wo = ws') (k : vM x (pc + 3) lv (r.toList ++ rest) ws') : vM x pc lv (As.reverse ++ .ref a :: rest) ws := by
  subst hws
  obtain ⟨g0, p, e, R, s, m, args, below, meth, c, cells, slots, Q, A, nL0⟩ := x
  obtain ⟨rfl, rfl, rfl, hx, hb, hml, hown, hts, hK, hA, hlk, hnw, hcl', hsl⟩ := h
  obtain ⟨hfst, hM⟩ := hc
  obtain ⟨hl1, hl2, hl3, hl4, hl5, hl6⟩ := lk
  obtain ⟨hr1, hr2, hr3, hr4⟩ := hrm
  intro H locs ls hP hD hS hl
  have hPc := hP.sub isC (filterMap_of_map hC)
  have hDc := hD.sub isC hnd hC
  have hFc := va_free (wc := wi) hD hS hA isC hC
  have cw : CallW R s args own y.cls idx y bytes ml ret (.code y bytes ml ret :: wsL_law) rmc 0 0 n := ⟨callB_of n hts (ws_goodIn hl5) rfl hr1 hr2 (hts _ hl4) (hts _ hl1) hl6 ⟨hr3, hr4⟩, hts _ hl2, hts _ hl3⟩
  have hrun := va_runV (H := H) (locs := locs) (cells := cells) (slots := slots) (below := below) (meth := meth) (e := e) (As := As) (rest := rest) (b := a) (g := F0 m pc ls (As.reverse ++ .ref a :: rest)) (Ts := wsL_law) (own := own) (C := y.cls) ⟨hx, hb, hml, hown, hts⟩ (hM H.size) cw ⟨vPre_blind, by rw [hq]; exact va_recv hK hPc hcl h0, fun U hU hW2 => ⟨rfl, by rw [hU], by rw [hU]; exact hPc, va_K.moved hW2.alike hK, hDc.weaken (fun _ _ _ _ => trivial), hnw.warm hW2⟩⟩ rfl hn hl.1 rfl (lv_room hW) hd ⟨hcl', hsl⟩
  intro T hT X
  obtain ⟨v, st₀, t, T', L, e0, X', hL, e1, e2, ⟨⟨hv, hPo⟩, hz, hk⟩, stp⟩ := hrun T hT X
  cases hv
  rw [e0] at hz hk
  obtain ⟨hP', hD'⟩ := vset_P (H1 := T'.heap) hP hD hC (by rw [e1]; exact hPo) hfst (fun q h1 h2 => by rw [e1]; exact hk q h1 h2)
  obtain ⟨t2, a1, b1⟩ := k T'.heap (locs ++ L) ls hP' hD' ⟨Nat.le_trans hS.1 (by rw [e1]; exact hz), fun q h1 h2 => by rw [e1, hk q (Nat.lt_of_lt_of_le h1 hS.1) (fun z => h2 (hFc q z))]; exact hS.2.1 q h1 h2, fun q hq => by
      rcases List.mem_append.mp hq with h | h
      · exact hS.2.2 q h
      · exact hFc _ (hL q h)⟩ hl T' rfl X'
  exact ⟨t2, stp t2 a1, b1⟩
theorem v_callS {idx n : Nat} {y : MethodName} {bytes : ByteArray} {ml : Nat} {ret : Option FieldType} {rmc : Room} {wi wo : va_W} {As rest : List Value} {r : Option Value} (h : Ok x g cc own rm nL) (hc : Ct g y bytes ml ret rmc wi As r wo) (lk : LkS own idx y bytes ml ret n) (hrm : RmOk rmc rm ml) (hn : As.length = n) (isC : List Nat) (hC : isC.map (fun i => ws[i]?) = wi.map some) (hnd : va_nd isC = true) (hW : (rest.map fun v => v.category).sum ≤ 8) (hd : decode cc pc = .ok (.invokestatic idx, 3)) {ws' : va_W} (hws : vset ws isC wo = ws') (k : vM x (pc + 3) lv (r.toList ++ rest) ws') : vM x pc lv (As.reverse ++ rest) ws := by
  subst hws
  obtain ⟨g0, p, e, R, s, m, args, below, meth, c, cells, slots, Q, A, nL0⟩ := x
  obtain ⟨rfl, rfl, rfl, hx, hb, hml, hown, hts, hK, hA, hlk, hnw, hcl', hsl⟩ := h
  obtain ⟨hfst, hM⟩ := hc
  obtain ⟨hl1, hl3, hl4, hl5, hl6⟩ := lk
  obtain ⟨hr1, hr2, hr3, hr4⟩ := hrm
  intro H locs ls hP hD hS hl
  have hPc := hP.sub isC (filterMap_of_map hC)
  have hDc := hD.sub isC hnd hC
  have hFc := va_free (wc := wi) hD hS hA isC hC
  have hrun := va_runS (H := H) (locs := locs) (cells := cells) (slots := slots) (below := below) (meth := meth) (e := e) (As := As) (rest := rest) (g := F0 m pc ls (As.reverse ++ rest)) (Ts := wsL_law) (own := own) ⟨hx, hb, hml, hown, hts⟩ (hM H.size) ⟨callB_of n hts (ws_goodIn hl5) rfl hr1 hr2 (hts _ hl4) (hts _ hl1) hl6 ⟨hr3, hr4⟩, hts _ hl3⟩ ⟨vPre_blind, fun U hU hW2 => ⟨rfl, by rw [hU], by rw [hU]; exact hPc, va_K.moved hW2.alike hK, hDc.weaken (fun _ _ _ _ => trivial), hnw.warm hW2⟩⟩ rfl hn hl.1 rfl (lv_room hW) hd ⟨hcl', hsl⟩
  intro T hT X
  obtain ⟨v, st₀, t, T', L, e0, X', hL, e1, e2, ⟨⟨hv, hPo⟩, hz, hk⟩, stp⟩ := hrun T hT X
  cases hv
  rw [e0] at hz hk
  obtain ⟨hP', hD'⟩ := vset_P (H1 := T'.heap) hP hD hC (by rw [e1]; exact hPo) hfst (fun q h1 h2 => by rw [e1]; exact hk q h1 h2)
  obtain ⟨t2, a1, b1⟩ := k T'.heap (locs ++ L) ls hP' hD' ⟨Nat.le_trans hS.1 (by rw [e1]; exact hz), fun q h1 h2 => by rw [e1, hk q (Nat.lt_of_lt_of_le h1 hS.1) (fun z => h2 (hFc q z))]; exact hS.2.1 q h1 h2, fun q hq => by
      rcases List.mem_append.mp hq with h | h
      · exact hS.2.2 q h
      · exact hFc _ (hL q h)⟩ hl T' rfl X'
  exact ⟨t2, stp t2 a1, b1⟩
/-- isIn, a nest mate's -/
def LkN (own : String) (idx : Nat) (y : MethodName) (cc : ByteArray) (ml : Nat) (ret : Option FieldType) (n : Nat) : Prop := (∀ s : State, vNw s → va_Nw (.methodLinkNest own idx y RX7) s) ∧ Cond.static y ∈ wsL_law ∧ Cond.initialized y.cls ∈ wsL_law ∧ Cond.code y cc ml ret ∈ wsL_law ∧ (y.cls ≠ "java/lang/invoke/MethodHandle" ∧ y.cls ≠ "java/lang/invoke/VarHandle" ∧ (parseMethodDescriptor y.desc).map (fun d => d.parameters.length) = some n)
theorem v_callN {idx n : Nat} {y : MethodName} {bytes : ByteArray} {ml : Nat} {ret : Option FieldType} {rmc : Room} {wi wo : va_W} {As rest : List Value} {r : Option Value} (h : Ok x g cc own rm nL) (hc : Ct g y bytes ml ret rmc wi As r wo) (lk : LkN own idx y bytes ml ret n) (hrm : RmOk rmc rm ml) (hn : As.length = n) (isC : List Nat) (hC : isC.map (fun i => ws[i]?) = wi.map some) (hnd : va_nd isC = true) (hW : (rest.map fun v => v.category).sum ≤ 8) (hd : decode cc pc = .ok (.invokestatic idx, 3)) {ws' : va_W} (hws : vset ws isC wo = ws') (k : vM x (pc + 3) lv (r.toList ++ rest) ws') : vM x pc lv (As.reverse ++ rest) ws := by
  subst hws
  obtain ⟨g0, p, e, R, s, m, args, below, meth, c, cells, slots, Q, A, nL0⟩ := x
  obtain ⟨rfl, rfl, rfl, hx, hb, hml, hown, hts, hK, hA, hlk, hnw, hcl', hsl⟩ := h
  obtain ⟨hfst, hM⟩ := hc
  obtain ⟨hl1, hl3, hl4, hl5, hl6⟩ := lk
  obtain ⟨hr1, hr2, hr3, hr4⟩ := hrm
  intro H locs ls hP hD hS hl
  have hPc := hP.sub isC (filterMap_of_map hC)
  have hDc := hD.sub isC hnd hC
  have hFc := va_free (wc := wi) hD hS hA isC hC
  have hrun := va_runSN (H := H) (locs := locs) (cells := cells) (slots := slots) (below := below) (meth := meth) (e := e) (As := As) (rest := rest) (g := F0 m pc ls (As.reverse ++ rest)) (Ts := wsL_law) (own := own) ⟨hx, hb, hml, hown, hts⟩ (hM H.size) ⟨va_cnB n hts (ws_goodIn hl5) rfl hr1 hr2 (hl1 s hnw) (hts _ hl4) hl6 ⟨hr3, hr4⟩, hts _ hl3, trivial⟩ ⟨vPre_blind, fun U hU hW2 => ⟨rfl, by rw [hU], by rw [hU]; exact hPc, va_K.moved hW2.alike hK, hDc.weaken (fun _ _ _ _ => trivial), hnw.warm hW2⟩⟩ rfl hn hl.1 rfl (lv_room hW) hd ⟨hcl', hsl⟩
  intro T hT X
  obtain ⟨v, st₀, t, T', L, e0, X', hL, e1, e2, ⟨⟨hv, hPo⟩, hz, hk⟩, stp⟩ := hrun T hT X
  cases hv
  rw [e0] at hz hk
  obtain ⟨hP', hD'⟩ := vset_P (H1 := T'.heap) hP hD hC (by rw [e1]; exact hPo) hfst (fun q h1 h2 => by rw [e1]; exact hk q h1 h2)
  obtain ⟨t2, a1, b1⟩ := k T'.heap (locs ++ L) ls hP' hD' ⟨Nat.le_trans hS.1 (by rw [e1]; exact hz), fun q h1 h2 => by rw [e1, hk q (Nat.lt_of_lt_of_le h1 hS.1) (fun z => h2 (hFc q z))]; exact hS.2.1 q h1 h2, fun q hq => by
      rcases List.mem_append.mp hq with h | h
      · exact hS.2.2 q h
      · exact hFc _ (hL q h)⟩ hl T' rfl X'
  exact ⟨t2, stp t2 a1, b1⟩
theorem v_max {idx : Nat} {a b : Int32} (h : Ok x g cc own rm nL) (hl1 : Cond.methodLink own idx yJ9_max_7cf53 ∈ wsL_law) (hf : 1 ≤ rm.frames) (hlo : (st.map fun v => v.category).sum + 13 ≤ rm.locals) (hd : decode cc pc = .ok (.invokestatic idx, 3)) (k : vM x (pc + 3) lv (.int (if a < b then b else a) :: st) ws) : vM x pc lv (.int b :: .int a :: st) ws := by
  obtain ⟨g0, p, e, R, s, m, args, below, meth, c, cells, slots, Q, A, nL0⟩ := x
  obtain ⟨rfl, rfl, rfl, hx, hb, hml, hown, hts, hK, hA, hlk, hnw, hcl', hsl⟩ := h
  intro H locs ls hP hD hS hl
  exact va_mmax hx hb (hml.trans hl.1.symm) hown (hts _ hl1) (hts _ ms_J9_max_7cf53) (hts _ mi_J9) (hts _ mc_J9_max_7cf53) hf hlo hcl' hsl hd (k H locs ls hP hD hS hl)
theorem v_min {idx : Nat} {a b : Int32} (h : Ok x g cc own rm nL) (hl1 : Cond.methodLink own idx yJ9_min_7cf53 ∈ wsL_law) (hf : 1 ≤ rm.frames) (hlo : (st.map fun v => v.category).sum + 13 ≤ rm.locals) (hd : decode cc pc = .ok (.invokestatic idx, 3)) (k : vM x (pc + 3) lv (.int (if b < a then b else a) :: st) ws) : vM x pc lv (.int b :: .int a :: st) ws := by
  obtain ⟨g0, p, e, R, s, m, args, below, meth, c, cells, slots, Q, A, nL0⟩ := x
  obtain ⟨rfl, rfl, rfl, hx, hb, hml, hown, hts, hK, hA, hlk, hnw, hcl', hsl⟩ := h
  intro H locs ls hP hD hS hl
  exact va_mmin hx hb (hml.trans hl.1.symm) hown (hts _ hl1) (hts _ ms_J9_min_7cf53) (hts _ mi_J9) (hts _ mc_J9_min_7cf53) hf hlo hcl' hsl hd (k H locs ls hP hD hS hl)
theorem v_maxN {idx : Nat} {a b : Nat} (h : Ok x g cc own rm nL) (hl1 : Cond.methodLink own idx yJ9_max_7cf53 ∈ wsL_law) (hf : 1 ≤ rm.frames) (hlo : (st.map fun v => v.category).sum + 13 ≤ rm.locals) (hd : decode cc pc = .ok (.invokestatic idx, 3)) (ha : a < 2 ^ 31) (hb2 : b < 2 ^ 31) (k : vM x (pc + 3) lv (.int (nI (max a b)) :: st) ws) : vM x pc lv (.int (nI b) :: .int (nI a) :: st) ws := by
  refine v_max h hl1 hf hlo hd ?_
  have e : (if nI a < nI b then nI b else nI a) = nI (max a b) := by
    by_cases q : a < b
    · rw [if_pos ((nI_ltI ha hb2).mpr q), Nat.max_eq_right (by omega)]
    · rw [if_neg (fun z => q ((nI_ltI ha hb2).mp z)), Nat.max_eq_left (by omega)]
  rw [e]
  exact k
theorem v_minN {idx : Nat} {a b : Nat} (h : Ok x g cc own rm nL) (hl1 : Cond.methodLink own idx yJ9_min_7cf53 ∈ wsL_law) (hf : 1 ≤ rm.frames) (hlo : (st.map fun v => v.category).sum + 13 ≤ rm.locals) (hd : decode cc pc = .ok (.invokestatic idx, 3)) (ha : a < 2 ^ 31) (hb2 : b < 2 ^ 31) (k : vM x (pc + 3) lv (.int (nI (min a b)) :: st) ws) : vM x pc lv (.int (nI b) :: .int (nI a) :: st) ws := by
  refine v_min h hl1 hf hlo hd ?_
  have e : (if nI b < nI a then nI b else nI a) = nI (min a b) := by
    by_cases q : b < a
    · rw [if_pos ((nI_ltI hb2 ha).mpr q), Nat.min_eq_right (by omega)]
    · rw [if_neg (fun z => q ((nI_ltI hb2 ha).mp z)), Nat.min_eq_left (by omega)]
  rw [e]
  exact k

end VMR
end
section
/-! the pictures' own words: Nats -/
/-- an int that is a number below n -/
def inR (x : Int32) (n : Nat) : Bool := decide (¬ x < 0 ∧ ¬ nI n ≤ x)
theorem inR_f0 {x : Int32} {n : Nat} (h : x < 0) : inR x n = false := decide_eq_false (fun q => q.1 h)
theorem inR_f1 {x : Int32} {n : Nat} (h : nI n ≤ x) : inR x n = false := decide_eq_false (fun q => q.2 h)
theorem inR_t {x : Int32} {n : Nat} (h0 : ¬ x < 0) (h : ¬ nI n ≤ x) : inR x n = true := decide_eq_true ⟨h0, h⟩
theorem inR_of {x : Int32} {n : Nat} (h : inR x n = true) (hn : n < 2 ^ 31) : ∃ j : Nat, j < n ∧ x = nI j := by
  have h1 := of_decide_eq_true h
  rcases pk_ix x hn with q | q | q
  · exact absurd q h1.1
  · exact absurd q h1.2
  · exact q
theorem inR_N {j n : Nat} (hj : j < n) (hn : n < 2 ^ 31) : inR (nI j) n = true := inR_t (nI_pos (by omega)) (fun q => by have := (nI_leI hn (by omega)).mp q; omega)
theorem inR_no {j n : Nat} (hj : j < n) (hn : n < 2 ^ 31) {P : Prop} (h : inR (nI j) n = false) : P := by rw [inR_N hj hn] at h; cases h
theorem inR_big {x : Int32} {n m : Nat} (hm : n ≤ m) (hb : m < 2 ^ 31) (h : ¬ nI n ≤ x) {P : Prop} (h2 : nI m ≤ x) : P := absurd (Int32.le_trans (nI_le hm hb) h2) h
/-- the index that an int names -/
def tn (x : Int32) : Nat := x.toNatClampNeg
theorem tn_N {j : Nat} (h : j < 2 ^ 31) : tn (nI j) = j := nI_clamp h
def times (k p : Nat) : Nat := if k = 0 then p else 2 * p
theorem times_le {k p : Nat} (hp : p ≤ 20) : times k p ≤ 40 := by unfold times; split <;> omega
theorem times_pos {k p : Nat} (hp : 1 ≤ p) : 1 ≤ times k p := by unfold times; split <;> omega
theorem mulb {x y : Nat} (hx : x ≤ 99999) (hy : y ≤ 99) : x * y < 2 ^ 31 := Nat.lt_of_le_of_lt (Nat.mul_le_mul hx hy) (by decide)
def tls (k p a b : Nat) : Bool := decide (b < a ∧ (b < (a - b) * times k p ∨ (k = 2 ∧ (a - b) * times k p = b)))
theorem tls_iff {k p a b : Nat} : tls k p a b = true ↔ b < a ∧ (b < (a - b) * times k p ∨ (k = 2 ∧ (a - b) * times k p = b)) := by simp [tls]
theorem tls_f {k p a b : Nat} (h : ¬ (b < a ∧ (b < (a - b) * times k p ∨ (k = 2 ∧ (a - b) * times k p = b)))) : tls k p a b = false := by simp [tls] at h ⊢; exact h
def alk (k p a b : Nat) : Bool := !tls k p a b && !tls k p b a
theorem alk_t {k p a b : Nat} (h1 : tls k p a b = false) (h2 : tls k p b a = false) : alk k p a b = true := by simp [alk, h1, h2]
theorem alk_f1 {k p a b : Nat} (h1 : tls k p a b = true) : alk k p a b = false := by simp [alk, h1]
theorem alk_f2 {k p a b : Nat} (h1 : tls k p b a = true) : alk k p a b = false := by simp [alk, h1]
def sumTo (f : Nat → Nat) : Nat → Nat
  | 0 => 0
  | k + 1 => sumTo f k + f k
def orTo (f : Nat → Nat) : Nat → Nat
  | 0 => 0
  | k + 1 => orTo f k ||| f k
def maxTo (f : Nat → Nat) : Nat → Nat
  | 0 => 0
  | k + 1 => max (maxTo f k) (f k)
def allTo (p : Nat → Bool) : Nat → Bool
  | 0 => true
  | k + 1 => allTo p k && p k
theorem allTo_iff {p : Nat → Bool} : ∀ {n : Nat}, allTo p n = true ↔ ∀ j, j < n → p j = true
  | 0 => by simp [allTo]
  | n + 1 => by
    rw [allTo, Bool.and_eq_true, allTo_iff]
    constructor
    · rintro ⟨h1, h2⟩ j hj
      rcases Nat.lt_or_ge j n with q | q
      · exact h1 j q
      · rw [show j = n by omega]; exact h2
    · intro h
      exact ⟨fun j hj => h j (by omega), h n (by omega)⟩
theorem allTo_no {p : Nat → Bool} {n j : Nat} (hj : j < n) (h : p j = false) : allTo p n = false := by
  cases q : allTo p n with
  | false => rfl
  | true => rw [allTo_iff.mp q j hj] at h; cases h
theorem maxTo_le {f : Nat → Nat} {b : Nat} (h : ∀ j, f j ≤ b) : ∀ n, maxTo f n ≤ b
  | 0 => Nat.zero_le _
  | n + 1 => Nat.max_le.mpr ⟨maxTo_le h n, h n⟩
theorem sumTo_le {f : Nat → Nat} {b : Nat} (h : ∀ j, f j ≤ b) : ∀ n, sumTo f n ≤ n * b
  | 0 => Nat.zero_le _
  | n + 1 => by
    have h1 := sumTo_le h n
    have h2 := h n
    rw [sumTo, Nat.succ_mul]
    omega
theorem orTo_lt {f : Nat → Nat} {b : Nat} (h : ∀ j, f j < 2 ^ b) : ∀ n, orTo f n < 2 ^ b
  | 0 => Nat.two_pow_pos b
  | n + 1 => Nat.or_lt_two_pow (orTo_lt h n) (h n)
theorem orTo_lt' {f : Nat → Nat} {b : Nat} : ∀ {n : Nat}, (∀ j, j < n → f j < 2 ^ b) → orTo f n < 2 ^ b
  | 0, _ => Nat.two_pow_pos b
  | n + 1, h => Nat.or_lt_two_pow (orTo_lt' (fun j hj => h j (by omega))) (h n (by omega))
theorem orTo_bit {f : Nat → Nat} {i : Nat} : ∀ {n : Nat}, (orTo f n).testBit i = true ↔ ∃ j, j < n ∧ (f j).testBit i = true
  | 0 => by simp [orTo]
  | n + 1 => by
    rw [orTo, Nat.testBit_or, Bool.or_eq_true, orTo_bit]
    constructor
    · rintro (⟨j, h1, h2⟩ | h)
      · exact ⟨j, by omega, h2⟩
      · exact ⟨n, by omega, h⟩
    · rintro ⟨j, h1, h2⟩
      rcases Nat.lt_or_ge j n with q | q
      · exact Or.inl ⟨j, q, h2⟩
      · rw [show j = n by omega] at h2; exact Or.inr h2
def wfT (n : Nat) (w : Nat → Nat) : Prop := n ≤ 8 ∧ (∀ j, w j ≤ 999) ∧ ∀ j, j < n → 1 ≤ w j
def wfH (hn : Nat) (kd pt : Nat → Nat) : Prop := hn ≤ 6 ∧ (∀ j, kd j ≤ 2) ∧ (∀ j, pt j ≤ 20) ∧ ∀ j, j < hn → 1 ≤ pt j
theorem testBit_of {a b : Nat} (h : a / 2 ^ b &&& 1 = 1) : a.testBit b = true := by
  rw [Nat.testBit_eq_decide_div_mod_eq, ← Nat.and_one_is_mod]; exact decide_eq_true h
theorem testBit_no {a b : Nat} (h : ¬ a / 2 ^ b &&& 1 = 1) : a.testBit b = false := by
  rw [Nat.testBit_eq_decide_div_mod_eq, ← Nat.and_one_is_mod]; exact decide_eq_false h
theorem divp_lt {a b c : Nat} (h : a < c) : a / 2 ^ b < c := Nat.lt_of_le_of_lt (Nat.div_le_self _ _) h
theorem and1_lt (a : Nat) : a &&& 1 < 2 ^ 31 := by rw [Nat.and_one_is_mod]; omega
end
section
theorem pf_X6_9_at0 {x : vX} {g : vG} {cc : ByteArray} {rm : Room} {nL pc : Nat} {lv : List (Option Value)} {st : List Value} {wt : va_W} {a : Nat} {f0 f1 : Value} {v : Int32} (h : Ok x g cc RX6 rm nL) (hd : decode cc pc = .ok (.putfield 9, 3)) (k : vM x (pc + 3) lv st ((a, .inr (5, [.int v, f1])) :: wt)) : vM x pc lv (.int v :: .ref a :: st) ((a, .inr (5, [f0, f1])) :: wt) := v_put h mw_X6 tyX6 tyX6_ok nmX6 0 rfl rfl 0 (by decide) mf_X6_9 rfl (ty := .int) (by decide +kernel) rfl rfl (Nat.le_of_ble_eq_true rfl) hd rfl k
theorem cw_V_0_1_1_i {x : vX} {g : vG} {cc : ByteArray} {own : String} {rm : Room} {nL pc : Nat} {lv : List (Option Value)} {st : List Value} {wt : va_W} {c0 c1 d0 d1 : Nat × va_E} {idx : Nat} {y : MethodName} {bytes : ByteArray} {ml : Nat} {ret : Option FieldType} {rmc : Room} {r : Int32} {p0 : Value} {a ci : Nat} {q : vw_C} {fs : List Value} (h : Ok x g cc own rm nL) (hc : Ct g y bytes ml ret rmc [c0, c1] [.ref a, p0] (some (.int r)) [d0, d1]) (lk : LkV own idx y bytes ml ret 1) (hrm : RmOk rmc rm ml) (hcl : vwCl[ci]? = some q) (hq : y.cls = q.1) (h0 : c0 = (a, .inr (ci, fs))) (hW : (st.map fun v => v.category).sum ≤ 8) (hd : decode cc pc = .ok (.invokevirtual idx, 3)) (k : vM x (pc + 3) lv (.int r :: st) (d0 :: d1 :: wt)) : vM x pc lv (p0 :: .ref a :: st) (c0 :: c1 :: wt) := v_callV (As := [p0]) (rest := st) h hc lk hrm hcl hq (by rw [h0]; rfl) rfl [0, 1] rfl (by decide) hW hd rfl k
theorem lk_X6_19 : LkV RX6 19 yX6_has cX6_has 2 (some .boolean) 1 := ⟨ml_X6_19, mn_X6_has, mv_X6_has, mi_X6, mc_X6_has, ⟨by decide, by decide, by decide +kernel⟩⟩
theorem v_iastN_at1 {x : vX} {g : vG} {cc : ByteArray} {own : String} {rm : Room} {nL pc : Nat} {lv : List (Option Value)} {st : List Value} {w0 : Nat × va_E} {wt : va_W} {n b i v : Nat} {w : Nat → Nat} (h : Ok x g cc own rm nL) (hi : i < n) (hn : n < 2 ^ 31) (hd : decode cc pc = .ok (.iastore, 1)) (k : vM x (pc + 1) lv st (w0 :: (b, .inl (gI g, n, .inl (fun j => nI (up w i v j)))) :: wt)) : vM x pc lv (.int (nI v) :: .int (nI i) :: .ref b :: st) (w0 :: (b, .inl (gI g, n, .inl (fun j => nI (w j)))) :: wt) := v_iastN h 1 rfl hi hn hd rfl k
theorem cw_N_e_2_i {x : vX} {g : vG} {cc : ByteArray} {own : String} {rm : Room} {nL pc : Nat} {lv : List (Option Value)} {st : List Value} {wt : va_W} {idx : Nat} {y : MethodName} {bytes : ByteArray} {ml : Nat} {ret : Option FieldType} {rmc : Room} {r : Int32} {p0 p1 : Value} (h : Ok x g cc own rm nL) (hc : Ct g y bytes ml ret rmc [] [p0, p1] (some (.int r)) []) (lk : LkN own idx y bytes ml ret 2) (hrm : RmOk rmc rm ml) (hW : (st.map fun v => v.category).sum ≤ 8) (hd : decode cc pc = .ok (.invokestatic idx, 3)) (k : vM x (pc + 3) lv (.int r :: st) (wt)) : vM x pc lv (p1 :: p0 :: st) (wt) := v_callN (As := [p0, p1]) (rest := st) h hc lk hrm rfl [] rfl (by decide) hW hd rfl k
theorem lk_X6_23 : LkN RX6 23 yX7_isIn cX7_isIn 2 (some .boolean) 2 := ⟨fun s h => h.1, ms_X7_isIn, mi_X7, mc_X7_isIn, ⟨by decide, by decide, by decide +kernel⟩⟩
theorem lk_X6_27 : LkV RX6 27 yX6_weightOf cX6_weightOf 2 (some .int) 1 := ⟨ml_X6_27, mn_X6_weightOf, mv_X6_weightOf, mi_X6, mc_X6_weightOf, ⟨by decide, by decide, by decide +kernel⟩⟩
theorem pf_X1_9_at0 {x : vX} {g : vG} {cc : ByteArray} {rm : Room} {nL pc : Nat} {lv : List (Option Value)} {st : List Value} {wt : va_W} {a : Nat} {f0 f1 f2 : Value} {v : Int32} (h : Ok x g cc RX1 rm nL) (hd : decode cc pc = .ok (.putfield 9, 3)) (k : vM x (pc + 3) lv st ((a, .inr (1, [.int v, f1, f2])) :: wt)) : vM x pc lv (.int v :: .ref a :: st) ((a, .inr (1, [f0, f1, f2])) :: wt) := v_put h mw_X1 tyX1 tyX1_ok nmX1 0 rfl rfl 0 (by decide) mf_X1_9 rfl (ty := .int) (by decide +kernel) rfl rfl (Nat.le_of_ble_eq_true rfl) hd rfl k
theorem cw_V_0_1_2_1_i {x : vX} {g : vG} {cc : ByteArray} {own : String} {rm : Room} {nL pc : Nat} {lv : List (Option Value)} {st : List Value} {wt : va_W} {c0 c1 c2 d0 d1 d2 : Nat × va_E} {idx : Nat} {y : MethodName} {bytes : ByteArray} {ml : Nat} {ret : Option FieldType} {rmc : Room} {r : Int32} {p0 : Value} {a ci : Nat} {q : vw_C} {fs : List Value} (h : Ok x g cc own rm nL) (hc : Ct g y bytes ml ret rmc [c0, c1, c2] [.ref a, p0] (some (.int r)) [d0, d1, d2]) (lk : LkV own idx y bytes ml ret 1) (hrm : RmOk rmc rm ml) (hcl : vwCl[ci]? = some q) (hq : y.cls = q.1) (h0 : c0 = (a, .inr (ci, fs))) (hW : (st.map fun v => v.category).sum ≤ 8) (hd : decode cc pc = .ok (.invokevirtual idx, 3)) (k : vM x (pc + 3) lv (.int r :: st) (d0 :: d1 :: d2 :: wt)) : vM x pc lv (p0 :: .ref a :: st) (c0 :: c1 :: c2 :: wt) := v_callV (As := [p0]) (rest := st) h hc lk hrm hcl hq (by rw [h0]; rfl) rfl [0, 1, 2] rfl (by decide) hW hd rfl k
theorem lk_X1_22 : LkV RX1 22 yX1_has cX1_has 2 (some .boolean) 1 := ⟨ml_X1_22, mn_X1_has, mv_X1_has, mi_X1, mc_X1_has, ⟨by decide, by decide, by decide +kernel⟩⟩
theorem v_iastN_at2 {x : vX} {g : vG} {cc : ByteArray} {own : String} {rm : Room} {nL pc : Nat} {lv : List (Option Value)} {st : List Value} {w0 w1 : Nat × va_E} {wt : va_W} {n b i v : Nat} {w : Nat → Nat} (h : Ok x g cc own rm nL) (hi : i < n) (hn : n < 2 ^ 31) (hd : decode cc pc = .ok (.iastore, 1)) (k : vM x (pc + 1) lv st (w0 :: w1 :: (b, .inl (gI g, n, .inl (fun j => nI (up w i v j)))) :: wt)) : vM x pc lv (.int (nI v) :: .int (nI i) :: .ref b :: st) (w0 :: w1 :: (b, .inl (gI g, n, .inl (fun j => nI (w j)))) :: wt) := v_iastN h 2 rfl hi hn hd rfl k
theorem lk_X1_26 : LkV RX1 26 yX1_kindOf cX1_kindOf 2 (some .int) 1 := ⟨ml_X1_26, mn_X1_kindOf, mv_X1_kindOf, mi_X1, mc_X1_kindOf, ⟨by decide, by decide, by decide +kernel⟩⟩
theorem lk_X1_30 : LkV RX1 30 yX1_partOf cX1_partOf 2 (some .int) 1 := ⟨ml_X1_30, mn_X1_partOf, mv_X1_partOf, mi_X1, mc_X1_partOf, ⟨by decide, by decide, by decide +kernel⟩⟩
theorem lk_X1_33 : LkV RX1 33 yX1_timesOf cX1_timesOf 2 (some .int) 1 := ⟨ml_X1_33, mn_X1_timesOf, mv_X1_timesOf, mi_X1, mc_X1_timesOf, ⟨by decide, by decide, by decide +kernel⟩⟩
theorem cw_V_0_1_2_3_i {x : vX} {g : vG} {cc : ByteArray} {own : String} {rm : Room} {nL pc : Nat} {lv : List (Option Value)} {st : List Value} {wt : va_W} {c0 c1 c2 d0 d1 d2 : Nat × va_E} {idx : Nat} {y : MethodName} {bytes : ByteArray} {ml : Nat} {ret : Option FieldType} {rmc : Room} {r : Int32} {p0 p1 p2 : Value} {a ci : Nat} {q : vw_C} {fs : List Value} (h : Ok x g cc own rm nL) (hc : Ct g y bytes ml ret rmc [c0, c1, c2] [.ref a, p0, p1, p2] (some (.int r)) [d0, d1, d2]) (lk : LkV own idx y bytes ml ret 3) (hrm : RmOk rmc rm ml) (hcl : vwCl[ci]? = some q) (hq : y.cls = q.1) (h0 : c0 = (a, .inr (ci, fs))) (hW : (st.map fun v => v.category).sum ≤ 8) (hd : decode cc pc = .ok (.invokevirtual idx, 3)) (k : vM x (pc + 3) lv (.int r :: st) (d0 :: d1 :: d2 :: wt)) : vM x pc lv (p2 :: p1 :: p0 :: .ref a :: st) (c0 :: c1 :: c2 :: wt) := v_callV (As := [p0, p1, p2]) (rest := st) h hc lk hrm hcl hq (by rw [h0]; rfl) rfl [0, 1, 2] rfl (by decide) hW hd rfl k
theorem lk_X1_36 : LkV RX1 36 yX1_feelsHeavier cX1_feelsHeavier 5 (some .boolean) 3 := ⟨ml_X1_36, mn_X1_feelsHeavier, mv_X1_feelsHeavier, mi_X1, mc_X1_feelsHeavier, ⟨by decide, by decide, by decide +kernel⟩⟩
set_option maxRecDepth 20000 in
set_option maxHeartbeats 2000000 in
theorem c_X6_count {g : vG} {t0 t1 : Nat} {n : Nat} {w : Nat → Nat} : Ct g yX6_count cX6_count 1 (some .int) (rmOf 0 0) [(t0, .inr (5, [.int (nI n), .ref t1])), (t1, .inl (gI g, 8, .inl (fun z9 => nI (w z9))))] [.ref t0] (some (.int (nI n))) [(t0, .inr (5, [.int (nI n), .ref t1])), (t1, .inl (gI g, 8, .inl (fun z9 => nI (w z9))))] := by
  refine Ct.ofV RX6 rfl (by decide +kernel) rfl rfl rfl (Nat.le_of_ble_eq_true rfl) (List.forall_mem_cons.mpr ⟨rfl, (fun _ h9 => absurd h9 List.not_mem_nil)⟩) (fun x h hr => ?_)
  show vM x 0 [some (.ref t0)] [] [(t0, .inr (5, [.int (nI n), .ref t1])), (t1, .inl (gI g, 8, .inl (fun z9 => nI (w z9))))]
  refine v_aload_n0 h dX6_count_0 ?_
  refine v_get h mw_X6 0 rfl rfl 0 (by decide) mf_X6_9 rfl dX6_count_1 ?_
  exact v_iret h hr dX6_count_4 rfl rfl
set_option maxRecDepth 20000 in
set_option maxHeartbeats 2000000 in
theorem c_X6_clear {g : vG} {t0 t1 : Nat} {n : Nat} {w : Nat → Nat} : Ct g yX6_clear cX6_clear 1 none (rmOf 0 0) [(t0, .inr (5, [.int (nI n), .ref t1])), (t1, .inl (gI g, 8, .inl (fun z9 => nI (w z9))))] [.ref t0] none [(t0, .inr (5, [.int (nI 0), .ref t1])), (t1, .inl (gI g, 8, .inl (fun z9 => nI (w z9))))] := by
  refine Ct.ofV RX6 rfl (by decide +kernel) rfl rfl rfl (Nat.le_of_ble_eq_true rfl) (List.forall_mem_cons.mpr ⟨rfl, (fun _ h9 => absurd h9 List.not_mem_nil)⟩) (fun x h hr => ?_)
  show vM x 0 [some (.ref t0)] [] [(t0, .inr (5, [.int (nI n), .ref t1])), (t1, .inl (gI g, 8, .inl (fun z9 => nI (w z9))))]
  refine v_aload_n0 h dX6_clear_0 ?_
  refine v_iconst h (v := nI 0) dX6_clear_1 (by decide) ?_
  refine pf_X6_9_at0 h dX6_clear_2 ?_
  exact v_vret h hr dX6_clear_5 rfl
set_option maxRecDepth 20000 in
set_option maxHeartbeats 2000000 in
theorem c_X6_has {g : vG} {t0 t1 : Nat} {n : Nat} {w : Nat → Nat} {p : Int32} (ht1 : n ≤ 8) : Ct g yX6_has cX6_has 2 (some .boolean) (rmOf 0 0) [(t0, .inr (5, [.int (nI n), .ref t1])), (t1, .inl (gI g, 8, .inl (fun z9 => nI (w z9))))] [.ref t0, .int p] (some (.int (nI (bN (inR p n))))) [(t0, .inr (5, [.int (nI n), .ref t1])), (t1, .inl (gI g, 8, .inl (fun z9 => nI (w z9))))] := by
  refine Ct.ofV RX6 rfl (by decide +kernel) rfl rfl rfl (Nat.le_of_ble_eq_true rfl) (List.forall_mem_cons.mpr ⟨rfl, (List.forall_mem_cons.mpr ⟨rfl, (fun _ h9 => absurd h9 List.not_mem_nil)⟩)⟩) (fun x h hr => ?_)
  show vM x 0 [some (.ref t0), some (.int p)] [] [(t0, .inr (5, [.int (nI n), .ref t1])), (t1, .inl (gI g, 8, .inl (fun z9 => nI (w z9))))]
  refine v_iload_n1 h dX6_has_0 ?_
  refine v_if_lt h dX6_has_1 (tgt := 25) (by decide) (fun c1 => ?_) (fun c1 => ?_)
  · refine v_iconst h (v := nI 0) dX6_has_25 (by decide) ?_
    exact v_zret (v := false) h hr dX6_has_26 (by first | exact (inR_f0 c1).symm | exact (inR_f1 c9).symm | exact (inR_t c1 c9).symm) rfl
  · refine v_iload_n1 h dX6_has_4 ?_
    refine v_aload_n0 h dX6_has_5 ?_
    refine v_get h mw_X6 0 rfl rfl 0 (by decide) mf_X6_9 rfl dX6_has_6 ?_
    refine v_icmp_ge h dX6_has_9 (tgt := 25) (by decide) (fun c9 => ?_) (fun c9 => ?_)
    · refine v_iconst h (v := nI 0) dX6_has_25 (by decide) ?_
      exact v_zret (v := false) h hr dX6_has_26 (by first | exact (inR_f0 c1).symm | exact (inR_f1 c9).symm | exact (inR_t c1 c9).symm) rfl
    · refine v_iload_n1 h dX6_has_12 ?_
      refine v_aload_n0 h dX6_has_13 ?_
      refine v_get h mw_X6 0 rfl rfl 1 (by decide) mf_X6_15 rfl dX6_has_14 ?_
      refine v_alen h 1 rfl dX6_has_17 ?_
      refine v_icmp_ge h dX6_has_18 (tgt := 25) (by decide) (fun c18 => ?_) (fun c18 => ?_)
      · exact inR_big ht1 (by decide) c9 c18
      · refine v_iconst h (v := nI 1) dX6_has_21 (by decide) ?_
        refine v_goto h dX6_has_22 (tgt := 26) (by decide) ?_
        exact v_zret (v := true) h hr dX6_has_26 (by first | exact (inR_f0 c1).symm | exact (inR_f1 c9).symm | exact (inR_t c1 c9).symm) rfl
set_option maxRecDepth 20000 in
set_option maxHeartbeats 2000000 in
theorem c_X6_weightOf {g : vG} {t0 t1 : Nat} {n : Nat} {w : Nat → Nat} {j : Nat} (ht1 : n ≤ 8) (hj : j < n) : Ct g yX6_weightOf cX6_weightOf 2 (some .int) (rmOf 1 21) [(t0, .inr (5, [.int (nI n), .ref t1])), (t1, .inl (gI g, 8, .inl (fun z9 => nI (w z9))))] [.ref t0, .int (nI j)] (some (.int (nI (w j)))) [(t0, .inr (5, [.int (nI n), .ref t1])), (t1, .inl (gI g, 8, .inl (fun z9 => nI (w z9))))] := by
  refine Ct.ofV RX6 rfl (by decide +kernel) rfl rfl rfl (Nat.le_of_ble_eq_true rfl) (List.forall_mem_cons.mpr ⟨rfl, (List.forall_mem_cons.mpr ⟨rfl, (fun _ h9 => absurd h9 List.not_mem_nil)⟩)⟩) (fun x h hr => ?_)
  show vM x 0 [some (.ref t0), some (.int (nI j))] [] [(t0, .inr (5, [.int (nI n), .ref t1])), (t1, .inl (gI g, 8, .inl (fun z9 => nI (w z9))))]
  refine v_aload_n0 h dX6_weightOf_0 ?_
  refine v_iload_n1 h dX6_weightOf_1 ?_
  refine cw_V_0_1_1_i (ci := 5) h (c_X6_has (g := g) (by first | assumption | omega)) lk_X6_19 ⟨rfl, rfl, (Nat.le_of_ble_eq_true rfl), (Nat.le_of_ble_eq_true rfl)⟩ rfl rfl rfl (Nat.le_of_ble_eq_true rfl) dX6_weightOf_2 ?_
  refine v_if_eqB h dX6_weightOf_5 (tgt := 17) (by decide) (fun c5 => ?_) (fun c5 => ?_)
  · exact inR_no hj (by omega) c5
  · refine v_aload_n0 h dX6_weightOf_8 ?_
    refine v_get h mw_X6 0 rfl rfl 1 (by decide) mf_X6_15 rfl dX6_weightOf_9 ?_
    refine v_iload_n1 h dX6_weightOf_12 ?_
    refine v_ialdN h 1 rfl (by omega) (Nat.le_of_ble_eq_true rfl) dX6_weightOf_13 ?_
    refine v_goto h dX6_weightOf_14 (tgt := 18) (by decide) ?_
    exact v_iret h hr dX6_weightOf_18 rfl rfl
set_option maxRecDepth 20000 in
set_option maxHeartbeats 2000000 in
theorem c_X6_setWeight {g : vG} {t0 t1 : Nat} {n : Nat} {w : Nat → Nat} {j : Nat} {v : Nat} (ht1 : n ≤ 8) (hj : j < n) : Ct g yX6_setWeight cX6_setWeight 3 none (rmOf 1 21) [(t0, .inr (5, [.int (nI n), .ref t1])), (t1, .inl (gI g, 8, .inl (fun z9 => nI (w z9))))] [.ref t0, .int (nI j), .int (nI v)] none [(t0, .inr (5, [.int (nI n), .ref t1])), (t1, .inl (gI g, 8, .inl (fun z9 => nI ((up w j v) z9))))] := by
  refine Ct.ofV RX6 rfl (by decide +kernel) rfl rfl rfl (Nat.le_of_ble_eq_true rfl) (List.forall_mem_cons.mpr ⟨rfl, (List.forall_mem_cons.mpr ⟨rfl, (List.forall_mem_cons.mpr ⟨rfl, (fun _ h9 => absurd h9 List.not_mem_nil)⟩)⟩)⟩) (fun x h hr => ?_)
  show vM x 0 [some (.ref t0), some (.int (nI j)), some (.int (nI v))] [] [(t0, .inr (5, [.int (nI n), .ref t1])), (t1, .inl (gI g, 8, .inl (fun z9 => nI (w z9))))]
  refine v_aload_n0 h dX6_setWeight_0 ?_
  refine v_iload_n1 h dX6_setWeight_1 ?_
  refine cw_V_0_1_1_i (ci := 5) h (c_X6_has (g := g) (by first | assumption | omega)) lk_X6_19 ⟨rfl, rfl, (Nat.le_of_ble_eq_true rfl), (Nat.le_of_ble_eq_true rfl)⟩ rfl rfl rfl (Nat.le_of_ble_eq_true rfl) dX6_setWeight_2 ?_
  refine v_if_eqB h dX6_setWeight_5 (tgt := 15) (by decide) (fun c5 => ?_) (fun c5 => ?_)
  · exact inR_no hj (by omega) c5
  · refine v_aload_n0 h dX6_setWeight_8 ?_
    refine v_get h mw_X6 0 rfl rfl 1 (by decide) mf_X6_15 rfl dX6_setWeight_9 ?_
    refine v_iload_n1 h dX6_setWeight_12 ?_
    refine v_iload_n2 h dX6_setWeight_13 ?_
    refine v_iastN_at1 h (by omega) (Nat.le_of_ble_eq_true rfl) dX6_setWeight_14 ?_
    exact v_vret h hr dX6_setWeight_15 rfl
set_option maxRecDepth 20000 in
set_option maxHeartbeats 2000000 in
theorem c_X6_add {g : vG} {t0 t1 : Nat} {n : Nat} {w : Nat → Nat} {v : Nat} (ht1 : n < 8) : Ct g yX6_add cX6_add 2 none (rmOf 0 0) [(t0, .inr (5, [.int (nI n), .ref t1])), (t1, .inl (gI g, 8, .inl (fun z9 => nI (w z9))))] [.ref t0, .int (nI v)] none [(t0, .inr (5, [.int (nI (n + 1)), .ref t1])), (t1, .inl (gI g, 8, .inl (fun z9 => nI ((up w n v) z9))))] := by
  refine Ct.ofV RX6 rfl (by decide +kernel) rfl rfl rfl (Nat.le_of_ble_eq_true rfl) (List.forall_mem_cons.mpr ⟨rfl, (List.forall_mem_cons.mpr ⟨rfl, (fun _ h9 => absurd h9 List.not_mem_nil)⟩)⟩) (fun x h hr => ?_)
  show vM x 0 [some (.ref t0), some (.int (nI v))] [] [(t0, .inr (5, [.int (nI n), .ref t1])), (t1, .inl (gI g, 8, .inl (fun z9 => nI (w z9))))]
  refine v_aload_n0 h dX6_add_0 ?_
  refine v_get h mw_X6 0 rfl rfl 0 (by decide) mf_X6_9 rfl dX6_add_1 ?_
  refine v_aload_n0 h dX6_add_4 ?_
  refine v_get h mw_X6 0 rfl rfl 1 (by decide) mf_X6_15 rfl dX6_add_5 ?_
  refine v_alen h 1 rfl dX6_add_8 ?_
  refine v_icmp_geN h dX6_add_9 (tgt := 32) (by decide) (by omega) (by omega) (fun c9 => ?_) (fun c9 => ?_)
  · omega
  · refine v_aload_n0 h dX6_add_12 ?_
    refine v_get h mw_X6 0 rfl rfl 1 (by decide) mf_X6_15 rfl dX6_add_13 ?_
    refine v_aload_n0 h dX6_add_16 ?_
    refine v_get h mw_X6 0 rfl rfl 0 (by decide) mf_X6_9 rfl dX6_add_17 ?_
    refine v_iload_n1 h dX6_add_20 ?_
    refine v_iastN_at1 h (by omega) (Nat.le_of_ble_eq_true rfl) dX6_add_21 ?_
    refine v_aload_n0 h dX6_add_22 ?_
    refine v_dup h dX6_add_23 rfl ?_
    refine v_get h mw_X6 0 rfl rfl 0 (by decide) mf_X6_9 rfl dX6_add_24 ?_
    refine v_iconst h (v := nI 1) dX6_add_27 (by decide) ?_
    refine v_iaddN h dX6_add_28 ?_
    refine pf_X6_9_at0 h dX6_add_29 ?_
    exact v_vret h hr dX6_add_32 rfl
set_option maxRecDepth 20000 in
set_option maxHeartbeats 2000000 in
theorem c_X7_isIn {g : vG} {a : Nat} {b : Nat} (ha : a < 2 ^ 31) (hb : b < 32) : Ct g yX7_isIn cX7_isIn 2 (some .boolean) (rmOf 0 0) [] [.int (nI a), .int (nI b)] (some (.int (nI (bN (a.testBit b))))) [] := by
  refine Ct.ofV RX7 rfl (by decide +kernel) rfl rfl rfl (Nat.le_of_ble_eq_true rfl) (List.forall_mem_cons.mpr ⟨rfl, (List.forall_mem_cons.mpr ⟨rfl, (fun _ h9 => absurd h9 List.not_mem_nil)⟩)⟩) (fun x h hr => ?_)
  show vM x 0 [some (.int (nI a)), some (.int (nI b))] [] []
  refine v_iload_n0 h dX7_isIn_0 ?_
  refine v_iload_n1 h dX7_isIn_1 ?_
  refine v_ishrN h dX7_isIn_2 (by omega) (by omega) ?_
  refine v_iconst h (v := nI 1) dX7_isIn_3 (by decide) ?_
  refine v_iandN h dX7_isIn_4 ?_
  refine v_iconst h (v := nI 1) dX7_isIn_5 (by decide) ?_
  refine v_icmp_neN h dX7_isIn_6 (tgt := 13) (by decide) (by first | omega | exact and1_lt _) (by first | omega | exact and1_lt _) (fun c6 => ?_) (fun c6 => ?_)
  · refine v_iconst h (v := nI 0) dX7_isIn_13 (by decide) ?_
    exact v_zret (v := false) h hr dX7_isIn_14 (by first | exact (testBit_of (by omega)).symm | exact (testBit_no (by omega)).symm) rfl
  · refine v_iconst h (v := nI 1) dX7_isIn_9 (by decide) ?_
    refine v_goto h dX7_isIn_10 (tgt := 14) (by decide) ?_
    exact v_zret (v := true) h hr dX7_isIn_14 (by first | exact (testBit_of (by omega)).symm | exact (testBit_no (by omega)).symm) rfl
set_option maxRecDepth 20000 in
set_option maxHeartbeats 2000000 in
theorem c_X6_weightTogether {g : vG} {t0 t1 : Nat} {n : Nat} {w : Nat → Nat} {a : Nat} (hT : wfT n w) (ha : a < 2 ^ 31) : Ct g yX6_weightTogether cX6_weightTogether 4 (some .int) (rmOf 2 42) [(t0, .inr (5, [.int (nI n), .ref t1])), (t1, .inl (gI g, 8, .inl (fun z9 => nI (w z9))))] [.ref t0, .int (nI a)] (some (.int (nI (sumTo (fun z => if a.testBit z then w z else 0) n)))) [(t0, .inr (5, [.int (nI n), .ref t1])), (t1, .inl (gI g, 8, .inl (fun z9 => nI (w z9))))] := by
  refine Ct.ofV RX6 rfl (by decide +kernel) rfl rfl rfl (Nat.le_of_ble_eq_true rfl) (List.forall_mem_cons.mpr ⟨rfl, (List.forall_mem_cons.mpr ⟨rfl, (fun _ h9 => absurd h9 List.not_mem_nil)⟩)⟩) (fun x h hr => ?_)
  show vM x 0 [some (.ref t0), some (.int (nI a)), none, none] [] [(t0, .inr (5, [.int (nI n), .ref t1])), (t1, .inl (gI g, 8, .inl (fun z9 => nI (w z9))))]
  have ht1 := hT.1; have ht2 := hT.2.1; have ht3 := hT.2.2
  refine v_iconst h (v := nI 0) dX6_weightTogether_0 (by decide) ?_
  refine v_istore_n2 h (Nat.le_of_ble_eq_true rfl) dX6_weightTogether_1 ?_
  refine v_iconst h (v := nI 0) dX6_weightTogether_2 (by decide) ?_
  refine v_istore_n3 h (Nat.le_of_ble_eq_true rfl) dX6_weightTogether_3 ?_
  have L4 : ∀ (k4 : Nat) (i : Nat), n - i = k4 → (i ≤ n) → vM x 4 [some (.ref t0), some (.int (nI a)), some (.int (nI (sumTo (fun z => if a.testBit z then w z else 0) i))), some (.int (nI i))] [] [(t0, .inr (5, [.int (nI n), .ref t1])), (t1, .inl (gI g, 8, .inl (fun z9 => nI (w z9))))] := by
    intro k4
    induction k4 using Nat.strongRecOn with
    | _ k4 ih4 =>
      intro i hm4 hi
      refine v_iload_n3 h dX6_weightTogether_4 ?_
      refine v_aload_n0 h dX6_weightTogether_5 ?_
      refine v_get h mw_X6 0 rfl rfl 0 (by decide) mf_X6_9 rfl dX6_weightTogether_6 ?_
      refine v_icmp_geN h dX6_weightTogether_9 (tgt := 38) (by decide) (by omega) (by omega) (fun c9 => ?_) (fun c9 => ?_)
      · refine v_iload_n2 h dX6_weightTogether_38 ?_
        exact v_iret h hr dX6_weightTogether_39 (by rw [show i = n by omega]) rfl
      · refine v_iload_n2 h dX6_weightTogether_12 ?_
        refine v_iload_n1 h dX6_weightTogether_13 ?_
        refine v_iload_n3 h dX6_weightTogether_14 ?_
        refine cw_N_e_2_i h (c_X7_isIn (g := g) (by first | assumption | omega) (by first | assumption | omega)) lk_X6_23 ⟨rfl, rfl, (Nat.le_of_ble_eq_true rfl), (Nat.le_of_ble_eq_true rfl)⟩ (Nat.le_of_ble_eq_true rfl) dX6_weightTogether_15 ?_
        refine v_if_eqB h dX6_weightTogether_18 (tgt := 29) (by decide) (fun c18 => ?_) (fun c18 => ?_)
        · refine v_iconst h (v := nI 0) dX6_weightTogether_29 (by decide) ?_
          refine v_iaddN h dX6_weightTogether_30 ?_
          refine v_istore_n2 h (Nat.le_of_ble_eq_true rfl) dX6_weightTogether_31 ?_
          refine v_iincN3 h (Nat.le_of_ble_eq_true rfl) dX6_weightTogether_32 ?_
          refine v_goto h dX6_weightTogether_35 (tgt := 4) (by decide) ?_
          exact vM.fg (ih4 _ (by omega) (i + 1) rfl (by first | assumption | rfl | omega)) ⟨rfl, rfl, (by rw [sumTo]; simp [c18]), rfl, trivial⟩
        · refine v_aload_n0 h dX6_weightTogether_21 ?_
          refine v_iload_n3 h dX6_weightTogether_22 ?_
          refine cw_V_0_1_1_i (ci := 5) h (c_X6_weightOf (g := g) (by first | assumption | omega) (by first | assumption | omega)) lk_X6_27 ⟨rfl, rfl, (Nat.le_of_ble_eq_true rfl), (Nat.le_of_ble_eq_true rfl)⟩ rfl rfl rfl (Nat.le_of_ble_eq_true rfl) dX6_weightTogether_23 ?_
          refine v_goto h dX6_weightTogether_26 (tgt := 30) (by decide) ?_
          refine v_iaddN h dX6_weightTogether_30 ?_
          refine v_istore_n2 h (Nat.le_of_ble_eq_true rfl) dX6_weightTogether_31 ?_
          refine v_iincN3 h (Nat.le_of_ble_eq_true rfl) dX6_weightTogether_32 ?_
          refine v_goto h dX6_weightTogether_35 (tgt := 4) (by decide) ?_
          exact vM.fg (ih4 _ (by omega) (i + 1) rfl (by first | assumption | rfl | omega)) ⟨rfl, rfl, (by rw [sumTo]; simp [c18]), rfl, trivial⟩
  exact vM.fg (L4 _ 0 rfl (by first | assumption | rfl | omega)) ⟨rfl, rfl, rfl, rfl, trivial⟩
set_option maxRecDepth 20000 in
set_option maxHeartbeats 2000000 in
theorem c_X6_greatestOf {g : vG} {t0 t1 : Nat} {n : Nat} {w : Nat → Nat} {a : Nat} (hT : wfT n w) (ha : a < 2 ^ 31) : Ct g yX6_greatestOf cX6_greatestOf 4 (some .int) (rmOf 2 42) [(t0, .inr (5, [.int (nI n), .ref t1])), (t1, .inl (gI g, 8, .inl (fun z9 => nI (w z9))))] [.ref t0, .int (nI a)] (some (.int (nI (maxTo (fun z => if a.testBit z then w z else 0) n)))) [(t0, .inr (5, [.int (nI n), .ref t1])), (t1, .inl (gI g, 8, .inl (fun z9 => nI (w z9))))] := by
  refine Ct.ofV RX6 rfl (by decide +kernel) rfl rfl rfl (Nat.le_of_ble_eq_true rfl) (List.forall_mem_cons.mpr ⟨rfl, (List.forall_mem_cons.mpr ⟨rfl, (fun _ h9 => absurd h9 List.not_mem_nil)⟩)⟩) (fun x h hr => ?_)
  show vM x 0 [some (.ref t0), some (.int (nI a)), none, none] [] [(t0, .inr (5, [.int (nI n), .ref t1])), (t1, .inl (gI g, 8, .inl (fun z9 => nI (w z9))))]
  have ht1 := hT.1; have ht2 := hT.2.1; have ht3 := hT.2.2
  refine v_iconst h (v := nI 0) dX6_greatestOf_0 (by decide) ?_
  refine v_istore_n2 h (Nat.le_of_ble_eq_true rfl) dX6_greatestOf_1 ?_
  refine v_iconst h (v := nI 0) dX6_greatestOf_2 (by decide) ?_
  refine v_istore_n3 h (Nat.le_of_ble_eq_true rfl) dX6_greatestOf_3 ?_
  have L4 : ∀ (k4 : Nat) (i : Nat), n - i = k4 → (i ≤ n) → vM x 4 [some (.ref t0), some (.int (nI a)), some (.int (nI (maxTo (fun z => if a.testBit z then w z else 0) i))), some (.int (nI i))] [] [(t0, .inr (5, [.int (nI n), .ref t1])), (t1, .inl (gI g, 8, .inl (fun z9 => nI (w z9))))] := by
    intro k4
    induction k4 using Nat.strongRecOn with
    | _ k4 ih4 =>
      intro i hm4 hi
      refine v_iload_n3 h dX6_greatestOf_4 ?_
      refine v_aload_n0 h dX6_greatestOf_5 ?_
      refine v_get h mw_X6 0 rfl rfl 0 (by decide) mf_X6_9 rfl dX6_greatestOf_6 ?_
      refine v_icmp_geN h dX6_greatestOf_9 (tgt := 40) (by decide) (by omega) (by omega) (fun c9 => ?_) (fun c9 => ?_)
      · refine v_iload_n2 h dX6_greatestOf_40 ?_
        exact v_iret h hr dX6_greatestOf_41 (by rw [show i = n by omega]) rfl
      · refine v_iload_n1 h dX6_greatestOf_12 ?_
        refine v_iload_n3 h dX6_greatestOf_13 ?_
        refine cw_N_e_2_i h (c_X7_isIn (g := g) (by first | assumption | omega) (by first | assumption | omega)) lk_X6_23 ⟨rfl, rfl, (Nat.le_of_ble_eq_true rfl), (Nat.le_of_ble_eq_true rfl)⟩ (Nat.le_of_ble_eq_true rfl) dX6_greatestOf_14 ?_
        refine v_if_eqB h dX6_greatestOf_17 (tgt := 32) (by decide) (fun c17 => ?_) (fun c17 => ?_)
        · refine v_iload_n2 h dX6_greatestOf_32 ?_
          refine v_istore_n2 h (Nat.le_of_ble_eq_true rfl) dX6_greatestOf_33 ?_
          refine v_iincN3 h (Nat.le_of_ble_eq_true rfl) dX6_greatestOf_34 ?_
          refine v_goto h dX6_greatestOf_37 (tgt := 4) (by decide) ?_
          exact vM.fg (ih4 _ (by omega) (i + 1) rfl (by first | assumption | rfl | omega)) ⟨rfl, rfl, (by rw [maxTo]; simp [c17]), rfl, trivial⟩
        · refine v_iload_n2 h dX6_greatestOf_20 ?_
          refine v_aload_n0 h dX6_greatestOf_21 ?_
          refine v_iload_n3 h dX6_greatestOf_22 ?_
          refine cw_V_0_1_1_i (ci := 5) h (c_X6_weightOf (g := g) (by first | assumption | omega) (by first | assumption | omega)) lk_X6_27 ⟨rfl, rfl, (Nat.le_of_ble_eq_true rfl), (Nat.le_of_ble_eq_true rfl)⟩ rfl rfl rfl (Nat.le_of_ble_eq_true rfl) dX6_greatestOf_23 ?_
          refine v_maxN h ml_X6_31 (Nat.le_of_ble_eq_true rfl) (Nat.le_of_ble_eq_true rfl) dX6_greatestOf_26 (by first | (have := ht2 i; omega) | exact Nat.lt_of_le_of_lt (maxTo_le (b := 999) (fun j => by have := ht2 j; split <;> omega) i) (by decide)) (by first | (have := ht2 i; omega) | exact Nat.lt_of_le_of_lt (maxTo_le (b := 999) (fun j => by have := ht2 j; split <;> omega) i) (by decide)) ?_
          refine v_goto h dX6_greatestOf_29 (tgt := 33) (by decide) ?_
          refine v_istore_n2 h (Nat.le_of_ble_eq_true rfl) dX6_greatestOf_33 ?_
          refine v_iincN3 h (Nat.le_of_ble_eq_true rfl) dX6_greatestOf_34 ?_
          refine v_goto h dX6_greatestOf_37 (tgt := 4) (by decide) ?_
          exact vM.fg (ih4 _ (by omega) (i + 1) rfl (by first | assumption | rfl | omega)) ⟨rfl, rfl, (by rw [maxTo]; simp [c17]), rfl, trivial⟩
  exact vM.fg (L4 _ 0 rfl (by first | assumption | rfl | omega)) ⟨rfl, rfl, rfl, rfl, trivial⟩
set_option maxRecDepth 20000 in
set_option maxHeartbeats 2000000 in
theorem c_X1_count {g : vG} {h0 h1 h2 : Nat} {hn : Nat} {kd : Nat → Nat} {pt : Nat → Nat} : Ct g yX1_count cX1_count 1 (some .int) (rmOf 0 0) [(h0, .inr (1, [.int (nI hn), .ref h1, .ref h2])), (h1, .inl (gI g, 6, .inl (fun z9 => nI (kd z9)))), (h2, .inl (gI g, 6, .inl (fun z9 => nI (pt z9))))] [.ref h0] (some (.int (nI hn))) [(h0, .inr (1, [.int (nI hn), .ref h1, .ref h2])), (h1, .inl (gI g, 6, .inl (fun z9 => nI (kd z9)))), (h2, .inl (gI g, 6, .inl (fun z9 => nI (pt z9))))] := by
  refine Ct.ofV RX1 rfl (by decide +kernel) rfl rfl rfl (Nat.le_of_ble_eq_true rfl) (List.forall_mem_cons.mpr ⟨rfl, (fun _ h9 => absurd h9 List.not_mem_nil)⟩) (fun x h hr => ?_)
  show vM x 0 [some (.ref h0)] [] [(h0, .inr (1, [.int (nI hn), .ref h1, .ref h2])), (h1, .inl (gI g, 6, .inl (fun z9 => nI (kd z9)))), (h2, .inl (gI g, 6, .inl (fun z9 => nI (pt z9))))]
  refine v_aload_n0 h dX1_count_0 ?_
  refine v_get h mw_X1 0 rfl rfl 0 (by decide) mf_X1_9 rfl dX1_count_1 ?_
  exact v_iret h hr dX1_count_4 rfl rfl
set_option maxRecDepth 20000 in
set_option maxHeartbeats 2000000 in
theorem c_X1_clear {g : vG} {h0 h1 h2 : Nat} {hn : Nat} {kd : Nat → Nat} {pt : Nat → Nat} : Ct g yX1_clear cX1_clear 1 none (rmOf 0 0) [(h0, .inr (1, [.int (nI hn), .ref h1, .ref h2])), (h1, .inl (gI g, 6, .inl (fun z9 => nI (kd z9)))), (h2, .inl (gI g, 6, .inl (fun z9 => nI (pt z9))))] [.ref h0] none [(h0, .inr (1, [.int (nI 0), .ref h1, .ref h2])), (h1, .inl (gI g, 6, .inl (fun z9 => nI (kd z9)))), (h2, .inl (gI g, 6, .inl (fun z9 => nI (pt z9))))] := by
  refine Ct.ofV RX1 rfl (by decide +kernel) rfl rfl rfl (Nat.le_of_ble_eq_true rfl) (List.forall_mem_cons.mpr ⟨rfl, (fun _ h9 => absurd h9 List.not_mem_nil)⟩) (fun x h hr => ?_)
  show vM x 0 [some (.ref h0)] [] [(h0, .inr (1, [.int (nI hn), .ref h1, .ref h2])), (h1, .inl (gI g, 6, .inl (fun z9 => nI (kd z9)))), (h2, .inl (gI g, 6, .inl (fun z9 => nI (pt z9))))]
  refine v_aload_n0 h dX1_clear_0 ?_
  refine v_iconst h (v := nI 0) dX1_clear_1 (by decide) ?_
  refine pf_X1_9_at0 h dX1_clear_2 ?_
  exact v_vret h hr dX1_clear_5 rfl
set_option maxRecDepth 20000 in
set_option maxHeartbeats 2000000 in
theorem c_X1_has {g : vG} {h0 h1 h2 : Nat} {hn : Nat} {kd : Nat → Nat} {pt : Nat → Nat} {p : Int32} (hh1 : hn ≤ 6) : Ct g yX1_has cX1_has 2 (some .boolean) (rmOf 0 0) [(h0, .inr (1, [.int (nI hn), .ref h1, .ref h2])), (h1, .inl (gI g, 6, .inl (fun z9 => nI (kd z9)))), (h2, .inl (gI g, 6, .inl (fun z9 => nI (pt z9))))] [.ref h0, .int p] (some (.int (nI (bN (inR p hn))))) [(h0, .inr (1, [.int (nI hn), .ref h1, .ref h2])), (h1, .inl (gI g, 6, .inl (fun z9 => nI (kd z9)))), (h2, .inl (gI g, 6, .inl (fun z9 => nI (pt z9))))] := by
  refine Ct.ofV RX1 rfl (by decide +kernel) rfl rfl rfl (Nat.le_of_ble_eq_true rfl) (List.forall_mem_cons.mpr ⟨rfl, (List.forall_mem_cons.mpr ⟨rfl, (fun _ h9 => absurd h9 List.not_mem_nil)⟩)⟩) (fun x h hr => ?_)
  show vM x 0 [some (.ref h0), some (.int p)] [] [(h0, .inr (1, [.int (nI hn), .ref h1, .ref h2])), (h1, .inl (gI g, 6, .inl (fun z9 => nI (kd z9)))), (h2, .inl (gI g, 6, .inl (fun z9 => nI (pt z9))))]
  refine v_iload_n1 h dX1_has_0 ?_
  refine v_if_lt h dX1_has_1 (tgt := 22) (by decide) (fun c1 => ?_) (fun c1 => ?_)
  · refine v_iconst h (v := nI 0) dX1_has_22 (by decide) ?_
    exact v_zret (v := false) h hr dX1_has_23 (by first | exact (inR_f0 c1).symm | exact (inR_f1 c9).symm | exact (inR_t c1 c9).symm) rfl
  · refine v_iload_n1 h dX1_has_4 ?_
    refine v_aload_n0 h dX1_has_5 ?_
    refine v_get h mw_X1 0 rfl rfl 0 (by decide) mf_X1_9 rfl dX1_has_6 ?_
    refine v_icmp_ge h dX1_has_9 (tgt := 22) (by decide) (fun c9 => ?_) (fun c9 => ?_)
    · refine v_iconst h (v := nI 0) dX1_has_22 (by decide) ?_
      exact v_zret (v := false) h hr dX1_has_23 (by first | exact (inR_f0 c1).symm | exact (inR_f1 c9).symm | exact (inR_t c1 c9).symm) rfl
    · refine v_iload_n1 h dX1_has_12 ?_
      refine v_bipush h (v := nI 6) dX1_has_13 (by decide) ?_
      refine v_icmp_ge h dX1_has_15 (tgt := 22) (by decide) (fun c15 => ?_) (fun c15 => ?_)
      · exact inR_big hh1 (by decide) c9 c15
      · refine v_iconst h (v := nI 1) dX1_has_18 (by decide) ?_
        refine v_goto h dX1_has_19 (tgt := 23) (by decide) ?_
        exact v_zret (v := true) h hr dX1_has_23 (by first | exact (inR_f0 c1).symm | exact (inR_f1 c9).symm | exact (inR_t c1 c9).symm) rfl
set_option maxRecDepth 20000 in
set_option maxHeartbeats 2000000 in
theorem c_X1_kindOf {g : vG} {h0 h1 h2 : Nat} {hn : Nat} {kd : Nat → Nat} {pt : Nat → Nat} {j : Nat} (hh1 : hn ≤ 6) (hj : j < hn) : Ct g yX1_kindOf cX1_kindOf 2 (some .int) (rmOf 1 21) [(h0, .inr (1, [.int (nI hn), .ref h1, .ref h2])), (h1, .inl (gI g, 6, .inl (fun z9 => nI (kd z9)))), (h2, .inl (gI g, 6, .inl (fun z9 => nI (pt z9))))] [.ref h0, .int (nI j)] (some (.int (nI (kd j)))) [(h0, .inr (1, [.int (nI hn), .ref h1, .ref h2])), (h1, .inl (gI g, 6, .inl (fun z9 => nI (kd z9)))), (h2, .inl (gI g, 6, .inl (fun z9 => nI (pt z9))))] := by
  refine Ct.ofV RX1 rfl (by decide +kernel) rfl rfl rfl (Nat.le_of_ble_eq_true rfl) (List.forall_mem_cons.mpr ⟨rfl, (List.forall_mem_cons.mpr ⟨rfl, (fun _ h9 => absurd h9 List.not_mem_nil)⟩)⟩) (fun x h hr => ?_)
  show vM x 0 [some (.ref h0), some (.int (nI j))] [] [(h0, .inr (1, [.int (nI hn), .ref h1, .ref h2])), (h1, .inl (gI g, 6, .inl (fun z9 => nI (kd z9)))), (h2, .inl (gI g, 6, .inl (fun z9 => nI (pt z9))))]
  refine v_aload_n0 h dX1_kindOf_0 ?_
  refine v_iload_n1 h dX1_kindOf_1 ?_
  refine cw_V_0_1_2_1_i (ci := 1) h (c_X1_has (g := g) (by first | assumption | omega)) lk_X1_22 ⟨rfl, rfl, (Nat.le_of_ble_eq_true rfl), (Nat.le_of_ble_eq_true rfl)⟩ rfl rfl rfl (Nat.le_of_ble_eq_true rfl) dX1_kindOf_2 ?_
  refine v_if_eqB h dX1_kindOf_5 (tgt := 17) (by decide) (fun c5 => ?_) (fun c5 => ?_)
  · exact inR_no hj (by omega) c5
  · refine v_aload_n0 h dX1_kindOf_8 ?_
    refine v_get h mw_X1 0 rfl rfl 1 (by decide) mf_X1_15 rfl dX1_kindOf_9 ?_
    refine v_iload_n1 h dX1_kindOf_12 ?_
    refine v_ialdN h 1 rfl (by omega) (Nat.le_of_ble_eq_true rfl) dX1_kindOf_13 ?_
    refine v_goto h dX1_kindOf_14 (tgt := 18) (by decide) ?_
    exact v_iret h hr dX1_kindOf_18 rfl rfl
set_option maxRecDepth 20000 in
set_option maxHeartbeats 2000000 in
theorem c_X1_partOf {g : vG} {h0 h1 h2 : Nat} {hn : Nat} {kd : Nat → Nat} {pt : Nat → Nat} {j : Nat} (hh1 : hn ≤ 6) (hj : j < hn) : Ct g yX1_partOf cX1_partOf 2 (some .int) (rmOf 1 21) [(h0, .inr (1, [.int (nI hn), .ref h1, .ref h2])), (h1, .inl (gI g, 6, .inl (fun z9 => nI (kd z9)))), (h2, .inl (gI g, 6, .inl (fun z9 => nI (pt z9))))] [.ref h0, .int (nI j)] (some (.int (nI (pt j)))) [(h0, .inr (1, [.int (nI hn), .ref h1, .ref h2])), (h1, .inl (gI g, 6, .inl (fun z9 => nI (kd z9)))), (h2, .inl (gI g, 6, .inl (fun z9 => nI (pt z9))))] := by
  refine Ct.ofV RX1 rfl (by decide +kernel) rfl rfl rfl (Nat.le_of_ble_eq_true rfl) (List.forall_mem_cons.mpr ⟨rfl, (List.forall_mem_cons.mpr ⟨rfl, (fun _ h9 => absurd h9 List.not_mem_nil)⟩)⟩) (fun x h hr => ?_)
  show vM x 0 [some (.ref h0), some (.int (nI j))] [] [(h0, .inr (1, [.int (nI hn), .ref h1, .ref h2])), (h1, .inl (gI g, 6, .inl (fun z9 => nI (kd z9)))), (h2, .inl (gI g, 6, .inl (fun z9 => nI (pt z9))))]
  refine v_aload_n0 h dX1_partOf_0 ?_
  refine v_iload_n1 h dX1_partOf_1 ?_
  refine cw_V_0_1_2_1_i (ci := 1) h (c_X1_has (g := g) (by first | assumption | omega)) lk_X1_22 ⟨rfl, rfl, (Nat.le_of_ble_eq_true rfl), (Nat.le_of_ble_eq_true rfl)⟩ rfl rfl rfl (Nat.le_of_ble_eq_true rfl) dX1_partOf_2 ?_
  refine v_if_eqB h dX1_partOf_5 (tgt := 17) (by decide) (fun c5 => ?_) (fun c5 => ?_)
  · exact inR_no hj (by omega) c5
  · refine v_aload_n0 h dX1_partOf_8 ?_
    refine v_get h mw_X1 0 rfl rfl 2 (by decide) mf_X1_19 rfl dX1_partOf_9 ?_
    refine v_iload_n1 h dX1_partOf_12 ?_
    refine v_ialdN h 2 rfl (by omega) (Nat.le_of_ble_eq_true rfl) dX1_partOf_13 ?_
    refine v_goto h dX1_partOf_14 (tgt := 18) (by decide) ?_
    exact v_iret h hr dX1_partOf_18 rfl rfl
set_option maxRecDepth 20000 in
set_option maxHeartbeats 2000000 in
theorem c_X1_add {g : vG} {h0 h1 h2 : Nat} {hn : Nat} {kd : Nat → Nat} {pt : Nat → Nat} {k : Nat} {v : Nat} (hh1 : hn < 6) : Ct g yX1_add cX1_add 3 (some .int) (rmOf 0 0) [(h0, .inr (1, [.int (nI hn), .ref h1, .ref h2])), (h1, .inl (gI g, 6, .inl (fun z9 => nI (kd z9)))), (h2, .inl (gI g, 6, .inl (fun z9 => nI (pt z9))))] [.ref h0, .int (nI k), .int (nI v)] (some (.int (nI hn))) [(h0, .inr (1, [.int (nI (hn + 1)), .ref h1, .ref h2])), (h1, .inl (gI g, 6, .inl (fun z9 => nI ((up kd hn k) z9)))), (h2, .inl (gI g, 6, .inl (fun z9 => nI ((up pt hn v) z9))))] := by
  refine Ct.ofV RX1 rfl (by decide +kernel) rfl rfl rfl (Nat.le_of_ble_eq_true rfl) (List.forall_mem_cons.mpr ⟨rfl, (List.forall_mem_cons.mpr ⟨rfl, (List.forall_mem_cons.mpr ⟨rfl, (fun _ h9 => absurd h9 List.not_mem_nil)⟩)⟩)⟩) (fun x h hr => ?_)
  show vM x 0 [some (.ref h0), some (.int (nI k)), some (.int (nI v))] [] [(h0, .inr (1, [.int (nI hn), .ref h1, .ref h2])), (h1, .inl (gI g, 6, .inl (fun z9 => nI (kd z9)))), (h2, .inl (gI g, 6, .inl (fun z9 => nI (pt z9))))]
  refine v_aload_n0 h dX1_add_0 ?_
  refine v_get h mw_X1 0 rfl rfl 0 (by decide) mf_X1_9 rfl dX1_add_1 ?_
  refine v_bipush h (v := nI 6) dX1_add_4 (by decide) ?_
  refine v_icmp_ltN h dX1_add_6 (tgt := 12) (by decide) (by omega) (by omega) (fun c6 => ?_) (fun c6 => ?_)
  · refine v_aload_n0 h dX1_add_12 ?_
    refine v_get h mw_X1 0 rfl rfl 1 (by decide) mf_X1_15 rfl dX1_add_13 ?_
    refine v_aload_n0 h dX1_add_16 ?_
    refine v_get h mw_X1 0 rfl rfl 0 (by decide) mf_X1_9 rfl dX1_add_17 ?_
    refine v_iload_n1 h dX1_add_20 ?_
    refine v_iastN_at1 h (by omega) (Nat.le_of_ble_eq_true rfl) dX1_add_21 ?_
    refine v_aload_n0 h dX1_add_22 ?_
    refine v_get h mw_X1 0 rfl rfl 2 (by decide) mf_X1_19 rfl dX1_add_23 ?_
    refine v_aload_n0 h dX1_add_26 ?_
    refine v_get h mw_X1 0 rfl rfl 0 (by decide) mf_X1_9 rfl dX1_add_27 ?_
    refine v_iload_n2 h dX1_add_30 ?_
    refine v_iastN_at2 h (by omega) (Nat.le_of_ble_eq_true rfl) dX1_add_31 ?_
    refine v_aload_n0 h dX1_add_32 ?_
    refine v_dup h dX1_add_33 rfl ?_
    refine v_get h mw_X1 0 rfl rfl 0 (by decide) mf_X1_9 rfl dX1_add_34 ?_
    refine v_iconst h (v := nI 1) dX1_add_37 (by decide) ?_
    refine v_iaddN h dX1_add_38 ?_
    refine pf_X1_9_at0 h dX1_add_39 ?_
    refine v_aload_n0 h dX1_add_42 ?_
    refine v_get h mw_X1 0 rfl rfl 0 (by decide) mf_X1_9 rfl dX1_add_43 ?_
    refine v_iconst h (v := nI 1) dX1_add_46 (by decide) ?_
    refine v_isubN h dX1_add_47 (by omega) ?_
    exact v_iret h hr dX1_add_48 (by rw [Nat.add_sub_cancel]) rfl
  · omega
set_option maxRecDepth 20000 in
set_option maxHeartbeats 2000000 in
theorem c_X1_timesOf {g : vG} {h0 h1 h2 : Nat} {hn : Nat} {kd : Nat → Nat} {pt : Nat → Nat} {j : Nat} (hH : wfH hn kd pt) (hj : j < hn) : Ct g yX1_timesOf cX1_timesOf 2 (some .int) (rmOf 2 42) [(h0, .inr (1, [.int (nI hn), .ref h1, .ref h2])), (h1, .inl (gI g, 6, .inl (fun z9 => nI (kd z9)))), (h2, .inl (gI g, 6, .inl (fun z9 => nI (pt z9))))] [.ref h0, .int (nI j)] (some (.int (nI (times (kd j) (pt j))))) [(h0, .inr (1, [.int (nI hn), .ref h1, .ref h2])), (h1, .inl (gI g, 6, .inl (fun z9 => nI (kd z9)))), (h2, .inl (gI g, 6, .inl (fun z9 => nI (pt z9))))] := by
  refine Ct.ofV RX1 rfl (by decide +kernel) rfl rfl rfl (Nat.le_of_ble_eq_true rfl) (List.forall_mem_cons.mpr ⟨rfl, (List.forall_mem_cons.mpr ⟨rfl, (fun _ h9 => absurd h9 List.not_mem_nil)⟩)⟩) (fun x h hr => ?_)
  show vM x 0 [some (.ref h0), some (.int (nI j))] [] [(h0, .inr (1, [.int (nI hn), .ref h1, .ref h2])), (h1, .inl (gI g, 6, .inl (fun z9 => nI (kd z9)))), (h2, .inl (gI g, 6, .inl (fun z9 => nI (pt z9))))]
  have hh1 := hH.1; have hh2 := hH.2.1; have hh3 := hH.2.2.1; have hh4 := hH.2.2.2
  refine v_aload_n0 h dX1_timesOf_0 ?_
  refine v_iload_n1 h dX1_timesOf_1 ?_
  refine cw_V_0_1_2_1_i (ci := 1) h (c_X1_kindOf (g := g) (by first | assumption | omega) (by first | assumption | omega)) lk_X1_26 ⟨rfl, rfl, (Nat.le_of_ble_eq_true rfl), (Nat.le_of_ble_eq_true rfl)⟩ rfl rfl rfl (Nat.le_of_ble_eq_true rfl) dX1_timesOf_2 ?_
  refine v_if_neN h dX1_timesOf_5 (tgt := 16) (by decide) (by have := hh2 j; omega) (fun c5 => ?_) (fun c5 => ?_)
  · refine v_iconst h (v := nI 2) dX1_timesOf_16 (by decide) ?_
    refine v_aload_n0 h dX1_timesOf_17 ?_
    refine v_iload_n1 h dX1_timesOf_18 ?_
    refine cw_V_0_1_2_1_i (ci := 1) h (c_X1_partOf (g := g) (by first | assumption | omega) (by first | assumption | omega)) lk_X1_30 ⟨rfl, rfl, (Nat.le_of_ble_eq_true rfl), (Nat.le_of_ble_eq_true rfl)⟩ rfl rfl rfl (Nat.le_of_ble_eq_true rfl) dX1_timesOf_19 ?_
    refine v_imulN h dX1_timesOf_22 ?_
    exact v_iret h hr dX1_timesOf_23 (by first | rw [times, if_pos (by omega)] | rw [times, if_neg (by omega)]) rfl
  · refine v_aload_n0 h dX1_timesOf_8 ?_
    refine v_iload_n1 h dX1_timesOf_9 ?_
    refine cw_V_0_1_2_1_i (ci := 1) h (c_X1_partOf (g := g) (by first | assumption | omega) (by first | assumption | omega)) lk_X1_30 ⟨rfl, rfl, (Nat.le_of_ble_eq_true rfl), (Nat.le_of_ble_eq_true rfl)⟩ rfl rfl rfl (Nat.le_of_ble_eq_true rfl) dX1_timesOf_10 ?_
    refine v_goto h dX1_timesOf_13 (tgt := 23) (by decide) ?_
    exact v_iret h hr dX1_timesOf_23 (by first | rw [times, if_pos (by omega)] | rw [times, if_neg (by omega)]) rfl
set_option maxRecDepth 20000 in
set_option maxHeartbeats 2000000 in
theorem c_X1_feelsHeavier {g : vG} {h0 h1 h2 : Nat} {hn : Nat} {kd : Nat → Nat} {pt : Nat → Nat} {j : Nat} {a : Nat} {b : Nat} (hH : wfH hn kd pt) (hj : j < hn) (ha : a ≤ 9999) (hb : b ≤ 9999) : Ct g yX1_feelsHeavier cX1_feelsHeavier 5 (some .boolean) (rmOf 3 63) [(h0, .inr (1, [.int (nI hn), .ref h1, .ref h2])), (h1, .inl (gI g, 6, .inl (fun z9 => nI (kd z9)))), (h2, .inl (gI g, 6, .inl (fun z9 => nI (pt z9))))] [.ref h0, .int (nI j), .int (nI a), .int (nI b)] (some (.int (nI (bN (tls (kd j) (pt j) a b))))) [(h0, .inr (1, [.int (nI hn), .ref h1, .ref h2])), (h1, .inl (gI g, 6, .inl (fun z9 => nI (kd z9)))), (h2, .inl (gI g, 6, .inl (fun z9 => nI (pt z9))))] := by
  refine Ct.ofV RX1 rfl (by decide +kernel) rfl rfl rfl (Nat.le_of_ble_eq_true rfl) (List.forall_mem_cons.mpr ⟨rfl, (List.forall_mem_cons.mpr ⟨rfl, (List.forall_mem_cons.mpr ⟨rfl, (List.forall_mem_cons.mpr ⟨rfl, (fun _ h9 => absurd h9 List.not_mem_nil)⟩)⟩)⟩)⟩) (fun x h hr => ?_)
  show vM x 0 [some (.ref h0), some (.int (nI j)), some (.int (nI a)), some (.int (nI b)), none] [] [(h0, .inr (1, [.int (nI hn), .ref h1, .ref h2])), (h1, .inl (gI g, 6, .inl (fun z9 => nI (kd z9)))), (h2, .inl (gI g, 6, .inl (fun z9 => nI (pt z9))))]
  have hh1 := hH.1; have hh2 := hH.2.1; have hh3 := hH.2.2.1; have hh4 := hH.2.2.2
  refine v_iload_n2 h dX1_feelsHeavier_0 ?_
  refine v_iload_n3 h dX1_feelsHeavier_1 ?_
  refine v_icmp_gtN h dX1_feelsHeavier_2 (tgt := 7) (by decide) (by first | omega | (have := hh2 j; omega) | exact mulb (by omega) (Nat.le_trans (times_le (hh3 j)) (by decide))) (by first | omega | (have := hh2 j; omega) | exact mulb (by omega) (Nat.le_trans (times_le (hh3 j)) (by decide))) (fun c2 => ?_) (fun c2 => ?_)
  · refine v_iload_n2 h dX1_feelsHeavier_7 ?_
    refine v_iload_n3 h dX1_feelsHeavier_8 ?_
    refine v_isubN h dX1_feelsHeavier_9 (by omega) ?_
    refine v_aload_n0 h dX1_feelsHeavier_10 ?_
    refine v_iload_n1 h dX1_feelsHeavier_11 ?_
    refine cw_V_0_1_2_1_i (ci := 1) h (c_X1_timesOf (g := g) (by first | assumption | omega) (by first | assumption | omega)) lk_X1_33 ⟨rfl, rfl, (Nat.le_of_ble_eq_true rfl), (Nat.le_of_ble_eq_true rfl)⟩ rfl rfl rfl (Nat.le_of_ble_eq_true rfl) dX1_feelsHeavier_12 ?_
    refine v_imulN h dX1_feelsHeavier_15 ?_
    refine v_istore4 h (Nat.le_of_ble_eq_true rfl) dX1_feelsHeavier_16 ?_
    refine v_iload4 h dX1_feelsHeavier_18 ?_
    refine v_iload_n3 h dX1_feelsHeavier_20 ?_
    refine v_icmp_gtN h dX1_feelsHeavier_21 (tgt := 39) (by decide) (by first | omega | (have := hh2 j; omega) | exact mulb (by omega) (Nat.le_trans (times_le (hh3 j)) (by decide))) (by first | omega | (have := hh2 j; omega) | exact mulb (by omega) (Nat.le_trans (times_le (hh3 j)) (by decide))) (fun c21 => ?_) (fun c21 => ?_)
    · refine v_iconst h (v := nI 1) dX1_feelsHeavier_39 (by decide) ?_
      refine v_goto h dX1_feelsHeavier_40 (tgt := 44) (by decide) ?_
      exact v_zret (v := true) h hr dX1_feelsHeavier_44 (by first | exact (tls_iff.mpr (by omega)).symm | exact (tls_f (by omega)).symm) rfl
    · refine v_aload_n0 h dX1_feelsHeavier_24 ?_
      refine v_iload_n1 h dX1_feelsHeavier_25 ?_
      refine cw_V_0_1_2_1_i (ci := 1) h (c_X1_kindOf (g := g) (by first | assumption | omega) (by first | assumption | omega)) lk_X1_26 ⟨rfl, rfl, (Nat.le_of_ble_eq_true rfl), (Nat.le_of_ble_eq_true rfl)⟩ rfl rfl rfl (Nat.le_of_ble_eq_true rfl) dX1_feelsHeavier_26 ?_
      refine v_iconst h (v := nI 2) dX1_feelsHeavier_29 (by decide) ?_
      refine v_icmp_neN h dX1_feelsHeavier_30 (tgt := 43) (by decide) (by first | omega | (have := hh2 j; omega) | exact mulb (by omega) (Nat.le_trans (times_le (hh3 j)) (by decide))) (by first | omega | (have := hh2 j; omega) | exact mulb (by omega) (Nat.le_trans (times_le (hh3 j)) (by decide))) (fun c30 => ?_) (fun c30 => ?_)
      · refine v_iconst h (v := nI 0) dX1_feelsHeavier_43 (by decide) ?_
        exact v_zret (v := false) h hr dX1_feelsHeavier_44 (by first | exact (tls_iff.mpr (by omega)).symm | exact (tls_f (by omega)).symm) rfl
      · refine v_iload4 h dX1_feelsHeavier_33 ?_
        refine v_iload_n3 h dX1_feelsHeavier_35 ?_
        refine v_icmp_neN h dX1_feelsHeavier_36 (tgt := 43) (by decide) (by first | omega | (have := hh2 j; omega) | exact mulb (by omega) (Nat.le_trans (times_le (hh3 j)) (by decide))) (by first | omega | (have := hh2 j; omega) | exact mulb (by omega) (Nat.le_trans (times_le (hh3 j)) (by decide))) (fun c36 => ?_) (fun c36 => ?_)
        · refine v_iconst h (v := nI 0) dX1_feelsHeavier_43 (by decide) ?_
          exact v_zret (v := false) h hr dX1_feelsHeavier_44 (by first | exact (tls_iff.mpr (by omega)).symm | exact (tls_f (by omega)).symm) rfl
        · refine v_iconst h (v := nI 1) dX1_feelsHeavier_39 (by decide) ?_
          refine v_goto h dX1_feelsHeavier_40 (tgt := 44) (by decide) ?_
          exact v_zret (v := true) h hr dX1_feelsHeavier_44 (by first | exact (tls_iff.mpr (by omega)).symm | exact (tls_f (by omega)).symm) rfl
  · refine v_iconst h (v := nI 0) dX1_feelsHeavier_5 (by decide) ?_
    exact v_zret (v := false) h hr dX1_feelsHeavier_6 (by first | exact (tls_iff.mpr (by omega)).symm | exact (tls_f (by omega)).symm) rfl
set_option maxRecDepth 20000 in
set_option maxHeartbeats 2000000 in
theorem c_X1_feelsAlike {g : vG} {h0 h1 h2 : Nat} {hn : Nat} {kd : Nat → Nat} {pt : Nat → Nat} {j : Nat} {a : Nat} {b : Nat} (hH : wfH hn kd pt) (hj : j < hn) (ha : a ≤ 9999) (hb : b ≤ 9999) : Ct g yX1_feelsAlike cX1_feelsAlike 4 (some .boolean) (rmOf 4 87) [(h0, .inr (1, [.int (nI hn), .ref h1, .ref h2])), (h1, .inl (gI g, 6, .inl (fun z9 => nI (kd z9)))), (h2, .inl (gI g, 6, .inl (fun z9 => nI (pt z9))))] [.ref h0, .int (nI j), .int (nI a), .int (nI b)] (some (.int (nI (bN (alk (kd j) (pt j) a b))))) [(h0, .inr (1, [.int (nI hn), .ref h1, .ref h2])), (h1, .inl (gI g, 6, .inl (fun z9 => nI (kd z9)))), (h2, .inl (gI g, 6, .inl (fun z9 => nI (pt z9))))] := by
  refine Ct.ofV RX1 rfl (by decide +kernel) rfl rfl rfl (Nat.le_of_ble_eq_true rfl) (List.forall_mem_cons.mpr ⟨rfl, (List.forall_mem_cons.mpr ⟨rfl, (List.forall_mem_cons.mpr ⟨rfl, (List.forall_mem_cons.mpr ⟨rfl, (fun _ h9 => absurd h9 List.not_mem_nil)⟩)⟩)⟩)⟩) (fun x h hr => ?_)
  show vM x 0 [some (.ref h0), some (.int (nI j)), some (.int (nI a)), some (.int (nI b))] [] [(h0, .inr (1, [.int (nI hn), .ref h1, .ref h2])), (h1, .inl (gI g, 6, .inl (fun z9 => nI (kd z9)))), (h2, .inl (gI g, 6, .inl (fun z9 => nI (pt z9))))]
  refine v_aload_n0 h dX1_feelsAlike_0 ?_
  refine v_iload_n1 h dX1_feelsAlike_1 ?_
  refine v_iload_n2 h dX1_feelsAlike_2 ?_
  refine v_iload_n3 h dX1_feelsAlike_3 ?_
  refine cw_V_0_1_2_3_i (ci := 1) h (c_X1_feelsHeavier (g := g) (by first | assumption | omega) (by first | assumption | omega) (by first | assumption | omega) (by first | assumption | omega)) lk_X1_36 ⟨rfl, rfl, (Nat.le_of_ble_eq_true rfl), (Nat.le_of_ble_eq_true rfl)⟩ rfl rfl rfl (Nat.le_of_ble_eq_true rfl) dX1_feelsAlike_4 ?_
  refine v_if_neB h dX1_feelsAlike_7 (tgt := 24) (by decide) (fun c7 => ?_) (fun c7 => ?_)
  · refine v_iconst h (v := nI 0) dX1_feelsAlike_24 (by decide) ?_
    exact v_zret (v := false) h hr dX1_feelsAlike_25 (by first | exact (alk_t c7 c17).symm | exact (alk_f1 c7).symm | exact (alk_f2 c17).symm) rfl
  · refine v_aload_n0 h dX1_feelsAlike_10 ?_
    refine v_iload_n1 h dX1_feelsAlike_11 ?_
    refine v_iload_n3 h dX1_feelsAlike_12 ?_
    refine v_iload_n2 h dX1_feelsAlike_13 ?_
    refine cw_V_0_1_2_3_i (ci := 1) h (c_X1_feelsHeavier (g := g) (by first | assumption | omega) (by first | assumption | omega) (by first | assumption | omega) (by first | assumption | omega)) lk_X1_36 ⟨rfl, rfl, (Nat.le_of_ble_eq_true rfl), (Nat.le_of_ble_eq_true rfl)⟩ rfl rfl rfl (Nat.le_of_ble_eq_true rfl) dX1_feelsAlike_14 ?_
    refine v_if_neB h dX1_feelsAlike_17 (tgt := 24) (by decide) (fun c17 => ?_) (fun c17 => ?_)
    · refine v_iconst h (v := nI 0) dX1_feelsAlike_24 (by decide) ?_
      exact v_zret (v := false) h hr dX1_feelsAlike_25 (by first | exact (alk_t c7 c17).symm | exact (alk_f1 c7).symm | exact (alk_f2 c17).symm) rfl
    · refine v_iconst h (v := nI 1) dX1_feelsAlike_20 (by decide) ?_
      refine v_goto h dX1_feelsAlike_21 (tgt := 25) (by decide) ?_
      exact v_zret (v := true) h hr dX1_feelsAlike_25 (by first | exact (alk_t c7 c17).symm | exact (alk_f1 c7).symm | exact (alk_f2 c17).symm) rfl
end
