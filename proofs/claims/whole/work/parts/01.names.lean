-- ===== PART A: goes FIRST, ahead of the names: the tables' words, and 'selects' of the private methods out of them =====
/-- a private method of a class that the tables say can be made, by its rows of tables_1 -/
def lw_okq (q : MethodName × Nat) : Prop := (q.1.cls ≠ "java/lang/invoke/MethodHandle" ∧ q.1.cls ≠ "java/lang/invoke/VarHandle") ∧ Cond.instantiable q.1.cls q.2 ∈ tables_1 ∧ Cond.privateMethod q.1 ∈ tables_1 ∧ Cond.instanceMethod q.1 ∈ tables_1
theorem lw_p0 : lw_okq (⟨"ByHand", "faulty", "(I)I"⟩, 9) := ⟨⟨by decide +kernel, by decide +kernel⟩, List.mem_of_getElem? (i := 14) (by decide +kernel), List.mem_of_getElem? (i := 187) (by decide +kernel), List.mem_of_getElem? (i := 188) (by decide +kernel)⟩
theorem lw_p1 : lw_okq (⟨"ByHand$Hands", "timesOf", "(I)I"⟩, 3) := ⟨⟨by decide +kernel, by decide +kernel⟩, List.mem_of_getElem? (i := 36) (by decide +kernel), List.mem_of_getElem? (i := 287) (by decide +kernel), List.mem_of_getElem? (i := 288) (by decide +kernel)⟩
theorem lw_p2 : lw_okq (⟨"ByHand$Telling", "has", "(I)Z"⟩, 4) := ⟨⟨by decide +kernel, by decide +kernel⟩, List.mem_of_getElem? (i := 96) (by decide +kernel), List.mem_of_getElem? (i := 315) (by decide +kernel), List.mem_of_getElem? (i := 316) (by decide +kernel)⟩
theorem lw_p3 : lw_okq (⟨"ByHand$Telling", "alikeToAny", "(I)I"⟩, 4) := ⟨⟨by decide +kernel, by decide +kernel⟩, List.mem_of_getElem? (i := 96) (by decide +kernel), List.mem_of_getElem? (i := 343) (by decide +kernel), List.mem_of_getElem? (i := 344) (by decide +kernel)⟩
theorem lw_p4 : lw_okq (⟨"ByHand$Telling", "leastIn", "(I)I"⟩, 4) := ⟨⟨by decide +kernel, by decide +kernel⟩, List.mem_of_getElem? (i := 96) (by decide +kernel), List.mem_of_getElem? (i := 356) (by decide +kernel), List.mem_of_getElem? (i := 357) (by decide +kernel)⟩
theorem lw_p5 : lw_okq (⟨"ByHand", "swappedUp", "(I)I"⟩, 9) := ⟨⟨by decide +kernel, by decide +kernel⟩, List.mem_of_getElem? (i := 14) (by decide +kernel), List.mem_of_getElem? (i := 369) (by decide +kernel), List.mem_of_getElem? (i := 370) (by decide +kernel)⟩
theorem lw_p6 : lw_okq (⟨"ByHand$Sayings", "has", "(I)Z"⟩, 5) := ⟨⟨by decide +kernel, by decide +kernel⟩, List.mem_of_getElem? (i := 52) (by decide +kernel), List.mem_of_getElem? (i := 412) (by decide +kernel), List.mem_of_getElem? (i := 413) (by decide +kernel)⟩
theorem lw_p7 : lw_okq (⟨"ByHand", "falseByWeight", "(II)I"⟩, 9) := ⟨⟨by decide +kernel, by decide +kernel⟩, List.mem_of_getElem? (i := 14) (by decide +kernel), List.mem_of_getElem? (i := 430) (by decide +kernel), List.mem_of_getElem? (i := 431) (by decide +kernel)⟩
theorem lw_p8 : lw_okq (⟨"ByHand$Telling", "allThings", "()I"⟩, 4) := ⟨⟨by decide +kernel, by decide +kernel⟩, List.mem_of_getElem? (i := 96) (by decide +kernel), List.mem_of_getElem? (i := 446) (by decide +kernel), List.mem_of_getElem? (i := 447) (by decide +kernel)⟩
theorem lw_p9 : lw_okq (⟨"ByHand$Telling", "fittingBehind", "(I)I"⟩, 4) := ⟨⟨by decide +kernel, by decide +kernel⟩, List.mem_of_getElem? (i := 96) (by decide +kernel), List.mem_of_getElem? (i := 454) (by decide +kernel), List.mem_of_getElem? (i := 455) (by decide +kernel)⟩
theorem lw_p10 : lw_okq (⟨"ByHand$Telling", "heavierThanAny", "(I)I"⟩, 4) := ⟨⟨by decide +kernel, by decide +kernel⟩, List.mem_of_getElem? (i := 96) (by decide +kernel), List.mem_of_getElem? (i := 466) (by decide +kernel), List.mem_of_getElem? (i := 467) (by decide +kernel)⟩
theorem lw_p11 : lw_okq (⟨"ByHand$Telling", "areAllAlike", "(I)Z"⟩, 4) := ⟨⟨by decide +kernel, by decide +kernel⟩, List.mem_of_getElem? (i := 96) (by decide +kernel), List.mem_of_getElem? (i := 484) (by decide +kernel), List.mem_of_getElem? (i := 485) (by decide +kernel)⟩
theorem lw_p12 : lw_okq (⟨"ByHand", "takeHandRow", "(IIII)I"⟩, 9) := ⟨⟨by decide +kernel, by decide +kernel⟩, List.mem_of_getElem? (i := 14) (by decide +kernel), List.mem_of_getElem? (i := 500) (by decide +kernel), List.mem_of_getElem? (i := 501) (by decide +kernel)⟩
theorem lw_p13 : lw_okq (⟨"ByHand$HandRow", "inRow", "(I)I"⟩, 3) := ⟨⟨by decide +kernel, by decide +kernel⟩, List.mem_of_getElem? (i := 115) (by decide +kernel), List.mem_of_getElem? (i := 517) (by decide +kernel), List.mem_of_getElem? (i := 518) (by decide +kernel)⟩
theorem lw_p14 : lw_okq (⟨"ByHand$HandRow", "has", "(I)Z"⟩, 3) := ⟨⟨by decide +kernel, by decide +kernel⟩, List.mem_of_getElem? (i := 115) (by decide +kernel), List.mem_of_getElem? (i := 521) (by decide +kernel), List.mem_of_getElem? (i := 522) (by decide +kernel)⟩
theorem lw_p15 : lw_okq (⟨"ByHand$HandRow", "sortRow", "()V"⟩, 3) := ⟨⟨by decide +kernel, by decide +kernel⟩, List.mem_of_getElem? (i := 115) (by decide +kernel), List.mem_of_getElem? (i := 545) (by decide +kernel), List.mem_of_getElem? (i := 546) (by decide +kernel)⟩
def lw_privs_1 : List (MethodName × Nat) := [(⟨"ByHand", "faulty", "(I)I"⟩, 9), (⟨"ByHand$Hands", "timesOf", "(I)I"⟩, 3), (⟨"ByHand$Telling", "has", "(I)Z"⟩, 4), (⟨"ByHand$Telling", "alikeToAny", "(I)I"⟩, 4), (⟨"ByHand$Telling", "leastIn", "(I)I"⟩, 4), (⟨"ByHand", "swappedUp", "(I)I"⟩, 9), (⟨"ByHand$Sayings", "has", "(I)Z"⟩, 5), (⟨"ByHand", "falseByWeight", "(II)I"⟩, 9), (⟨"ByHand$Telling", "allThings", "()I"⟩, 4), (⟨"ByHand$Telling", "fittingBehind", "(I)I"⟩, 4), (⟨"ByHand$Telling", "heavierThanAny", "(I)I"⟩, 4), (⟨"ByHand$Telling", "areAllAlike", "(I)Z"⟩, 4), (⟨"ByHand", "takeHandRow", "(IIII)I"⟩, 9), (⟨"ByHand$HandRow", "inRow", "(I)I"⟩, 3), (⟨"ByHand$HandRow", "has", "(I)Z"⟩, 3), (⟨"ByHand$HandRow", "sortRow", "()V"⟩, 3)]
theorem lw_r1 : ∀ q ∈ lw_privs_1, lw_okq q := List.forall_mem_cons.mpr ⟨lw_p0, List.forall_mem_cons.mpr ⟨lw_p1, List.forall_mem_cons.mpr ⟨lw_p2, List.forall_mem_cons.mpr ⟨lw_p3, List.forall_mem_cons.mpr ⟨lw_p4, List.forall_mem_cons.mpr ⟨lw_p5, List.forall_mem_cons.mpr ⟨lw_p6, List.forall_mem_cons.mpr ⟨lw_p7, List.forall_mem_cons.mpr ⟨lw_p8, List.forall_mem_cons.mpr ⟨lw_p9, List.forall_mem_cons.mpr ⟨lw_p10, List.forall_mem_cons.mpr ⟨lw_p11, List.forall_mem_cons.mpr ⟨lw_p12, List.forall_mem_cons.mpr ⟨lw_p13, List.forall_mem_cons.mpr ⟨lw_p14, List.forall_mem_cons.mpr ⟨lw_p15, fun _ h => absurd h List.not_mem_nil⟩⟩⟩⟩⟩⟩⟩⟩⟩⟩⟩⟩⟩⟩⟩⟩
theorem lw_p16 : lw_okq (⟨"ByHand$HandRow", "exchange", "(II)V"⟩, 3) := ⟨⟨by decide +kernel, by decide +kernel⟩, List.mem_of_getElem? (i := 115) (by decide +kernel), List.mem_of_getElem? (i := 549) (by decide +kernel), List.mem_of_getElem? (i := 550) (by decide +kernel)⟩
theorem lw_p17 : lw_okq (⟨"ByHand$HandRow", "spread", "(LByHand$Hands;I)I"⟩, 3) := ⟨⟨by decide +kernel, by decide +kernel⟩, List.mem_of_getElem? (i := 115) (by decide +kernel), List.mem_of_getElem? (i := 553) (by decide +kernel), List.mem_of_getElem? (i := 554) (by decide +kernel)⟩
theorem lw_p18 : lw_okq (⟨"ByHand$HandRow", "keepAsBest", "()V"⟩, 3) := ⟨⟨by decide +kernel, by decide +kernel⟩, List.mem_of_getElem? (i := 115) (by decide +kernel), List.mem_of_getElem? (i := 559) (by decide +kernel), List.mem_of_getElem? (i := 560) (by decide +kernel)⟩
theorem lw_p19 : lw_okq (⟨"ByHand$HandRow", "toNextOrder", "()Z"⟩, 3) := ⟨⟨by decide +kernel, by decide +kernel⟩, List.mem_of_getElem? (i := 115) (by decide +kernel), List.mem_of_getElem? (i := 563) (by decide +kernel), List.mem_of_getElem? (i := 564) (by decide +kernel)⟩
theorem lw_p20 : lw_okq (⟨"ByHand", "smithBody", "(I)I"⟩, 9) := ⟨⟨by decide +kernel, by decide +kernel⟩, List.mem_of_getElem? (i := 14) (by decide +kernel), List.mem_of_getElem? (i := 642) (by decide +kernel), List.mem_of_getElem? (i := 643) (by decide +kernel)⟩
theorem lw_p21 : lw_okq (⟨"ByHand", "leaveTrace", "(I)V"⟩, 9) := ⟨⟨by decide +kernel, by decide +kernel⟩, List.mem_of_getElem? (i := 14) (by decide +kernel), List.mem_of_getElem? (i := 646) (by decide +kernel), List.mem_of_getElem? (i := 647) (by decide +kernel)⟩
theorem lw_p22 : lw_okq (⟨"ByHand", "steadyBody", "(I)I"⟩, 9) := ⟨⟨by decide +kernel, by decide +kernel⟩, List.mem_of_getElem? (i := 14) (by decide +kernel), List.mem_of_getElem? (i := 650) (by decide +kernel), List.mem_of_getElem? (i := 651) (by decide +kernel)⟩
theorem lw_p23 : lw_okq (⟨"ByHand", "handBody", "(I)I"⟩, 9) := ⟨⟨by decide +kernel, by decide +kernel⟩, List.mem_of_getElem? (i := 14) (by decide +kernel), List.mem_of_getElem? (i := 654) (by decide +kernel), List.mem_of_getElem? (i := 655) (by decide +kernel)⟩
theorem lw_p24 : lw_okq (⟨"ByHand", "smithsOwnBody", "()I"⟩, 9) := ⟨⟨by decide +kernel, by decide +kernel⟩, List.mem_of_getElem? (i := 14) (by decide +kernel), List.mem_of_getElem? (i := 662) (by decide +kernel), List.mem_of_getElem? (i := 663) (by decide +kernel)⟩
theorem lw_p25 : lw_okq (⟨"ByHand", "lentBody", "(I)I"⟩, 9) := ⟨⟨by decide +kernel, by decide +kernel⟩, List.mem_of_getElem? (i := 14) (by decide +kernel), List.mem_of_getElem? (i := 666) (by decide +kernel), List.mem_of_getElem? (i := 667) (by decide +kernel)⟩
theorem lw_p26 : lw_okq (⟨"ByHandModel", "against", "(IIII)I"⟩, 23) := ⟨⟨by decide +kernel, by decide +kernel⟩, List.mem_of_getElem? (i := 690) (by decide +kernel), List.mem_of_getElem? (i := 779) (by decide +kernel), List.mem_of_getElem? (i := 780) (by decide +kernel)⟩
theorem lw_p27 : lw_okq (⟨"ByHandModel", "fails", "(I)I"⟩, 23) := ⟨⟨by decide +kernel, by decide +kernel⟩, List.mem_of_getElem? (i := 690) (by decide +kernel), List.mem_of_getElem? (i := 783) (by decide +kernel), List.mem_of_getElem? (i := 784) (by decide +kernel)⟩
theorem lw_p28 : lw_okq (⟨"ByHandModel", "readMarket", "(I)Z"⟩, 23) := ⟨⟨by decide +kernel, by decide +kernel⟩, List.mem_of_getElem? (i := 690) (by decide +kernel), List.mem_of_getElem? (i := 787) (by decide +kernel), List.mem_of_getElem? (i := 788) (by decide +kernel)⟩
theorem lw_p29 : lw_okq (⟨"ByHandModel", "isThing", "(I)Z"⟩, 23) := ⟨⟨by decide +kernel, by decide +kernel⟩, List.mem_of_getElem? (i := 690) (by decide +kernel), List.mem_of_getElem? (i := 795) (by decide +kernel), List.mem_of_getElem? (i := 796) (by decide +kernel)⟩
theorem lw_p30 : lw_okq (⟨"ByHandModel", "isHand", "(I)Z"⟩, 23) := ⟨⟨by decide +kernel, by decide +kernel⟩, List.mem_of_getElem? (i := 690) (by decide +kernel), List.mem_of_getElem? (i := 814) (by decide +kernel), List.mem_of_getElem? (i := 815) (by decide +kernel)⟩
theorem lw_p31 : lw_okq (⟨"ByHandModel", "isTold", "(III)Z"⟩, 23) := ⟨⟨by decide +kernel, by decide +kernel⟩, List.mem_of_getElem? (i := 690) (by decide +kernel), List.mem_of_getElem? (i := 822) (by decide +kernel), List.mem_of_getElem? (i := 823) (by decide +kernel)⟩
def lw_privs_2 : List (MethodName × Nat) := [(⟨"ByHand$HandRow", "exchange", "(II)V"⟩, 3), (⟨"ByHand$HandRow", "spread", "(LByHand$Hands;I)I"⟩, 3), (⟨"ByHand$HandRow", "keepAsBest", "()V"⟩, 3), (⟨"ByHand$HandRow", "toNextOrder", "()Z"⟩, 3), (⟨"ByHand", "smithBody", "(I)I"⟩, 9), (⟨"ByHand", "leaveTrace", "(I)V"⟩, 9), (⟨"ByHand", "steadyBody", "(I)I"⟩, 9), (⟨"ByHand", "handBody", "(I)I"⟩, 9), (⟨"ByHand", "smithsOwnBody", "()I"⟩, 9), (⟨"ByHand", "lentBody", "(I)I"⟩, 9), (⟨"ByHandModel", "against", "(IIII)I"⟩, 23), (⟨"ByHandModel", "fails", "(I)I"⟩, 23), (⟨"ByHandModel", "readMarket", "(I)Z"⟩, 23), (⟨"ByHandModel", "isThing", "(I)Z"⟩, 23), (⟨"ByHandModel", "isHand", "(I)Z"⟩, 23), (⟨"ByHandModel", "isTold", "(III)Z"⟩, 23)]
theorem lw_r2 : ∀ q ∈ lw_privs_2, lw_okq q := List.forall_mem_cons.mpr ⟨lw_p16, List.forall_mem_cons.mpr ⟨lw_p17, List.forall_mem_cons.mpr ⟨lw_p18, List.forall_mem_cons.mpr ⟨lw_p19, List.forall_mem_cons.mpr ⟨lw_p20, List.forall_mem_cons.mpr ⟨lw_p21, List.forall_mem_cons.mpr ⟨lw_p22, List.forall_mem_cons.mpr ⟨lw_p23, List.forall_mem_cons.mpr ⟨lw_p24, List.forall_mem_cons.mpr ⟨lw_p25, List.forall_mem_cons.mpr ⟨lw_p26, List.forall_mem_cons.mpr ⟨lw_p27, List.forall_mem_cons.mpr ⟨lw_p28, List.forall_mem_cons.mpr ⟨lw_p29, List.forall_mem_cons.mpr ⟨lw_p30, List.forall_mem_cons.mpr ⟨lw_p31, fun _ h => absurd h List.not_mem_nil⟩⟩⟩⟩⟩⟩⟩⟩⟩⟩⟩⟩⟩⟩⟩⟩
theorem lw_p32 : lw_okq (⟨"ByHandModel", "times", "(I)I"⟩, 23) := ⟨⟨by decide +kernel, by decide +kernel⟩, List.mem_of_getElem? (i := 690) (by decide +kernel), List.mem_of_getElem? (i := 826) (by decide +kernel), List.mem_of_getElem? (i := 827) (by decide +kernel)⟩
theorem lw_p33 : lw_okq (⟨"ByHandModel", "alikeTo", "(II)I"⟩, 23) := ⟨⟨by decide +kernel, by decide +kernel⟩, List.mem_of_getElem? (i := 690) (by decide +kernel), List.mem_of_getElem? (i := 834) (by decide +kernel), List.mem_of_getElem? (i := 835) (by decide +kernel)⟩
theorem lw_p34 : lw_okq (⟨"ByHandModel", "areAlike", "(III)Z"⟩, 23) := ⟨⟨by decide +kernel, by decide +kernel⟩, List.mem_of_getElem? (i := 690) (by decide +kernel), List.mem_of_getElem? (i := 838) (by decide +kernel), List.mem_of_getElem? (i := 839) (by decide +kernel)⟩
theorem lw_p35 : lw_okq (⟨"ByHandModel", "tellsThem", "(III)Z"⟩, 23) := ⟨⟨by decide +kernel, by decide +kernel⟩, List.mem_of_getElem? (i := 690) (by decide +kernel), List.mem_of_getElem? (i := 842) (by decide +kernel), List.mem_of_getElem? (i := 843) (by decide +kernel)⟩
theorem lw_p36 : lw_okq (⟨"ByHandModel", "findFar", "(II)V"⟩, 23) := ⟨⟨by decide +kernel, by decide +kernel⟩, List.mem_of_getElem? (i := 690) (by decide +kernel), List.mem_of_getElem? (i := 854) (by decide +kernel), List.mem_of_getElem? (i := 855) (by decide +kernel)⟩
theorem lw_p37 : lw_okq (⟨"ByHandModel", "nextOf", "(II)I"⟩, 23) := ⟨⟨by decide +kernel, by decide +kernel⟩, List.mem_of_getElem? (i := 690) (by decide +kernel), List.mem_of_getElem? (i := 858) (by decide +kernel), List.mem_of_getElem? (i := 859) (by decide +kernel)⟩
theorem lw_p38 : lw_okq (⟨"ByHandModel", "isGot", "(IIII)Z"⟩, 23) := ⟨⟨by decide +kernel, by decide +kernel⟩, List.mem_of_getElem? (i := 690) (by decide +kernel), List.mem_of_getElem? (i := 870) (by decide +kernel), List.mem_of_getElem? (i := 871) (by decide +kernel)⟩
theorem lw_p39 : lw_okq (⟨"ByHandModel", "isSo", "(I)Z"⟩, 23) := ⟨⟨by decide +kernel, by decide +kernel⟩, List.mem_of_getElem? (i := 690) (by decide +kernel), List.mem_of_getElem? (i := 886) (by decide +kernel), List.mem_of_getElem? (i := 887) (by decide +kernel)⟩
theorem lw_p40 : lw_okq (⟨"ByHandModel", "falseOf", "(I)I"⟩, 23) := ⟨⟨by decide +kernel, by decide +kernel⟩, List.mem_of_getElem? (i := 690) (by decide +kernel), List.mem_of_getElem? (i := 894) (by decide +kernel), List.mem_of_getElem? (i := 895) (by decide +kernel)⟩
theorem lw_p41 : lw_okq (⟨"ByHandModel", "inFirstRow", "(II)I"⟩, 23) := ⟨⟨by decide +kernel, by decide +kernel⟩, List.mem_of_getElem? (i := 690) (by decide +kernel), List.mem_of_getElem? (i := 906) (by decide +kernel), List.mem_of_getElem? (i := 907) (by decide +kernel)⟩
theorem lw_p42 : lw_okq (⟨"ByHandModel", "mayStand", "(III)Z"⟩, 23) := ⟨⟨by decide +kernel, by decide +kernel⟩, List.mem_of_getElem? (i := 690) (by decide +kernel), List.mem_of_getElem? (i := 910) (by decide +kernel), List.mem_of_getElem? (i := 911) (by decide +kernel)⟩
theorem lw_p43 : lw_okq (⟨"ByHandModel", "isCrowd", "(II)Z"⟩, 23) := ⟨⟨by decide +kernel, by decide +kernel⟩, List.mem_of_getElem? (i := 690) (by decide +kernel), List.mem_of_getElem? (i := 925) (by decide +kernel), List.mem_of_getElem? (i := 926) (by decide +kernel)⟩
theorem lw_p44 : lw_okq (⟨"ByHandModel", "layRow", "(III)I"⟩, 23) := ⟨⟨by decide +kernel, by decide +kernel⟩, List.mem_of_getElem? (i := 690) (by decide +kernel), List.mem_of_getElem? (i := 937) (by decide +kernel), List.mem_of_getElem? (i := 938) (by decide +kernel)⟩
theorem lw_p45 : lw_okq (⟨"ByHandModel", "copied", "(III)I"⟩, 23) := ⟨⟨by decide +kernel, by decide +kernel⟩, List.mem_of_getElem? (i := 690) (by decide +kernel), List.mem_of_getElem? (i := 941) (by decide +kernel), List.mem_of_getElem? (i := 942) (by decide +kernel)⟩
theorem lw_p46 : lw_okq (⟨"ByHandModel", "greatest", "(II)I"⟩, 23) := ⟨⟨by decide +kernel, by decide +kernel⟩, List.mem_of_getElem? (i := 690) (by decide +kernel), List.mem_of_getElem? (i := 945) (by decide +kernel), List.mem_of_getElem? (i := 946) (by decide +kernel)⟩
theorem lw_p47 : lw_okq (⟨"ByHandModel", "least", "(II)I"⟩, 23) := ⟨⟨by decide +kernel, by decide +kernel⟩, List.mem_of_getElem? (i := 690) (by decide +kernel), List.mem_of_getElem? (i := 949) (by decide +kernel), List.mem_of_getElem? (i := 950) (by decide +kernel)⟩
def lw_privs_3 : List (MethodName × Nat) := [(⟨"ByHandModel", "times", "(I)I"⟩, 23), (⟨"ByHandModel", "alikeTo", "(II)I"⟩, 23), (⟨"ByHandModel", "areAlike", "(III)Z"⟩, 23), (⟨"ByHandModel", "tellsThem", "(III)Z"⟩, 23), (⟨"ByHandModel", "findFar", "(II)V"⟩, 23), (⟨"ByHandModel", "nextOf", "(II)I"⟩, 23), (⟨"ByHandModel", "isGot", "(IIII)Z"⟩, 23), (⟨"ByHandModel", "isSo", "(I)Z"⟩, 23), (⟨"ByHandModel", "falseOf", "(I)I"⟩, 23), (⟨"ByHandModel", "inFirstRow", "(II)I"⟩, 23), (⟨"ByHandModel", "mayStand", "(III)Z"⟩, 23), (⟨"ByHandModel", "isCrowd", "(II)Z"⟩, 23), (⟨"ByHandModel", "layRow", "(III)I"⟩, 23), (⟨"ByHandModel", "copied", "(III)I"⟩, 23), (⟨"ByHandModel", "greatest", "(II)I"⟩, 23), (⟨"ByHandModel", "least", "(II)I"⟩, 23)]
theorem lw_r3 : ∀ q ∈ lw_privs_3, lw_okq q := List.forall_mem_cons.mpr ⟨lw_p32, List.forall_mem_cons.mpr ⟨lw_p33, List.forall_mem_cons.mpr ⟨lw_p34, List.forall_mem_cons.mpr ⟨lw_p35, List.forall_mem_cons.mpr ⟨lw_p36, List.forall_mem_cons.mpr ⟨lw_p37, List.forall_mem_cons.mpr ⟨lw_p38, List.forall_mem_cons.mpr ⟨lw_p39, List.forall_mem_cons.mpr ⟨lw_p40, List.forall_mem_cons.mpr ⟨lw_p41, List.forall_mem_cons.mpr ⟨lw_p42, List.forall_mem_cons.mpr ⟨lw_p43, List.forall_mem_cons.mpr ⟨lw_p44, List.forall_mem_cons.mpr ⟨lw_p45, List.forall_mem_cons.mpr ⟨lw_p46, List.forall_mem_cons.mpr ⟨lw_p47, fun _ h => absurd h List.not_mem_nil⟩⟩⟩⟩⟩⟩⟩⟩⟩⟩⟩⟩⟩⟩⟩⟩
theorem lw_p48 : lw_okq (⟨"ByHandModel", "findBestRow", "(II)I"⟩, 23) := ⟨⟨by decide +kernel, by decide +kernel⟩, List.mem_of_getElem? (i := 690) (by decide +kernel), List.mem_of_getElem? (i := 957) (by decide +kernel), List.mem_of_getElem? (i := 958) (by decide +kernel)⟩
theorem lw_p49 : lw_okq (⟨"ByHandModel", "exchange", "(II)V"⟩, 23) := ⟨⟨by decide +kernel, by decide +kernel⟩, List.mem_of_getElem? (i := 690) (by decide +kernel), List.mem_of_getElem? (i := 961) (by decide +kernel), List.mem_of_getElem? (i := 962) (by decide +kernel)⟩
theorem lw_p50 : lw_okq (⟨"ByHandModel", "nextRow", "(I)Z"⟩, 23) := ⟨⟨by decide +kernel, by decide +kernel⟩, List.mem_of_getElem? (i := 690) (by decide +kernel), List.mem_of_getElem? (i := 965) (by decide +kernel), List.mem_of_getElem? (i := 966) (by decide +kernel)⟩
theorem lw_p51 : lw_okq (⟨"ByHandModel", "areEven", "(III)Z"⟩, 23) := ⟨⟨by decide +kernel, by decide +kernel⟩, List.mem_of_getElem? (i := 690) (by decide +kernel), List.mem_of_getElem? (i := 973) (by decide +kernel), List.mem_of_getElem? (i := 974) (by decide +kernel)⟩
theorem lw_p52 : lw_okq (⟨"ByHandModel", "sumOf", "(I)I"⟩, 23) := ⟨⟨by decide +kernel, by decide +kernel⟩, List.mem_of_getElem? (i := 690) (by decide +kernel), List.mem_of_getElem? (i := 977) (by decide +kernel), List.mem_of_getElem? (i := 978) (by decide +kernel)⟩
theorem lw_p53 : lw_okq (⟨"ByHandModel", "lost", "(I)J"⟩, 23) := ⟨⟨by decide +kernel, by decide +kernel⟩, List.mem_of_getElem? (i := 690) (by decide +kernel), List.mem_of_getElem? (i := 1005) (by decide +kernel), List.mem_of_getElem? (i := 1006) (by decide +kernel)⟩
theorem lw_p54 : lw_okq (⟨"ByHandModel", "begins", "(I)V"⟩, 23) := ⟨⟨by decide +kernel, by decide +kernel⟩, List.mem_of_getElem? (i := 690) (by decide +kernel), List.mem_of_getElem? (i := 1017) (by decide +kernel), List.mem_of_getElem? (i := 1018) (by decide +kernel)⟩
def lw_privs_4 : List (MethodName × Nat) := [(⟨"ByHandModel", "findBestRow", "(II)I"⟩, 23), (⟨"ByHandModel", "exchange", "(II)V"⟩, 23), (⟨"ByHandModel", "nextRow", "(I)Z"⟩, 23), (⟨"ByHandModel", "areEven", "(III)Z"⟩, 23), (⟨"ByHandModel", "sumOf", "(I)I"⟩, 23), (⟨"ByHandModel", "lost", "(I)J"⟩, 23), (⟨"ByHandModel", "begins", "(I)V"⟩, 23)]
theorem lw_r4 : ∀ q ∈ lw_privs_4, lw_okq q := List.forall_mem_cons.mpr ⟨lw_p48, List.forall_mem_cons.mpr ⟨lw_p49, List.forall_mem_cons.mpr ⟨lw_p50, List.forall_mem_cons.mpr ⟨lw_p51, List.forall_mem_cons.mpr ⟨lw_p52, List.forall_mem_cons.mpr ⟨lw_p53, List.forall_mem_cons.mpr ⟨lw_p54, fun _ h => absurd h List.not_mem_nil⟩⟩⟩⟩⟩⟩⟩
def lw_privs : List (MethodName × Nat) := lw_privs_1 ++ (lw_privs_2 ++ (lw_privs_3 ++ (lw_privs_4)))
def lw_tbl : List Cond := k2_sels lw_privs ++ tables_1
theorem lw_privs_ok : ∀ q ∈ lw_privs, lw_okq q := by
  show ∀ q ∈ lw_privs_1 ++ (lw_privs_2 ++ (lw_privs_3 ++ (lw_privs_4))), lw_okq q
  exact List.forall_mem_append.mpr ⟨lw_r1, List.forall_mem_append.mpr ⟨lw_r2, List.forall_mem_append.mpr ⟨lw_r3, lw_r4⟩⟩⟩
-- ===== end of PART A; then your names; then what follows =====
def RX0 : String := "ByHand$HandRow"
def TX0 : u_T := fun k => match k with
  | 0 => ("ByHand$HandRow", "count", "I", false)
  | 1 => ("ByHand$HandRow", "row", "[I", true)
  | _ => ("ByHand$HandRow", "best", "[I", true)
def tyX0 : Nat → FieldType := fun k => match k with
  | 0 => .int
  | 1 => .array .int
  | _ => .array .int
theorem nmX0 : ∀ a, a < 3 → ∀ b, b < 3 → a ≠ b → (TX0 a).2.1 ≠ (TX0 b).2.1 := by decide +kernel
theorem tyX0_ok : ∀ k, k < 3 → parseFieldDescriptor (TX0 k).2.2.1 = some (tyX0 k) := by decide +kernel
abbrev cX0_init : ByteArray := prog_2_method_1_code
def yX0_init : MethodName := ⟨RX0, "<init>", "()V"⟩
abbrev cX0_clear : ByteArray := prog_2_method_2_code
def yX0_clear : MethodName := ⟨RX0, "clear", "()V"⟩
abbrev cX0_add : ByteArray := prog_2_method_3_code
def yX0_add : MethodName := ⟨RX0, "add", "(I)V"⟩
abbrev cX0_has : ByteArray := prog_2_method_4_code
def yX0_has : MethodName := ⟨RX0, "has", "(I)Z"⟩
abbrev cX0_inRow : ByteArray := prog_2_method_5_code
def yX0_inRow : MethodName := ⟨RX0, "inRow", "(I)I"⟩
abbrev cX0_inBest : ByteArray := prog_2_method_6_code
def yX0_inBest : MethodName := ⟨RX0, "inBest", "(I)I"⟩
abbrev cX0_greatestCopy : ByteArray := prog_2_method_7_code
def yX0_greatestCopy : MethodName := ⟨RX0, "greatestCopy", "(LByHand$Hands;I)I"⟩
abbrev cX0_leastCopy : ByteArray := prog_2_method_8_code
def yX0_leastCopy : MethodName := ⟨RX0, "leastCopy", "(LByHand$Hands;I)I"⟩
abbrev cX0_spread : ByteArray := prog_2_method_9_code
def yX0_spread : MethodName := ⟨RX0, "spread", "(LByHand$Hands;I)I"⟩
abbrev cX0_findBest : ByteArray := prog_2_method_10_code
def yX0_findBest : MethodName := ⟨RX0, "findBest", "(LByHand$Hands;I)I"⟩
abbrev cX0_keepAsBest : ByteArray := prog_2_method_11_code
def yX0_keepAsBest : MethodName := ⟨RX0, "keepAsBest", "()V"⟩
abbrev cX0_sortRow : ByteArray := prog_2_method_12_code
def yX0_sortRow : MethodName := ⟨RX0, "sortRow", "()V"⟩
abbrev cX0_toNextOrder : ByteArray := prog_2_method_13_code
def yX0_toNextOrder : MethodName := ⟨RX0, "toNextOrder", "()Z"⟩
abbrev cX0_exchange : ByteArray := prog_2_method_14_code
def yX0_exchange : MethodName := ⟨RX0, "exchange", "(II)V"⟩
def RX1 : String := "ByHand$Hands"
def TX1 : u_T := fun k => match k with
  | 0 => ("ByHand$Hands", "count", "I", false)
  | 1 => ("ByHand$Hands", "kinds", "[I", true)
  | _ => ("ByHand$Hands", "parts", "[I", true)
def tyX1 : Nat → FieldType := fun k => match k with
  | 0 => .int
  | 1 => .array .int
  | _ => .array .int
theorem nmX1 : ∀ a, a < 3 → ∀ b, b < 3 → a ≠ b → (TX1 a).2.1 ≠ (TX1 b).2.1 := by decide +kernel
theorem tyX1_ok : ∀ k, k < 3 → parseFieldDescriptor (TX1 k).2.2.1 = some (tyX1 k) := by decide +kernel
abbrev cX1_init : ByteArray := prog_3_method_1_code
def yX1_init : MethodName := ⟨RX1, "<init>", "()V"⟩
abbrev cX1_count : ByteArray := prog_3_method_2_code
def yX1_count : MethodName := ⟨RX1, "count", "()I"⟩
abbrev cX1_has : ByteArray := prog_3_method_3_code
def yX1_has : MethodName := ⟨RX1, "has", "(I)Z"⟩
abbrev cX1_kindOf : ByteArray := prog_3_method_4_code
def yX1_kindOf : MethodName := ⟨RX1, "kindOf", "(I)I"⟩
abbrev cX1_partOf : ByteArray := prog_3_method_5_code
def yX1_partOf : MethodName := ⟨RX1, "partOf", "(I)I"⟩
abbrev cX1_clear : ByteArray := prog_3_method_6_code
def yX1_clear : MethodName := ⟨RX1, "clear", "()V"⟩
abbrev cX1_add : ByteArray := prog_3_method_7_code
def yX1_add : MethodName := ⟨RX1, "add", "(II)I"⟩
abbrev cX1_timesOf : ByteArray := prog_3_method_8_code
def yX1_timesOf : MethodName := ⟨RX1, "timesOf", "(I)I"⟩
abbrev cX1_feelsHeavier : ByteArray := prog_3_method_9_code
def yX1_feelsHeavier : MethodName := ⟨RX1, "feelsHeavier", "(III)Z"⟩
abbrev cX1_feelsAlike : ByteArray := prog_3_method_10_code
def yX1_feelsAlike : MethodName := ⟨RX1, "feelsAlike", "(III)Z"⟩
abbrev cX1_greatestUntold : ByteArray := prog_3_method_11_code
def yX1_greatestUntold : MethodName := ⟨RX1, "greatestUntold", "(II)I"⟩
abbrev cX1_leastUntold : ByteArray := prog_3_method_12_code
def yX1_leastUntold : MethodName := ⟨RX1, "leastUntold", "(II)I"⟩
def RX2 : String := "ByHand$Sayings"
def TX2 : u_T := fun k => match k with
  | 0 => ("ByHand$Sayings", "count", "I", false)
  | 1 => ("ByHand$Sayings", "sayers", "[I", true)
  | 2 => ("ByHand$Sayings", "firsts", "[I", true)
  | 3 => ("ByHand$Sayings", "seconds", "[I", true)
  | _ => ("ByHand$Sayings", "words", "[I", true)
def tyX2 : Nat → FieldType := fun k => match k with
  | 0 => .int
  | 1 => .array .int
  | 2 => .array .int
  | 3 => .array .int
  | _ => .array .int
theorem nmX2 : ∀ a, a < 5 → ∀ b, b < 5 → a ≠ b → (TX2 a).2.1 ≠ (TX2 b).2.1 := by decide +kernel
theorem tyX2_ok : ∀ k, k < 5 → parseFieldDescriptor (TX2 k).2.2.1 = some (tyX2 k) := by decide +kernel
abbrev cX2_init : ByteArray := prog_4_method_1_code
def yX2_init : MethodName := ⟨RX2, "<init>", "()V"⟩
abbrev cX2_count : ByteArray := prog_4_method_2_code
def yX2_count : MethodName := ⟨RX2, "count", "()I"⟩
abbrev cX2_has : ByteArray := prog_4_method_3_code
def yX2_has : MethodName := ⟨RX2, "has", "(I)Z"⟩
abbrev cX2_firstOf : ByteArray := prog_4_method_4_code
def yX2_firstOf : MethodName := ⟨RX2, "firstOf", "(I)I"⟩
abbrev cX2_secondOf : ByteArray := prog_4_method_5_code
def yX2_secondOf : MethodName := ⟨RX2, "secondOf", "(I)I"⟩
abbrev cX2_clear : ByteArray := prog_4_method_6_code
def yX2_clear : MethodName := ⟨RX2, "clear", "()V"⟩
abbrev cX2_add : ByteArray := prog_4_method_7_code
def yX2_add : MethodName := ⟨RX2, "add", "(IIII)I"⟩
abbrev cX2_takeBack : ByteArray := prog_4_method_8_code
def yX2_takeBack : MethodName := ⟨RX2, "takeBack", "(I)I"⟩
abbrev cX2_isFalse : ByteArray := prog_4_method_9_code
def yX2_isFalse : MethodName := ⟨RX2, "isFalse", "(ILByHand$Hands;II)Z"⟩
def RX3 : String := "ByHand$Sheets"
def TX3 : u_T := fun k => match k with
  | 0 => ("ByHand$Sheets", "filled", "[Z", true)
  | 1 => ("ByHand$Sheets", "sorts", "[I", true)
  | 2 => ("ByHand$Sheets", "lengths", "[I", true)
  | _ => ("ByHand$Sheets", "cells", "[[I", true)
def tyX3 : Nat → FieldType := fun k => match k with
  | 0 => .array .boolean
  | 1 => .array .int
  | 2 => .array .int
  | _ => .array (.array .int)
theorem nmX3 : ∀ a, a < 4 → ∀ b, b < 4 → a ≠ b → (TX3 a).2.1 ≠ (TX3 b).2.1 := by decide +kernel
theorem tyX3_ok : ∀ k, k < 4 → parseFieldDescriptor (TX3 k).2.2.1 = some (tyX3 k) := by decide +kernel
abbrev cX3_init : ByteArray := prog_5_method_1_code
def yX3_init : MethodName := ⟨RX3, "<init>", "()V"⟩
abbrev cX3_has : ByteArray := prog_5_method_2_code
def yX3_has : MethodName := ⟨RX3, "has", "(I)Z"⟩
abbrev cX3_hasRow : ByteArray := prog_5_method_3_code
def yX3_hasRow : MethodName := ⟨RX3, "hasRow", "(I)Z"⟩
abbrev cX3_sortOf : ByteArray := prog_5_method_4_code
def yX3_sortOf : MethodName := ⟨RX3, "sortOf", "(I)I"⟩
abbrev cX3_hasCells : ByteArray := prog_5_method_5_code
def yX3_hasCells : MethodName := ⟨RX3, "hasCells", "(III)Z"⟩
abbrev cX3_faultOfTaking : ByteArray := prog_5_method_6_code
def yX3_faultOfTaking : MethodName := ⟨RX3, "faultOfTaking", "(IIII)I"⟩
abbrev cX3_renew : ByteArray := prog_5_method_7_code
def yX3_renew : MethodName := ⟨RX3, "renew", "(III)V"⟩
abbrev cX3_empty : ByteArray := prog_5_method_8_code
def yX3_empty : MethodName := ⟨RX3, "empty", "(I)Z"⟩
abbrev cX3_cellOf : ByteArray := prog_5_method_9_code
def yX3_cellOf : MethodName := ⟨RX3, "cellOf", "(II)I"⟩
abbrev cX3_setCell : ByteArray := prog_5_method_10_code
def yX3_setCell : MethodName := ⟨RX3, "setCell", "(III)V"⟩
abbrev cX3_cut : ByteArray := prog_5_method_11_code
def yX3_cut : MethodName := ⟨RX3, "cut", "(II)I"⟩
abbrev cX3_copyCells : ByteArray := prog_5_method_12_code
def yX3_copyCells : MethodName := ⟨RX3, "copyCells", "(IIIII)V"⟩
def RX4 : String := "ByHand$Telling"
def TX4 : u_T := fun k => match k with
  | 0 => ("ByHand$Telling", "count", "I", false)
  | 1 => ("ByHand$Telling", "lighter", "[I", true)
  | 2 => ("ByHand$Telling", "alikes", "[I", true)
  | _ => ("ByHand$Telling", "orders", "[I", true)
def tyX4 : Nat → FieldType := fun k => match k with
  | 0 => .int
  | 1 => .array .int
  | 2 => .array .int
  | _ => .array .int
theorem nmX4 : ∀ a, a < 4 → ∀ b, b < 4 → a ≠ b → (TX4 a).2.1 ≠ (TX4 b).2.1 := by decide +kernel
theorem tyX4_ok : ∀ k, k < 4 → parseFieldDescriptor (TX4 k).2.2.1 = some (tyX4 k) := by decide +kernel
abbrev cX4_init : ByteArray := prog_6_method_1_code
def yX4_init : MethodName := ⟨RX4, "<init>", "()V"⟩
abbrev cX4_lay : ByteArray := prog_6_method_2_code
def yX4_lay : MethodName := ⟨RX4, "lay", "(LByHand$Hands;ILByHand$Things;)V"⟩
abbrev cX4_has : ByteArray := prog_6_method_3_code
def yX4_has : MethodName := ⟨RX4, "has", "(I)Z"⟩
abbrev cX4_alikeTo : ByteArray := prog_6_method_4_code
def yX4_alikeTo : MethodName := ⟨RX4, "alikeTo", "(I)I"⟩
abbrev cX4_lighterThan : ByteArray := prog_6_method_5_code
def yX4_lighterThan : MethodName := ⟨RX4, "lighterThan", "(I)I"⟩
abbrev cX4_othersAlikeTo : ByteArray := prog_6_method_6_code
def yX4_othersAlikeTo : MethodName := ⟨RX4, "othersAlikeTo", "(I)I"⟩
abbrev cX4_allThings : ByteArray := prog_6_method_7_code
def yX4_allThings : MethodName := ⟨RX4, "allThings", "()I"⟩
abbrev cX4_isFinerThan : ByteArray := prog_6_method_8_code
def yX4_isFinerThan : MethodName := ⟨RX4, "isFinerThan", "(LByHand$Telling;)Z"⟩
abbrev cX4_within : ByteArray := prog_6_method_9_code
def yX4_within : MethodName := ⟨RX4, "within", "(II)I"⟩
abbrev cX4_alikeToAny : ByteArray := prog_6_method_10_code
def yX4_alikeToAny : MethodName := ⟨RX4, "alikeToAny", "(I)I"⟩
abbrev cX4_fewestSwaps : ByteArray := prog_6_method_11_code
def yX4_fewestSwaps : MethodName := ⟨RX4, "fewestSwaps", "(II)I"⟩
abbrev cX4_behindSwaps : ByteArray := prog_6_method_12_code
def yX4_behindSwaps : MethodName := ⟨RX4, "behindSwaps", "(III)I"⟩
abbrev cX4_leastIn : ByteArray := prog_6_method_13_code
def yX4_leastIn : MethodName := ⟨RX4, "leastIn", "(I)I"⟩
abbrev cX4_countOrders : ByteArray := prog_6_method_14_code
def yX4_countOrders : MethodName := ⟨RX4, "countOrders", "()I"⟩
abbrev cX4_placeInFirstOrder : ByteArray := prog_6_method_15_code
def yX4_placeInFirstOrder : MethodName := ⟨RX4, "placeInFirstOrder", "(I)I"⟩
abbrev cX4_fittingBehind : ByteArray := prog_6_method_16_code
def yX4_fittingBehind : MethodName := ⟨RX4, "fittingBehind", "(I)I"⟩
abbrev cX4_longestChain : ByteArray := prog_6_method_17_code
def yX4_longestChain : MethodName := ⟨RX4, "longestChain", "()I"⟩
abbrev cX4_heavierThanAny : ByteArray := prog_6_method_18_code
def yX4_heavierThanAny : MethodName := ⟨RX4, "heavierThanAny", "(I)I"⟩
abbrev cX4_greatestCrowd : ByteArray := prog_6_method_19_code
def yX4_greatestCrowd : MethodName := ⟨RX4, "greatestCrowd", "()I"⟩
abbrev cX4_areAllAlike : ByteArray := prog_6_method_20_code
def yX4_areAllAlike : MethodName := ⟨RX4, "areAllAlike", "(I)Z"⟩
abbrev cX4_countTold : ByteArray := prog_6_method_21_code
def yX4_countTold : MethodName := ⟨RX4, "countTold", "()I"⟩
def RX5 : String := "ByHand$Text"
def TX5 : u_T := fun k => match k with
  | _ => ("", "", "", false)
def tyX5 : Nat → FieldType := fun k => match k with
  | _ => .int
theorem nmX5 : ∀ a, a < 0 → ∀ b, b < 0 → a ≠ b → (TX5 a).2.1 ≠ (TX5 b).2.1 := by decide +kernel
theorem tyX5_ok : ∀ k, k < 0 → parseFieldDescriptor (TX5 k).2.2.1 = some (tyX5 k) := by decide +kernel
abbrev cX5_firstFault : ByteArray := prog_7_method_2_code
def yX5_firstFault : MethodName := ⟨RX5, "firstFault", "(LByHand$Sheets;III)I"⟩
abbrev cX5_goesOn : ByteArray := prog_7_method_3_code
def yX5_goesOn : MethodName := ⟨RX5, "goesOn", "(LByHand$Sheets;III)Z"⟩
abbrev cX5_read : ByteArray := prog_7_method_4_code
def yX5_read : MethodName := ⟨RX5, "read", "(LByHand$Sheets;IIILByHand$Things;)V"⟩
abbrev cX5_number : ByteArray := prog_7_method_5_code
def yX5_number : MethodName := ⟨RX5, "number", "(LByHand$Sheets;II)I"⟩
def RX6 : String := "ByHand$Things"
def TX6 : u_T := fun k => match k with
  | 0 => ("ByHand$Things", "count", "I", false)
  | _ => ("ByHand$Things", "weights", "[I", true)
def tyX6 : Nat → FieldType := fun k => match k with
  | 0 => .int
  | _ => .array .int
theorem nmX6 : ∀ a, a < 2 → ∀ b, b < 2 → a ≠ b → (TX6 a).2.1 ≠ (TX6 b).2.1 := by decide +kernel
theorem tyX6_ok : ∀ k, k < 2 → parseFieldDescriptor (TX6 k).2.2.1 = some (tyX6 k) := by decide +kernel
abbrev cX6_init : ByteArray := prog_8_method_1_code
def yX6_init : MethodName := ⟨RX6, "<init>", "()V"⟩
abbrev cX6_count : ByteArray := prog_8_method_2_code
def yX6_count : MethodName := ⟨RX6, "count", "()I"⟩
abbrev cX6_has : ByteArray := prog_8_method_3_code
def yX6_has : MethodName := ⟨RX6, "has", "(I)Z"⟩
abbrev cX6_weightOf : ByteArray := prog_8_method_4_code
def yX6_weightOf : MethodName := ⟨RX6, "weightOf", "(I)I"⟩
abbrev cX6_setWeight : ByteArray := prog_8_method_5_code
def yX6_setWeight : MethodName := ⟨RX6, "setWeight", "(II)V"⟩
abbrev cX6_clear : ByteArray := prog_8_method_6_code
def yX6_clear : MethodName := ⟨RX6, "clear", "()V"⟩
abbrev cX6_add : ByteArray := prog_8_method_7_code
def yX6_add : MethodName := ⟨RX6, "add", "(I)V"⟩
abbrev cX6_weightTogether : ByteArray := prog_8_method_8_code
def yX6_weightTogether : MethodName := ⟨RX6, "weightTogether", "(I)I"⟩
abbrev cX6_greatestOf : ByteArray := prog_8_method_9_code
def yX6_greatestOf : MethodName := ⟨RX6, "greatestOf", "(I)I"⟩
def RX7 : String := "ByHand"
def TX7 : u_T := fun k => match k with
  | 0 => ("ByHand", "things", "LByHand$Things;", true)
  | 1 => ("ByHand", "hands", "LByHand$Hands;", true)
  | 2 => ("ByHand", "sayings", "LByHand$Sayings;", true)
  | 3 => ("ByHand", "sheets", "LByHand$Sheets;", true)
  | 4 => ("ByHand", "telling", "LByHand$Telling;", true)
  | 5 => ("ByHand", "otherTelling", "LByHand$Telling;", true)
  | 6 => ("ByHand", "handRow", "LByHand$HandRow;", true)
  | 7 => ("ByHand", "traceLeft", "I", false)
  | _ => ("ByHand", "latestFault", "I", false)
def tyX7 : Nat → FieldType := fun k => match k with
  | 0 => .object "ByHand$Things"
  | 1 => .object "ByHand$Hands"
  | 2 => .object "ByHand$Sayings"
  | 3 => .object "ByHand$Sheets"
  | 4 => .object "ByHand$Telling"
  | 5 => .object "ByHand$Telling"
  | 6 => .object "ByHand$HandRow"
  | 7 => .int
  | _ => .int
theorem nmX7 : ∀ a, a < 9 → ∀ b, b < 9 → a ≠ b → (TX7 a).2.1 ≠ (TX7 b).2.1 := by decide +kernel
theorem tyX7_ok : ∀ k, k < 9 → parseFieldDescriptor (TX7 k).2.2.1 = some (tyX7 k) := by decide +kernel
abbrev cX7_init : ByteArray := prog_1_method_1_code
def yX7_init : MethodName := ⟨RX7, "<init>", "()V"⟩
abbrev cX7_market : ByteArray := prog_1_method_2_code
def yX7_market : MethodName := ⟨RX7, "market", "(IIII)I"⟩
abbrev cX7_weight : ByteArray := prog_1_method_3_code
def yX7_weight : MethodName := ⟨RX7, "weight", "(I)I"⟩
abbrev cX7_weigh : ByteArray := prog_1_method_4_code
def yX7_weigh : MethodName := ⟨RX7, "weigh", "(II)I"⟩
abbrev cX7_hand : ByteArray := prog_1_method_5_code
def yX7_hand : MethodName := ⟨RX7, "hand", "(II)I"⟩
abbrev cX7_ofHand : ByteArray := prog_1_method_6_code
def yX7_ofHand : MethodName := ⟨RX7, "ofHand", "(II)I"⟩
abbrev cX7_tells : ByteArray := prog_1_method_7_code
def yX7_tells : MethodName := ⟨RX7, "tells", "(III)I"⟩
abbrev cX7_alike : ByteArray := prog_1_method_8_code
def yX7_alike : MethodName := ⟨RX7, "alike", "(II)I"⟩
abbrev cX7_finer : ByteArray := prog_1_method_9_code
def yX7_finer : MethodName := ⟨RX7, "finer", "(II)I"⟩
abbrev cX7_way : ByteArray := prog_1_method_10_code
def yX7_way : MethodName := ⟨RX7, "way", "(IIII)I"⟩
abbrev cX7_noon : ByteArray := prog_1_method_11_code
def yX7_noon : MethodName := ⟨RX7, "noon", "(III)I"⟩
abbrev cX7_gain : ByteArray := prog_1_method_12_code
def yX7_gain : MethodName := ⟨RX7, "gain", "(IIIII)I"⟩
abbrev cX7_swappedUp : ByteArray := prog_1_method_13_code
def yX7_swappedUp : MethodName := ⟨RX7, "swappedUp", "(I)I"⟩
abbrev cX7_saying : ByteArray := prog_1_method_14_code
def yX7_saying : MethodName := ⟨RX7, "saying", "(IIII)I"⟩
abbrev cX7_back : ByteArray := prog_1_method_15_code
def yX7_back : MethodName := ⟨RX7, "back", "(I)I"⟩
abbrev cX7_untrue : ByteArray := prog_1_method_16_code
def yX7_untrue : MethodName := ⟨RX7, "untrue", "()I"⟩
abbrev cX7_leaves : ByteArray := prog_1_method_17_code
def yX7_leaves : MethodName := ⟨RX7, "leaves", "(II)I"⟩
abbrev cX7_breaks : ByteArray := prog_1_method_18_code
def yX7_breaks : MethodName := ⟨RX7, "breaks", "(II)I"⟩
abbrev cX7_falseByWeight : ByteArray := prog_1_method_19_code
def yX7_falseByWeight : MethodName := ⟨RX7, "falseByWeight", "(II)I"⟩
abbrev cX7_rows : ByteArray := prog_1_method_20_code
def yX7_rows : MethodName := ⟨RX7, "rows", "(II)I"⟩
abbrev cX7_longest : ByteArray := prog_1_method_21_code
def yX7_longest : MethodName := ⟨RX7, "longest", "(I)I"⟩
abbrev cX7_crowd : ByteArray := prog_1_method_22_code
def yX7_crowd : MethodName := ⟨RX7, "crowd", "(I)I"⟩
abbrev cX7_measure : ByteArray := prog_1_method_23_code
def yX7_measure : MethodName := ⟨RX7, "measure", "(II)I"⟩
abbrev cX7_copies : ByteArray := prog_1_method_24_code
def yX7_copies : MethodName := ⟨RX7, "copies", "(IIIIII)I"⟩
abbrev cX7_bestRow : ByteArray := prog_1_method_25_code
def yX7_bestRow : MethodName := ⟨RX7, "bestRow", "(IIIIII)I"⟩
abbrev cX7_takeHandRow : ByteArray := prog_1_method_26_code
def yX7_takeHandRow : MethodName := ⟨RX7, "takeHandRow", "(IIII)I"⟩
abbrev cX7_even : ByteArray := prog_1_method_27_code
def yX7_even : MethodName := ⟨RX7, "even", "(II)I"⟩
abbrev cX7_odds : ByteArray := prog_1_method_28_code
def yX7_odds : MethodName := ⟨RX7, "odds", "(II)J"⟩
abbrev cX7_commonDivisor : ByteArray := prog_1_method_29_code
def yX7_commonDivisor : MethodName := ⟨RX7, "commonDivisor", "(II)I"⟩
abbrev cX7_sheet : ByteArray := prog_1_method_30_code
def yX7_sheet : MethodName := ⟨RX7, "sheet", "(III)I"⟩
abbrev cX7_lose : ByteArray := prog_1_method_31_code
def yX7_lose : MethodName := ⟨RX7, "lose", "(I)I"⟩
abbrev cX7_put : ByteArray := prog_1_method_32_code
def yX7_put : MethodName := ⟨RX7, "put", "(III)I"⟩
abbrev cX7_cell : ByteArray := prog_1_method_33_code
def yX7_cell : MethodName := ⟨RX7, "cell", "(III)J"⟩
abbrev cX7_copy : ByteArray := prog_1_method_34_code
def yX7_copy : MethodName := ⟨RX7, "copy", "(IIIII)I"⟩
abbrev cX7_tell : ByteArray := prog_1_method_35_code
def yX7_tell : MethodName := ⟨RX7, "tell", "(I)I"⟩
abbrev cX7_shake : ByteArray := prog_1_method_36_code
def yX7_shake : MethodName := ⟨RX7, "shake", "(I)I"⟩
abbrev cX7_as : ByteArray := prog_1_method_37_code
def yX7_as : MethodName := ⟨RX7, "as", "(II)I"⟩
abbrev cX7_trace : ByteArray := prog_1_method_38_code
def yX7_trace : MethodName := ⟨RX7, "trace", "()I"⟩
abbrev cX7_fault : ByteArray := prog_1_method_39_code
def yX7_fault : MethodName := ⟨RX7, "fault", "()I"⟩
abbrev cX7_many : ByteArray := prog_1_method_40_code
def yX7_many : MethodName := ⟨RX7, "many", "(I)I"⟩
abbrev cX7_handBody : ByteArray := prog_1_method_41_code
def yX7_handBody : MethodName := ⟨RX7, "handBody", "(I)I"⟩
abbrev cX7_steadyBody : ByteArray := prog_1_method_42_code
def yX7_steadyBody : MethodName := ⟨RX7, "steadyBody", "(I)I"⟩
abbrev cX7_smithBody : ByteArray := prog_1_method_43_code
def yX7_smithBody : MethodName := ⟨RX7, "smithBody", "(I)I"⟩
abbrev cX7_lentBody : ByteArray := prog_1_method_44_code
def yX7_lentBody : MethodName := ⟨RX7, "lentBody", "(I)I"⟩
abbrev cX7_smithsOwnBody : ByteArray := prog_1_method_45_code
def yX7_smithsOwnBody : MethodName := ⟨RX7, "smithsOwnBody", "()I"⟩
abbrev cX7_leaveTrace : ByteArray := prog_1_method_46_code
def yX7_leaveTrace : MethodName := ⟨RX7, "leaveTrace", "(I)V"⟩
abbrev cX7_faulty : ByteArray := prog_1_method_47_code
def yX7_faulty : MethodName := ⟨RX7, "faulty", "(I)I"⟩
abbrev cX7_isSort : ByteArray := prog_1_method_48_code
def yX7_isSort : MethodName := ⟨RX7, "isSort", "(I)Z"⟩
abbrev cX7_isKind : ByteArray := prog_1_method_49_code
def yX7_isKind : MethodName := ⟨RX7, "isKind", "(I)Z"⟩
abbrev cX7_isFirstOrSecond : ByteArray := prog_1_method_50_code
def yX7_isFirstOrSecond : MethodName := ⟨RX7, "isFirstOrSecond", "(I)Z"⟩
abbrev cX7_isIn : ByteArray := prog_1_method_51_code
def yX7_isIn : MethodName := ⟨RX7, "isIn", "(II)Z"⟩
def RX8 : String := "ByHandModel"
def TX8 : u_T := fun k => match k with
  | 0 => ("ByHandModel", "fault", "I", false)
  | 1 => ("ByHandModel", "trace", "I", false)
  | 2 => ("ByHandModel", "sorts", "[I", true)
  | 3 => ("ByHandModel", "sheetLong", "[I", true)
  | 4 => ("ByHandModel", "cells", "[I", true)
  | 5 => ("ByHandModel", "things", "I", false)
  | 6 => ("ByHandModel", "weight", "[I", true)
  | 7 => ("ByHandModel", "at", "I", false)
  | 8 => ("ByHandModel", "readThings", "I", false)
  | 9 => ("ByHandModel", "readWeight", "[I", true)
  | 10 => ("ByHandModel", "hands", "I", false)
  | 11 => ("ByHandModel", "kind", "[I", true)
  | 12 => ("ByHandModel", "part", "[I", true)
  | 13 => ("ByHandModel", "far", "[I", true)
  | 14 => ("ByHandModel", "sayings", "I", false)
  | 15 => ("ByHandModel", "saidBy", "[I", true)
  | 16 => ("ByHandModel", "saidFirst", "[I", true)
  | 17 => ("ByHandModel", "saidOther", "[I", true)
  | 18 => ("ByHandModel", "saidIs", "[I", true)
  | 19 => ("ByHandModel", "ways", "[I", true)
  | 20 => ("ByHandModel", "chain", "[I", true)
  | 21 => ("ByHandModel", "row", "[I", true)
  | _ => ("ByHandModel", "bestIs", "[I", true)
def tyX8 : Nat → FieldType := fun k => match k with
  | 0 => .int
  | 1 => .int
  | 2 => .array .int
  | 3 => .array .int
  | 4 => .array .int
  | 5 => .int
  | 6 => .array .int
  | 7 => .int
  | 8 => .int
  | 9 => .array .int
  | 10 => .int
  | 11 => .array .int
  | 12 => .array .int
  | 13 => .array .int
  | 14 => .int
  | 15 => .array .int
  | 16 => .array .int
  | 17 => .array .int
  | 18 => .array .int
  | 19 => .array .int
  | 20 => .array .int
  | 21 => .array .int
  | _ => .array .int
theorem nmX8 : ∀ a, a < 23 → ∀ b, b < 23 → a ≠ b → (TX8 a).2.1 ≠ (TX8 b).2.1 := by decide +kernel
theorem tyX8_ok : ∀ k, k < 23 → parseFieldDescriptor (TX8 k).2.2.1 = some (tyX8 k) := by decide +kernel
abbrev cX8_init : ByteArray := prog_10_method_1_code
def yX8_init : MethodName := ⟨RX8, "<init>", "()V"⟩
abbrev cX8_fails : ByteArray := prog_10_method_3_code
def yX8_fails : MethodName := ⟨RX8, "fails", "(I)I"⟩
abbrev cX8_lost : ByteArray := prog_10_method_4_code
def yX8_lost : MethodName := ⟨RX8, "lost", "(I)J"⟩
abbrev cX8_within : ByteArray := prog_10_method_5_code
def yX8_within : MethodName := ⟨RX8, "within", "(III)Z"⟩
abbrev cX8_share : ByteArray := prog_10_method_6_code
def yX8_share : MethodName := ⟨RX8, "share", "(JJI)J"⟩
abbrev cX8_bits : ByteArray := prog_10_method_7_code
def yX8_bits : MethodName := ⟨RX8, "bits", "(I)I"⟩
abbrev cX8_isSheet : ByteArray := prog_10_method_8_code
def yX8_isSheet : MethodName := ⟨RX8, "isSheet", "(I)Z"⟩
abbrev cX8_isSort : ByteArray := prog_10_method_9_code
def yX8_isSort : MethodName := ⟨RX8, "isSort", "(I)Z"⟩
abbrev cX8_against : ByteArray := prog_10_method_10_code
def yX8_against : MethodName := ⟨RX8, "against", "(IIII)I"⟩
abbrev cX8_isThing : ByteArray := prog_10_method_11_code
def yX8_isThing : MethodName := ⟨RX8, "isThing", "(I)Z"⟩
abbrev cX8_market : ByteArray := prog_10_method_12_code
def yX8_market : MethodName := ⟨RX8, "market", "(IIII)I"⟩
abbrev cX8_readMarket : ByteArray := prog_10_method_13_code
def yX8_readMarket : MethodName := ⟨RX8, "readMarket", "(I)Z"⟩
abbrev cX8_weight : ByteArray := prog_10_method_14_code
def yX8_weight : MethodName := ⟨RX8, "weight", "(I)I"⟩
abbrev cX8_isWeight : ByteArray := prog_10_method_15_code
def yX8_isWeight : MethodName := ⟨RX8, "isWeight", "(I)Z"⟩
abbrev cX8_weigh : ByteArray := prog_10_method_16_code
def yX8_weigh : MethodName := ⟨RX8, "weigh", "(II)I"⟩
abbrev cX8_isHand : ByteArray := prog_10_method_17_code
def yX8_isHand : MethodName := ⟨RX8, "isHand", "(I)Z"⟩
abbrev cX8_hand : ByteArray := prog_10_method_18_code
def yX8_hand : MethodName := ⟨RX8, "hand", "(II)I"⟩
abbrev cX8_ofHand : ByteArray := prog_10_method_19_code
def yX8_ofHand : MethodName := ⟨RX8, "ofHand", "(II)I"⟩
abbrev cX8_times : ByteArray := prog_10_method_20_code
def yX8_times : MethodName := ⟨RX8, "times", "(I)I"⟩
abbrev cX8_isTold : ByteArray := prog_10_method_21_code
def yX8_isTold : MethodName := ⟨RX8, "isTold", "(III)Z"⟩
abbrev cX8_tellsThem : ByteArray := prog_10_method_22_code
def yX8_tellsThem : MethodName := ⟨RX8, "tellsThem", "(III)Z"⟩
abbrev cX8_areAlike : ByteArray := prog_10_method_23_code
def yX8_areAlike : MethodName := ⟨RX8, "areAlike", "(III)Z"⟩
abbrev cX8_tells : ByteArray := prog_10_method_24_code
def yX8_tells : MethodName := ⟨RX8, "tells", "(III)I"⟩
abbrev cX8_alikeTo : ByteArray := prog_10_method_25_code
def yX8_alikeTo : MethodName := ⟨RX8, "alikeTo", "(II)I"⟩
abbrev cX8_alike : ByteArray := prog_10_method_26_code
def yX8_alike : MethodName := ⟨RX8, "alike", "(II)I"⟩
abbrev cX8_finer : ByteArray := prog_10_method_27_code
def yX8_finer : MethodName := ⟨RX8, "finer", "(II)I"⟩
abbrev cX8_findFar : ByteArray := prog_10_method_28_code
def yX8_findFar : MethodName := ⟨RX8, "findFar", "(II)V"⟩
abbrev cX8_way : ByteArray := prog_10_method_29_code
def yX8_way : MethodName := ⟨RX8, "way", "(IIII)I"⟩
abbrev cX8_nextOf : ByteArray := prog_10_method_30_code
def yX8_nextOf : MethodName := ⟨RX8, "nextOf", "(II)I"⟩
abbrev cX8_noon : ByteArray := prog_10_method_31_code
def yX8_noon : MethodName := ⟨RX8, "noon", "(III)I"⟩
abbrev cX8_gain : ByteArray := prog_10_method_32_code
def yX8_gain : MethodName := ⟨RX8, "gain", "(IIIII)I"⟩
abbrev cX8_isGot : ByteArray := prog_10_method_33_code
def yX8_isGot : MethodName := ⟨RX8, "isGot", "(IIII)Z"⟩
abbrev cX8_saying : ByteArray := prog_10_method_34_code
def yX8_saying : MethodName := ⟨RX8, "saying", "(IIII)I"⟩
abbrev cX8_back : ByteArray := prog_10_method_35_code
def yX8_back : MethodName := ⟨RX8, "back", "(I)I"⟩
abbrev cX8_isSo : ByteArray := prog_10_method_36_code
def yX8_isSo : MethodName := ⟨RX8, "isSo", "(I)Z"⟩
abbrev cX8_untrue : ByteArray := prog_10_method_37_code
def yX8_untrue : MethodName := ⟨RX8, "untrue", "()I"⟩
abbrev cX8_falseOf : ByteArray := prog_10_method_38_code
def yX8_falseOf : MethodName := ⟨RX8, "falseOf", "(I)I"⟩
abbrev cX8_leaves : ByteArray := prog_10_method_39_code
def yX8_leaves : MethodName := ⟨RX8, "leaves", "(II)I"⟩
abbrev cX8_breaks : ByteArray := prog_10_method_40_code
def yX8_breaks : MethodName := ⟨RX8, "breaks", "(II)I"⟩
abbrev cX8_mayStand : ByteArray := prog_10_method_41_code
def yX8_mayStand : MethodName := ⟨RX8, "mayStand", "(III)Z"⟩
abbrev cX8_rows : ByteArray := prog_10_method_42_code
def yX8_rows : MethodName := ⟨RX8, "rows", "(II)I"⟩
abbrev cX8_inFirstRow : ByteArray := prog_10_method_43_code
def yX8_inFirstRow : MethodName := ⟨RX8, "inFirstRow", "(II)I"⟩
abbrev cX8_longest : ByteArray := prog_10_method_44_code
def yX8_longest : MethodName := ⟨RX8, "longest", "(I)I"⟩
abbrev cX8_isCrowd : ByteArray := prog_10_method_45_code
def yX8_isCrowd : MethodName := ⟨RX8, "isCrowd", "(II)Z"⟩
abbrev cX8_crowd : ByteArray := prog_10_method_46_code
def yX8_crowd : MethodName := ⟨RX8, "crowd", "(I)I"⟩
abbrev cX8_measure : ByteArray := prog_10_method_47_code
def yX8_measure : MethodName := ⟨RX8, "measure", "(II)I"⟩
abbrev cX8_greatest : ByteArray := prog_10_method_48_code
def yX8_greatest : MethodName := ⟨RX8, "greatest", "(II)I"⟩
abbrev cX8_least : ByteArray := prog_10_method_49_code
def yX8_least : MethodName := ⟨RX8, "least", "(II)I"⟩
abbrev cX8_copied : ByteArray := prog_10_method_50_code
def yX8_copied : MethodName := ⟨RX8, "copied", "(III)I"⟩
abbrev cX8_layRow : ByteArray := prog_10_method_51_code
def yX8_layRow : MethodName := ⟨RX8, "layRow", "(III)I"⟩
abbrev cX8_copies : ByteArray := prog_10_method_52_code
def yX8_copies : MethodName := ⟨RX8, "copies", "(IIIIII)I"⟩
abbrev cX8_exchange : ByteArray := prog_10_method_53_code
def yX8_exchange : MethodName := ⟨RX8, "exchange", "(II)V"⟩
abbrev cX8_nextRow : ByteArray := prog_10_method_54_code
def yX8_nextRow : MethodName := ⟨RX8, "nextRow", "(I)Z"⟩
abbrev cX8_findBestRow : ByteArray := prog_10_method_55_code
def yX8_findBestRow : MethodName := ⟨RX8, "findBestRow", "(II)I"⟩
abbrev cX8_bestRow : ByteArray := prog_10_method_56_code
def yX8_bestRow : MethodName := ⟨RX8, "bestRow", "(IIIIII)I"⟩
abbrev cX8_sumOf : ByteArray := prog_10_method_57_code
def yX8_sumOf : MethodName := ⟨RX8, "sumOf", "(I)I"⟩
abbrev cX8_areEven : ByteArray := prog_10_method_58_code
def yX8_areEven : MethodName := ⟨RX8, "areEven", "(III)Z"⟩
abbrev cX8_even : ByteArray := prog_10_method_59_code
def yX8_even : MethodName := ⟨RX8, "even", "(II)I"⟩
abbrev cX8_odds : ByteArray := prog_10_method_60_code
def yX8_odds : MethodName := ⟨RX8, "odds", "(II)J"⟩
abbrev cX8_sheet : ByteArray := prog_10_method_61_code
def yX8_sheet : MethodName := ⟨RX8, "sheet", "(III)I"⟩
abbrev cX8_lose : ByteArray := prog_10_method_62_code
def yX8_lose : MethodName := ⟨RX8, "lose", "(I)I"⟩
abbrev cX8_put : ByteArray := prog_10_method_63_code
def yX8_put : MethodName := ⟨RX8, "put", "(III)I"⟩
abbrev cX8_cell : ByteArray := prog_10_method_64_code
def yX8_cell : MethodName := ⟨RX8, "cell", "(III)J"⟩
abbrev cX8_copy : ByteArray := prog_10_method_65_code
def yX8_copy : MethodName := ⟨RX8, "copy", "(IIIII)I"⟩
abbrev cX8_begins : ByteArray := prog_10_method_66_code
def yX8_begins : MethodName := ⟨RX8, "begins", "(I)V"⟩
abbrev cX8_tell : ByteArray := prog_10_method_67_code
def yX8_tell : MethodName := ⟨RX8, "tell", "(I)I"⟩
abbrev cX8_shake : ByteArray := prog_10_method_68_code
def yX8_shake : MethodName := ⟨RX8, "shake", "(I)I"⟩
abbrev cX8_as : ByteArray := prog_10_method_69_code
def yX8_as : MethodName := ⟨RX8, "as", "(II)I"⟩
abbrev cX8_trace : ByteArray := prog_10_method_70_code
def yX8_trace : MethodName := ⟨RX8, "trace", "()I"⟩
abbrev cX8_fault : ByteArray := prog_10_method_71_code
def yX8_fault : MethodName := ⟨RX8, "fault", "()I"⟩
abbrev cX8_many : ByteArray := prog_10_method_72_code
def yX8_many : MethodName := ⟨RX8, "many", "(I)I"⟩
def RJ6 : String := "java/lang/Integer"
def TJ6 : u_T := fun k => match k with
  | _ => ("", "", "", false)
def tyJ6 : Nat → FieldType := fun k => match k with
  | _ => .int
theorem nmJ6 : ∀ a, a < 0 → ∀ b, b < 0 → a ≠ b → (TJ6 a).2.1 ≠ (TJ6 b).2.1 := by decide +kernel
theorem tyJ6_ok : ∀ k, k < 0 → parseFieldDescriptor (TJ6 k).2.2.1 = some (tyJ6 k) := by decide +kernel
abbrev cJ6_bitCount_0f7a4 : ByteArray := prog_11_method_49_code
def yJ6_bitCount_0f7a4 : MethodName := ⟨RJ6, "bitCount", "(I)I"⟩
def RJ9 : String := "java/lang/Math"
def TJ9 : u_T := fun k => match k with
  | _ => ("", "", "", false)
def tyJ9 : Nat → FieldType := fun k => match k with
  | _ => .int
theorem nmJ9 : ∀ a, a < 0 → ∀ b, b < 0 → a ≠ b → (TJ9 a).2.1 ≠ (TJ9 b).2.1 := by decide +kernel
theorem tyJ9_ok : ∀ k, k < 0 → parseFieldDescriptor (TJ9 k).2.2.1 = some (tyJ9 k) := by decide +kernel
abbrev cJ9_max_7cf53 : ByteArray := prog_12_method_65_code
def yJ9_max_7cf53 : MethodName := ⟨RJ9, "max", "(II)I"⟩
abbrev cJ9_min_7cf53 : ByteArray := prog_12_method_69_code
def yJ9_min_7cf53 : MethodName := ⟨RJ9, "min", "(II)I"⟩
def RJ10 : String := "java/lang/System"
def TJ10 : u_T := fun k => match k with
  | _ => ("", "", "", false)
def tyJ10 : Nat → FieldType := fun k => match k with
  | _ => .int
theorem nmJ10 : ∀ a, a < 0 → ∀ b, b < 0 → a ≠ b → (TJ10 a).2.1 ≠ (TJ10 b).2.1 := by decide +kernel
theorem tyJ10_ok : ∀ k, k < 0 → parseFieldDescriptor (TJ10 k).2.2.1 = some (tyJ10 k) := by decide +kernel
def RL : String := "ByHandLaw"
abbrev cL_law : ByteArray := code
def yL_law : MethodName := ⟨RL, "law", "([I)Z"⟩
abbrev vwCl : List vw_C := [(RX0, TX0, 3), (RX1, TX1, 3), (RX2, TX2, 5), (RX3, TX3, 4), (RX4, TX4, 4), (RX6, TX6, 2), (RX7, TX7, 9), (RX8, TX8, 23)]
/-- the words that every contract stands on: the tables' good words, and 'selects' of the private methods -/
def wsL_law : List Cond := k2_sels lw_privs ++ tables_1.filter goodWord
theorem wsL_law_in : ∀ w ∈ wsL_law, w ∈ lw_tbl := fun w h => (List.mem_append.mp h).elim (fun h => List.mem_append_left _ h) (fun h => List.mem_append_right _ (List.mem_filter.mp h).1)
theorem wsL_sel_good : (k2_sels lw_privs).all goodWord = true := by decide +kernel
theorem wsL_good : ∀ w ∈ wsL_law, (w.onTables && w.keeps) = true ∨ ∃ ty, w = .arrayClass ty := fun w h => good_of_word ((List.mem_append.mp h).elim (fun h => List.all_eq_true.mp wsL_sel_good w h) (fun h => (List.mem_filter.mp h).2))
theorem wsL_of {w : Cond} (h : w ∈ tables_1) (hg : goodWord w = true) : w ∈ wsL_law := List.mem_append_right _ (List.mem_filter.mpr ⟨h, hg⟩)
theorem wsL_sel {w : Cond} (h : w ∈ k2_sels lw_privs) : w ∈ wsL_law := List.mem_append_left _ h
theorem mi_L : Cond.initialized RL ∈ wsL_law := wsL_of (List.mem_of_getElem? (i := 0) (by decide +kernel)) rfl
theorem mi_X7 : Cond.initialized RX7 ∈ wsL_law := wsL_of (List.mem_of_getElem? (i := 1) (by decide +kernel)) rfl
theorem mi_X6 : Cond.initialized RX6 ∈ wsL_law := wsL_of (List.mem_of_getElem? (i := 2) (by decide +kernel)) rfl
theorem mi_X1 : Cond.initialized RX1 ∈ wsL_law := wsL_of (List.mem_of_getElem? (i := 3) (by decide +kernel)) rfl
theorem mi_X2 : Cond.initialized RX2 ∈ wsL_law := wsL_of (List.mem_of_getElem? (i := 4) (by decide +kernel)) rfl
theorem mi_X3 : Cond.initialized RX3 ∈ wsL_law := wsL_of (List.mem_of_getElem? (i := 5) (by decide +kernel)) rfl
theorem mi_X4 : Cond.initialized RX4 ∈ wsL_law := wsL_of (List.mem_of_getElem? (i := 6) (by decide +kernel)) rfl
theorem mi_X0 : Cond.initialized RX0 ∈ wsL_law := wsL_of (List.mem_of_getElem? (i := 7) (by decide +kernel)) rfl
theorem mi_X8 : Cond.initialized RX8 ∈ wsL_law := wsL_of (List.mem_of_getElem? (i := 8) (by decide +kernel)) rfl
theorem mi_X5 : Cond.initialized RX5 ∈ wsL_law := wsL_of (List.mem_of_getElem? (i := 9) (by decide +kernel)) rfl
theorem mi_J9 : Cond.initialized RJ9 ∈ wsL_law := wsL_of (List.mem_of_getElem? (i := 10) (by decide +kernel)) rfl
theorem mi_J6 : Cond.initialized RJ6 ∈ wsL_law := wsL_of (List.mem_of_getElem? (i := 11) (by decide +kernel)) rfl
theorem mi_J10 : Cond.initialized RJ10 ∈ wsL_law := wsL_of (List.mem_of_getElem? (i := 12) (by decide +kernel)) rfl
theorem mc_X7_init : Cond.code yX7_init cX7_init 1 none ∈ wsL_law := wsL_of (List.mem_append_left _ (List.mem_of_getElem? (i := 17) rfl)) rfl
theorem mn_X7_init : Cond.instanceMethod yX7_init ∈ wsL_law := wsL_of (List.mem_of_getElem? (i := 16) (by decide +kernel)) rfl
theorem mc_X6_init : Cond.code yX6_init cX6_init 1 none ∈ wsL_law := wsL_of (List.mem_append_left _ (List.mem_of_getElem? (i := 25) rfl)) rfl
theorem mn_X6_init : Cond.instanceMethod yX6_init ∈ wsL_law := wsL_of (List.mem_of_getElem? (i := 24) (by decide +kernel)) rfl
theorem mc_X1_init : Cond.code yX1_init cX1_init 1 none ∈ wsL_law := wsL_of (List.mem_append_left _ (List.mem_of_getElem? (i := 39) rfl)) rfl
theorem mn_X1_init : Cond.instanceMethod yX1_init ∈ wsL_law := wsL_of (List.mem_of_getElem? (i := 38) (by decide +kernel)) rfl
theorem mc_X2_init : Cond.code yX2_init cX2_init 1 none ∈ wsL_law := wsL_of (List.mem_append_left _ (List.mem_of_getElem? (i := 55) rfl)) rfl
theorem mn_X2_init : Cond.instanceMethod yX2_init ∈ wsL_law := wsL_of (List.mem_of_getElem? (i := 54) (by decide +kernel)) rfl
theorem mc_X3_init : Cond.code yX3_init cX3_init 1 none ∈ wsL_law := wsL_of (List.mem_append_left _ (List.mem_of_getElem? (i := 77) rfl)) rfl
theorem mn_X3_init : Cond.instanceMethod yX3_init ∈ wsL_law := wsL_of (List.mem_of_getElem? (i := 76) (by decide +kernel)) rfl
theorem mc_X4_init : Cond.code yX4_init cX4_init 1 none ∈ wsL_law := wsL_of (List.mem_append_left _ (List.mem_of_getElem? (i := 99) rfl)) rfl
theorem mn_X4_init : Cond.instanceMethod yX4_init ∈ wsL_law := wsL_of (List.mem_of_getElem? (i := 98) (by decide +kernel)) rfl
theorem mc_X0_init : Cond.code yX0_init cX0_init 1 none ∈ wsL_law := wsL_of (List.mem_append_left _ (List.mem_of_getElem? (i := 118) rfl)) rfl
theorem mn_X0_init : Cond.instanceMethod yX0_init ∈ wsL_law := wsL_of (List.mem_of_getElem? (i := 117) (by decide +kernel)) rfl
theorem mc_X7_market : Cond.code yX7_market cX7_market 7 (some .int) ∈ wsL_law := wsL_of (List.mem_append_left _ (List.mem_of_getElem? (i := 161) rfl)) rfl
theorem mn_X7_market : Cond.instanceMethod yX7_market ∈ wsL_law := wsL_of (List.mem_of_getElem? (i := 159) (by decide +kernel)) rfl
theorem mv_X7_market : Cond.selects RX7 yX7_market yX7_market ∈ wsL_law := wsL_of (List.mem_of_getElem? (i := 160) (by decide +kernel)) rfl
theorem mc_X3_has : Cond.code yX3_has cX3_has 2 (some .boolean) ∈ wsL_law := wsL_of (List.mem_append_left _ (List.mem_of_getElem? (i := 165) rfl)) rfl
theorem mn_X3_has : Cond.instanceMethod yX3_has ∈ wsL_law := wsL_of (List.mem_of_getElem? (i := 163) (by decide +kernel)) rfl
theorem mv_X3_has : Cond.selects RX3 yX3_has yX3_has ∈ wsL_law := wsL_of (List.mem_of_getElem? (i := 164) (by decide +kernel)) rfl
theorem mc_X7_isSort : Cond.code yX7_isSort cX7_isSort 1 (some .boolean) ∈ wsL_law := wsL_of (List.mem_append_left _ (List.mem_of_getElem? (i := 168) rfl)) rfl
theorem ms_X7_isSort : Cond.static yX7_isSort ∈ wsL_law := wsL_of (List.mem_of_getElem? (i := 167) (by decide +kernel)) rfl
theorem mc_X3_faultOfTaking : Cond.code yX3_faultOfTaking cX3_faultOfTaking 5 (some .int) ∈ wsL_law := wsL_of (List.mem_append_left _ (List.mem_of_getElem? (i := 172) rfl)) rfl
theorem mn_X3_faultOfTaking : Cond.instanceMethod yX3_faultOfTaking ∈ wsL_law := wsL_of (List.mem_of_getElem? (i := 170) (by decide +kernel)) rfl
theorem mv_X3_faultOfTaking : Cond.selects RX3 yX3_faultOfTaking yX3_faultOfTaking ∈ wsL_law := wsL_of (List.mem_of_getElem? (i := 171) (by decide +kernel)) rfl
theorem mc_X3_hasRow : Cond.code yX3_hasRow cX3_hasRow 2 (some .boolean) ∈ wsL_law := wsL_of (List.mem_append_left _ (List.mem_of_getElem? (i := 176) rfl)) rfl
theorem mn_X3_hasRow : Cond.instanceMethod yX3_hasRow ∈ wsL_law := wsL_of (List.mem_of_getElem? (i := 174) (by decide +kernel)) rfl
theorem mv_X3_hasRow : Cond.selects RX3 yX3_hasRow yX3_hasRow ∈ wsL_law := wsL_of (List.mem_of_getElem? (i := 175) (by decide +kernel)) rfl
theorem mc_X3_sortOf : Cond.code yX3_sortOf cX3_sortOf 2 (some .int) ∈ wsL_law := wsL_of (List.mem_append_left _ (List.mem_of_getElem? (i := 181) rfl)) rfl
theorem mn_X3_sortOf : Cond.instanceMethod yX3_sortOf ∈ wsL_law := wsL_of (List.mem_of_getElem? (i := 179) (by decide +kernel)) rfl
theorem mv_X3_sortOf : Cond.selects RX3 yX3_sortOf yX3_sortOf ∈ wsL_law := wsL_of (List.mem_of_getElem? (i := 180) (by decide +kernel)) rfl
theorem mc_X3_hasCells : Cond.code yX3_hasCells cX3_hasCells 4 (some .boolean) ∈ wsL_law := wsL_of (List.mem_append_left _ (List.mem_of_getElem? (i := 185) rfl)) rfl
theorem mn_X3_hasCells : Cond.instanceMethod yX3_hasCells ∈ wsL_law := wsL_of (List.mem_of_getElem? (i := 183) (by decide +kernel)) rfl
theorem mv_X3_hasCells : Cond.selects RX3 yX3_hasCells yX3_hasCells ∈ wsL_law := wsL_of (List.mem_of_getElem? (i := 184) (by decide +kernel)) rfl
theorem mc_X7_faulty : Cond.code yX7_faulty cX7_faulty 2 (some .int) ∈ wsL_law := wsL_of (List.mem_append_left _ (List.mem_of_getElem? (i := 189) rfl)) rfl
theorem mn_X7_faulty : Cond.instanceMethod yX7_faulty ∈ wsL_law := wsL_of (List.mem_of_getElem? (i := 188) (by decide +kernel)) rfl
theorem mv_X7_faulty : Cond.selects RX7 yX7_faulty yX7_faulty ∈ wsL_law := wsL_sel (List.mem_of_getElem? (i := 0) (by decide +kernel))
theorem mc_X5_firstFault : Cond.code yX5_firstFault cX5_firstFault 6 (some .int) ∈ wsL_law := wsL_of (List.mem_append_left _ (List.mem_of_getElem? (i := 192) rfl)) rfl
theorem ms_X5_firstFault : Cond.static yX5_firstFault ∈ wsL_law := wsL_of (List.mem_of_getElem? (i := 191) (by decide +kernel)) rfl
theorem mc_X5_goesOn : Cond.code yX5_goesOn cX5_goesOn 6 (some .boolean) ∈ wsL_law := wsL_of (List.mem_append_left _ (List.mem_of_getElem? (i := 195) rfl)) rfl
theorem ms_X5_goesOn : Cond.static yX5_goesOn ∈ wsL_law := wsL_of (List.mem_of_getElem? (i := 194) (by decide +kernel)) rfl
theorem mc_X3_cellOf : Cond.code yX3_cellOf cX3_cellOf 3 (some .int) ∈ wsL_law := wsL_of (List.mem_append_left _ (List.mem_of_getElem? (i := 199) rfl)) rfl
theorem mn_X3_cellOf : Cond.instanceMethod yX3_cellOf ∈ wsL_law := wsL_of (List.mem_of_getElem? (i := 197) (by decide +kernel)) rfl
theorem mv_X3_cellOf : Cond.selects RX3 yX3_cellOf yX3_cellOf ∈ wsL_law := wsL_of (List.mem_of_getElem? (i := 198) (by decide +kernel)) rfl
theorem mc_X5_number : Cond.code yX5_number cX5_number 5 (some .int) ∈ wsL_law := wsL_of (List.mem_append_left _ (List.mem_of_getElem? (i := 202) rfl)) rfl
theorem ms_X5_number : Cond.static yX5_number ∈ wsL_law := wsL_of (List.mem_of_getElem? (i := 201) (by decide +kernel)) rfl
theorem mc_X1_clear : Cond.code yX1_clear cX1_clear 1 none ∈ wsL_law := wsL_of (List.mem_append_left _ (List.mem_of_getElem? (i := 206) rfl)) rfl
theorem mn_X1_clear : Cond.instanceMethod yX1_clear ∈ wsL_law := wsL_of (List.mem_of_getElem? (i := 204) (by decide +kernel)) rfl
theorem mv_X1_clear : Cond.selects RX1 yX1_clear yX1_clear ∈ wsL_law := wsL_of (List.mem_of_getElem? (i := 205) (by decide +kernel)) rfl
theorem mc_X2_clear : Cond.code yX2_clear cX2_clear 1 none ∈ wsL_law := wsL_of (List.mem_append_left _ (List.mem_of_getElem? (i := 210) rfl)) rfl
theorem mn_X2_clear : Cond.instanceMethod yX2_clear ∈ wsL_law := wsL_of (List.mem_of_getElem? (i := 208) (by decide +kernel)) rfl
theorem mv_X2_clear : Cond.selects RX2 yX2_clear yX2_clear ∈ wsL_law := wsL_of (List.mem_of_getElem? (i := 209) (by decide +kernel)) rfl
theorem mc_X5_read : Cond.code yX5_read cX5_read 6 none ∈ wsL_law := wsL_of (List.mem_append_left _ (List.mem_of_getElem? (i := 213) rfl)) rfl
theorem ms_X5_read : Cond.static yX5_read ∈ wsL_law := wsL_of (List.mem_of_getElem? (i := 212) (by decide +kernel)) rfl
theorem mc_X6_clear : Cond.code yX6_clear cX6_clear 1 none ∈ wsL_law := wsL_of (List.mem_append_left _ (List.mem_of_getElem? (i := 217) rfl)) rfl
theorem mn_X6_clear : Cond.instanceMethod yX6_clear ∈ wsL_law := wsL_of (List.mem_of_getElem? (i := 215) (by decide +kernel)) rfl
theorem mv_X6_clear : Cond.selects RX6 yX6_clear yX6_clear ∈ wsL_law := wsL_of (List.mem_of_getElem? (i := 216) (by decide +kernel)) rfl
theorem mc_X6_add : Cond.code yX6_add cX6_add 2 none ∈ wsL_law := wsL_of (List.mem_append_left _ (List.mem_of_getElem? (i := 221) rfl)) rfl
theorem mn_X6_add : Cond.instanceMethod yX6_add ∈ wsL_law := wsL_of (List.mem_of_getElem? (i := 219) (by decide +kernel)) rfl
theorem mv_X6_add : Cond.selects RX6 yX6_add yX6_add ∈ wsL_law := wsL_of (List.mem_of_getElem? (i := 220) (by decide +kernel)) rfl
theorem mc_X6_count : Cond.code yX6_count cX6_count 1 (some .int) ∈ wsL_law := wsL_of (List.mem_append_left _ (List.mem_of_getElem? (i := 225) rfl)) rfl
theorem mn_X6_count : Cond.instanceMethod yX6_count ∈ wsL_law := wsL_of (List.mem_of_getElem? (i := 223) (by decide +kernel)) rfl
theorem mv_X6_count : Cond.selects RX6 yX6_count yX6_count ∈ wsL_law := wsL_of (List.mem_of_getElem? (i := 224) (by decide +kernel)) rfl
theorem mc_X7_weight : Cond.code yX7_weight cX7_weight 2 (some .int) ∈ wsL_law := wsL_of (List.mem_append_left _ (List.mem_of_getElem? (i := 229) rfl)) rfl
theorem mn_X7_weight : Cond.instanceMethod yX7_weight ∈ wsL_law := wsL_of (List.mem_of_getElem? (i := 227) (by decide +kernel)) rfl
theorem mv_X7_weight : Cond.selects RX7 yX7_weight yX7_weight ∈ wsL_law := wsL_of (List.mem_of_getElem? (i := 228) (by decide +kernel)) rfl
theorem mc_X6_has : Cond.code yX6_has cX6_has 2 (some .boolean) ∈ wsL_law := wsL_of (List.mem_append_left _ (List.mem_of_getElem? (i := 233) rfl)) rfl
theorem mn_X6_has : Cond.instanceMethod yX6_has ∈ wsL_law := wsL_of (List.mem_of_getElem? (i := 231) (by decide +kernel)) rfl
theorem mv_X6_has : Cond.selects RX6 yX6_has yX6_has ∈ wsL_law := wsL_of (List.mem_of_getElem? (i := 232) (by decide +kernel)) rfl
theorem mc_X6_weightOf : Cond.code yX6_weightOf cX6_weightOf 2 (some .int) ∈ wsL_law := wsL_of (List.mem_append_left _ (List.mem_of_getElem? (i := 237) rfl)) rfl
theorem mn_X6_weightOf : Cond.instanceMethod yX6_weightOf ∈ wsL_law := wsL_of (List.mem_of_getElem? (i := 235) (by decide +kernel)) rfl
theorem mv_X6_weightOf : Cond.selects RX6 yX6_weightOf yX6_weightOf ∈ wsL_law := wsL_of (List.mem_of_getElem? (i := 236) (by decide +kernel)) rfl
theorem mc_X7_weigh : Cond.code yX7_weigh cX7_weigh 4 (some .int) ∈ wsL_law := wsL_of (List.mem_append_right _ (List.mem_append_left _ (List.mem_of_getElem? (i := 2) rfl))) rfl
theorem mn_X7_weigh : Cond.instanceMethod yX7_weigh ∈ wsL_law := wsL_of (List.mem_of_getElem? (i := 240) (by decide +kernel)) rfl
theorem mv_X7_weigh : Cond.selects RX7 yX7_weigh yX7_weigh ∈ wsL_law := wsL_of (List.mem_of_getElem? (i := 241) (by decide +kernel)) rfl
theorem mc_X6_setWeight : Cond.code yX6_setWeight cX6_setWeight 3 none ∈ wsL_law := wsL_of (List.mem_append_right _ (List.mem_append_left _ (List.mem_of_getElem? (i := 6) rfl))) rfl
theorem mn_X6_setWeight : Cond.instanceMethod yX6_setWeight ∈ wsL_law := wsL_of (List.mem_of_getElem? (i := 244) (by decide +kernel)) rfl
theorem mv_X6_setWeight : Cond.selects RX6 yX6_setWeight yX6_setWeight ∈ wsL_law := wsL_of (List.mem_of_getElem? (i := 245) (by decide +kernel)) rfl
theorem mc_X7_hand : Cond.code yX7_hand cX7_hand 3 (some .int) ∈ wsL_law := wsL_of (List.mem_append_right _ (List.mem_append_left _ (List.mem_of_getElem? (i := 10) rfl))) rfl
theorem mn_X7_hand : Cond.instanceMethod yX7_hand ∈ wsL_law := wsL_of (List.mem_of_getElem? (i := 248) (by decide +kernel)) rfl
theorem mv_X7_hand : Cond.selects RX7 yX7_hand yX7_hand ∈ wsL_law := wsL_of (List.mem_of_getElem? (i := 249) (by decide +kernel)) rfl
theorem mc_X7_isKind : Cond.code yX7_isKind cX7_isKind 1 (some .boolean) ∈ wsL_law := wsL_of (List.mem_append_right _ (List.mem_append_left _ (List.mem_of_getElem? (i := 13) rfl))) rfl
theorem ms_X7_isKind : Cond.static yX7_isKind ∈ wsL_law := wsL_of (List.mem_of_getElem? (i := 252) (by decide +kernel)) rfl
theorem mc_X1_add : Cond.code yX1_add cX1_add 3 (some .int) ∈ wsL_law := wsL_of (List.mem_append_right _ (List.mem_append_left _ (List.mem_of_getElem? (i := 17) rfl))) rfl
theorem mn_X1_add : Cond.instanceMethod yX1_add ∈ wsL_law := wsL_of (List.mem_of_getElem? (i := 255) (by decide +kernel)) rfl
theorem mv_X1_add : Cond.selects RX1 yX1_add yX1_add ∈ wsL_law := wsL_of (List.mem_of_getElem? (i := 256) (by decide +kernel)) rfl
theorem mc_X7_ofHand : Cond.code yX7_ofHand cX7_ofHand 3 (some .int) ∈ wsL_law := wsL_of (List.mem_append_right _ (List.mem_append_left _ (List.mem_of_getElem? (i := 21) rfl))) rfl
theorem mn_X7_ofHand : Cond.instanceMethod yX7_ofHand ∈ wsL_law := wsL_of (List.mem_of_getElem? (i := 259) (by decide +kernel)) rfl
theorem mv_X7_ofHand : Cond.selects RX7 yX7_ofHand yX7_ofHand ∈ wsL_law := wsL_of (List.mem_of_getElem? (i := 260) (by decide +kernel)) rfl
theorem mc_X1_has : Cond.code yX1_has cX1_has 2 (some .boolean) ∈ wsL_law := wsL_of (List.mem_append_right _ (List.mem_append_left _ (List.mem_of_getElem? (i := 25) rfl))) rfl
theorem mn_X1_has : Cond.instanceMethod yX1_has ∈ wsL_law := wsL_of (List.mem_of_getElem? (i := 263) (by decide +kernel)) rfl
theorem mv_X1_has : Cond.selects RX1 yX1_has yX1_has ∈ wsL_law := wsL_of (List.mem_of_getElem? (i := 264) (by decide +kernel)) rfl
theorem mc_X7_isFirstOrSecond : Cond.code yX7_isFirstOrSecond cX7_isFirstOrSecond 1 (some .boolean) ∈ wsL_law := wsL_of (List.mem_append_right _ (List.mem_append_left _ (List.mem_of_getElem? (i := 28) rfl))) rfl
theorem ms_X7_isFirstOrSecond : Cond.static yX7_isFirstOrSecond ∈ wsL_law := wsL_of (List.mem_of_getElem? (i := 267) (by decide +kernel)) rfl
theorem mc_X1_kindOf : Cond.code yX1_kindOf cX1_kindOf 2 (some .int) ∈ wsL_law := wsL_of (List.mem_append_right _ (List.mem_append_left _ (List.mem_of_getElem? (i := 32) rfl))) rfl
theorem mn_X1_kindOf : Cond.instanceMethod yX1_kindOf ∈ wsL_law := wsL_of (List.mem_of_getElem? (i := 270) (by decide +kernel)) rfl
theorem mv_X1_kindOf : Cond.selects RX1 yX1_kindOf yX1_kindOf ∈ wsL_law := wsL_of (List.mem_of_getElem? (i := 271) (by decide +kernel)) rfl
theorem mc_X1_partOf : Cond.code yX1_partOf cX1_partOf 2 (some .int) ∈ wsL_law := wsL_of (List.mem_append_right _ (List.mem_append_left _ (List.mem_of_getElem? (i := 37) rfl))) rfl
theorem mn_X1_partOf : Cond.instanceMethod yX1_partOf ∈ wsL_law := wsL_of (List.mem_of_getElem? (i := 275) (by decide +kernel)) rfl
theorem mv_X1_partOf : Cond.selects RX1 yX1_partOf yX1_partOf ∈ wsL_law := wsL_of (List.mem_of_getElem? (i := 276) (by decide +kernel)) rfl
theorem mc_X7_tells : Cond.code yX7_tells cX7_tells 4 (some .int) ∈ wsL_law := wsL_of (List.mem_append_right _ (List.mem_append_left _ (List.mem_of_getElem? (i := 41) rfl))) rfl
theorem mn_X7_tells : Cond.instanceMethod yX7_tells ∈ wsL_law := wsL_of (List.mem_of_getElem? (i := 279) (by decide +kernel)) rfl
theorem mv_X7_tells : Cond.selects RX7 yX7_tells yX7_tells ∈ wsL_law := wsL_of (List.mem_of_getElem? (i := 280) (by decide +kernel)) rfl
theorem mc_X1_feelsHeavier : Cond.code yX1_feelsHeavier cX1_feelsHeavier 5 (some .boolean) ∈ wsL_law := wsL_of (List.mem_append_right _ (List.mem_append_left _ (List.mem_of_getElem? (i := 45) rfl))) rfl
theorem mn_X1_feelsHeavier : Cond.instanceMethod yX1_feelsHeavier ∈ wsL_law := wsL_of (List.mem_of_getElem? (i := 283) (by decide +kernel)) rfl
theorem mv_X1_feelsHeavier : Cond.selects RX1 yX1_feelsHeavier yX1_feelsHeavier ∈ wsL_law := wsL_of (List.mem_of_getElem? (i := 284) (by decide +kernel)) rfl
theorem mc_X1_timesOf : Cond.code yX1_timesOf cX1_timesOf 2 (some .int) ∈ wsL_law := wsL_of (List.mem_append_right _ (List.mem_append_left _ (List.mem_of_getElem? (i := 49) rfl))) rfl
theorem mn_X1_timesOf : Cond.instanceMethod yX1_timesOf ∈ wsL_law := wsL_of (List.mem_of_getElem? (i := 288) (by decide +kernel)) rfl
theorem mv_X1_timesOf : Cond.selects RX1 yX1_timesOf yX1_timesOf ∈ wsL_law := wsL_sel (List.mem_of_getElem? (i := 1) (by decide +kernel))
theorem mc_X7_alike : Cond.code yX7_alike cX7_alike 3 (some .int) ∈ wsL_law := wsL_of (List.mem_append_right _ (List.mem_append_left _ (List.mem_of_getElem? (i := 54) rfl))) rfl
theorem mn_X7_alike : Cond.instanceMethod yX7_alike ∈ wsL_law := wsL_of (List.mem_of_getElem? (i := 292) (by decide +kernel)) rfl
theorem mv_X7_alike : Cond.selects RX7 yX7_alike yX7_alike ∈ wsL_law := wsL_of (List.mem_of_getElem? (i := 293) (by decide +kernel)) rfl
theorem mc_X4_lay : Cond.code yX4_lay cX4_lay 6 none ∈ wsL_law := wsL_of (List.mem_append_right _ (List.mem_append_left _ (List.mem_of_getElem? (i := 58) rfl))) rfl
theorem mn_X4_lay : Cond.instanceMethod yX4_lay ∈ wsL_law := wsL_of (List.mem_of_getElem? (i := 296) (by decide +kernel)) rfl
theorem mv_X4_lay : Cond.selects RX4 yX4_lay yX4_lay ∈ wsL_law := wsL_of (List.mem_of_getElem? (i := 297) (by decide +kernel)) rfl
theorem mc_J9_min_7cf53 : Cond.code yJ9_min_7cf53 cJ9_min_7cf53 2 (some .int) ∈ wsL_law := wsL_of (List.mem_append_right _ (List.mem_append_left _ (List.mem_of_getElem? (i := 62) rfl))) rfl
theorem ms_J9_min_7cf53 : Cond.static yJ9_min_7cf53 ∈ wsL_law := wsL_of (List.mem_of_getElem? (i := 301) (by decide +kernel)) rfl
theorem mc_X1_feelsAlike : Cond.code yX1_feelsAlike cX1_feelsAlike 4 (some .boolean) ∈ wsL_law := wsL_of (List.mem_append_right _ (List.mem_append_left _ (List.mem_of_getElem? (i := 68) rfl))) rfl
theorem mn_X1_feelsAlike : Cond.instanceMethod yX1_feelsAlike ∈ wsL_law := wsL_of (List.mem_of_getElem? (i := 306) (by decide +kernel)) rfl
theorem mv_X1_feelsAlike : Cond.selects RX1 yX1_feelsAlike yX1_feelsAlike ∈ wsL_law := wsL_of (List.mem_of_getElem? (i := 307) (by decide +kernel)) rfl
theorem mc_X4_alikeTo : Cond.code yX4_alikeTo cX4_alikeTo 2 (some .int) ∈ wsL_law := wsL_of (List.mem_append_right _ (List.mem_append_left _ (List.mem_of_getElem? (i := 73) rfl))) rfl
theorem mn_X4_alikeTo : Cond.instanceMethod yX4_alikeTo ∈ wsL_law := wsL_of (List.mem_of_getElem? (i := 311) (by decide +kernel)) rfl
theorem mv_X4_alikeTo : Cond.selects RX4 yX4_alikeTo yX4_alikeTo ∈ wsL_law := wsL_of (List.mem_of_getElem? (i := 312) (by decide +kernel)) rfl
theorem mc_X4_has : Cond.code yX4_has cX4_has 2 (some .boolean) ∈ wsL_law := wsL_of (List.mem_append_right _ (List.mem_append_left _ (List.mem_of_getElem? (i := 77) rfl))) rfl
theorem mn_X4_has : Cond.instanceMethod yX4_has ∈ wsL_law := wsL_of (List.mem_of_getElem? (i := 316) (by decide +kernel)) rfl
theorem mv_X4_has : Cond.selects RX4 yX4_has yX4_has ∈ wsL_law := wsL_sel (List.mem_of_getElem? (i := 2) (by decide +kernel))
theorem mc_X7_finer : Cond.code yX7_finer cX7_finer 3 (some .int) ∈ wsL_law := wsL_of (List.mem_append_right _ (List.mem_append_left _ (List.mem_of_getElem? (i := 81) rfl))) rfl
theorem mn_X7_finer : Cond.instanceMethod yX7_finer ∈ wsL_law := wsL_of (List.mem_of_getElem? (i := 319) (by decide +kernel)) rfl
theorem mv_X7_finer : Cond.selects RX7 yX7_finer yX7_finer ∈ wsL_law := wsL_of (List.mem_of_getElem? (i := 320) (by decide +kernel)) rfl
theorem mc_X4_isFinerThan : Cond.code yX4_isFinerThan cX4_isFinerThan 4 (some .boolean) ∈ wsL_law := wsL_of (List.mem_append_right _ (List.mem_append_left _ (List.mem_of_getElem? (i := 85) rfl))) rfl
theorem mn_X4_isFinerThan : Cond.instanceMethod yX4_isFinerThan ∈ wsL_law := wsL_of (List.mem_of_getElem? (i := 323) (by decide +kernel)) rfl
theorem mv_X4_isFinerThan : Cond.selects RX4 yX4_isFinerThan yX4_isFinerThan ∈ wsL_law := wsL_of (List.mem_of_getElem? (i := 324) (by decide +kernel)) rfl
theorem mc_X4_lighterThan : Cond.code yX4_lighterThan cX4_lighterThan 2 (some .int) ∈ wsL_law := wsL_of (List.mem_append_right _ (List.mem_append_left _ (List.mem_of_getElem? (i := 89) rfl))) rfl
theorem mn_X4_lighterThan : Cond.instanceMethod yX4_lighterThan ∈ wsL_law := wsL_of (List.mem_of_getElem? (i := 327) (by decide +kernel)) rfl
theorem mv_X4_lighterThan : Cond.selects RX4 yX4_lighterThan yX4_lighterThan ∈ wsL_law := wsL_of (List.mem_of_getElem? (i := 328) (by decide +kernel)) rfl
theorem mc_X7_way : Cond.code yX7_way cX7_way 5 (some .int) ∈ wsL_law := wsL_of (List.mem_append_right _ (List.mem_append_left _ (List.mem_of_getElem? (i := 93) rfl))) rfl
theorem mn_X7_way : Cond.instanceMethod yX7_way ∈ wsL_law := wsL_of (List.mem_of_getElem? (i := 331) (by decide +kernel)) rfl
theorem mv_X7_way : Cond.selects RX7 yX7_way yX7_way ∈ wsL_law := wsL_of (List.mem_of_getElem? (i := 332) (by decide +kernel)) rfl
theorem mc_X4_fewestSwaps : Cond.code yX4_fewestSwaps cX4_fewestSwaps 4 (some .int) ∈ wsL_law := wsL_of (List.mem_append_right _ (List.mem_append_left _ (List.mem_of_getElem? (i := 97) rfl))) rfl
theorem mn_X4_fewestSwaps : Cond.instanceMethod yX4_fewestSwaps ∈ wsL_law := wsL_of (List.mem_of_getElem? (i := 335) (by decide +kernel)) rfl
theorem mv_X4_fewestSwaps : Cond.selects RX4 yX4_fewestSwaps yX4_fewestSwaps ∈ wsL_law := wsL_of (List.mem_of_getElem? (i := 336) (by decide +kernel)) rfl
theorem mc_X4_within : Cond.code yX4_within cX4_within 5 (some .int) ∈ wsL_law := wsL_of (List.mem_append_right _ (List.mem_append_left _ (List.mem_of_getElem? (i := 101) rfl))) rfl
theorem mn_X4_within : Cond.instanceMethod yX4_within ∈ wsL_law := wsL_of (List.mem_of_getElem? (i := 339) (by decide +kernel)) rfl
theorem mv_X4_within : Cond.selects RX4 yX4_within yX4_within ∈ wsL_law := wsL_of (List.mem_of_getElem? (i := 340) (by decide +kernel)) rfl
theorem mc_X4_alikeToAny : Cond.code yX4_alikeToAny cX4_alikeToAny 4 (some .int) ∈ wsL_law := wsL_of (List.mem_append_right _ (List.mem_append_left _ (List.mem_of_getElem? (i := 105) rfl))) rfl
theorem mn_X4_alikeToAny : Cond.instanceMethod yX4_alikeToAny ∈ wsL_law := wsL_of (List.mem_of_getElem? (i := 344) (by decide +kernel)) rfl
theorem mv_X4_alikeToAny : Cond.selects RX4 yX4_alikeToAny yX4_alikeToAny ∈ wsL_law := wsL_sel (List.mem_of_getElem? (i := 3) (by decide +kernel))
theorem mc_X7_isIn : Cond.code yX7_isIn cX7_isIn 2 (some .boolean) ∈ wsL_law := wsL_of (List.mem_append_right _ (List.mem_append_left _ (List.mem_of_getElem? (i := 108) rfl))) rfl
theorem ms_X7_isIn : Cond.static yX7_isIn ∈ wsL_law := wsL_of (List.mem_of_getElem? (i := 347) (by decide +kernel)) rfl
theorem mc_X4_behindSwaps : Cond.code yX4_behindSwaps cX4_behindSwaps 7 (some .int) ∈ wsL_law := wsL_of (List.mem_append_right _ (List.mem_append_left _ (List.mem_of_getElem? (i := 113) rfl))) rfl
theorem mn_X4_behindSwaps : Cond.instanceMethod yX4_behindSwaps ∈ wsL_law := wsL_of (List.mem_of_getElem? (i := 351) (by decide +kernel)) rfl
theorem mv_X4_behindSwaps : Cond.selects RX4 yX4_behindSwaps yX4_behindSwaps ∈ wsL_law := wsL_of (List.mem_of_getElem? (i := 352) (by decide +kernel)) rfl
theorem mc_X4_leastIn : Cond.code yX4_leastIn cX4_leastIn 3 (some .int) ∈ wsL_law := wsL_of (List.mem_append_right _ (List.mem_append_left _ (List.mem_of_getElem? (i := 118) rfl))) rfl
theorem mn_X4_leastIn : Cond.instanceMethod yX4_leastIn ∈ wsL_law := wsL_of (List.mem_of_getElem? (i := 357) (by decide +kernel)) rfl
theorem mv_X4_leastIn : Cond.selects RX4 yX4_leastIn yX4_leastIn ∈ wsL_law := wsL_sel (List.mem_of_getElem? (i := 4) (by decide +kernel))
theorem mc_X7_noon : Cond.code yX7_noon cX7_noon 4 (some .int) ∈ wsL_law := wsL_of (List.mem_append_right _ (List.mem_append_left _ (List.mem_of_getElem? (i := 122) rfl))) rfl
theorem mn_X7_noon : Cond.instanceMethod yX7_noon ∈ wsL_law := wsL_of (List.mem_of_getElem? (i := 360) (by decide +kernel)) rfl
theorem mv_X7_noon : Cond.selects RX7 yX7_noon yX7_noon ∈ wsL_law := wsL_of (List.mem_of_getElem? (i := 361) (by decide +kernel)) rfl
theorem mc_X7_gain : Cond.code yX7_gain cX7_gain 11 (some .int) ∈ wsL_law := wsL_of (List.mem_append_right _ (List.mem_append_left _ (List.mem_of_getElem? (i := 127) rfl))) rfl
theorem mn_X7_gain : Cond.instanceMethod yX7_gain ∈ wsL_law := wsL_of (List.mem_of_getElem? (i := 365) (by decide +kernel)) rfl
theorem mv_X7_gain : Cond.selects RX7 yX7_gain yX7_gain ∈ wsL_law := wsL_of (List.mem_of_getElem? (i := 366) (by decide +kernel)) rfl
theorem mc_X7_swappedUp : Cond.code yX7_swappedUp cX7_swappedUp 4 (some .int) ∈ wsL_law := wsL_of (List.mem_append_right _ (List.mem_append_left _ (List.mem_of_getElem? (i := 131) rfl))) rfl
theorem mn_X7_swappedUp : Cond.instanceMethod yX7_swappedUp ∈ wsL_law := wsL_of (List.mem_of_getElem? (i := 370) (by decide +kernel)) rfl
theorem mv_X7_swappedUp : Cond.selects RX7 yX7_swappedUp yX7_swappedUp ∈ wsL_law := wsL_sel (List.mem_of_getElem? (i := 5) (by decide +kernel))
theorem mc_X6_greatestOf : Cond.code yX6_greatestOf cX6_greatestOf 4 (some .int) ∈ wsL_law := wsL_of (List.mem_append_right _ (List.mem_append_left _ (List.mem_of_getElem? (i := 136) rfl))) rfl
theorem mn_X6_greatestOf : Cond.instanceMethod yX6_greatestOf ∈ wsL_law := wsL_of (List.mem_of_getElem? (i := 374) (by decide +kernel)) rfl
theorem mv_X6_greatestOf : Cond.selects RX6 yX6_greatestOf yX6_greatestOf ∈ wsL_law := wsL_of (List.mem_of_getElem? (i := 375) (by decide +kernel)) rfl
theorem mc_J9_max_7cf53 : Cond.code yJ9_max_7cf53 cJ9_max_7cf53 2 (some .int) ∈ wsL_law := wsL_of (List.mem_append_right _ (List.mem_append_left _ (List.mem_of_getElem? (i := 141) rfl))) rfl
theorem ms_J9_max_7cf53 : Cond.static yJ9_max_7cf53 ∈ wsL_law := wsL_of (List.mem_of_getElem? (i := 380) (by decide +kernel)) rfl
theorem mc_X7_saying : Cond.code yX7_saying cX7_saying 5 (some .int) ∈ wsL_law := wsL_of (List.mem_append_right _ (List.mem_append_left _ (List.mem_of_getElem? (i := 145) rfl))) rfl
theorem mn_X7_saying : Cond.instanceMethod yX7_saying ∈ wsL_law := wsL_of (List.mem_of_getElem? (i := 383) (by decide +kernel)) rfl
theorem mv_X7_saying : Cond.selects RX7 yX7_saying yX7_saying ∈ wsL_law := wsL_of (List.mem_of_getElem? (i := 384) (by decide +kernel)) rfl
theorem mc_X2_add : Cond.code yX2_add cX2_add 5 (some .int) ∈ wsL_law := wsL_of (List.mem_append_right _ (List.mem_append_left _ (List.mem_of_getElem? (i := 149) rfl))) rfl
theorem mn_X2_add : Cond.instanceMethod yX2_add ∈ wsL_law := wsL_of (List.mem_of_getElem? (i := 387) (by decide +kernel)) rfl
theorem mv_X2_add : Cond.selects RX2 yX2_add yX2_add ∈ wsL_law := wsL_of (List.mem_of_getElem? (i := 388) (by decide +kernel)) rfl
theorem mc_X7_back : Cond.code yX7_back cX7_back 2 (some .int) ∈ wsL_law := wsL_of (List.mem_append_right _ (List.mem_append_left _ (List.mem_of_getElem? (i := 153) rfl))) rfl
theorem mn_X7_back : Cond.instanceMethod yX7_back ∈ wsL_law := wsL_of (List.mem_of_getElem? (i := 391) (by decide +kernel)) rfl
theorem mv_X7_back : Cond.selects RX7 yX7_back yX7_back ∈ wsL_law := wsL_of (List.mem_of_getElem? (i := 392) (by decide +kernel)) rfl
theorem mc_X2_count : Cond.code yX2_count cX2_count 1 (some .int) ∈ wsL_law := wsL_of (List.mem_append_right _ (List.mem_append_left _ (List.mem_of_getElem? (i := 157) rfl))) rfl
theorem mn_X2_count : Cond.instanceMethod yX2_count ∈ wsL_law := wsL_of (List.mem_of_getElem? (i := 395) (by decide +kernel)) rfl
theorem mv_X2_count : Cond.selects RX2 yX2_count yX2_count ∈ wsL_law := wsL_of (List.mem_of_getElem? (i := 396) (by decide +kernel)) rfl
theorem mc_X2_takeBack : Cond.code yX2_takeBack cX2_takeBack 2 (some .int) ∈ wsL_law := wsL_of (List.mem_append_right _ (List.mem_append_left _ (List.mem_of_getElem? (i := 161) rfl))) rfl
theorem mn_X2_takeBack : Cond.instanceMethod yX2_takeBack ∈ wsL_law := wsL_of (List.mem_of_getElem? (i := 399) (by decide +kernel)) rfl
theorem mv_X2_takeBack : Cond.selects RX2 yX2_takeBack yX2_takeBack ∈ wsL_law := wsL_of (List.mem_of_getElem? (i := 400) (by decide +kernel)) rfl
theorem mc_X7_untrue : Cond.code yX7_untrue cX7_untrue 5 (some .int) ∈ wsL_law := wsL_of (List.mem_append_right _ (List.mem_append_left _ (List.mem_of_getElem? (i := 166) rfl))) rfl
theorem mn_X7_untrue : Cond.instanceMethod yX7_untrue ∈ wsL_law := wsL_of (List.mem_of_getElem? (i := 404) (by decide +kernel)) rfl
theorem mv_X7_untrue : Cond.selects RX7 yX7_untrue yX7_untrue ∈ wsL_law := wsL_of (List.mem_of_getElem? (i := 405) (by decide +kernel)) rfl
theorem mc_X2_firstOf : Cond.code yX2_firstOf cX2_firstOf 2 (some .int) ∈ wsL_law := wsL_of (List.mem_append_right _ (List.mem_append_left _ (List.mem_of_getElem? (i := 170) rfl))) rfl
theorem mn_X2_firstOf : Cond.instanceMethod yX2_firstOf ∈ wsL_law := wsL_of (List.mem_of_getElem? (i := 408) (by decide +kernel)) rfl
theorem mv_X2_firstOf : Cond.selects RX2 yX2_firstOf yX2_firstOf ∈ wsL_law := wsL_of (List.mem_of_getElem? (i := 409) (by decide +kernel)) rfl
theorem mc_X2_has : Cond.code yX2_has cX2_has 2 (some .boolean) ∈ wsL_law := wsL_of (List.mem_append_right _ (List.mem_append_left _ (List.mem_of_getElem? (i := 174) rfl))) rfl
theorem mn_X2_has : Cond.instanceMethod yX2_has ∈ wsL_law := wsL_of (List.mem_of_getElem? (i := 413) (by decide +kernel)) rfl
theorem mv_X2_has : Cond.selects RX2 yX2_has yX2_has ∈ wsL_law := wsL_sel (List.mem_of_getElem? (i := 6) (by decide +kernel))
theorem mc_X2_secondOf : Cond.code yX2_secondOf cX2_secondOf 2 (some .int) ∈ wsL_law := wsL_of (List.mem_append_right _ (List.mem_append_left _ (List.mem_of_getElem? (i := 178) rfl))) rfl
theorem mn_X2_secondOf : Cond.instanceMethod yX2_secondOf ∈ wsL_law := wsL_of (List.mem_of_getElem? (i := 416) (by decide +kernel)) rfl
theorem mv_X2_secondOf : Cond.selects RX2 yX2_secondOf yX2_secondOf ∈ wsL_law := wsL_of (List.mem_of_getElem? (i := 417) (by decide +kernel)) rfl
theorem mc_X2_isFalse : Cond.code yX2_isFalse cX2_isFalse 5 (some .boolean) ∈ wsL_law := wsL_of (List.mem_append_right _ (List.mem_append_left _ (List.mem_of_getElem? (i := 182) rfl))) rfl
theorem mn_X2_isFalse : Cond.instanceMethod yX2_isFalse ∈ wsL_law := wsL_of (List.mem_of_getElem? (i := 420) (by decide +kernel)) rfl
theorem mv_X2_isFalse : Cond.selects RX2 yX2_isFalse yX2_isFalse ∈ wsL_law := wsL_of (List.mem_of_getElem? (i := 421) (by decide +kernel)) rfl
theorem mc_X7_leaves : Cond.code yX7_leaves cX7_leaves 7 (some .int) ∈ wsL_law := wsL_of (List.mem_append_right _ (List.mem_append_left _ (List.mem_of_getElem? (i := 188) rfl))) rfl
theorem mn_X7_leaves : Cond.instanceMethod yX7_leaves ∈ wsL_law := wsL_of (List.mem_of_getElem? (i := 426) (by decide +kernel)) rfl
theorem mv_X7_leaves : Cond.selects RX7 yX7_leaves yX7_leaves ∈ wsL_law := wsL_of (List.mem_of_getElem? (i := 427) (by decide +kernel)) rfl
theorem mc_X7_falseByWeight : Cond.code yX7_falseByWeight cX7_falseByWeight 9 (some .int) ∈ wsL_law := wsL_of (List.mem_append_right _ (List.mem_append_left _ (List.mem_of_getElem? (i := 192) rfl))) rfl
theorem mn_X7_falseByWeight : Cond.instanceMethod yX7_falseByWeight ∈ wsL_law := wsL_of (List.mem_of_getElem? (i := 431) (by decide +kernel)) rfl
theorem mv_X7_falseByWeight : Cond.selects RX7 yX7_falseByWeight yX7_falseByWeight ∈ wsL_law := wsL_sel (List.mem_of_getElem? (i := 7) (by decide +kernel))
theorem mc_X7_breaks : Cond.code yX7_breaks cX7_breaks 7 (some .int) ∈ wsL_law := wsL_of (List.mem_append_right _ (List.mem_append_left _ (List.mem_of_getElem? (i := 196) rfl))) rfl
theorem mn_X7_breaks : Cond.instanceMethod yX7_breaks ∈ wsL_law := wsL_of (List.mem_of_getElem? (i := 434) (by decide +kernel)) rfl
theorem mv_X7_breaks : Cond.selects RX7 yX7_breaks yX7_breaks ∈ wsL_law := wsL_of (List.mem_of_getElem? (i := 435) (by decide +kernel)) rfl
theorem mc_X7_rows : Cond.code yX7_rows cX7_rows 3 (some .int) ∈ wsL_law := wsL_of (List.mem_append_right _ (List.mem_append_left _ (List.mem_of_getElem? (i := 200) rfl))) rfl
theorem mn_X7_rows : Cond.instanceMethod yX7_rows ∈ wsL_law := wsL_of (List.mem_of_getElem? (i := 438) (by decide +kernel)) rfl
theorem mv_X7_rows : Cond.selects RX7 yX7_rows yX7_rows ∈ wsL_law := wsL_of (List.mem_of_getElem? (i := 439) (by decide +kernel)) rfl
theorem mc_X4_countOrders : Cond.code yX4_countOrders cX4_countOrders 5 (some .int) ∈ wsL_law := wsL_of (List.mem_append_right _ (List.mem_append_left _ (List.mem_of_getElem? (i := 204) rfl))) rfl
theorem mn_X4_countOrders : Cond.instanceMethod yX4_countOrders ∈ wsL_law := wsL_of (List.mem_of_getElem? (i := 442) (by decide +kernel)) rfl
theorem mv_X4_countOrders : Cond.selects RX4 yX4_countOrders yX4_countOrders ∈ wsL_law := wsL_of (List.mem_of_getElem? (i := 443) (by decide +kernel)) rfl
theorem mc_X4_allThings : Cond.code yX4_allThings cX4_allThings 1 (some .int) ∈ wsL_law := wsL_of (List.mem_append_right _ (List.mem_append_left _ (List.mem_of_getElem? (i := 208) rfl))) rfl
theorem mn_X4_allThings : Cond.instanceMethod yX4_allThings ∈ wsL_law := wsL_of (List.mem_of_getElem? (i := 447) (by decide +kernel)) rfl
theorem mv_X4_allThings : Cond.selects RX4 yX4_allThings yX4_allThings ∈ wsL_law := wsL_sel (List.mem_of_getElem? (i := 8) (by decide +kernel))
theorem mc_X4_placeInFirstOrder : Cond.code yX4_placeInFirstOrder cX4_placeInFirstOrder 5 (some .int) ∈ wsL_law := wsL_of (List.mem_append_right _ (List.mem_append_left _ (List.mem_of_getElem? (i := 212) rfl))) rfl
theorem mn_X4_placeInFirstOrder : Cond.instanceMethod yX4_placeInFirstOrder ∈ wsL_law := wsL_of (List.mem_of_getElem? (i := 450) (by decide +kernel)) rfl
theorem mv_X4_placeInFirstOrder : Cond.selects RX4 yX4_placeInFirstOrder yX4_placeInFirstOrder ∈ wsL_law := wsL_of (List.mem_of_getElem? (i := 451) (by decide +kernel)) rfl
theorem mc_X4_fittingBehind : Cond.code yX4_fittingBehind cX4_fittingBehind 4 (some .int) ∈ wsL_law := wsL_of (List.mem_append_right _ (List.mem_append_left _ (List.mem_of_getElem? (i := 216) rfl))) rfl
theorem mn_X4_fittingBehind : Cond.instanceMethod yX4_fittingBehind ∈ wsL_law := wsL_of (List.mem_of_getElem? (i := 455) (by decide +kernel)) rfl
theorem mv_X4_fittingBehind : Cond.selects RX4 yX4_fittingBehind yX4_fittingBehind ∈ wsL_law := wsL_sel (List.mem_of_getElem? (i := 9) (by decide +kernel))
theorem mc_X7_longest : Cond.code yX7_longest cX7_longest 2 (some .int) ∈ wsL_law := wsL_of (List.mem_append_right _ (List.mem_append_left _ (List.mem_of_getElem? (i := 220) rfl))) rfl
theorem mn_X7_longest : Cond.instanceMethod yX7_longest ∈ wsL_law := wsL_of (List.mem_of_getElem? (i := 458) (by decide +kernel)) rfl
theorem mv_X7_longest : Cond.selects RX7 yX7_longest yX7_longest ∈ wsL_law := wsL_of (List.mem_of_getElem? (i := 459) (by decide +kernel)) rfl
theorem mc_X4_longestChain : Cond.code yX4_longestChain cX4_longestChain 4 (some .int) ∈ wsL_law := wsL_of (List.mem_append_right _ (List.mem_append_left _ (List.mem_of_getElem? (i := 224) rfl))) rfl
theorem mn_X4_longestChain : Cond.instanceMethod yX4_longestChain ∈ wsL_law := wsL_of (List.mem_of_getElem? (i := 462) (by decide +kernel)) rfl
theorem mv_X4_longestChain : Cond.selects RX4 yX4_longestChain yX4_longestChain ∈ wsL_law := wsL_of (List.mem_of_getElem? (i := 463) (by decide +kernel)) rfl
theorem mc_X4_heavierThanAny : Cond.code yX4_heavierThanAny cX4_heavierThanAny 4 (some .int) ∈ wsL_law := wsL_of (List.mem_append_right _ (List.mem_append_left _ (List.mem_of_getElem? (i := 228) rfl))) rfl
theorem mn_X4_heavierThanAny : Cond.instanceMethod yX4_heavierThanAny ∈ wsL_law := wsL_of (List.mem_of_getElem? (i := 467) (by decide +kernel)) rfl
theorem mv_X4_heavierThanAny : Cond.selects RX4 yX4_heavierThanAny yX4_heavierThanAny ∈ wsL_law := wsL_sel (List.mem_of_getElem? (i := 10) (by decide +kernel))
theorem mc_X7_crowd : Cond.code yX7_crowd cX7_crowd 2 (some .int) ∈ wsL_law := wsL_of (List.mem_append_right _ (List.mem_append_left _ (List.mem_of_getElem? (i := 232) rfl))) rfl
theorem mn_X7_crowd : Cond.instanceMethod yX7_crowd ∈ wsL_law := wsL_of (List.mem_of_getElem? (i := 470) (by decide +kernel)) rfl
theorem mv_X7_crowd : Cond.selects RX7 yX7_crowd yX7_crowd ∈ wsL_law := wsL_of (List.mem_of_getElem? (i := 471) (by decide +kernel)) rfl
theorem mc_X4_greatestCrowd : Cond.code yX4_greatestCrowd cX4_greatestCrowd 3 (some .int) ∈ wsL_law := wsL_of (List.mem_append_right _ (List.mem_append_left _ (List.mem_of_getElem? (i := 236) rfl))) rfl
theorem mn_X4_greatestCrowd : Cond.instanceMethod yX4_greatestCrowd ∈ wsL_law := wsL_of (List.mem_of_getElem? (i := 474) (by decide +kernel)) rfl
theorem mv_X4_greatestCrowd : Cond.selects RX4 yX4_greatestCrowd yX4_greatestCrowd ∈ wsL_law := wsL_of (List.mem_of_getElem? (i := 475) (by decide +kernel)) rfl
theorem mc_J6_bitCount_0f7a4 : Cond.code yJ6_bitCount_0f7a4 cJ6_bitCount_0f7a4 1 (some .int) ∈ wsL_law := wsL_of (List.mem_append_right _ (List.mem_append_left _ (List.mem_of_getElem? (i := 239) rfl))) rfl
theorem ms_J6_bitCount_0f7a4 : Cond.static yJ6_bitCount_0f7a4 ∈ wsL_law := wsL_of (List.mem_of_getElem? (i := 478) (by decide +kernel)) rfl
theorem mc_X4_areAllAlike : Cond.code yX4_areAllAlike cX4_areAllAlike 3 (some .boolean) ∈ wsL_law := wsL_of (List.mem_append_right _ (List.mem_append_right _ (List.mem_append_left _ (List.mem_of_getElem? (i := 6) rfl)))) rfl
theorem mn_X4_areAllAlike : Cond.instanceMethod yX4_areAllAlike ∈ wsL_law := wsL_of (List.mem_of_getElem? (i := 485) (by decide +kernel)) rfl
theorem mv_X4_areAllAlike : Cond.selects RX4 yX4_areAllAlike yX4_areAllAlike ∈ wsL_law := wsL_sel (List.mem_of_getElem? (i := 11) (by decide +kernel))
theorem mc_X7_measure : Cond.code yX7_measure cX7_measure 5 (some .int) ∈ wsL_law := wsL_of (List.mem_append_right _ (List.mem_append_right _ (List.mem_append_left _ (List.mem_of_getElem? (i := 10) rfl)))) rfl
theorem mn_X7_measure : Cond.instanceMethod yX7_measure ∈ wsL_law := wsL_of (List.mem_of_getElem? (i := 488) (by decide +kernel)) rfl
theorem mv_X7_measure : Cond.selects RX7 yX7_measure yX7_measure ∈ wsL_law := wsL_of (List.mem_of_getElem? (i := 489) (by decide +kernel)) rfl
theorem mc_X4_othersAlikeTo : Cond.code yX4_othersAlikeTo cX4_othersAlikeTo 2 (some .int) ∈ wsL_law := wsL_of (List.mem_append_right _ (List.mem_append_right _ (List.mem_append_left _ (List.mem_of_getElem? (i := 14) rfl)))) rfl
theorem mn_X4_othersAlikeTo : Cond.instanceMethod yX4_othersAlikeTo ∈ wsL_law := wsL_of (List.mem_of_getElem? (i := 492) (by decide +kernel)) rfl
theorem mv_X4_othersAlikeTo : Cond.selects RX4 yX4_othersAlikeTo yX4_othersAlikeTo ∈ wsL_law := wsL_of (List.mem_of_getElem? (i := 493) (by decide +kernel)) rfl
theorem mc_X7_copies : Cond.code yX7_copies cX7_copies 8 (some .int) ∈ wsL_law := wsL_of (List.mem_append_right _ (List.mem_append_right _ (List.mem_append_left _ (List.mem_of_getElem? (i := 18) rfl)))) rfl
theorem mn_X7_copies : Cond.instanceMethod yX7_copies ∈ wsL_law := wsL_of (List.mem_of_getElem? (i := 496) (by decide +kernel)) rfl
theorem mv_X7_copies : Cond.selects RX7 yX7_copies yX7_copies ∈ wsL_law := wsL_of (List.mem_of_getElem? (i := 497) (by decide +kernel)) rfl
theorem mc_X7_takeHandRow : Cond.code yX7_takeHandRow cX7_takeHandRow 8 (some .int) ∈ wsL_law := wsL_of (List.mem_append_right _ (List.mem_append_right _ (List.mem_append_left _ (List.mem_of_getElem? (i := 22) rfl)))) rfl
theorem mn_X7_takeHandRow : Cond.instanceMethod yX7_takeHandRow ∈ wsL_law := wsL_of (List.mem_of_getElem? (i := 501) (by decide +kernel)) rfl
theorem mv_X7_takeHandRow : Cond.selects RX7 yX7_takeHandRow yX7_takeHandRow ∈ wsL_law := wsL_sel (List.mem_of_getElem? (i := 12) (by decide +kernel))
theorem mc_X0_clear : Cond.code yX0_clear cX0_clear 1 none ∈ wsL_law := wsL_of (List.mem_append_right _ (List.mem_append_right _ (List.mem_append_left _ (List.mem_of_getElem? (i := 26) rfl)))) rfl
theorem mn_X0_clear : Cond.instanceMethod yX0_clear ∈ wsL_law := wsL_of (List.mem_of_getElem? (i := 504) (by decide +kernel)) rfl
theorem mv_X0_clear : Cond.selects RX0 yX0_clear yX0_clear ∈ wsL_law := wsL_of (List.mem_of_getElem? (i := 505) (by decide +kernel)) rfl
theorem mc_X0_add : Cond.code yX0_add cX0_add 2 none ∈ wsL_law := wsL_of (List.mem_append_right _ (List.mem_append_right _ (List.mem_append_left _ (List.mem_of_getElem? (i := 31) rfl)))) rfl
theorem mn_X0_add : Cond.instanceMethod yX0_add ∈ wsL_law := wsL_of (List.mem_of_getElem? (i := 509) (by decide +kernel)) rfl
theorem mv_X0_add : Cond.selects RX0 yX0_add yX0_add ∈ wsL_law := wsL_of (List.mem_of_getElem? (i := 510) (by decide +kernel)) rfl
theorem mc_X0_greatestCopy : Cond.code yX0_greatestCopy cX0_greatestCopy 5 (some .int) ∈ wsL_law := wsL_of (List.mem_append_right _ (List.mem_append_right _ (List.mem_append_left _ (List.mem_of_getElem? (i := 35) rfl)))) rfl
theorem mn_X0_greatestCopy : Cond.instanceMethod yX0_greatestCopy ∈ wsL_law := wsL_of (List.mem_of_getElem? (i := 513) (by decide +kernel)) rfl
theorem mv_X0_greatestCopy : Cond.selects RX0 yX0_greatestCopy yX0_greatestCopy ∈ wsL_law := wsL_of (List.mem_of_getElem? (i := 514) (by decide +kernel)) rfl
theorem mc_X0_inRow : Cond.code yX0_inRow cX0_inRow 2 (some .int) ∈ wsL_law := wsL_of (List.mem_append_right _ (List.mem_append_right _ (List.mem_append_left _ (List.mem_of_getElem? (i := 39) rfl)))) rfl
theorem mn_X0_inRow : Cond.instanceMethod yX0_inRow ∈ wsL_law := wsL_of (List.mem_of_getElem? (i := 518) (by decide +kernel)) rfl
theorem mv_X0_inRow : Cond.selects RX0 yX0_inRow yX0_inRow ∈ wsL_law := wsL_sel (List.mem_of_getElem? (i := 13) (by decide +kernel))
theorem mc_X0_has : Cond.code yX0_has cX0_has 2 (some .boolean) ∈ wsL_law := wsL_of (List.mem_append_right _ (List.mem_append_right _ (List.mem_append_left _ (List.mem_of_getElem? (i := 43) rfl)))) rfl
theorem mn_X0_has : Cond.instanceMethod yX0_has ∈ wsL_law := wsL_of (List.mem_of_getElem? (i := 522) (by decide +kernel)) rfl
theorem mv_X0_has : Cond.selects RX0 yX0_has yX0_has ∈ wsL_law := wsL_sel (List.mem_of_getElem? (i := 14) (by decide +kernel))
theorem mc_X1_greatestUntold : Cond.code yX1_greatestUntold cX1_greatestUntold 4 (some .int) ∈ wsL_law := wsL_of (List.mem_append_right _ (List.mem_append_right _ (List.mem_append_left _ (List.mem_of_getElem? (i := 47) rfl)))) rfl
theorem mn_X1_greatestUntold : Cond.instanceMethod yX1_greatestUntold ∈ wsL_law := wsL_of (List.mem_of_getElem? (i := 525) (by decide +kernel)) rfl
theorem mv_X1_greatestUntold : Cond.selects RX1 yX1_greatestUntold yX1_greatestUntold ∈ wsL_law := wsL_of (List.mem_of_getElem? (i := 526) (by decide +kernel)) rfl
theorem mc_X0_leastCopy : Cond.code yX0_leastCopy cX0_leastCopy 5 (some .int) ∈ wsL_law := wsL_of (List.mem_append_right _ (List.mem_append_right _ (List.mem_append_left _ (List.mem_of_getElem? (i := 51) rfl)))) rfl
theorem mn_X0_leastCopy : Cond.instanceMethod yX0_leastCopy ∈ wsL_law := wsL_of (List.mem_of_getElem? (i := 529) (by decide +kernel)) rfl
theorem mv_X0_leastCopy : Cond.selects RX0 yX0_leastCopy yX0_leastCopy ∈ wsL_law := wsL_of (List.mem_of_getElem? (i := 530) (by decide +kernel)) rfl
theorem mc_X1_leastUntold : Cond.code yX1_leastUntold cX1_leastUntold 5 (some .int) ∈ wsL_law := wsL_of (List.mem_append_right _ (List.mem_append_right _ (List.mem_append_left _ (List.mem_of_getElem? (i := 55) rfl)))) rfl
theorem mn_X1_leastUntold : Cond.instanceMethod yX1_leastUntold ∈ wsL_law := wsL_of (List.mem_of_getElem? (i := 533) (by decide +kernel)) rfl
theorem mv_X1_leastUntold : Cond.selects RX1 yX1_leastUntold yX1_leastUntold ∈ wsL_law := wsL_of (List.mem_of_getElem? (i := 534) (by decide +kernel)) rfl
theorem mc_X7_bestRow : Cond.code yX7_bestRow cX7_bestRow 9 (some .int) ∈ wsL_law := wsL_of (List.mem_append_right _ (List.mem_append_right _ (List.mem_append_left _ (List.mem_of_getElem? (i := 59) rfl)))) rfl
theorem mn_X7_bestRow : Cond.instanceMethod yX7_bestRow ∈ wsL_law := wsL_of (List.mem_of_getElem? (i := 537) (by decide +kernel)) rfl
theorem mv_X7_bestRow : Cond.selects RX7 yX7_bestRow yX7_bestRow ∈ wsL_law := wsL_of (List.mem_of_getElem? (i := 538) (by decide +kernel)) rfl
theorem mc_X0_findBest : Cond.code yX0_findBest cX0_findBest 6 (some .int) ∈ wsL_law := wsL_of (List.mem_append_right _ (List.mem_append_right _ (List.mem_append_left _ (List.mem_of_getElem? (i := 63) rfl)))) rfl
theorem mn_X0_findBest : Cond.instanceMethod yX0_findBest ∈ wsL_law := wsL_of (List.mem_of_getElem? (i := 541) (by decide +kernel)) rfl
theorem mv_X0_findBest : Cond.selects RX0 yX0_findBest yX0_findBest ∈ wsL_law := wsL_of (List.mem_of_getElem? (i := 542) (by decide +kernel)) rfl
theorem mc_X0_sortRow : Cond.code yX0_sortRow cX0_sortRow 3 none ∈ wsL_law := wsL_of (List.mem_append_right _ (List.mem_append_right _ (List.mem_append_left _ (List.mem_of_getElem? (i := 67) rfl)))) rfl
theorem mn_X0_sortRow : Cond.instanceMethod yX0_sortRow ∈ wsL_law := wsL_of (List.mem_of_getElem? (i := 546) (by decide +kernel)) rfl
theorem mv_X0_sortRow : Cond.selects RX0 yX0_sortRow yX0_sortRow ∈ wsL_law := wsL_sel (List.mem_of_getElem? (i := 15) (by decide +kernel))
theorem mc_X0_exchange : Cond.code yX0_exchange cX0_exchange 4 none ∈ wsL_law := wsL_of (List.mem_append_right _ (List.mem_append_right _ (List.mem_append_left _ (List.mem_of_getElem? (i := 71) rfl)))) rfl
theorem mn_X0_exchange : Cond.instanceMethod yX0_exchange ∈ wsL_law := wsL_of (List.mem_of_getElem? (i := 550) (by decide +kernel)) rfl
theorem mv_X0_exchange : Cond.selects RX0 yX0_exchange yX0_exchange ∈ wsL_law := wsL_sel (List.mem_of_getElem? (i := 16) (by decide +kernel))
theorem mc_X0_spread : Cond.code yX0_spread cX0_spread 3 (some .int) ∈ wsL_law := wsL_of (List.mem_append_right _ (List.mem_append_right _ (List.mem_append_left _ (List.mem_of_getElem? (i := 75) rfl)))) rfl
theorem mn_X0_spread : Cond.instanceMethod yX0_spread ∈ wsL_law := wsL_of (List.mem_of_getElem? (i := 554) (by decide +kernel)) rfl
theorem mv_X0_spread : Cond.selects RX0 yX0_spread yX0_spread ∈ wsL_law := wsL_sel (List.mem_of_getElem? (i := 17) (by decide +kernel))
theorem mc_X0_keepAsBest : Cond.code yX0_keepAsBest cX0_keepAsBest 2 none ∈ wsL_law := wsL_of (List.mem_append_right _ (List.mem_append_right _ (List.mem_append_left _ (List.mem_of_getElem? (i := 81) rfl)))) rfl
theorem mn_X0_keepAsBest : Cond.instanceMethod yX0_keepAsBest ∈ wsL_law := wsL_of (List.mem_of_getElem? (i := 560) (by decide +kernel)) rfl
theorem mv_X0_keepAsBest : Cond.selects RX0 yX0_keepAsBest yX0_keepAsBest ∈ wsL_law := wsL_sel (List.mem_of_getElem? (i := 18) (by decide +kernel))
theorem mc_X0_toNextOrder : Cond.code yX0_toNextOrder cX0_toNextOrder 5 (some .boolean) ∈ wsL_law := wsL_of (List.mem_append_right _ (List.mem_append_right _ (List.mem_append_left _ (List.mem_of_getElem? (i := 85) rfl)))) rfl
theorem mn_X0_toNextOrder : Cond.instanceMethod yX0_toNextOrder ∈ wsL_law := wsL_of (List.mem_of_getElem? (i := 564) (by decide +kernel)) rfl
theorem mv_X0_toNextOrder : Cond.selects RX0 yX0_toNextOrder yX0_toNextOrder ∈ wsL_law := wsL_sel (List.mem_of_getElem? (i := 19) (by decide +kernel))
theorem mc_X0_inBest : Cond.code yX0_inBest cX0_inBest 2 (some .int) ∈ wsL_law := wsL_of (List.mem_append_right _ (List.mem_append_right _ (List.mem_append_left _ (List.mem_of_getElem? (i := 89) rfl)))) rfl
theorem mn_X0_inBest : Cond.instanceMethod yX0_inBest ∈ wsL_law := wsL_of (List.mem_of_getElem? (i := 567) (by decide +kernel)) rfl
theorem mv_X0_inBest : Cond.selects RX0 yX0_inBest yX0_inBest ∈ wsL_law := wsL_of (List.mem_of_getElem? (i := 568) (by decide +kernel)) rfl
theorem mc_X7_even : Cond.code yX7_even cX7_even 9 (some .int) ∈ wsL_law := wsL_of (List.mem_append_right _ (List.mem_append_right _ (List.mem_append_left _ (List.mem_of_getElem? (i := 93) rfl)))) rfl
theorem mn_X7_even : Cond.instanceMethod yX7_even ∈ wsL_law := wsL_of (List.mem_of_getElem? (i := 571) (by decide +kernel)) rfl
theorem mv_X7_even : Cond.selects RX7 yX7_even yX7_even ∈ wsL_law := wsL_of (List.mem_of_getElem? (i := 572) (by decide +kernel)) rfl
theorem mc_X6_weightTogether : Cond.code yX6_weightTogether cX6_weightTogether 4 (some .int) ∈ wsL_law := wsL_of (List.mem_append_right _ (List.mem_append_right _ (List.mem_append_left _ (List.mem_of_getElem? (i := 97) rfl)))) rfl
theorem mn_X6_weightTogether : Cond.instanceMethod yX6_weightTogether ∈ wsL_law := wsL_of (List.mem_of_getElem? (i := 575) (by decide +kernel)) rfl
theorem mv_X6_weightTogether : Cond.selects RX6 yX6_weightTogether yX6_weightTogether ∈ wsL_law := wsL_of (List.mem_of_getElem? (i := 576) (by decide +kernel)) rfl
theorem mc_X7_odds : Cond.code yX7_odds cX7_odds 6 (some .long) ∈ wsL_law := wsL_of (List.mem_append_right _ (List.mem_append_right _ (List.mem_append_left _ (List.mem_of_getElem? (i := 103) rfl)))) rfl
theorem mn_X7_odds : Cond.instanceMethod yX7_odds ∈ wsL_law := wsL_of (List.mem_of_getElem? (i := 581) (by decide +kernel)) rfl
theorem mv_X7_odds : Cond.selects RX7 yX7_odds yX7_odds ∈ wsL_law := wsL_of (List.mem_of_getElem? (i := 582) (by decide +kernel)) rfl
theorem mc_X4_countTold : Cond.code yX4_countTold cX4_countTold 3 (some .int) ∈ wsL_law := wsL_of (List.mem_append_right _ (List.mem_append_right _ (List.mem_append_left _ (List.mem_of_getElem? (i := 108) rfl)))) rfl
theorem mn_X4_countTold : Cond.instanceMethod yX4_countTold ∈ wsL_law := wsL_of (List.mem_of_getElem? (i := 586) (by decide +kernel)) rfl
theorem mv_X4_countTold : Cond.selects RX4 yX4_countTold yX4_countTold ∈ wsL_law := wsL_of (List.mem_of_getElem? (i := 587) (by decide +kernel)) rfl
theorem mc_X7_commonDivisor : Cond.code yX7_commonDivisor cX7_commonDivisor 3 (some .int) ∈ wsL_law := wsL_of (List.mem_append_right _ (List.mem_append_right _ (List.mem_append_left _ (List.mem_of_getElem? (i := 111) rfl)))) rfl
theorem ms_X7_commonDivisor : Cond.static yX7_commonDivisor ∈ wsL_law := wsL_of (List.mem_of_getElem? (i := 590) (by decide +kernel)) rfl
theorem mc_X7_sheet : Cond.code yX7_sheet cX7_sheet 4 (some .int) ∈ wsL_law := wsL_of (List.mem_append_right _ (List.mem_append_right _ (List.mem_append_left _ (List.mem_of_getElem? (i := 115) rfl)))) rfl
theorem mn_X7_sheet : Cond.instanceMethod yX7_sheet ∈ wsL_law := wsL_of (List.mem_of_getElem? (i := 593) (by decide +kernel)) rfl
theorem mv_X7_sheet : Cond.selects RX7 yX7_sheet yX7_sheet ∈ wsL_law := wsL_of (List.mem_of_getElem? (i := 594) (by decide +kernel)) rfl
theorem mc_X3_renew : Cond.code yX3_renew cX3_renew 5 none ∈ wsL_law := wsL_of (List.mem_append_right _ (List.mem_append_right _ (List.mem_append_left _ (List.mem_of_getElem? (i := 119) rfl)))) rfl
theorem mn_X3_renew : Cond.instanceMethod yX3_renew ∈ wsL_law := wsL_of (List.mem_of_getElem? (i := 597) (by decide +kernel)) rfl
theorem mv_X3_renew : Cond.selects RX3 yX3_renew yX3_renew ∈ wsL_law := wsL_of (List.mem_of_getElem? (i := 598) (by decide +kernel)) rfl
theorem mc_X7_lose : Cond.code yX7_lose cX7_lose 2 (some .int) ∈ wsL_law := wsL_of (List.mem_append_right _ (List.mem_append_right _ (List.mem_append_left _ (List.mem_of_getElem? (i := 123) rfl)))) rfl
theorem mn_X7_lose : Cond.instanceMethod yX7_lose ∈ wsL_law := wsL_of (List.mem_of_getElem? (i := 601) (by decide +kernel)) rfl
theorem mv_X7_lose : Cond.selects RX7 yX7_lose yX7_lose ∈ wsL_law := wsL_of (List.mem_of_getElem? (i := 602) (by decide +kernel)) rfl
theorem mc_X3_empty : Cond.code yX3_empty cX3_empty 3 (some .boolean) ∈ wsL_law := wsL_of (List.mem_append_right _ (List.mem_append_right _ (List.mem_append_left _ (List.mem_of_getElem? (i := 127) rfl)))) rfl
theorem mn_X3_empty : Cond.instanceMethod yX3_empty ∈ wsL_law := wsL_of (List.mem_of_getElem? (i := 605) (by decide +kernel)) rfl
theorem mv_X3_empty : Cond.selects RX3 yX3_empty yX3_empty ∈ wsL_law := wsL_of (List.mem_of_getElem? (i := 606) (by decide +kernel)) rfl
theorem mc_X7_put : Cond.code yX7_put cX7_put 4 (some .int) ∈ wsL_law := wsL_of (List.mem_append_right _ (List.mem_append_right _ (List.mem_append_left _ (List.mem_of_getElem? (i := 131) rfl)))) rfl
theorem mn_X7_put : Cond.instanceMethod yX7_put ∈ wsL_law := wsL_of (List.mem_of_getElem? (i := 609) (by decide +kernel)) rfl
theorem mv_X7_put : Cond.selects RX7 yX7_put yX7_put ∈ wsL_law := wsL_of (List.mem_of_getElem? (i := 610) (by decide +kernel)) rfl
theorem mc_X3_setCell : Cond.code yX3_setCell cX3_setCell 4 none ∈ wsL_law := wsL_of (List.mem_append_right _ (List.mem_append_right _ (List.mem_append_left _ (List.mem_of_getElem? (i := 137) rfl)))) rfl
theorem mn_X3_setCell : Cond.instanceMethod yX3_setCell ∈ wsL_law := wsL_of (List.mem_of_getElem? (i := 615) (by decide +kernel)) rfl
theorem mv_X3_setCell : Cond.selects RX3 yX3_setCell yX3_setCell ∈ wsL_law := wsL_of (List.mem_of_getElem? (i := 616) (by decide +kernel)) rfl
theorem mc_X3_cut : Cond.code yX3_cut cX3_cut 2 (some .int) ∈ wsL_law := wsL_of (List.mem_append_right _ (List.mem_append_right _ (List.mem_append_left _ (List.mem_of_getElem? (i := 140) rfl)))) rfl
theorem ms_X3_cut : Cond.static yX3_cut ∈ wsL_law := wsL_of (List.mem_of_getElem? (i := 619) (by decide +kernel)) rfl
theorem mc_X7_cell : Cond.code yX7_cell cX7_cell 4 (some .long) ∈ wsL_law := wsL_of (List.mem_append_right _ (List.mem_append_right _ (List.mem_append_left _ (List.mem_of_getElem? (i := 144) rfl)))) rfl
theorem mn_X7_cell : Cond.instanceMethod yX7_cell ∈ wsL_law := wsL_of (List.mem_of_getElem? (i := 622) (by decide +kernel)) rfl
theorem mv_X7_cell : Cond.selects RX7 yX7_cell yX7_cell ∈ wsL_law := wsL_of (List.mem_of_getElem? (i := 623) (by decide +kernel)) rfl
theorem mc_X7_copy : Cond.code yX7_copy cX7_copy 6 (some .int) ∈ wsL_law := wsL_of (List.mem_append_right _ (List.mem_append_right _ (List.mem_append_left _ (List.mem_of_getElem? (i := 148) rfl)))) rfl
theorem mn_X7_copy : Cond.instanceMethod yX7_copy ∈ wsL_law := wsL_of (List.mem_of_getElem? (i := 626) (by decide +kernel)) rfl
theorem mv_X7_copy : Cond.selects RX7 yX7_copy yX7_copy ∈ wsL_law := wsL_of (List.mem_of_getElem? (i := 627) (by decide +kernel)) rfl
theorem mc_X3_copyCells : Cond.code yX3_copyCells cX3_copyCells 6 none ∈ wsL_law := wsL_of (List.mem_append_right _ (List.mem_append_right _ (List.mem_append_left _ (List.mem_of_getElem? (i := 153) rfl)))) rfl
theorem mn_X3_copyCells : Cond.instanceMethod yX3_copyCells ∈ wsL_law := wsL_of (List.mem_of_getElem? (i := 631) (by decide +kernel)) rfl
theorem mv_X3_copyCells : Cond.selects RX3 yX3_copyCells yX3_copyCells ∈ wsL_law := wsL_of (List.mem_of_getElem? (i := 632) (by decide +kernel)) rfl
theorem mc_X7_tell : Cond.code yX7_tell cX7_tell 3 (some .int) ∈ wsL_law := wsL_of (List.mem_append_right _ (List.mem_append_right _ (List.mem_append_left _ (List.mem_of_getElem? (i := 160) rfl)))) rfl
theorem mn_X7_tell : Cond.instanceMethod yX7_tell ∈ wsL_law := wsL_of (List.mem_of_getElem? (i := 638) (by decide +kernel)) rfl
theorem mv_X7_tell : Cond.selects RX7 yX7_tell yX7_tell ∈ wsL_law := wsL_of (List.mem_of_getElem? (i := 639) (by decide +kernel)) rfl
theorem mc_X7_smithBody : Cond.code yX7_smithBody cX7_smithBody 3 (some .int) ∈ wsL_law := wsL_of (List.mem_append_right _ (List.mem_append_right _ (List.mem_append_left _ (List.mem_of_getElem? (i := 164) rfl)))) rfl
theorem mn_X7_smithBody : Cond.instanceMethod yX7_smithBody ∈ wsL_law := wsL_of (List.mem_of_getElem? (i := 643) (by decide +kernel)) rfl
theorem mv_X7_smithBody : Cond.selects RX7 yX7_smithBody yX7_smithBody ∈ wsL_law := wsL_sel (List.mem_of_getElem? (i := 20) (by decide +kernel))
theorem mc_X7_leaveTrace : Cond.code yX7_leaveTrace cX7_leaveTrace 2 none ∈ wsL_law := wsL_of (List.mem_append_right _ (List.mem_append_right _ (List.mem_append_left _ (List.mem_of_getElem? (i := 168) rfl)))) rfl
theorem mn_X7_leaveTrace : Cond.instanceMethod yX7_leaveTrace ∈ wsL_law := wsL_of (List.mem_of_getElem? (i := 647) (by decide +kernel)) rfl
theorem mv_X7_leaveTrace : Cond.selects RX7 yX7_leaveTrace yX7_leaveTrace ∈ wsL_law := wsL_sel (List.mem_of_getElem? (i := 21) (by decide +kernel))
theorem mc_X7_steadyBody : Cond.code yX7_steadyBody cX7_steadyBody 2 (some .int) ∈ wsL_law := wsL_of (List.mem_append_right _ (List.mem_append_right _ (List.mem_append_left _ (List.mem_of_getElem? (i := 172) rfl)))) rfl
theorem mn_X7_steadyBody : Cond.instanceMethod yX7_steadyBody ∈ wsL_law := wsL_of (List.mem_of_getElem? (i := 651) (by decide +kernel)) rfl
theorem mv_X7_steadyBody : Cond.selects RX7 yX7_steadyBody yX7_steadyBody ∈ wsL_law := wsL_sel (List.mem_of_getElem? (i := 22) (by decide +kernel))
theorem mc_X7_handBody : Cond.code yX7_handBody cX7_handBody 2 (some .int) ∈ wsL_law := wsL_of (List.mem_append_right _ (List.mem_append_right _ (List.mem_append_left _ (List.mem_of_getElem? (i := 176) rfl)))) rfl
theorem mn_X7_handBody : Cond.instanceMethod yX7_handBody ∈ wsL_law := wsL_of (List.mem_of_getElem? (i := 655) (by decide +kernel)) rfl
theorem mv_X7_handBody : Cond.selects RX7 yX7_handBody yX7_handBody ∈ wsL_law := wsL_sel (List.mem_of_getElem? (i := 23) (by decide +kernel))
theorem mc_X7_shake : Cond.code yX7_shake cX7_shake 2 (some .int) ∈ wsL_law := wsL_of (List.mem_append_right _ (List.mem_append_right _ (List.mem_append_left _ (List.mem_of_getElem? (i := 180) rfl)))) rfl
theorem mn_X7_shake : Cond.instanceMethod yX7_shake ∈ wsL_law := wsL_of (List.mem_of_getElem? (i := 658) (by decide +kernel)) rfl
theorem mv_X7_shake : Cond.selects RX7 yX7_shake yX7_shake ∈ wsL_law := wsL_of (List.mem_of_getElem? (i := 659) (by decide +kernel)) rfl
theorem mc_X7_smithsOwnBody : Cond.code yX7_smithsOwnBody cX7_smithsOwnBody 1 (some .int) ∈ wsL_law := wsL_of (List.mem_append_right _ (List.mem_append_right _ (List.mem_append_left _ (List.mem_of_getElem? (i := 184) rfl)))) rfl
theorem mn_X7_smithsOwnBody : Cond.instanceMethod yX7_smithsOwnBody ∈ wsL_law := wsL_of (List.mem_of_getElem? (i := 663) (by decide +kernel)) rfl
theorem mv_X7_smithsOwnBody : Cond.selects RX7 yX7_smithsOwnBody yX7_smithsOwnBody ∈ wsL_law := wsL_sel (List.mem_of_getElem? (i := 24) (by decide +kernel))
theorem mc_X7_lentBody : Cond.code yX7_lentBody cX7_lentBody 2 (some .int) ∈ wsL_law := wsL_of (List.mem_append_right _ (List.mem_append_right _ (List.mem_append_left _ (List.mem_of_getElem? (i := 188) rfl)))) rfl
theorem mn_X7_lentBody : Cond.instanceMethod yX7_lentBody ∈ wsL_law := wsL_of (List.mem_of_getElem? (i := 667) (by decide +kernel)) rfl
theorem mv_X7_lentBody : Cond.selects RX7 yX7_lentBody yX7_lentBody ∈ wsL_law := wsL_sel (List.mem_of_getElem? (i := 25) (by decide +kernel))
theorem mc_X7_as : Cond.code yX7_as cX7_as 3 (some .int) ∈ wsL_law := wsL_of (List.mem_append_right _ (List.mem_append_right _ (List.mem_append_left _ (List.mem_of_getElem? (i := 192) rfl)))) rfl
theorem mn_X7_as : Cond.instanceMethod yX7_as ∈ wsL_law := wsL_of (List.mem_of_getElem? (i := 670) (by decide +kernel)) rfl
theorem mv_X7_as : Cond.selects RX7 yX7_as yX7_as ∈ wsL_law := wsL_of (List.mem_of_getElem? (i := 671) (by decide +kernel)) rfl
theorem mc_X7_trace : Cond.code yX7_trace cX7_trace 1 (some .int) ∈ wsL_law := wsL_of (List.mem_append_right _ (List.mem_append_right _ (List.mem_append_left _ (List.mem_of_getElem? (i := 196) rfl)))) rfl
theorem mn_X7_trace : Cond.instanceMethod yX7_trace ∈ wsL_law := wsL_of (List.mem_of_getElem? (i := 674) (by decide +kernel)) rfl
theorem mv_X7_trace : Cond.selects RX7 yX7_trace yX7_trace ∈ wsL_law := wsL_of (List.mem_of_getElem? (i := 675) (by decide +kernel)) rfl
theorem mc_X7_fault : Cond.code yX7_fault cX7_fault 1 (some .int) ∈ wsL_law := wsL_of (List.mem_append_right _ (List.mem_append_right _ (List.mem_append_left _ (List.mem_of_getElem? (i := 200) rfl)))) rfl
theorem mn_X7_fault : Cond.instanceMethod yX7_fault ∈ wsL_law := wsL_of (List.mem_of_getElem? (i := 678) (by decide +kernel)) rfl
theorem mv_X7_fault : Cond.selects RX7 yX7_fault yX7_fault ∈ wsL_law := wsL_of (List.mem_of_getElem? (i := 679) (by decide +kernel)) rfl
theorem mc_X7_many : Cond.code yX7_many cX7_many 2 (some .int) ∈ wsL_law := wsL_of (List.mem_append_right _ (List.mem_append_right _ (List.mem_append_left _ (List.mem_of_getElem? (i := 204) rfl)))) rfl
theorem mn_X7_many : Cond.instanceMethod yX7_many ∈ wsL_law := wsL_of (List.mem_of_getElem? (i := 682) (by decide +kernel)) rfl
theorem mv_X7_many : Cond.selects RX7 yX7_many yX7_many ∈ wsL_law := wsL_of (List.mem_of_getElem? (i := 683) (by decide +kernel)) rfl
theorem mc_X1_count : Cond.code yX1_count cX1_count 1 (some .int) ∈ wsL_law := wsL_of (List.mem_append_right _ (List.mem_append_right _ (List.mem_append_left _ (List.mem_of_getElem? (i := 208) rfl)))) rfl
theorem mn_X1_count : Cond.instanceMethod yX1_count ∈ wsL_law := wsL_of (List.mem_of_getElem? (i := 686) (by decide +kernel)) rfl
theorem mv_X1_count : Cond.selects RX1 yX1_count yX1_count ∈ wsL_law := wsL_of (List.mem_of_getElem? (i := 687) (by decide +kernel)) rfl
theorem mc_X8_init : Cond.code yX8_init cX8_init 1 none ∈ wsL_law := wsL_of (List.mem_append_right _ (List.mem_append_right _ (List.mem_append_left _ (List.mem_of_getElem? (i := 213) rfl)))) rfl
theorem mn_X8_init : Cond.instanceMethod yX8_init ∈ wsL_law := wsL_of (List.mem_of_getElem? (i := 692) (by decide +kernel)) rfl
theorem mc_X8_market : Cond.code yX8_market cX8_market 8 (some .int) ∈ wsL_law := wsL_of (List.mem_append_right _ (List.mem_append_right _ (List.mem_append_right _ (List.mem_append_left _ (List.mem_of_getElem? (i := 48) rfl))))) rfl
theorem mn_X8_market : Cond.instanceMethod yX8_market ∈ wsL_law := wsL_of (List.mem_of_getElem? (i := 766) (by decide +kernel)) rfl
theorem mv_X8_market : Cond.selects RX8 yX8_market yX8_market ∈ wsL_law := wsL_of (List.mem_of_getElem? (i := 767) (by decide +kernel)) rfl
theorem mc_X8_isSheet : Cond.code yX8_isSheet cX8_isSheet 1 (some .boolean) ∈ wsL_law := wsL_of (List.mem_append_right _ (List.mem_append_right _ (List.mem_append_right _ (List.mem_append_left _ (List.mem_of_getElem? (i := 51) rfl))))) rfl
theorem ms_X8_isSheet : Cond.static yX8_isSheet ∈ wsL_law := wsL_of (List.mem_of_getElem? (i := 770) (by decide +kernel)) rfl
theorem mc_X8_within : Cond.code yX8_within cX8_within 3 (some .boolean) ∈ wsL_law := wsL_of (List.mem_append_right _ (List.mem_append_right _ (List.mem_append_right _ (List.mem_append_left _ (List.mem_of_getElem? (i := 54) rfl))))) rfl
theorem ms_X8_within : Cond.static yX8_within ∈ wsL_law := wsL_of (List.mem_of_getElem? (i := 773) (by decide +kernel)) rfl
theorem mc_X8_isSort : Cond.code yX8_isSort cX8_isSort 1 (some .boolean) ∈ wsL_law := wsL_of (List.mem_append_right _ (List.mem_append_right _ (List.mem_append_right _ (List.mem_append_left _ (List.mem_of_getElem? (i := 57) rfl))))) rfl
theorem ms_X8_isSort : Cond.static yX8_isSort ∈ wsL_law := wsL_of (List.mem_of_getElem? (i := 776) (by decide +kernel)) rfl
theorem mc_X8_against : Cond.code yX8_against cX8_against 5 (some .int) ∈ wsL_law := wsL_of (List.mem_append_right _ (List.mem_append_right _ (List.mem_append_right _ (List.mem_append_left _ (List.mem_of_getElem? (i := 61) rfl))))) rfl
theorem mn_X8_against : Cond.instanceMethod yX8_against ∈ wsL_law := wsL_of (List.mem_of_getElem? (i := 780) (by decide +kernel)) rfl
theorem mv_X8_against : Cond.selects RX8 yX8_against yX8_against ∈ wsL_law := wsL_sel (List.mem_of_getElem? (i := 26) (by decide +kernel))
theorem mc_X8_fails : Cond.code yX8_fails cX8_fails 2 (some .int) ∈ wsL_law := wsL_of (List.mem_append_right _ (List.mem_append_right _ (List.mem_append_right _ (List.mem_append_left _ (List.mem_of_getElem? (i := 65) rfl))))) rfl
theorem mn_X8_fails : Cond.instanceMethod yX8_fails ∈ wsL_law := wsL_of (List.mem_of_getElem? (i := 784) (by decide +kernel)) rfl
theorem mv_X8_fails : Cond.selects RX8 yX8_fails yX8_fails ∈ wsL_law := wsL_sel (List.mem_of_getElem? (i := 27) (by decide +kernel))
theorem mc_X8_readMarket : Cond.code yX8_readMarket cX8_readMarket 4 (some .boolean) ∈ wsL_law := wsL_of (List.mem_append_right _ (List.mem_append_right _ (List.mem_append_right _ (List.mem_append_left _ (List.mem_of_getElem? (i := 69) rfl))))) rfl
theorem mn_X8_readMarket : Cond.instanceMethod yX8_readMarket ∈ wsL_law := wsL_of (List.mem_of_getElem? (i := 788) (by decide +kernel)) rfl
theorem mv_X8_readMarket : Cond.selects RX8 yX8_readMarket yX8_readMarket ∈ wsL_law := wsL_sel (List.mem_of_getElem? (i := 28) (by decide +kernel))
theorem mc_X8_weight : Cond.code yX8_weight cX8_weight 2 (some .int) ∈ wsL_law := wsL_of (List.mem_append_right _ (List.mem_append_right _ (List.mem_append_right _ (List.mem_append_left _ (List.mem_of_getElem? (i := 73) rfl))))) rfl
theorem mn_X8_weight : Cond.instanceMethod yX8_weight ∈ wsL_law := wsL_of (List.mem_of_getElem? (i := 791) (by decide +kernel)) rfl
theorem mv_X8_weight : Cond.selects RX8 yX8_weight yX8_weight ∈ wsL_law := wsL_of (List.mem_of_getElem? (i := 792) (by decide +kernel)) rfl
theorem mc_X8_isThing : Cond.code yX8_isThing cX8_isThing 2 (some .boolean) ∈ wsL_law := wsL_of (List.mem_append_right _ (List.mem_append_right _ (List.mem_append_right _ (List.mem_append_left _ (List.mem_of_getElem? (i := 77) rfl))))) rfl
theorem mn_X8_isThing : Cond.instanceMethod yX8_isThing ∈ wsL_law := wsL_of (List.mem_of_getElem? (i := 796) (by decide +kernel)) rfl
theorem mv_X8_isThing : Cond.selects RX8 yX8_isThing yX8_isThing ∈ wsL_law := wsL_sel (List.mem_of_getElem? (i := 29) (by decide +kernel))
theorem mc_X8_weigh : Cond.code yX8_weigh cX8_weigh 4 (some .int) ∈ wsL_law := wsL_of (List.mem_append_right _ (List.mem_append_right _ (List.mem_append_right _ (List.mem_append_left _ (List.mem_of_getElem? (i := 81) rfl))))) rfl
theorem mn_X8_weigh : Cond.instanceMethod yX8_weigh ∈ wsL_law := wsL_of (List.mem_of_getElem? (i := 799) (by decide +kernel)) rfl
theorem mv_X8_weigh : Cond.selects RX8 yX8_weigh yX8_weigh ∈ wsL_law := wsL_of (List.mem_of_getElem? (i := 800) (by decide +kernel)) rfl
theorem mc_X8_isWeight : Cond.code yX8_isWeight cX8_isWeight 1 (some .boolean) ∈ wsL_law := wsL_of (List.mem_append_right _ (List.mem_append_right _ (List.mem_append_right _ (List.mem_append_left _ (List.mem_of_getElem? (i := 84) rfl))))) rfl
theorem ms_X8_isWeight : Cond.static yX8_isWeight ∈ wsL_law := wsL_of (List.mem_of_getElem? (i := 803) (by decide +kernel)) rfl
theorem mc_X8_hand : Cond.code yX8_hand cX8_hand 3 (some .int) ∈ wsL_law := wsL_of (List.mem_append_right _ (List.mem_append_right _ (List.mem_append_right _ (List.mem_append_left _ (List.mem_of_getElem? (i := 88) rfl))))) rfl
theorem mn_X8_hand : Cond.instanceMethod yX8_hand ∈ wsL_law := wsL_of (List.mem_of_getElem? (i := 806) (by decide +kernel)) rfl
theorem mv_X8_hand : Cond.selects RX8 yX8_hand yX8_hand ∈ wsL_law := wsL_of (List.mem_of_getElem? (i := 807) (by decide +kernel)) rfl
theorem mc_X8_ofHand : Cond.code yX8_ofHand cX8_ofHand 3 (some .int) ∈ wsL_law := wsL_of (List.mem_append_right _ (List.mem_append_right _ (List.mem_append_right _ (List.mem_append_left _ (List.mem_of_getElem? (i := 92) rfl))))) rfl
theorem mn_X8_ofHand : Cond.instanceMethod yX8_ofHand ∈ wsL_law := wsL_of (List.mem_of_getElem? (i := 810) (by decide +kernel)) rfl
theorem mv_X8_ofHand : Cond.selects RX8 yX8_ofHand yX8_ofHand ∈ wsL_law := wsL_of (List.mem_of_getElem? (i := 811) (by decide +kernel)) rfl
theorem mc_X8_isHand : Cond.code yX8_isHand cX8_isHand 2 (some .boolean) ∈ wsL_law := wsL_of (List.mem_append_right _ (List.mem_append_right _ (List.mem_append_right _ (List.mem_append_left _ (List.mem_of_getElem? (i := 96) rfl))))) rfl
theorem mn_X8_isHand : Cond.instanceMethod yX8_isHand ∈ wsL_law := wsL_of (List.mem_of_getElem? (i := 815) (by decide +kernel)) rfl
theorem mv_X8_isHand : Cond.selects RX8 yX8_isHand yX8_isHand ∈ wsL_law := wsL_sel (List.mem_of_getElem? (i := 30) (by decide +kernel))
theorem mc_X8_tells : Cond.code yX8_tells cX8_tells 4 (some .int) ∈ wsL_law := wsL_of (List.mem_append_right _ (List.mem_append_right _ (List.mem_append_right _ (List.mem_append_left _ (List.mem_of_getElem? (i := 100) rfl))))) rfl
theorem mn_X8_tells : Cond.instanceMethod yX8_tells ∈ wsL_law := wsL_of (List.mem_of_getElem? (i := 818) (by decide +kernel)) rfl
theorem mv_X8_tells : Cond.selects RX8 yX8_tells yX8_tells ∈ wsL_law := wsL_of (List.mem_of_getElem? (i := 819) (by decide +kernel)) rfl
theorem mc_X8_isTold : Cond.code yX8_isTold cX8_isTold 5 (some .boolean) ∈ wsL_law := wsL_of (List.mem_append_right _ (List.mem_append_right _ (List.mem_append_right _ (List.mem_append_left _ (List.mem_of_getElem? (i := 104) rfl))))) rfl
theorem mn_X8_isTold : Cond.instanceMethod yX8_isTold ∈ wsL_law := wsL_of (List.mem_of_getElem? (i := 823) (by decide +kernel)) rfl
theorem mv_X8_isTold : Cond.selects RX8 yX8_isTold yX8_isTold ∈ wsL_law := wsL_sel (List.mem_of_getElem? (i := 31) (by decide +kernel))
theorem mc_X8_times : Cond.code yX8_times cX8_times 2 (some .int) ∈ wsL_law := wsL_of (List.mem_append_right _ (List.mem_append_right _ (List.mem_append_right _ (List.mem_append_left _ (List.mem_of_getElem? (i := 108) rfl))))) rfl
theorem mn_X8_times : Cond.instanceMethod yX8_times ∈ wsL_law := wsL_of (List.mem_of_getElem? (i := 827) (by decide +kernel)) rfl
theorem mv_X8_times : Cond.selects RX8 yX8_times yX8_times ∈ wsL_law := wsL_sel (List.mem_of_getElem? (i := 32) (by decide +kernel))
theorem mc_X8_alike : Cond.code yX8_alike cX8_alike 3 (some .int) ∈ wsL_law := wsL_of (List.mem_append_right _ (List.mem_append_right _ (List.mem_append_right _ (List.mem_append_left _ (List.mem_of_getElem? (i := 112) rfl))))) rfl
theorem mn_X8_alike : Cond.instanceMethod yX8_alike ∈ wsL_law := wsL_of (List.mem_of_getElem? (i := 830) (by decide +kernel)) rfl
theorem mv_X8_alike : Cond.selects RX8 yX8_alike yX8_alike ∈ wsL_law := wsL_of (List.mem_of_getElem? (i := 831) (by decide +kernel)) rfl
theorem mc_X8_alikeTo : Cond.code yX8_alikeTo cX8_alikeTo 5 (some .int) ∈ wsL_law := wsL_of (List.mem_append_right _ (List.mem_append_right _ (List.mem_append_right _ (List.mem_append_left _ (List.mem_of_getElem? (i := 116) rfl))))) rfl
theorem mn_X8_alikeTo : Cond.instanceMethod yX8_alikeTo ∈ wsL_law := wsL_of (List.mem_of_getElem? (i := 835) (by decide +kernel)) rfl
theorem mv_X8_alikeTo : Cond.selects RX8 yX8_alikeTo yX8_alikeTo ∈ wsL_law := wsL_sel (List.mem_of_getElem? (i := 33) (by decide +kernel))
theorem mc_X8_areAlike : Cond.code yX8_areAlike cX8_areAlike 4 (some .boolean) ∈ wsL_law := wsL_of (List.mem_append_right _ (List.mem_append_right _ (List.mem_append_right _ (List.mem_append_left _ (List.mem_of_getElem? (i := 120) rfl))))) rfl
theorem mn_X8_areAlike : Cond.instanceMethod yX8_areAlike ∈ wsL_law := wsL_of (List.mem_of_getElem? (i := 839) (by decide +kernel)) rfl
theorem mv_X8_areAlike : Cond.selects RX8 yX8_areAlike yX8_areAlike ∈ wsL_law := wsL_sel (List.mem_of_getElem? (i := 34) (by decide +kernel))
theorem mc_X8_tellsThem : Cond.code yX8_tellsThem cX8_tellsThem 4 (some .boolean) ∈ wsL_law := wsL_of (List.mem_append_right _ (List.mem_append_right _ (List.mem_append_right _ (List.mem_append_left _ (List.mem_of_getElem? (i := 124) rfl))))) rfl
theorem mn_X8_tellsThem : Cond.instanceMethod yX8_tellsThem ∈ wsL_law := wsL_of (List.mem_of_getElem? (i := 843) (by decide +kernel)) rfl
theorem mv_X8_tellsThem : Cond.selects RX8 yX8_tellsThem yX8_tellsThem ∈ wsL_law := wsL_sel (List.mem_of_getElem? (i := 35) (by decide +kernel))
theorem mc_X8_finer : Cond.code yX8_finer cX8_finer 7 (some .int) ∈ wsL_law := wsL_of (List.mem_append_right _ (List.mem_append_right _ (List.mem_append_right _ (List.mem_append_left _ (List.mem_of_getElem? (i := 128) rfl))))) rfl
theorem mn_X8_finer : Cond.instanceMethod yX8_finer ∈ wsL_law := wsL_of (List.mem_of_getElem? (i := 846) (by decide +kernel)) rfl
theorem mv_X8_finer : Cond.selects RX8 yX8_finer yX8_finer ∈ wsL_law := wsL_of (List.mem_of_getElem? (i := 847) (by decide +kernel)) rfl
theorem mc_X8_way : Cond.code yX8_way cX8_way 7 (some .int) ∈ wsL_law := wsL_of (List.mem_append_right _ (List.mem_append_right _ (List.mem_append_right _ (List.mem_append_left _ (List.mem_of_getElem? (i := 132) rfl))))) rfl
theorem mn_X8_way : Cond.instanceMethod yX8_way ∈ wsL_law := wsL_of (List.mem_of_getElem? (i := 850) (by decide +kernel)) rfl
theorem mv_X8_way : Cond.selects RX8 yX8_way yX8_way ∈ wsL_law := wsL_of (List.mem_of_getElem? (i := 851) (by decide +kernel)) rfl
theorem mc_X8_findFar : Cond.code yX8_findFar cX8_findFar 6 none ∈ wsL_law := wsL_of (List.mem_append_right _ (List.mem_append_right _ (List.mem_append_right _ (List.mem_append_left _ (List.mem_of_getElem? (i := 136) rfl))))) rfl
theorem mn_X8_findFar : Cond.instanceMethod yX8_findFar ∈ wsL_law := wsL_of (List.mem_of_getElem? (i := 855) (by decide +kernel)) rfl
theorem mv_X8_findFar : Cond.selects RX8 yX8_findFar yX8_findFar ∈ wsL_law := wsL_sel (List.mem_of_getElem? (i := 36) (by decide +kernel))
theorem mc_X8_nextOf : Cond.code yX8_nextOf cX8_nextOf 4 (some .int) ∈ wsL_law := wsL_of (List.mem_append_right _ (List.mem_append_right _ (List.mem_append_right _ (List.mem_append_left _ (List.mem_of_getElem? (i := 140) rfl))))) rfl
theorem mn_X8_nextOf : Cond.instanceMethod yX8_nextOf ∈ wsL_law := wsL_of (List.mem_of_getElem? (i := 859) (by decide +kernel)) rfl
theorem mv_X8_nextOf : Cond.selects RX8 yX8_nextOf yX8_nextOf ∈ wsL_law := wsL_sel (List.mem_of_getElem? (i := 37) (by decide +kernel))
theorem mc_X8_noon : Cond.code yX8_noon cX8_noon 6 (some .int) ∈ wsL_law := wsL_of (List.mem_append_right _ (List.mem_append_right _ (List.mem_append_right _ (List.mem_append_left _ (List.mem_of_getElem? (i := 144) rfl))))) rfl
theorem mn_X8_noon : Cond.instanceMethod yX8_noon ∈ wsL_law := wsL_of (List.mem_of_getElem? (i := 862) (by decide +kernel)) rfl
theorem mv_X8_noon : Cond.selects RX8 yX8_noon yX8_noon ∈ wsL_law := wsL_of (List.mem_of_getElem? (i := 863) (by decide +kernel)) rfl
theorem mc_X8_gain : Cond.code yX8_gain cX8_gain 12 (some .int) ∈ wsL_law := wsL_of (List.mem_append_right _ (List.mem_append_right _ (List.mem_append_right _ (List.mem_append_left _ (List.mem_of_getElem? (i := 148) rfl))))) rfl
theorem mn_X8_gain : Cond.instanceMethod yX8_gain ∈ wsL_law := wsL_of (List.mem_of_getElem? (i := 866) (by decide +kernel)) rfl
theorem mv_X8_gain : Cond.selects RX8 yX8_gain yX8_gain ∈ wsL_law := wsL_of (List.mem_of_getElem? (i := 867) (by decide +kernel)) rfl
theorem mc_X8_isGot : Cond.code yX8_isGot cX8_isGot 6 (some .boolean) ∈ wsL_law := wsL_of (List.mem_append_right _ (List.mem_append_right _ (List.mem_append_right _ (List.mem_append_left _ (List.mem_of_getElem? (i := 152) rfl))))) rfl
theorem mn_X8_isGot : Cond.instanceMethod yX8_isGot ∈ wsL_law := wsL_of (List.mem_of_getElem? (i := 871) (by decide +kernel)) rfl
theorem mv_X8_isGot : Cond.selects RX8 yX8_isGot yX8_isGot ∈ wsL_law := wsL_sel (List.mem_of_getElem? (i := 38) (by decide +kernel))
theorem mc_X8_saying : Cond.code yX8_saying cX8_saying 5 (some .int) ∈ wsL_law := wsL_of (List.mem_append_right _ (List.mem_append_right _ (List.mem_append_right _ (List.mem_append_left _ (List.mem_of_getElem? (i := 156) rfl))))) rfl
theorem mn_X8_saying : Cond.instanceMethod yX8_saying ∈ wsL_law := wsL_of (List.mem_of_getElem? (i := 874) (by decide +kernel)) rfl
theorem mv_X8_saying : Cond.selects RX8 yX8_saying yX8_saying ∈ wsL_law := wsL_of (List.mem_of_getElem? (i := 875) (by decide +kernel)) rfl
theorem mc_X8_back : Cond.code yX8_back cX8_back 2 (some .int) ∈ wsL_law := wsL_of (List.mem_append_right _ (List.mem_append_right _ (List.mem_append_right _ (List.mem_append_left _ (List.mem_of_getElem? (i := 160) rfl))))) rfl
theorem mn_X8_back : Cond.instanceMethod yX8_back ∈ wsL_law := wsL_of (List.mem_of_getElem? (i := 878) (by decide +kernel)) rfl
theorem mv_X8_back : Cond.selects RX8 yX8_back yX8_back ∈ wsL_law := wsL_of (List.mem_of_getElem? (i := 879) (by decide +kernel)) rfl
theorem mc_X8_untrue : Cond.code yX8_untrue cX8_untrue 3 (some .int) ∈ wsL_law := wsL_of (List.mem_append_right _ (List.mem_append_right _ (List.mem_append_right _ (List.mem_append_left _ (List.mem_of_getElem? (i := 164) rfl))))) rfl
theorem mn_X8_untrue : Cond.instanceMethod yX8_untrue ∈ wsL_law := wsL_of (List.mem_of_getElem? (i := 882) (by decide +kernel)) rfl
theorem mv_X8_untrue : Cond.selects RX8 yX8_untrue yX8_untrue ∈ wsL_law := wsL_of (List.mem_of_getElem? (i := 883) (by decide +kernel)) rfl
theorem mc_X8_isSo : Cond.code yX8_isSo cX8_isSo 4 (some .boolean) ∈ wsL_law := wsL_of (List.mem_append_right _ (List.mem_append_right _ (List.mem_append_right _ (List.mem_append_left _ (List.mem_of_getElem? (i := 168) rfl))))) rfl
theorem mn_X8_isSo : Cond.instanceMethod yX8_isSo ∈ wsL_law := wsL_of (List.mem_of_getElem? (i := 887) (by decide +kernel)) rfl
theorem mv_X8_isSo : Cond.selects RX8 yX8_isSo yX8_isSo ∈ wsL_law := wsL_sel (List.mem_of_getElem? (i := 39) (by decide +kernel))
theorem mc_X8_leaves : Cond.code yX8_leaves cX8_leaves 8 (some .int) ∈ wsL_law := wsL_of (List.mem_append_right _ (List.mem_append_right _ (List.mem_append_right _ (List.mem_append_left _ (List.mem_of_getElem? (i := 172) rfl))))) rfl
theorem mn_X8_leaves : Cond.instanceMethod yX8_leaves ∈ wsL_law := wsL_of (List.mem_of_getElem? (i := 890) (by decide +kernel)) rfl
theorem mv_X8_leaves : Cond.selects RX8 yX8_leaves yX8_leaves ∈ wsL_law := wsL_of (List.mem_of_getElem? (i := 891) (by decide +kernel)) rfl
theorem mc_X8_falseOf : Cond.code yX8_falseOf cX8_falseOf 4 (some .int) ∈ wsL_law := wsL_of (List.mem_append_right _ (List.mem_append_right _ (List.mem_append_right _ (List.mem_append_left _ (List.mem_of_getElem? (i := 176) rfl))))) rfl
theorem mn_X8_falseOf : Cond.instanceMethod yX8_falseOf ∈ wsL_law := wsL_of (List.mem_of_getElem? (i := 895) (by decide +kernel)) rfl
theorem mv_X8_falseOf : Cond.selects RX8 yX8_falseOf yX8_falseOf ∈ wsL_law := wsL_sel (List.mem_of_getElem? (i := 40) (by decide +kernel))
theorem mc_X8_breaks : Cond.code yX8_breaks cX8_breaks 8 (some .int) ∈ wsL_law := wsL_of (List.mem_append_right _ (List.mem_append_right _ (List.mem_append_right _ (List.mem_append_left _ (List.mem_of_getElem? (i := 180) rfl))))) rfl
theorem mn_X8_breaks : Cond.instanceMethod yX8_breaks ∈ wsL_law := wsL_of (List.mem_of_getElem? (i := 898) (by decide +kernel)) rfl
theorem mv_X8_breaks : Cond.selects RX8 yX8_breaks yX8_breaks ∈ wsL_law := wsL_of (List.mem_of_getElem? (i := 899) (by decide +kernel)) rfl
theorem mc_X8_rows : Cond.code yX8_rows cX8_rows 6 (some .int) ∈ wsL_law := wsL_of (List.mem_append_right _ (List.mem_append_right _ (List.mem_append_right _ (List.mem_append_left _ (List.mem_of_getElem? (i := 184) rfl))))) rfl
theorem mn_X8_rows : Cond.instanceMethod yX8_rows ∈ wsL_law := wsL_of (List.mem_of_getElem? (i := 902) (by decide +kernel)) rfl
theorem mv_X8_rows : Cond.selects RX8 yX8_rows yX8_rows ∈ wsL_law := wsL_of (List.mem_of_getElem? (i := 903) (by decide +kernel)) rfl
theorem mc_X8_inFirstRow : Cond.code yX8_inFirstRow cX8_inFirstRow 6 (some .int) ∈ wsL_law := wsL_of (List.mem_append_right _ (List.mem_append_right _ (List.mem_append_right _ (List.mem_append_left _ (List.mem_of_getElem? (i := 188) rfl))))) rfl
theorem mn_X8_inFirstRow : Cond.instanceMethod yX8_inFirstRow ∈ wsL_law := wsL_of (List.mem_of_getElem? (i := 907) (by decide +kernel)) rfl
theorem mv_X8_inFirstRow : Cond.selects RX8 yX8_inFirstRow yX8_inFirstRow ∈ wsL_law := wsL_sel (List.mem_of_getElem? (i := 41) (by decide +kernel))
theorem mc_X8_mayStand : Cond.code yX8_mayStand cX8_mayStand 5 (some .boolean) ∈ wsL_law := wsL_of (List.mem_append_right _ (List.mem_append_right _ (List.mem_append_right _ (List.mem_append_left _ (List.mem_of_getElem? (i := 192) rfl))))) rfl
theorem mn_X8_mayStand : Cond.instanceMethod yX8_mayStand ∈ wsL_law := wsL_of (List.mem_of_getElem? (i := 911) (by decide +kernel)) rfl
theorem mv_X8_mayStand : Cond.selects RX8 yX8_mayStand yX8_mayStand ∈ wsL_law := wsL_sel (List.mem_of_getElem? (i := 42) (by decide +kernel))
theorem mc_X8_longest : Cond.code yX8_longest cX8_longest 6 (some .int) ∈ wsL_law := wsL_of (List.mem_append_right _ (List.mem_append_right _ (List.mem_append_right _ (List.mem_append_left _ (List.mem_of_getElem? (i := 196) rfl))))) rfl
theorem mn_X8_longest : Cond.instanceMethod yX8_longest ∈ wsL_law := wsL_of (List.mem_of_getElem? (i := 914) (by decide +kernel)) rfl
theorem mv_X8_longest : Cond.selects RX8 yX8_longest yX8_longest ∈ wsL_law := wsL_of (List.mem_of_getElem? (i := 915) (by decide +kernel)) rfl
theorem mc_X8_crowd : Cond.code yX8_crowd cX8_crowd 4 (some .int) ∈ wsL_law := wsL_of (List.mem_append_right _ (List.mem_append_right _ (List.mem_append_right _ (List.mem_append_left _ (List.mem_of_getElem? (i := 200) rfl))))) rfl
theorem mn_X8_crowd : Cond.instanceMethod yX8_crowd ∈ wsL_law := wsL_of (List.mem_of_getElem? (i := 918) (by decide +kernel)) rfl
theorem mv_X8_crowd : Cond.selects RX8 yX8_crowd yX8_crowd ∈ wsL_law := wsL_of (List.mem_of_getElem? (i := 919) (by decide +kernel)) rfl
theorem mc_X8_bits : Cond.code yX8_bits cX8_bits 3 (some .int) ∈ wsL_law := wsL_of (List.mem_append_right _ (List.mem_append_right _ (List.mem_append_right _ (List.mem_append_left _ (List.mem_of_getElem? (i := 203) rfl))))) rfl
theorem ms_X8_bits : Cond.static yX8_bits ∈ wsL_law := wsL_of (List.mem_of_getElem? (i := 922) (by decide +kernel)) rfl
theorem mc_X8_isCrowd : Cond.code yX8_isCrowd cX8_isCrowd 4 (some .boolean) ∈ wsL_law := wsL_of (List.mem_append_right _ (List.mem_append_right _ (List.mem_append_right _ (List.mem_append_left _ (List.mem_of_getElem? (i := 207) rfl))))) rfl
theorem mn_X8_isCrowd : Cond.instanceMethod yX8_isCrowd ∈ wsL_law := wsL_of (List.mem_of_getElem? (i := 926) (by decide +kernel)) rfl
theorem mv_X8_isCrowd : Cond.selects RX8 yX8_isCrowd yX8_isCrowd ∈ wsL_law := wsL_sel (List.mem_of_getElem? (i := 43) (by decide +kernel))
theorem mc_X8_measure : Cond.code yX8_measure cX8_measure 7 (some .int) ∈ wsL_law := wsL_of (List.mem_append_right _ (List.mem_append_right _ (List.mem_append_right _ (List.mem_append_left _ (List.mem_of_getElem? (i := 211) rfl))))) rfl
theorem mn_X8_measure : Cond.instanceMethod yX8_measure ∈ wsL_law := wsL_of (List.mem_of_getElem? (i := 929) (by decide +kernel)) rfl
theorem mv_X8_measure : Cond.selects RX8 yX8_measure yX8_measure ∈ wsL_law := wsL_of (List.mem_of_getElem? (i := 930) (by decide +kernel)) rfl
theorem mc_X8_copies : Cond.code yX8_copies cX8_copies 9 (some .int) ∈ wsL_law := wsL_of (List.mem_append_right _ (List.mem_append_right _ (List.mem_append_right _ (List.mem_append_left _ (List.mem_of_getElem? (i := 215) rfl))))) rfl
theorem mn_X8_copies : Cond.instanceMethod yX8_copies ∈ wsL_law := wsL_of (List.mem_of_getElem? (i := 933) (by decide +kernel)) rfl
theorem mv_X8_copies : Cond.selects RX8 yX8_copies yX8_copies ∈ wsL_law := wsL_of (List.mem_of_getElem? (i := 934) (by decide +kernel)) rfl
theorem mc_X8_layRow : Cond.code yX8_layRow cX8_layRow 6 (some .int) ∈ wsL_law := wsL_of (List.mem_append_right _ (List.mem_append_right _ (List.mem_append_right _ (List.mem_append_left _ (List.mem_of_getElem? (i := 219) rfl))))) rfl
theorem mn_X8_layRow : Cond.instanceMethod yX8_layRow ∈ wsL_law := wsL_of (List.mem_of_getElem? (i := 938) (by decide +kernel)) rfl
theorem mv_X8_layRow : Cond.selects RX8 yX8_layRow yX8_layRow ∈ wsL_law := wsL_sel (List.mem_of_getElem? (i := 44) (by decide +kernel))
theorem mc_X8_copied : Cond.code yX8_copied cX8_copied 7 (some .int) ∈ wsL_law := wsL_of (List.mem_append_right _ (List.mem_append_right _ (List.mem_append_right _ (List.mem_append_left _ (List.mem_of_getElem? (i := 223) rfl))))) rfl
theorem mn_X8_copied : Cond.instanceMethod yX8_copied ∈ wsL_law := wsL_of (List.mem_of_getElem? (i := 942) (by decide +kernel)) rfl
theorem mv_X8_copied : Cond.selects RX8 yX8_copied yX8_copied ∈ wsL_law := wsL_sel (List.mem_of_getElem? (i := 45) (by decide +kernel))
theorem mc_X8_greatest : Cond.code yX8_greatest cX8_greatest 3 (some .int) ∈ wsL_law := wsL_of (List.mem_append_right _ (List.mem_append_right _ (List.mem_append_right _ (List.mem_append_left _ (List.mem_of_getElem? (i := 227) rfl))))) rfl
theorem mn_X8_greatest : Cond.instanceMethod yX8_greatest ∈ wsL_law := wsL_of (List.mem_of_getElem? (i := 946) (by decide +kernel)) rfl
theorem mv_X8_greatest : Cond.selects RX8 yX8_greatest yX8_greatest ∈ wsL_law := wsL_sel (List.mem_of_getElem? (i := 46) (by decide +kernel))
theorem mc_X8_least : Cond.code yX8_least cX8_least 6 (some .int) ∈ wsL_law := wsL_of (List.mem_append_right _ (List.mem_append_right _ (List.mem_append_right _ (List.mem_append_left _ (List.mem_of_getElem? (i := 231) rfl))))) rfl
theorem mn_X8_least : Cond.instanceMethod yX8_least ∈ wsL_law := wsL_of (List.mem_of_getElem? (i := 950) (by decide +kernel)) rfl
theorem mv_X8_least : Cond.selects RX8 yX8_least yX8_least ∈ wsL_law := wsL_sel (List.mem_of_getElem? (i := 47) (by decide +kernel))
theorem mc_X8_bestRow : Cond.code yX8_bestRow cX8_bestRow 10 (some .int) ∈ wsL_law := wsL_of (List.mem_append_right _ (List.mem_append_right _ (List.mem_append_right _ (List.mem_append_left _ (List.mem_of_getElem? (i := 235) rfl))))) rfl
theorem mn_X8_bestRow : Cond.instanceMethod yX8_bestRow ∈ wsL_law := wsL_of (List.mem_of_getElem? (i := 953) (by decide +kernel)) rfl
theorem mv_X8_bestRow : Cond.selects RX8 yX8_bestRow yX8_bestRow ∈ wsL_law := wsL_of (List.mem_of_getElem? (i := 954) (by decide +kernel)) rfl
theorem mc_X8_findBestRow : Cond.code yX8_findBestRow cX8_findBestRow 7 (some .int) ∈ wsL_law := wsL_of (List.mem_append_right _ (List.mem_append_right _ (List.mem_append_right _ (List.mem_append_left _ (List.mem_of_getElem? (i := 239) rfl))))) rfl
theorem mn_X8_findBestRow : Cond.instanceMethod yX8_findBestRow ∈ wsL_law := wsL_of (List.mem_of_getElem? (i := 958) (by decide +kernel)) rfl
theorem mv_X8_findBestRow : Cond.selects RX8 yX8_findBestRow yX8_findBestRow ∈ wsL_law := wsL_sel (List.mem_of_getElem? (i := 48) (by decide +kernel))
theorem mc_X8_exchange : Cond.code yX8_exchange cX8_exchange 4 none ∈ wsL_law := wsL_of (List.mem_append_right _ (List.mem_append_right _ (List.mem_append_right _ (List.mem_append_right _ (List.mem_of_getElem? (i := 3) rfl))))) rfl
theorem mn_X8_exchange : Cond.instanceMethod yX8_exchange ∈ wsL_law := wsL_of (List.mem_of_getElem? (i := 962) (by decide +kernel)) rfl
theorem mv_X8_exchange : Cond.selects RX8 yX8_exchange yX8_exchange ∈ wsL_law := wsL_sel (List.mem_of_getElem? (i := 49) (by decide +kernel))
theorem mc_X8_nextRow : Cond.code yX8_nextRow cX8_nextRow 6 (some .boolean) ∈ wsL_law := wsL_of (List.mem_append_right _ (List.mem_append_right _ (List.mem_append_right _ (List.mem_append_right _ (List.mem_of_getElem? (i := 7) rfl))))) rfl
theorem mn_X8_nextRow : Cond.instanceMethod yX8_nextRow ∈ wsL_law := wsL_of (List.mem_of_getElem? (i := 966) (by decide +kernel)) rfl
theorem mv_X8_nextRow : Cond.selects RX8 yX8_nextRow yX8_nextRow ∈ wsL_law := wsL_sel (List.mem_of_getElem? (i := 50) (by decide +kernel))
theorem mc_X8_even : Cond.code yX8_even cX8_even 8 (some .int) ∈ wsL_law := wsL_of (List.mem_append_right _ (List.mem_append_right _ (List.mem_append_right _ (List.mem_append_right _ (List.mem_of_getElem? (i := 11) rfl))))) rfl
theorem mn_X8_even : Cond.instanceMethod yX8_even ∈ wsL_law := wsL_of (List.mem_of_getElem? (i := 969) (by decide +kernel)) rfl
theorem mv_X8_even : Cond.selects RX8 yX8_even yX8_even ∈ wsL_law := wsL_of (List.mem_of_getElem? (i := 970) (by decide +kernel)) rfl
theorem mc_X8_areEven : Cond.code yX8_areEven cX8_areEven 4 (some .boolean) ∈ wsL_law := wsL_of (List.mem_append_right _ (List.mem_append_right _ (List.mem_append_right _ (List.mem_append_right _ (List.mem_of_getElem? (i := 15) rfl))))) rfl
theorem mn_X8_areEven : Cond.instanceMethod yX8_areEven ∈ wsL_law := wsL_of (List.mem_of_getElem? (i := 974) (by decide +kernel)) rfl
theorem mv_X8_areEven : Cond.selects RX8 yX8_areEven yX8_areEven ∈ wsL_law := wsL_sel (List.mem_of_getElem? (i := 51) (by decide +kernel))
theorem mc_X8_sumOf : Cond.code yX8_sumOf cX8_sumOf 4 (some .int) ∈ wsL_law := wsL_of (List.mem_append_right _ (List.mem_append_right _ (List.mem_append_right _ (List.mem_append_right _ (List.mem_of_getElem? (i := 19) rfl))))) rfl
theorem mn_X8_sumOf : Cond.instanceMethod yX8_sumOf ∈ wsL_law := wsL_of (List.mem_of_getElem? (i := 978) (by decide +kernel)) rfl
theorem mv_X8_sumOf : Cond.selects RX8 yX8_sumOf yX8_sumOf ∈ wsL_law := wsL_sel (List.mem_of_getElem? (i := 52) (by decide +kernel))
theorem mc_X8_odds : Cond.code yX8_odds cX8_odds 6 (some .long) ∈ wsL_law := wsL_of (List.mem_append_right _ (List.mem_append_right _ (List.mem_append_right _ (List.mem_append_right _ (List.mem_of_getElem? (i := 23) rfl))))) rfl
theorem mn_X8_odds : Cond.instanceMethod yX8_odds ∈ wsL_law := wsL_of (List.mem_of_getElem? (i := 981) (by decide +kernel)) rfl
theorem mv_X8_odds : Cond.selects RX8 yX8_odds yX8_odds ∈ wsL_law := wsL_of (List.mem_of_getElem? (i := 982) (by decide +kernel)) rfl
theorem mc_X8_share : Cond.code yX8_share cX8_share 11 (some .long) ∈ wsL_law := wsL_of (List.mem_append_right _ (List.mem_append_right _ (List.mem_append_right _ (List.mem_append_right _ (List.mem_of_getElem? (i := 27) rfl))))) rfl
theorem ms_X8_share : Cond.static yX8_share ∈ wsL_law := wsL_of (List.mem_of_getElem? (i := 986) (by decide +kernel)) rfl
theorem mc_X8_sheet : Cond.code yX8_sheet cX8_sheet 5 (some .int) ∈ wsL_law := wsL_of (List.mem_append_right _ (List.mem_append_right _ (List.mem_append_right _ (List.mem_append_right _ (List.mem_of_getElem? (i := 31) rfl))))) rfl
theorem mn_X8_sheet : Cond.instanceMethod yX8_sheet ∈ wsL_law := wsL_of (List.mem_of_getElem? (i := 989) (by decide +kernel)) rfl
theorem mv_X8_sheet : Cond.selects RX8 yX8_sheet yX8_sheet ∈ wsL_law := wsL_of (List.mem_of_getElem? (i := 990) (by decide +kernel)) rfl
theorem mc_X8_lose : Cond.code yX8_lose cX8_lose 3 (some .int) ∈ wsL_law := wsL_of (List.mem_append_right _ (List.mem_append_right _ (List.mem_append_right _ (List.mem_append_right _ (List.mem_of_getElem? (i := 35) rfl))))) rfl
theorem mn_X8_lose : Cond.instanceMethod yX8_lose ∈ wsL_law := wsL_of (List.mem_of_getElem? (i := 993) (by decide +kernel)) rfl
theorem mv_X8_lose : Cond.selects RX8 yX8_lose yX8_lose ∈ wsL_law := wsL_of (List.mem_of_getElem? (i := 994) (by decide +kernel)) rfl
theorem mc_X8_put : Cond.code yX8_put cX8_put 4 (some .int) ∈ wsL_law := wsL_of (List.mem_append_right _ (List.mem_append_right _ (List.mem_append_right _ (List.mem_append_right _ (List.mem_of_getElem? (i := 39) rfl))))) rfl
theorem mn_X8_put : Cond.instanceMethod yX8_put ∈ wsL_law := wsL_of (List.mem_of_getElem? (i := 997) (by decide +kernel)) rfl
theorem mv_X8_put : Cond.selects RX8 yX8_put yX8_put ∈ wsL_law := wsL_of (List.mem_of_getElem? (i := 998) (by decide +kernel)) rfl
theorem mc_X8_cell : Cond.code yX8_cell cX8_cell 4 (some .long) ∈ wsL_law := wsL_of (List.mem_append_right _ (List.mem_append_right _ (List.mem_append_right _ (List.mem_append_right _ (List.mem_of_getElem? (i := 43) rfl))))) rfl
theorem mn_X8_cell : Cond.instanceMethod yX8_cell ∈ wsL_law := wsL_of (List.mem_of_getElem? (i := 1001) (by decide +kernel)) rfl
theorem mv_X8_cell : Cond.selects RX8 yX8_cell yX8_cell ∈ wsL_law := wsL_of (List.mem_of_getElem? (i := 1002) (by decide +kernel)) rfl
theorem mc_X8_lost : Cond.code yX8_lost cX8_lost 2 (some .long) ∈ wsL_law := wsL_of (List.mem_append_right _ (List.mem_append_right _ (List.mem_append_right _ (List.mem_append_right _ (List.mem_of_getElem? (i := 47) rfl))))) rfl
theorem mn_X8_lost : Cond.instanceMethod yX8_lost ∈ wsL_law := wsL_of (List.mem_of_getElem? (i := 1006) (by decide +kernel)) rfl
theorem mv_X8_lost : Cond.selects RX8 yX8_lost yX8_lost ∈ wsL_law := wsL_sel (List.mem_of_getElem? (i := 53) (by decide +kernel))
theorem mc_X8_copy : Cond.code yX8_copy cX8_copy 10 (some .int) ∈ wsL_law := wsL_of (List.mem_append_right _ (List.mem_append_right _ (List.mem_append_right _ (List.mem_append_right _ (List.mem_of_getElem? (i := 51) rfl))))) rfl
theorem mn_X8_copy : Cond.instanceMethod yX8_copy ∈ wsL_law := wsL_of (List.mem_of_getElem? (i := 1009) (by decide +kernel)) rfl
theorem mv_X8_copy : Cond.selects RX8 yX8_copy yX8_copy ∈ wsL_law := wsL_of (List.mem_of_getElem? (i := 1010) (by decide +kernel)) rfl
theorem mc_X8_tell : Cond.code yX8_tell cX8_tell 3 (some .int) ∈ wsL_law := wsL_of (List.mem_append_right _ (List.mem_append_right _ (List.mem_append_right _ (List.mem_append_right _ (List.mem_of_getElem? (i := 55) rfl))))) rfl
theorem mn_X8_tell : Cond.instanceMethod yX8_tell ∈ wsL_law := wsL_of (List.mem_of_getElem? (i := 1013) (by decide +kernel)) rfl
theorem mv_X8_tell : Cond.selects RX8 yX8_tell yX8_tell ∈ wsL_law := wsL_of (List.mem_of_getElem? (i := 1014) (by decide +kernel)) rfl
theorem mc_X8_begins : Cond.code yX8_begins cX8_begins 2 none ∈ wsL_law := wsL_of (List.mem_append_right _ (List.mem_append_right _ (List.mem_append_right _ (List.mem_append_right _ (List.mem_of_getElem? (i := 59) rfl))))) rfl
theorem mn_X8_begins : Cond.instanceMethod yX8_begins ∈ wsL_law := wsL_of (List.mem_of_getElem? (i := 1018) (by decide +kernel)) rfl
theorem mv_X8_begins : Cond.selects RX8 yX8_begins yX8_begins ∈ wsL_law := wsL_sel (List.mem_of_getElem? (i := 54) (by decide +kernel))
theorem mc_X8_shake : Cond.code yX8_shake cX8_shake 2 (some .int) ∈ wsL_law := wsL_of (List.mem_append_right _ (List.mem_append_right _ (List.mem_append_right _ (List.mem_append_right _ (List.mem_of_getElem? (i := 63) rfl))))) rfl
theorem mn_X8_shake : Cond.instanceMethod yX8_shake ∈ wsL_law := wsL_of (List.mem_of_getElem? (i := 1021) (by decide +kernel)) rfl
theorem mv_X8_shake : Cond.selects RX8 yX8_shake yX8_shake ∈ wsL_law := wsL_of (List.mem_of_getElem? (i := 1022) (by decide +kernel)) rfl
theorem mc_X8_as : Cond.code yX8_as cX8_as 3 (some .int) ∈ wsL_law := wsL_of (List.mem_append_right _ (List.mem_append_right _ (List.mem_append_right _ (List.mem_append_right _ (List.mem_of_getElem? (i := 67) rfl))))) rfl
theorem mn_X8_as : Cond.instanceMethod yX8_as ∈ wsL_law := wsL_of (List.mem_of_getElem? (i := 1025) (by decide +kernel)) rfl
theorem mv_X8_as : Cond.selects RX8 yX8_as yX8_as ∈ wsL_law := wsL_of (List.mem_of_getElem? (i := 1026) (by decide +kernel)) rfl
theorem mc_X8_trace : Cond.code yX8_trace cX8_trace 1 (some .int) ∈ wsL_law := wsL_of (List.mem_append_right _ (List.mem_append_right _ (List.mem_append_right _ (List.mem_append_right _ (List.mem_of_getElem? (i := 71) rfl))))) rfl
theorem mn_X8_trace : Cond.instanceMethod yX8_trace ∈ wsL_law := wsL_of (List.mem_of_getElem? (i := 1029) (by decide +kernel)) rfl
theorem mv_X8_trace : Cond.selects RX8 yX8_trace yX8_trace ∈ wsL_law := wsL_of (List.mem_of_getElem? (i := 1030) (by decide +kernel)) rfl
theorem mc_X8_fault : Cond.code yX8_fault cX8_fault 1 (some .int) ∈ wsL_law := wsL_of (List.mem_append_right _ (List.mem_append_right _ (List.mem_append_right _ (List.mem_append_right _ (List.mem_of_getElem? (i := 75) rfl))))) rfl
theorem mn_X8_fault : Cond.instanceMethod yX8_fault ∈ wsL_law := wsL_of (List.mem_of_getElem? (i := 1033) (by decide +kernel)) rfl
theorem mv_X8_fault : Cond.selects RX8 yX8_fault yX8_fault ∈ wsL_law := wsL_of (List.mem_of_getElem? (i := 1034) (by decide +kernel)) rfl
theorem mc_X8_many : Cond.code yX8_many cX8_many 2 (some .int) ∈ wsL_law := wsL_of (List.mem_append_right _ (List.mem_append_right _ (List.mem_append_right _ (List.mem_append_right _ (List.mem_of_getElem? (i := 79) rfl))))) rfl
theorem mn_X8_many : Cond.instanceMethod yX8_many ∈ wsL_law := wsL_of (List.mem_of_getElem? (i := 1037) (by decide +kernel)) rfl
theorem mv_X8_many : Cond.selects RX8 yX8_many yX8_many ∈ wsL_law := wsL_of (List.mem_of_getElem? (i := 1038) (by decide +kernel)) rfl
theorem ml_L_9 : Cond.methodLink RL 9 yX7_init ∈ wsL_law := wsL_of (List.mem_of_getElem? (i := 15) (by decide +kernel)) rfl
theorem ml_L_13 : Cond.methodLink RL 13 yX7_market ∈ wsL_law := wsL_of (List.mem_of_getElem? (i := 158) (by decide +kernel)) rfl
theorem ml_L_18 : Cond.methodLink RL 18 yX7_weight ∈ wsL_law := wsL_of (List.mem_of_getElem? (i := 226) (by decide +kernel)) rfl
theorem ml_L_23 : Cond.methodLink RL 23 yX7_weigh ∈ wsL_law := wsL_of (List.mem_of_getElem? (i := 239) (by decide +kernel)) rfl
theorem ml_L_28 : Cond.methodLink RL 28 yX7_hand ∈ wsL_law := wsL_of (List.mem_of_getElem? (i := 247) (by decide +kernel)) rfl
theorem ml_L_32 : Cond.methodLink RL 32 yX7_ofHand ∈ wsL_law := wsL_of (List.mem_of_getElem? (i := 258) (by decide +kernel)) rfl
theorem ml_L_36 : Cond.methodLink RL 36 yX7_tells ∈ wsL_law := wsL_of (List.mem_of_getElem? (i := 278) (by decide +kernel)) rfl
theorem ml_L_41 : Cond.methodLink RL 41 yX7_alike ∈ wsL_law := wsL_of (List.mem_of_getElem? (i := 291) (by decide +kernel)) rfl
theorem ml_L_45 : Cond.methodLink RL 45 yX7_finer ∈ wsL_law := wsL_of (List.mem_of_getElem? (i := 318) (by decide +kernel)) rfl
theorem ml_L_49 : Cond.methodLink RL 49 yX7_way ∈ wsL_law := wsL_of (List.mem_of_getElem? (i := 330) (by decide +kernel)) rfl
theorem ml_L_53 : Cond.methodLink RL 53 yX7_noon ∈ wsL_law := wsL_of (List.mem_of_getElem? (i := 359) (by decide +kernel)) rfl
theorem ml_L_57 : Cond.methodLink RL 57 yX7_gain ∈ wsL_law := wsL_of (List.mem_of_getElem? (i := 364) (by decide +kernel)) rfl
theorem ml_L_62 : Cond.methodLink RL 62 yX7_saying ∈ wsL_law := wsL_of (List.mem_of_getElem? (i := 382) (by decide +kernel)) rfl
theorem ml_L_66 : Cond.methodLink RL 66 yX7_back ∈ wsL_law := wsL_of (List.mem_of_getElem? (i := 390) (by decide +kernel)) rfl
theorem ml_L_70 : Cond.methodLink RL 70 yX7_untrue ∈ wsL_law := wsL_of (List.mem_of_getElem? (i := 403) (by decide +kernel)) rfl
theorem ml_L_75 : Cond.methodLink RL 75 yX7_leaves ∈ wsL_law := wsL_of (List.mem_of_getElem? (i := 425) (by decide +kernel)) rfl
theorem ml_L_79 : Cond.methodLink RL 79 yX7_breaks ∈ wsL_law := wsL_of (List.mem_of_getElem? (i := 433) (by decide +kernel)) rfl
theorem ml_L_83 : Cond.methodLink RL 83 yX7_rows ∈ wsL_law := wsL_of (List.mem_of_getElem? (i := 437) (by decide +kernel)) rfl
theorem ml_L_87 : Cond.methodLink RL 87 yX7_longest ∈ wsL_law := wsL_of (List.mem_of_getElem? (i := 457) (by decide +kernel)) rfl
theorem ml_L_91 : Cond.methodLink RL 91 yX7_crowd ∈ wsL_law := wsL_of (List.mem_of_getElem? (i := 469) (by decide +kernel)) rfl
theorem ml_L_95 : Cond.methodLink RL 95 yX7_measure ∈ wsL_law := wsL_of (List.mem_of_getElem? (i := 487) (by decide +kernel)) rfl
theorem ml_L_99 : Cond.methodLink RL 99 yX7_copies ∈ wsL_law := wsL_of (List.mem_of_getElem? (i := 495) (by decide +kernel)) rfl
theorem ml_L_104 : Cond.methodLink RL 104 yX7_bestRow ∈ wsL_law := wsL_of (List.mem_of_getElem? (i := 536) (by decide +kernel)) rfl
theorem ml_L_108 : Cond.methodLink RL 108 yX7_even ∈ wsL_law := wsL_of (List.mem_of_getElem? (i := 570) (by decide +kernel)) rfl
theorem ml_L_112 : Cond.methodLink RL 112 yX7_odds ∈ wsL_law := wsL_of (List.mem_of_getElem? (i := 580) (by decide +kernel)) rfl
theorem ml_L_117 : Cond.methodLink RL 117 yX7_sheet ∈ wsL_law := wsL_of (List.mem_of_getElem? (i := 592) (by decide +kernel)) rfl
theorem ml_L_121 : Cond.methodLink RL 121 yX7_lose ∈ wsL_law := wsL_of (List.mem_of_getElem? (i := 600) (by decide +kernel)) rfl
theorem ml_L_125 : Cond.methodLink RL 125 yX7_put ∈ wsL_law := wsL_of (List.mem_of_getElem? (i := 608) (by decide +kernel)) rfl
theorem ml_L_129 : Cond.methodLink RL 129 yX7_cell ∈ wsL_law := wsL_of (List.mem_of_getElem? (i := 621) (by decide +kernel)) rfl
theorem ml_L_134 : Cond.methodLink RL 134 yX7_copy ∈ wsL_law := wsL_of (List.mem_of_getElem? (i := 625) (by decide +kernel)) rfl
theorem ml_L_138 : Cond.methodLink RL 138 yX7_tell ∈ wsL_law := wsL_of (List.mem_of_getElem? (i := 637) (by decide +kernel)) rfl
theorem ml_L_142 : Cond.methodLink RL 142 yX7_shake ∈ wsL_law := wsL_of (List.mem_of_getElem? (i := 657) (by decide +kernel)) rfl
theorem ml_L_146 : Cond.methodLink RL 146 yX7_as ∈ wsL_law := wsL_of (List.mem_of_getElem? (i := 669) (by decide +kernel)) rfl
theorem ml_L_150 : Cond.methodLink RL 150 yX7_trace ∈ wsL_law := wsL_of (List.mem_of_getElem? (i := 673) (by decide +kernel)) rfl
theorem ml_L_154 : Cond.methodLink RL 154 yX7_fault ∈ wsL_law := wsL_of (List.mem_of_getElem? (i := 677) (by decide +kernel)) rfl
theorem ml_L_158 : Cond.methodLink RL 158 yX7_many ∈ wsL_law := wsL_of (List.mem_of_getElem? (i := 681) (by decide +kernel)) rfl
theorem ml_L_12 : Cond.methodLink RL 12 yX8_init ∈ wsL_law := wsL_of (List.mem_of_getElem? (i := 691) (by decide +kernel)) rfl
theorem ml_L_17 : Cond.methodLink RL 17 yX8_market ∈ wsL_law := wsL_of (List.mem_of_getElem? (i := 765) (by decide +kernel)) rfl
theorem ml_L_22 : Cond.methodLink RL 22 yX8_weight ∈ wsL_law := wsL_of (List.mem_of_getElem? (i := 790) (by decide +kernel)) rfl
theorem ml_L_27 : Cond.methodLink RL 27 yX8_weigh ∈ wsL_law := wsL_of (List.mem_of_getElem? (i := 798) (by decide +kernel)) rfl
theorem ml_L_31 : Cond.methodLink RL 31 yX8_hand ∈ wsL_law := wsL_of (List.mem_of_getElem? (i := 805) (by decide +kernel)) rfl
theorem ml_L_35 : Cond.methodLink RL 35 yX8_ofHand ∈ wsL_law := wsL_of (List.mem_of_getElem? (i := 809) (by decide +kernel)) rfl
theorem ml_L_40 : Cond.methodLink RL 40 yX8_tells ∈ wsL_law := wsL_of (List.mem_of_getElem? (i := 817) (by decide +kernel)) rfl
theorem ml_L_44 : Cond.methodLink RL 44 yX8_alike ∈ wsL_law := wsL_of (List.mem_of_getElem? (i := 829) (by decide +kernel)) rfl
theorem ml_L_48 : Cond.methodLink RL 48 yX8_finer ∈ wsL_law := wsL_of (List.mem_of_getElem? (i := 845) (by decide +kernel)) rfl
theorem ml_L_52 : Cond.methodLink RL 52 yX8_way ∈ wsL_law := wsL_of (List.mem_of_getElem? (i := 849) (by decide +kernel)) rfl
theorem ml_L_56 : Cond.methodLink RL 56 yX8_noon ∈ wsL_law := wsL_of (List.mem_of_getElem? (i := 861) (by decide +kernel)) rfl
theorem ml_L_61 : Cond.methodLink RL 61 yX8_gain ∈ wsL_law := wsL_of (List.mem_of_getElem? (i := 865) (by decide +kernel)) rfl
theorem ml_L_65 : Cond.methodLink RL 65 yX8_saying ∈ wsL_law := wsL_of (List.mem_of_getElem? (i := 873) (by decide +kernel)) rfl
theorem ml_L_69 : Cond.methodLink RL 69 yX8_back ∈ wsL_law := wsL_of (List.mem_of_getElem? (i := 877) (by decide +kernel)) rfl
theorem ml_L_74 : Cond.methodLink RL 74 yX8_untrue ∈ wsL_law := wsL_of (List.mem_of_getElem? (i := 881) (by decide +kernel)) rfl
theorem ml_L_78 : Cond.methodLink RL 78 yX8_leaves ∈ wsL_law := wsL_of (List.mem_of_getElem? (i := 889) (by decide +kernel)) rfl
theorem ml_L_82 : Cond.methodLink RL 82 yX8_breaks ∈ wsL_law := wsL_of (List.mem_of_getElem? (i := 897) (by decide +kernel)) rfl
theorem ml_L_86 : Cond.methodLink RL 86 yX8_rows ∈ wsL_law := wsL_of (List.mem_of_getElem? (i := 901) (by decide +kernel)) rfl
theorem ml_L_90 : Cond.methodLink RL 90 yX8_longest ∈ wsL_law := wsL_of (List.mem_of_getElem? (i := 913) (by decide +kernel)) rfl
theorem ml_L_94 : Cond.methodLink RL 94 yX8_crowd ∈ wsL_law := wsL_of (List.mem_of_getElem? (i := 917) (by decide +kernel)) rfl
theorem ml_L_98 : Cond.methodLink RL 98 yX8_measure ∈ wsL_law := wsL_of (List.mem_of_getElem? (i := 928) (by decide +kernel)) rfl
theorem ml_L_103 : Cond.methodLink RL 103 yX8_copies ∈ wsL_law := wsL_of (List.mem_of_getElem? (i := 932) (by decide +kernel)) rfl
theorem ml_L_107 : Cond.methodLink RL 107 yX8_bestRow ∈ wsL_law := wsL_of (List.mem_of_getElem? (i := 952) (by decide +kernel)) rfl
theorem ml_L_111 : Cond.methodLink RL 111 yX8_even ∈ wsL_law := wsL_of (List.mem_of_getElem? (i := 968) (by decide +kernel)) rfl
theorem ml_L_116 : Cond.methodLink RL 116 yX8_odds ∈ wsL_law := wsL_of (List.mem_of_getElem? (i := 980) (by decide +kernel)) rfl
theorem ml_L_120 : Cond.methodLink RL 120 yX8_sheet ∈ wsL_law := wsL_of (List.mem_of_getElem? (i := 988) (by decide +kernel)) rfl
theorem ml_L_124 : Cond.methodLink RL 124 yX8_lose ∈ wsL_law := wsL_of (List.mem_of_getElem? (i := 992) (by decide +kernel)) rfl
theorem ml_L_128 : Cond.methodLink RL 128 yX8_put ∈ wsL_law := wsL_of (List.mem_of_getElem? (i := 996) (by decide +kernel)) rfl
theorem ml_L_133 : Cond.methodLink RL 133 yX8_cell ∈ wsL_law := wsL_of (List.mem_of_getElem? (i := 1000) (by decide +kernel)) rfl
theorem ml_L_137 : Cond.methodLink RL 137 yX8_copy ∈ wsL_law := wsL_of (List.mem_of_getElem? (i := 1008) (by decide +kernel)) rfl
theorem ml_L_141 : Cond.methodLink RL 141 yX8_tell ∈ wsL_law := wsL_of (List.mem_of_getElem? (i := 1012) (by decide +kernel)) rfl
theorem ml_L_145 : Cond.methodLink RL 145 yX8_shake ∈ wsL_law := wsL_of (List.mem_of_getElem? (i := 1020) (by decide +kernel)) rfl
theorem ml_L_149 : Cond.methodLink RL 149 yX8_as ∈ wsL_law := wsL_of (List.mem_of_getElem? (i := 1024) (by decide +kernel)) rfl
theorem ml_L_153 : Cond.methodLink RL 153 yX8_trace ∈ wsL_law := wsL_of (List.mem_of_getElem? (i := 1028) (by decide +kernel)) rfl
theorem ml_L_157 : Cond.methodLink RL 157 yX8_fault ∈ wsL_law := wsL_of (List.mem_of_getElem? (i := 1032) (by decide +kernel)) rfl
theorem ml_L_161 : Cond.methodLink RL 161 yX8_many ∈ wsL_law := wsL_of (List.mem_of_getElem? (i := 1036) (by decide +kernel)) rfl
theorem ml_X7_63 : Cond.methodLink RX7 63 yX3_has ∈ wsL_law := wsL_of (List.mem_of_getElem? (i := 162) (by decide +kernel)) rfl
theorem ml_X7_67 : Cond.methodLink RX7 67 yX7_isSort ∈ wsL_law := wsL_of (List.mem_of_getElem? (i := 166) (by decide +kernel)) rfl
theorem ml_X7_70 : Cond.methodLink RX7 70 yX3_faultOfTaking ∈ wsL_law := wsL_of (List.mem_of_getElem? (i := 169) (by decide +kernel)) rfl
theorem ml_X7_74 : Cond.methodLink RX7 74 yX7_faulty ∈ wsL_law := wsL_of (List.mem_of_getElem? (i := 186) (by decide +kernel)) rfl
theorem ml_X7_78 : Cond.methodLink RX7 78 yX5_firstFault ∈ wsL_law := wsL_of (List.mem_of_getElem? (i := 190) (by decide +kernel)) rfl
theorem ml_X7_84 : Cond.methodLink RX7 84 yX1_clear ∈ wsL_law := wsL_of (List.mem_of_getElem? (i := 203) (by decide +kernel)) rfl
theorem ml_X7_87 : Cond.methodLink RX7 87 yX2_clear ∈ wsL_law := wsL_of (List.mem_of_getElem? (i := 207) (by decide +kernel)) rfl
theorem ml_X7_88 : Cond.methodLink RX7 88 yX5_read ∈ wsL_law := wsL_of (List.mem_of_getElem? (i := 211) (by decide +kernel)) rfl
theorem ml_X7_92 : Cond.methodLink RX7 92 yX6_count ∈ wsL_law := wsL_of (List.mem_of_getElem? (i := 222) (by decide +kernel)) rfl
theorem ml_X7_96 : Cond.methodLink RX7 96 yX6_has ∈ wsL_law := wsL_of (List.mem_of_getElem? (i := 230) (by decide +kernel)) rfl
theorem ml_X7_97 : Cond.methodLink RX7 97 yX6_weightOf ∈ wsL_law := wsL_of (List.mem_of_getElem? (i := 234) (by decide +kernel)) rfl
theorem ml_X7_100 : Cond.methodLink RX7 100 yX6_setWeight ∈ wsL_law := wsL_of (List.mem_of_getElem? (i := 243) (by decide +kernel)) rfl
theorem ml_X7_104 : Cond.methodLink RX7 104 yX7_isKind ∈ wsL_law := wsL_of (List.mem_of_getElem? (i := 251) (by decide +kernel)) rfl
theorem ml_X7_107 : Cond.methodLink RX7 107 yX1_add ∈ wsL_law := wsL_of (List.mem_of_getElem? (i := 254) (by decide +kernel)) rfl
theorem ml_X7_111 : Cond.methodLink RX7 111 yX1_has ∈ wsL_law := wsL_of (List.mem_of_getElem? (i := 262) (by decide +kernel)) rfl
theorem ml_X7_112 : Cond.methodLink RX7 112 yX7_isFirstOrSecond ∈ wsL_law := wsL_of (List.mem_of_getElem? (i := 266) (by decide +kernel)) rfl
theorem ml_X7_115 : Cond.methodLink RX7 115 yX1_kindOf ∈ wsL_law := wsL_of (List.mem_of_getElem? (i := 269) (by decide +kernel)) rfl
theorem ml_X7_118 : Cond.methodLink RX7 118 yX1_partOf ∈ wsL_law := wsL_of (List.mem_of_getElem? (i := 274) (by decide +kernel)) rfl
theorem ml_X7_121 : Cond.methodLink RX7 121 yX1_feelsHeavier ∈ wsL_law := wsL_of (List.mem_of_getElem? (i := 282) (by decide +kernel)) rfl
theorem ml_X7_125 : Cond.methodLink RX7 125 yX4_lay ∈ wsL_law := wsL_of (List.mem_of_getElem? (i := 295) (by decide +kernel)) rfl
theorem ml_X7_129 : Cond.methodLink RX7 129 yX4_alikeTo ∈ wsL_law := wsL_of (List.mem_of_getElem? (i := 310) (by decide +kernel)) rfl
theorem ml_X7_132 : Cond.methodLink RX7 132 yX4_isFinerThan ∈ wsL_law := wsL_of (List.mem_of_getElem? (i := 322) (by decide +kernel)) rfl
theorem ml_X7_136 : Cond.methodLink RX7 136 yX4_fewestSwaps ∈ wsL_law := wsL_of (List.mem_of_getElem? (i := 334) (by decide +kernel)) rfl
theorem ml_X7_139 : Cond.methodLink RX7 139 yX4_behindSwaps ∈ wsL_law := wsL_of (List.mem_of_getElem? (i := 350) (by decide +kernel)) rfl
theorem ml_X7_143 : Cond.methodLink RX7 143 yX4_within ∈ wsL_law := wsL_of (List.mem_of_getElem? (i := 363) (by decide +kernel)) rfl
theorem ml_X7_146 : Cond.methodLink RX7 146 yX7_swappedUp ∈ wsL_law := wsL_of (List.mem_of_getElem? (i := 368) (by decide +kernel)) rfl
theorem ml_X7_152 : Cond.methodLink RX7 152 yX4_lighterThan ∈ wsL_law := wsL_of (List.mem_of_getElem? (i := 372) (by decide +kernel)) rfl
theorem ml_X7_149 : Cond.methodLink RX7 149 yX6_greatestOf ∈ wsL_law := wsL_of (List.mem_of_getElem? (i := 373) (by decide +kernel)) rfl
theorem ml_X7_155 : Cond.methodLink RX7 155 yX2_add ∈ wsL_law := wsL_of (List.mem_of_getElem? (i := 386) (by decide +kernel)) rfl
theorem ml_X7_157 : Cond.methodLink RX7 157 yX2_count ∈ wsL_law := wsL_of (List.mem_of_getElem? (i := 394) (by decide +kernel)) rfl
theorem ml_X7_158 : Cond.methodLink RX7 158 yX2_takeBack ∈ wsL_law := wsL_of (List.mem_of_getElem? (i := 398) (by decide +kernel)) rfl
theorem ml_X7_161 : Cond.methodLink RX7 161 yX2_firstOf ∈ wsL_law := wsL_of (List.mem_of_getElem? (i := 407) (by decide +kernel)) rfl
theorem ml_X7_164 : Cond.methodLink RX7 164 yX2_secondOf ∈ wsL_law := wsL_of (List.mem_of_getElem? (i := 415) (by decide +kernel)) rfl
theorem ml_X7_167 : Cond.methodLink RX7 167 yX2_isFalse ∈ wsL_law := wsL_of (List.mem_of_getElem? (i := 419) (by decide +kernel)) rfl
theorem ml_X7_171 : Cond.methodLink RX7 171 yX7_falseByWeight ∈ wsL_law := wsL_of (List.mem_of_getElem? (i := 429) (by decide +kernel)) rfl
theorem ml_X7_174 : Cond.methodLink RX7 174 yX4_countOrders ∈ wsL_law := wsL_of (List.mem_of_getElem? (i := 441) (by decide +kernel)) rfl
theorem ml_X7_177 : Cond.methodLink RX7 177 yX4_placeInFirstOrder ∈ wsL_law := wsL_of (List.mem_of_getElem? (i := 449) (by decide +kernel)) rfl
theorem ml_X7_180 : Cond.methodLink RX7 180 yX4_longestChain ∈ wsL_law := wsL_of (List.mem_of_getElem? (i := 461) (by decide +kernel)) rfl
theorem ml_X7_183 : Cond.methodLink RX7 183 yX4_greatestCrowd ∈ wsL_law := wsL_of (List.mem_of_getElem? (i := 473) (by decide +kernel)) rfl
theorem ml_X7_186 : Cond.methodLink RX7 186 yX4_othersAlikeTo ∈ wsL_law := wsL_of (List.mem_of_getElem? (i := 491) (by decide +kernel)) rfl
theorem ml_X7_189 : Cond.methodLink RX7 189 yX7_takeHandRow ∈ wsL_law := wsL_of (List.mem_of_getElem? (i := 499) (by decide +kernel)) rfl
theorem ml_X7_205 : Cond.methodLink RX7 205 yX0_clear ∈ wsL_law := wsL_of (List.mem_of_getElem? (i := 503) (by decide +kernel)) rfl
theorem ml_X7_206 : Cond.methodLink RX7 206 yX3_cellOf ∈ wsL_law := wsL_of (List.mem_of_getElem? (i := 507) (by decide +kernel)) rfl
theorem ml_X7_209 : Cond.methodLink RX7 209 yX0_add ∈ wsL_law := wsL_of (List.mem_of_getElem? (i := 508) (by decide +kernel)) rfl
theorem ml_X7_192 : Cond.methodLink RX7 192 yX0_greatestCopy ∈ wsL_law := wsL_of (List.mem_of_getElem? (i := 512) (by decide +kernel)) rfl
theorem ml_X7_196 : Cond.methodLink RX7 196 yX0_leastCopy ∈ wsL_law := wsL_of (List.mem_of_getElem? (i := 528) (by decide +kernel)) rfl
theorem ml_X7_199 : Cond.methodLink RX7 199 yX0_findBest ∈ wsL_law := wsL_of (List.mem_of_getElem? (i := 540) (by decide +kernel)) rfl
theorem ml_X7_202 : Cond.methodLink RX7 202 yX0_inBest ∈ wsL_law := wsL_of (List.mem_of_getElem? (i := 566) (by decide +kernel)) rfl
theorem ml_X7_212 : Cond.methodLink RX7 212 yX6_weightTogether ∈ wsL_law := wsL_of (List.mem_of_getElem? (i := 574) (by decide +kernel)) rfl
theorem ml_X7_215 : Cond.methodLink RX7 215 yJ6_bitCount_0f7a4 ∈ wsL_law := wsL_of (List.mem_of_getElem? (i := 578) (by decide +kernel)) rfl
theorem ml_X7_220 : Cond.methodLink RX7 220 yX1_feelsAlike ∈ wsL_law := wsL_of (List.mem_of_getElem? (i := 579) (by decide +kernel)) rfl
theorem ml_X7_225 : Cond.methodLink RX7 225 yX4_countTold ∈ wsL_law := wsL_of (List.mem_of_getElem? (i := 585) (by decide +kernel)) rfl
theorem ml_X7_228 : Cond.methodLink RX7 228 yX7_commonDivisor ∈ wsL_law := wsL_of (List.mem_of_getElem? (i := 589) (by decide +kernel)) rfl
theorem ml_X7_231 : Cond.methodLink RX7 231 yX3_renew ∈ wsL_law := wsL_of (List.mem_of_getElem? (i := 596) (by decide +kernel)) rfl
theorem ml_X7_235 : Cond.methodLink RX7 235 yX3_empty ∈ wsL_law := wsL_of (List.mem_of_getElem? (i := 604) (by decide +kernel)) rfl
theorem ml_X7_238 : Cond.methodLink RX7 238 yX3_hasRow ∈ wsL_law := wsL_of (List.mem_of_getElem? (i := 612) (by decide +kernel)) rfl
theorem ml_X7_241 : Cond.methodLink RX7 241 yX3_hasCells ∈ wsL_law := wsL_of (List.mem_of_getElem? (i := 613) (by decide +kernel)) rfl
theorem ml_X7_244 : Cond.methodLink RX7 244 yX3_setCell ∈ wsL_law := wsL_of (List.mem_of_getElem? (i := 614) (by decide +kernel)) rfl
theorem ml_X7_247 : Cond.methodLink RX7 247 yX3_sortOf ∈ wsL_law := wsL_of (List.mem_of_getElem? (i := 629) (by decide +kernel)) rfl
theorem ml_X7_250 : Cond.methodLink RX7 250 yX3_copyCells ∈ wsL_law := wsL_of (List.mem_of_getElem? (i := 630) (by decide +kernel)) rfl
theorem ml_X7_254 : Cond.methodLink RX7 254 yX7_smithBody ∈ wsL_law := wsL_of (List.mem_of_getElem? (i := 641) (by decide +kernel)) rfl
theorem ml_X7_270 : Cond.methodLink RX7 270 yX7_leaveTrace ∈ wsL_law := wsL_of (List.mem_of_getElem? (i := 645) (by decide +kernel)) rfl
theorem ml_X7_257 : Cond.methodLink RX7 257 yX7_steadyBody ∈ wsL_law := wsL_of (List.mem_of_getElem? (i := 649) (by decide +kernel)) rfl
theorem ml_X7_260 : Cond.methodLink RX7 260 yX7_handBody ∈ wsL_law := wsL_of (List.mem_of_getElem? (i := 653) (by decide +kernel)) rfl
theorem ml_X7_263 : Cond.methodLink RX7 263 yX7_smithsOwnBody ∈ wsL_law := wsL_of (List.mem_of_getElem? (i := 661) (by decide +kernel)) rfl
theorem ml_X7_266 : Cond.methodLink RX7 266 yX7_lentBody ∈ wsL_law := wsL_of (List.mem_of_getElem? (i := 665) (by decide +kernel)) rfl
theorem ml_X7_269 : Cond.methodLink RX7 269 yX1_count ∈ wsL_law := wsL_of (List.mem_of_getElem? (i := 685) (by decide +kernel)) rfl
theorem ml_X6_19 : Cond.methodLink RX6 19 yX6_has ∈ wsL_law := wsL_of (List.mem_of_getElem? (i := 238) (by decide +kernel)) rfl
theorem ml_X6_27 : Cond.methodLink RX6 27 yX6_weightOf ∈ wsL_law := wsL_of (List.mem_of_getElem? (i := 378) (by decide +kernel)) rfl
theorem ml_X6_31 : Cond.methodLink RX6 31 yJ9_max_7cf53 ∈ wsL_law := wsL_of (List.mem_of_getElem? (i := 379) (by decide +kernel)) rfl
theorem ml_X1_22 : Cond.methodLink RX1 22 yX1_has ∈ wsL_law := wsL_of (List.mem_of_getElem? (i := 273) (by decide +kernel)) rfl
theorem ml_X1_26 : Cond.methodLink RX1 26 yX1_timesOf ∈ wsL_law := wsL_of (List.mem_of_getElem? (i := 286) (by decide +kernel)) rfl
theorem ml_X1_30 : Cond.methodLink RX1 30 yX1_kindOf ∈ wsL_law := wsL_of (List.mem_of_getElem? (i := 290) (by decide +kernel)) rfl
theorem ml_X1_33 : Cond.methodLink RX1 33 yX1_feelsHeavier ∈ wsL_law := wsL_of (List.mem_of_getElem? (i := 309) (by decide +kernel)) rfl
theorem ml_X2_32 : Cond.methodLink RX2 32 yJ9_max_7cf53 ∈ wsL_law := wsL_of (List.mem_of_getElem? (i := 402) (by decide +kernel)) rfl
theorem ml_X2_28 : Cond.methodLink RX2 28 yX2_has ∈ wsL_law := wsL_of (List.mem_of_getElem? (i := 411) (by decide +kernel)) rfl
theorem ml_X2_38 : Cond.methodLink RX2 38 yX1_feelsHeavier ∈ wsL_law := wsL_of (List.mem_of_getElem? (i := 423) (by decide +kernel)) rfl
theorem ml_X2_44 : Cond.methodLink RX2 44 yX1_feelsAlike ∈ wsL_law := wsL_of (List.mem_of_getElem? (i := 424) (by decide +kernel)) rfl
theorem ml_X3_31 : Cond.methodLink RX3 31 yX3_hasRow ∈ wsL_law := wsL_of (List.mem_of_getElem? (i := 173) (by decide +kernel)) rfl
theorem ml_X3_27 : Cond.methodLink RX3 27 yX3_has ∈ wsL_law := wsL_of (List.mem_of_getElem? (i := 177) (by decide +kernel)) rfl
theorem ml_X3_34 : Cond.methodLink RX3 34 yX3_sortOf ∈ wsL_law := wsL_of (List.mem_of_getElem? (i := 178) (by decide +kernel)) rfl
theorem ml_X3_38 : Cond.methodLink RX3 38 yX3_hasCells ∈ wsL_law := wsL_of (List.mem_of_getElem? (i := 182) (by decide +kernel)) rfl
theorem ml_X3_42 : Cond.methodLink RX3 42 yX3_cut ∈ wsL_law := wsL_of (List.mem_of_getElem? (i := 618) (by decide +kernel)) rfl
theorem ml_X4_25 : Cond.methodLink RX4 25 yX6_count ∈ wsL_law := wsL_of (List.mem_of_getElem? (i := 299) (by decide +kernel)) rfl
theorem ml_X4_30 : Cond.methodLink RX4 30 yJ9_min_7cf53 ∈ wsL_law := wsL_of (List.mem_of_getElem? (i := 300) (by decide +kernel)) rfl
theorem ml_X4_36 : Cond.methodLink RX4 36 yX6_weightOf ∈ wsL_law := wsL_of (List.mem_of_getElem? (i := 303) (by decide +kernel)) rfl
theorem ml_X4_40 : Cond.methodLink RX4 40 yX1_feelsHeavier ∈ wsL_law := wsL_of (List.mem_of_getElem? (i := 304) (by decide +kernel)) rfl
theorem ml_X4_46 : Cond.methodLink RX4 46 yX1_feelsAlike ∈ wsL_law := wsL_of (List.mem_of_getElem? (i := 305) (by decide +kernel)) rfl
theorem ml_X4_49 : Cond.methodLink RX4 49 yX4_has ∈ wsL_law := wsL_of (List.mem_of_getElem? (i := 314) (by decide +kernel)) rfl
theorem ml_X4_61 : Cond.methodLink RX4 61 yX4_lighterThan ∈ wsL_law := wsL_of (List.mem_of_getElem? (i := 326) (by decide +kernel)) rfl
theorem ml_X4_71 : Cond.methodLink RX4 71 yX4_within ∈ wsL_law := wsL_of (List.mem_of_getElem? (i := 338) (by decide +kernel)) rfl
theorem ml_X4_64 : Cond.methodLink RX4 64 yX4_alikeToAny ∈ wsL_law := wsL_of (List.mem_of_getElem? (i := 342) (by decide +kernel)) rfl
theorem ml_X4_53 : Cond.methodLink RX4 53 yX4_alikeTo ∈ wsL_law := wsL_of (List.mem_of_getElem? (i := 349) (by decide +kernel)) rfl
theorem ml_X4_74 : Cond.methodLink RX4 74 yX4_fewestSwaps ∈ wsL_law := wsL_of (List.mem_of_getElem? (i := 354) (by decide +kernel)) rfl
theorem ml_X4_77 : Cond.methodLink RX4 77 yX4_leastIn ∈ wsL_law := wsL_of (List.mem_of_getElem? (i := 355) (by decide +kernel)) rfl
theorem ml_X4_80 : Cond.methodLink RX4 80 yX4_allThings ∈ wsL_law := wsL_of (List.mem_of_getElem? (i := 445) (by decide +kernel)) rfl
theorem ml_X4_83 : Cond.methodLink RX4 83 yX4_fittingBehind ∈ wsL_law := wsL_of (List.mem_of_getElem? (i := 453) (by decide +kernel)) rfl
theorem ml_X4_86 : Cond.methodLink RX4 86 yX4_heavierThanAny ∈ wsL_law := wsL_of (List.mem_of_getElem? (i := 465) (by decide +kernel)) rfl
theorem ml_X4_56 : Cond.methodLink RX4 56 yJ6_bitCount_0f7a4 ∈ wsL_law := wsL_of (List.mem_of_getElem? (i := 477) (by decide +kernel)) rfl
theorem ml_X4_89 : Cond.methodLink RX4 89 yX4_areAllAlike ∈ wsL_law := wsL_of (List.mem_of_getElem? (i := 483) (by decide +kernel)) rfl
theorem ml_X0_26 : Cond.methodLink RX0 26 yX0_inRow ∈ wsL_law := wsL_of (List.mem_of_getElem? (i := 516) (by decide +kernel)) rfl
theorem ml_X0_22 : Cond.methodLink RX0 22 yX0_has ∈ wsL_law := wsL_of (List.mem_of_getElem? (i := 520) (by decide +kernel)) rfl
theorem ml_X0_30 : Cond.methodLink RX0 30 yX1_greatestUntold ∈ wsL_law := wsL_of (List.mem_of_getElem? (i := 524) (by decide +kernel)) rfl
theorem ml_X0_36 : Cond.methodLink RX0 36 yX1_leastUntold ∈ wsL_law := wsL_of (List.mem_of_getElem? (i := 532) (by decide +kernel)) rfl
theorem ml_X0_46 : Cond.methodLink RX0 46 yX0_sortRow ∈ wsL_law := wsL_of (List.mem_of_getElem? (i := 544) (by decide +kernel)) rfl
theorem ml_X0_59 : Cond.methodLink RX0 59 yX0_exchange ∈ wsL_law := wsL_of (List.mem_of_getElem? (i := 548) (by decide +kernel)) rfl
theorem ml_X0_49 : Cond.methodLink RX0 49 yX0_spread ∈ wsL_law := wsL_of (List.mem_of_getElem? (i := 552) (by decide +kernel)) rfl
theorem ml_X0_39 : Cond.methodLink RX0 39 yX0_greatestCopy ∈ wsL_law := wsL_of (List.mem_of_getElem? (i := 556) (by decide +kernel)) rfl
theorem ml_X0_43 : Cond.methodLink RX0 43 yX0_leastCopy ∈ wsL_law := wsL_of (List.mem_of_getElem? (i := 557) (by decide +kernel)) rfl
theorem ml_X0_52 : Cond.methodLink RX0 52 yX0_keepAsBest ∈ wsL_law := wsL_of (List.mem_of_getElem? (i := 558) (by decide +kernel)) rfl
theorem ml_X0_55 : Cond.methodLink RX0 55 yX0_toNextOrder ∈ wsL_law := wsL_of (List.mem_of_getElem? (i := 562) (by decide +kernel)) rfl
theorem ml_X5_9 : Cond.methodLink RX5 9 yX5_goesOn ∈ wsL_law := wsL_of (List.mem_of_getElem? (i := 193) (by decide +kernel)) rfl
theorem ml_X5_15 : Cond.methodLink RX5 15 yX3_cellOf ∈ wsL_law := wsL_of (List.mem_of_getElem? (i := 196) (by decide +kernel)) rfl
theorem ml_X5_21 : Cond.methodLink RX5 21 yX5_number ∈ wsL_law := wsL_of (List.mem_of_getElem? (i := 200) (by decide +kernel)) rfl
theorem ml_X5_25 : Cond.methodLink RX5 25 yX6_clear ∈ wsL_law := wsL_of (List.mem_of_getElem? (i := 214) (by decide +kernel)) rfl
theorem ml_X5_30 : Cond.methodLink RX5 30 yX6_add ∈ wsL_law := wsL_of (List.mem_of_getElem? (i := 218) (by decide +kernel)) rfl
theorem ml_X8_71 : Cond.methodLink RX8 71 yX8_isSheet ∈ wsL_law := wsL_of (List.mem_of_getElem? (i := 769) (by decide +kernel)) rfl
theorem ml_X8_64 : Cond.methodLink RX8 64 yX8_within ∈ wsL_law := wsL_of (List.mem_of_getElem? (i := 772) (by decide +kernel)) rfl
theorem ml_X8_75 : Cond.methodLink RX8 75 yX8_isSort ∈ wsL_law := wsL_of (List.mem_of_getElem? (i := 775) (by decide +kernel)) rfl
theorem ml_X8_78 : Cond.methodLink RX8 78 yX8_against ∈ wsL_law := wsL_of (List.mem_of_getElem? (i := 778) (by decide +kernel)) rfl
theorem ml_X8_82 : Cond.methodLink RX8 82 yX8_fails ∈ wsL_law := wsL_of (List.mem_of_getElem? (i := 782) (by decide +kernel)) rfl
theorem ml_X8_89 : Cond.methodLink RX8 89 yX8_readMarket ∈ wsL_law := wsL_of (List.mem_of_getElem? (i := 786) (by decide +kernel)) rfl
theorem ml_X8_101 : Cond.methodLink RX8 101 yX8_isThing ∈ wsL_law := wsL_of (List.mem_of_getElem? (i := 794) (by decide +kernel)) rfl
theorem ml_X8_104 : Cond.methodLink RX8 104 yX8_isWeight ∈ wsL_law := wsL_of (List.mem_of_getElem? (i := 802) (by decide +kernel)) rfl
theorem ml_X8_107 : Cond.methodLink RX8 107 yX8_isHand ∈ wsL_law := wsL_of (List.mem_of_getElem? (i := 813) (by decide +kernel)) rfl
theorem ml_X8_113 : Cond.methodLink RX8 113 yX8_isTold ∈ wsL_law := wsL_of (List.mem_of_getElem? (i := 821) (by decide +kernel)) rfl
theorem ml_X8_110 : Cond.methodLink RX8 110 yX8_times ∈ wsL_law := wsL_of (List.mem_of_getElem? (i := 825) (by decide +kernel)) rfl
theorem ml_X8_122 : Cond.methodLink RX8 122 yX8_alikeTo ∈ wsL_law := wsL_of (List.mem_of_getElem? (i := 833) (by decide +kernel)) rfl
theorem ml_X8_119 : Cond.methodLink RX8 119 yX8_areAlike ∈ wsL_law := wsL_of (List.mem_of_getElem? (i := 837) (by decide +kernel)) rfl
theorem ml_X8_116 : Cond.methodLink RX8 116 yX8_tellsThem ∈ wsL_law := wsL_of (List.mem_of_getElem? (i := 841) (by decide +kernel)) rfl
theorem ml_X8_126 : Cond.methodLink RX8 126 yX8_findFar ∈ wsL_law := wsL_of (List.mem_of_getElem? (i := 853) (by decide +kernel)) rfl
theorem ml_X8_130 : Cond.methodLink RX8 130 yX8_nextOf ∈ wsL_law := wsL_of (List.mem_of_getElem? (i := 857) (by decide +kernel)) rfl
theorem ml_X8_133 : Cond.methodLink RX8 133 yX8_isGot ∈ wsL_law := wsL_of (List.mem_of_getElem? (i := 869) (by decide +kernel)) rfl
theorem ml_X8_137 : Cond.methodLink RX8 137 yX8_isSo ∈ wsL_law := wsL_of (List.mem_of_getElem? (i := 885) (by decide +kernel)) rfl
theorem ml_X8_140 : Cond.methodLink RX8 140 yX8_falseOf ∈ wsL_law := wsL_of (List.mem_of_getElem? (i := 893) (by decide +kernel)) rfl
theorem ml_X8_143 : Cond.methodLink RX8 143 yX8_inFirstRow ∈ wsL_law := wsL_of (List.mem_of_getElem? (i := 905) (by decide +kernel)) rfl
theorem ml_X8_146 : Cond.methodLink RX8 146 yX8_mayStand ∈ wsL_law := wsL_of (List.mem_of_getElem? (i := 909) (by decide +kernel)) rfl
theorem ml_X8_149 : Cond.methodLink RX8 149 yX8_bits ∈ wsL_law := wsL_of (List.mem_of_getElem? (i := 921) (by decide +kernel)) rfl
theorem ml_X8_152 : Cond.methodLink RX8 152 yX8_isCrowd ∈ wsL_law := wsL_of (List.mem_of_getElem? (i := 924) (by decide +kernel)) rfl
theorem ml_X8_162 : Cond.methodLink RX8 162 yX8_layRow ∈ wsL_law := wsL_of (List.mem_of_getElem? (i := 936) (by decide +kernel)) rfl
theorem ml_X8_166 : Cond.methodLink RX8 166 yX8_copied ∈ wsL_law := wsL_of (List.mem_of_getElem? (i := 940) (by decide +kernel)) rfl
theorem ml_X8_156 : Cond.methodLink RX8 156 yX8_greatest ∈ wsL_law := wsL_of (List.mem_of_getElem? (i := 944) (by decide +kernel)) rfl
theorem ml_X8_159 : Cond.methodLink RX8 159 yX8_least ∈ wsL_law := wsL_of (List.mem_of_getElem? (i := 948) (by decide +kernel)) rfl
theorem ml_X8_175 : Cond.methodLink RX8 175 yX8_findBestRow ∈ wsL_law := wsL_of (List.mem_of_getElem? (i := 956) (by decide +kernel)) rfl
theorem ml_X8_169 : Cond.methodLink RX8 169 yX8_exchange ∈ wsL_law := wsL_of (List.mem_of_getElem? (i := 960) (by decide +kernel)) rfl
theorem ml_X8_172 : Cond.methodLink RX8 172 yX8_nextRow ∈ wsL_law := wsL_of (List.mem_of_getElem? (i := 964) (by decide +kernel)) rfl
theorem ml_X8_181 : Cond.methodLink RX8 181 yX8_areEven ∈ wsL_law := wsL_of (List.mem_of_getElem? (i := 972) (by decide +kernel)) rfl
theorem ml_X8_178 : Cond.methodLink RX8 178 yX8_sumOf ∈ wsL_law := wsL_of (List.mem_of_getElem? (i := 976) (by decide +kernel)) rfl
theorem ml_X8_184 : Cond.methodLink RX8 184 yX8_share ∈ wsL_law := wsL_of (List.mem_of_getElem? (i := 985) (by decide +kernel)) rfl
theorem ml_X8_188 : Cond.methodLink RX8 188 yX8_lost ∈ wsL_law := wsL_of (List.mem_of_getElem? (i := 1004) (by decide +kernel)) rfl
theorem ml_X8_195 : Cond.methodLink RX8 195 yX8_begins ∈ wsL_law := wsL_of (List.mem_of_getElem? (i := 1016) (by decide +kernel)) rfl
theorem mf_X6_9 : Cond.fieldLink RX6 9 "ByHand$Things" "count" "I" ∈ wsL_law := wsL_of (List.mem_of_getElem? (i := 27) (by decide +kernel)) rfl
theorem mf_X6_15 : Cond.fieldLink RX6 15 "ByHand$Things" "weights" "[I" ∈ wsL_law := wsL_of (List.mem_of_getElem? (i := 28) (by decide +kernel)) rfl
theorem mf_X1_9 : Cond.fieldLink RX1 9 "ByHand$Hands" "count" "I" ∈ wsL_law := wsL_of (List.mem_of_getElem? (i := 41) (by decide +kernel)) rfl
theorem mf_X1_15 : Cond.fieldLink RX1 15 "ByHand$Hands" "kinds" "[I" ∈ wsL_law := wsL_of (List.mem_of_getElem? (i := 42) (by decide +kernel)) rfl
theorem mf_X1_19 : Cond.fieldLink RX1 19 "ByHand$Hands" "parts" "[I" ∈ wsL_law := wsL_of (List.mem_of_getElem? (i := 43) (by decide +kernel)) rfl
theorem mf_X2_9 : Cond.fieldLink RX2 9 "ByHand$Sayings" "count" "I" ∈ wsL_law := wsL_of (List.mem_of_getElem? (i := 57) (by decide +kernel)) rfl
theorem mf_X2_15 : Cond.fieldLink RX2 15 "ByHand$Sayings" "sayers" "[I" ∈ wsL_law := wsL_of (List.mem_of_getElem? (i := 58) (by decide +kernel)) rfl
theorem mf_X2_19 : Cond.fieldLink RX2 19 "ByHand$Sayings" "firsts" "[I" ∈ wsL_law := wsL_of (List.mem_of_getElem? (i := 59) (by decide +kernel)) rfl
theorem mf_X2_22 : Cond.fieldLink RX2 22 "ByHand$Sayings" "seconds" "[I" ∈ wsL_law := wsL_of (List.mem_of_getElem? (i := 60) (by decide +kernel)) rfl
theorem mf_X2_25 : Cond.fieldLink RX2 25 "ByHand$Sayings" "words" "[I" ∈ wsL_law := wsL_of (List.mem_of_getElem? (i := 61) (by decide +kernel)) rfl
theorem mf_X3_9 : Cond.fieldLink RX3 9 "ByHand$Sheets" "filled" "[Z" ∈ wsL_law := wsL_of (List.mem_of_getElem? (i := 81) (by decide +kernel)) rfl
theorem mf_X3_15 : Cond.fieldLink RX3 15 "ByHand$Sheets" "sorts" "[I" ∈ wsL_law := wsL_of (List.mem_of_getElem? (i := 82) (by decide +kernel)) rfl
theorem mf_X3_19 : Cond.fieldLink RX3 19 "ByHand$Sheets" "lengths" "[I" ∈ wsL_law := wsL_of (List.mem_of_getElem? (i := 83) (by decide +kernel)) rfl
theorem mf_X3_24 : Cond.fieldLink RX3 24 "ByHand$Sheets" "cells" "[[I" ∈ wsL_law := wsL_of (List.mem_of_getElem? (i := 84) (by decide +kernel)) rfl
theorem mf_X4_9 : Cond.fieldLink RX4 9 "ByHand$Telling" "count" "I" ∈ wsL_law := wsL_of (List.mem_of_getElem? (i := 101) (by decide +kernel)) rfl
theorem mf_X4_15 : Cond.fieldLink RX4 15 "ByHand$Telling" "lighter" "[I" ∈ wsL_law := wsL_of (List.mem_of_getElem? (i := 102) (by decide +kernel)) rfl
theorem mf_X4_19 : Cond.fieldLink RX4 19 "ByHand$Telling" "alikes" "[I" ∈ wsL_law := wsL_of (List.mem_of_getElem? (i := 103) (by decide +kernel)) rfl
theorem mf_X4_22 : Cond.fieldLink RX4 22 "ByHand$Telling" "orders" "[I" ∈ wsL_law := wsL_of (List.mem_of_getElem? (i := 104) (by decide +kernel)) rfl
theorem mf_X0_9 : Cond.fieldLink RX0 9 "ByHand$HandRow" "count" "I" ∈ wsL_law := wsL_of (List.mem_of_getElem? (i := 120) (by decide +kernel)) rfl
theorem mf_X0_15 : Cond.fieldLink RX0 15 "ByHand$HandRow" "row" "[I" ∈ wsL_law := wsL_of (List.mem_of_getElem? (i := 121) (by decide +kernel)) rfl
theorem mf_X0_19 : Cond.fieldLink RX0 19 "ByHand$HandRow" "best" "[I" ∈ wsL_law := wsL_of (List.mem_of_getElem? (i := 122) (by decide +kernel)) rfl
theorem mf_X7_14 : Cond.fieldLink RX7 14 "ByHand" "things" "LByHand$Things;" ∈ wsL_law := wsL_of (List.mem_of_getElem? (i := 130) (by decide +kernel)) rfl
theorem mf_X7_21 : Cond.fieldLink RX7 21 "ByHand" "hands" "LByHand$Hands;" ∈ wsL_law := wsL_of (List.mem_of_getElem? (i := 131) (by decide +kernel)) rfl
theorem mf_X7_28 : Cond.fieldLink RX7 28 "ByHand" "sayings" "LByHand$Sayings;" ∈ wsL_law := wsL_of (List.mem_of_getElem? (i := 132) (by decide +kernel)) rfl
theorem mf_X7_35 : Cond.fieldLink RX7 35 "ByHand" "sheets" "LByHand$Sheets;" ∈ wsL_law := wsL_of (List.mem_of_getElem? (i := 133) (by decide +kernel)) rfl
theorem mf_X7_42 : Cond.fieldLink RX7 42 "ByHand" "telling" "LByHand$Telling;" ∈ wsL_law := wsL_of (List.mem_of_getElem? (i := 134) (by decide +kernel)) rfl
theorem mf_X7_46 : Cond.fieldLink RX7 46 "ByHand" "otherTelling" "LByHand$Telling;" ∈ wsL_law := wsL_of (List.mem_of_getElem? (i := 135) (by decide +kernel)) rfl
theorem mf_X7_52 : Cond.fieldLink RX7 52 "ByHand" "handRow" "LByHand$HandRow;" ∈ wsL_law := wsL_of (List.mem_of_getElem? (i := 136) (by decide +kernel)) rfl
theorem mf_X7_56 : Cond.fieldLink RX7 56 "ByHand" "traceLeft" "I" ∈ wsL_law := wsL_of (List.mem_of_getElem? (i := 137) (by decide +kernel)) rfl
theorem mf_X7_60 : Cond.fieldLink RX7 60 "ByHand" "latestFault" "I" ∈ wsL_law := wsL_of (List.mem_of_getElem? (i := 138) (by decide +kernel)) rfl
theorem mf_X8_58 : Cond.fieldLink RX8 58 "ByHandModel" "fault" "I" ∈ wsL_law := wsL_of (List.mem_of_getElem? (i := 695) (by decide +kernel)) rfl
theorem mf_X8_192 : Cond.fieldLink RX8 192 "ByHandModel" "trace" "I" ∈ wsL_law := wsL_of (List.mem_of_getElem? (i := 696) (by decide +kernel)) rfl
theorem mf_X8_9 : Cond.fieldLink RX8 9 "ByHandModel" "sorts" "[I" ∈ wsL_law := wsL_of (List.mem_of_getElem? (i := 697) (by decide +kernel)) rfl
theorem mf_X8_13 : Cond.fieldLink RX8 13 "ByHandModel" "sheetLong" "[I" ∈ wsL_law := wsL_of (List.mem_of_getElem? (i := 698) (by decide +kernel)) rfl
theorem mf_X8_16 : Cond.fieldLink RX8 16 "ByHandModel" "cells" "[I" ∈ wsL_law := wsL_of (List.mem_of_getElem? (i := 699) (by decide +kernel)) rfl
theorem mf_X8_68 : Cond.fieldLink RX8 68 "ByHandModel" "things" "I" ∈ wsL_law := wsL_of (List.mem_of_getElem? (i := 700) (by decide +kernel)) rfl
theorem mf_X8_19 : Cond.fieldLink RX8 19 "ByHandModel" "weight" "[I" ∈ wsL_law := wsL_of (List.mem_of_getElem? (i := 701) (by decide +kernel)) rfl
theorem mf_X8_86 : Cond.fieldLink RX8 86 "ByHandModel" "at" "I" ∈ wsL_law := wsL_of (List.mem_of_getElem? (i := 702) (by decide +kernel)) rfl
theorem mf_X8_92 : Cond.fieldLink RX8 92 "ByHandModel" "readThings" "I" ∈ wsL_law := wsL_of (List.mem_of_getElem? (i := 703) (by decide +kernel)) rfl
theorem mf_X8_22 : Cond.fieldLink RX8 22 "ByHandModel" "readWeight" "[I" ∈ wsL_law := wsL_of (List.mem_of_getElem? (i := 704) (by decide +kernel)) rfl
theorem mf_X8_95 : Cond.fieldLink RX8 95 "ByHandModel" "hands" "I" ∈ wsL_law := wsL_of (List.mem_of_getElem? (i := 705) (by decide +kernel)) rfl
theorem mf_X8_25 : Cond.fieldLink RX8 25 "ByHandModel" "kind" "[I" ∈ wsL_law := wsL_of (List.mem_of_getElem? (i := 706) (by decide +kernel)) rfl
theorem mf_X8_28 : Cond.fieldLink RX8 28 "ByHandModel" "part" "[I" ∈ wsL_law := wsL_of (List.mem_of_getElem? (i := 707) (by decide +kernel)) rfl
theorem mf_X8_31 : Cond.fieldLink RX8 31 "ByHandModel" "far" "[I" ∈ wsL_law := wsL_of (List.mem_of_getElem? (i := 708) (by decide +kernel)) rfl
theorem mf_X8_98 : Cond.fieldLink RX8 98 "ByHandModel" "sayings" "I" ∈ wsL_law := wsL_of (List.mem_of_getElem? (i := 709) (by decide +kernel)) rfl
theorem mf_X8_34 : Cond.fieldLink RX8 34 "ByHandModel" "saidBy" "[I" ∈ wsL_law := wsL_of (List.mem_of_getElem? (i := 710) (by decide +kernel)) rfl
theorem mf_X8_37 : Cond.fieldLink RX8 37 "ByHandModel" "saidFirst" "[I" ∈ wsL_law := wsL_of (List.mem_of_getElem? (i := 711) (by decide +kernel)) rfl
theorem mf_X8_40 : Cond.fieldLink RX8 40 "ByHandModel" "saidOther" "[I" ∈ wsL_law := wsL_of (List.mem_of_getElem? (i := 712) (by decide +kernel)) rfl
theorem mf_X8_43 : Cond.fieldLink RX8 43 "ByHandModel" "saidIs" "[I" ∈ wsL_law := wsL_of (List.mem_of_getElem? (i := 713) (by decide +kernel)) rfl
theorem mf_X8_46 : Cond.fieldLink RX8 46 "ByHandModel" "ways" "[I" ∈ wsL_law := wsL_of (List.mem_of_getElem? (i := 714) (by decide +kernel)) rfl
theorem mf_X8_49 : Cond.fieldLink RX8 49 "ByHandModel" "chain" "[I" ∈ wsL_law := wsL_of (List.mem_of_getElem? (i := 715) (by decide +kernel)) rfl
theorem mf_X8_52 : Cond.fieldLink RX8 52 "ByHandModel" "row" "[I" ∈ wsL_law := wsL_of (List.mem_of_getElem? (i := 716) (by decide +kernel)) rfl
theorem mf_X8_55 : Cond.fieldLink RX8 55 "ByHandModel" "bestIs" "[I" ∈ wsL_law := wsL_of (List.mem_of_getElem? (i := 717) (by decide +kernel)) rfl
theorem mk_J6_265 : Cond.constant RJ6 265 (1431655765) ∈ wsL_law := wsL_of (List.mem_of_getElem? (i := 480) (by decide +kernel)) rfl
theorem mk_J6_266 : Cond.constant RJ6 266 (858993459) ∈ wsL_law := wsL_of (List.mem_of_getElem? (i := 481) (by decide +kernel)) rfl
theorem mk_J6_267 : Cond.constant RJ6 267 (252645135) ∈ wsL_law := wsL_of (List.mem_of_getElem? (i := 482) (by decide +kernel)) rfl
theorem mk2_X7_223 : Cond.constantLong RX7 223 (-9223372036854775808) ∈ wsL_law := wsL_of (List.mem_of_getElem? (i := 584) (by decide +kernel)) rfl
theorem mk2_X8_62 : Cond.constantLong RX8 62 (-9223372036854775808) ∈ wsL_law := wsL_of (List.mem_of_getElem? (i := 984) (by decide +kernel)) rfl
theorem mcl_L_7 : Cond.classLink RL 7 RX7 ∈ wsL_law := wsL_of (List.mem_of_getElem? (i := 13) (by decide +kernel)) rfl
theorem mcl_L_10 : Cond.classLink RL 10 RX8 ∈ wsL_law := wsL_of (List.mem_of_getElem? (i := 689) (by decide +kernel)) rfl
theorem mcl_X7_11 : Cond.classLink RX7 11 RX6 ∈ wsL_law := wsL_of (List.mem_of_getElem? (i := 21) (by decide +kernel)) rfl
theorem mcl_X7_18 : Cond.classLink RX7 18 RX1 ∈ wsL_law := wsL_of (List.mem_of_getElem? (i := 35) (by decide +kernel)) rfl
theorem mcl_X7_25 : Cond.classLink RX7 25 RX2 ∈ wsL_law := wsL_of (List.mem_of_getElem? (i := 51) (by decide +kernel)) rfl
theorem mcl_X7_32 : Cond.classLink RX7 32 RX3 ∈ wsL_law := wsL_of (List.mem_of_getElem? (i := 73) (by decide +kernel)) rfl
theorem mcl_X7_39 : Cond.classLink RX7 39 RX4 ∈ wsL_law := wsL_of (List.mem_of_getElem? (i := 95) (by decide +kernel)) rfl
theorem mcl_X7_49 : Cond.classLink RX7 49 RX0 ∈ wsL_law := wsL_of (List.mem_of_getElem? (i := 114) (by decide +kernel)) rfl
theorem mw_X0 : ∀ w ∈ u_ws RX0 TX0 3, w ∈ wsL_law := by
  have h1 : ∀ w ∈ u_ws RX0 TX0 3, w ∈ tables_1 := by decide +kernel
  have h2 : (u_ws RX0 TX0 3).all goodWord = true := by decide +kernel
  exact fun w h => wsL_of (h1 w h) (List.all_eq_true.mp h2 w h)
theorem mw_X1 : ∀ w ∈ u_ws RX1 TX1 3, w ∈ wsL_law := by
  have h1 : ∀ w ∈ u_ws RX1 TX1 3, w ∈ tables_1 := by decide +kernel
  have h2 : (u_ws RX1 TX1 3).all goodWord = true := by decide +kernel
  exact fun w h => wsL_of (h1 w h) (List.all_eq_true.mp h2 w h)
theorem mw_X2 : ∀ w ∈ u_ws RX2 TX2 5, w ∈ wsL_law := by
  have h1 : ∀ w ∈ u_ws RX2 TX2 5, w ∈ tables_1 := by decide +kernel
  have h2 : (u_ws RX2 TX2 5).all goodWord = true := by decide +kernel
  exact fun w h => wsL_of (h1 w h) (List.all_eq_true.mp h2 w h)
theorem mw_X3 : ∀ w ∈ u_ws RX3 TX3 4, w ∈ wsL_law := by
  have h1 : ∀ w ∈ u_ws RX3 TX3 4, w ∈ tables_1 := by decide +kernel
  have h2 : (u_ws RX3 TX3 4).all goodWord = true := by decide +kernel
  exact fun w h => wsL_of (h1 w h) (List.all_eq_true.mp h2 w h)
theorem mw_X4 : ∀ w ∈ u_ws RX4 TX4 4, w ∈ wsL_law := by
  have h1 : ∀ w ∈ u_ws RX4 TX4 4, w ∈ tables_1 := by decide +kernel
  have h2 : (u_ws RX4 TX4 4).all goodWord = true := by decide +kernel
  exact fun w h => wsL_of (h1 w h) (List.all_eq_true.mp h2 w h)
theorem mw_X6 : ∀ w ∈ u_ws RX6 TX6 2, w ∈ wsL_law := by
  have h1 : ∀ w ∈ u_ws RX6 TX6 2, w ∈ tables_1 := by decide +kernel
  have h2 : (u_ws RX6 TX6 2).all goodWord = true := by decide +kernel
  exact fun w h => wsL_of (h1 w h) (List.all_eq_true.mp h2 w h)
theorem mw_X7 : ∀ w ∈ u_ws RX7 TX7 9, w ∈ wsL_law := by
  have h1 : ∀ w ∈ u_ws RX7 TX7 9, w ∈ tables_1 := by decide +kernel
  have h2 : (u_ws RX7 TX7 9).all goodWord = true := by decide +kernel
  exact fun w h => wsL_of (h1 w h) (List.all_eq_true.mp h2 w h)
theorem mw_X8 : ∀ w ∈ u_ws RX8 TX8 23, w ∈ wsL_law := by
  have h1 : ∀ w ∈ u_ws RX8 TX8 23, w ∈ tables_1 := by decide +kernel
  have h2 : (u_ws RX8 TX8 23).all goodWord = true := by decide +kernel
  exact fun w h => wsL_of (h1 w h) (List.all_eq_true.mp h2 w h)
