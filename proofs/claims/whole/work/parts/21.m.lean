theorem cw_S_e_3_i {x : vX} {g : vG} {cc : ByteArray} {own : String} {rm : Room} {nL pc : Nat} {lv : List (Option Value)} {st : List Value} {wt : va_W} {idx : Nat} {y : MethodName} {bytes : ByteArray} {ml : Nat} {ret : Option FieldType} {rmc : Room} {r : Int32} {p0 p1 p2 : Value} (h : Ok x g cc own rm nL) (hc : Ct g y bytes ml ret rmc [] [p0, p1, p2] (some (.int r)) []) (lk : LkS own idx y bytes ml ret 3) (hrm : RmOk rmc rm ml) (hW : (st.map fun v => v.category).sum ≤ 8) (hd : decode cc pc = .ok (.invokestatic idx, 3)) (k : vM x (pc + 3) lv (.int r :: st) (wt)) : vM x pc lv (p2 :: p1 :: p0 :: st) (wt) := v_callS (As := [p0, p1, p2]) (rest := st) h hc lk hrm rfl [] rfl (by decide) hW hd rfl k
theorem lk_X8_64 : LkS RX8 64 yX8_within cX8_within 3 (some .boolean) 3 := ⟨ml_X8_64, ms_X8_within, mi_X8, mc_X8_within, ⟨by decide, by decide, by decide +kernel⟩⟩
theorem pf_X8_58_at0 {x : vX} {g : vG} {cc : ByteArray} {rm : Room} {nL pc : Nat} {lv : List (Option Value)} {st : List Value} {wt : va_W} {a : Nat} {f0 f1 f2 f3 f4 f5 f6 f7 f8 f9 f10 f11 f12 f13 f14 f15 f16 f17 f18 f19 f20 f21 f22 : Value} {v : Int32} (h : Ok x g cc RX8 rm nL) (hd : decode cc pc = .ok (.putfield 58, 3)) (k : vM x (pc + 3) lv st ((a, .inr (7, [.int v, f1, f2, f3, f4, f5, f6, f7, f8, f9, f10, f11, f12, f13, f14, f15, f16, f17, f18, f19, f20, f21, f22])) :: wt)) : vM x pc lv (.int v :: .ref a :: st) ((a, .inr (7, [f0, f1, f2, f3, f4, f5, f6, f7, f8, f9, f10, f11, f12, f13, f14, f15, f16, f17, f18, f19, f20, f21, f22])) :: wt) := v_put h mw_X8 tyX8 tyX8_ok nmX8 0 rfl rfl 0 (by decide) mf_X8_58 rfl (ty := .int) (by decide +kernel) rfl rfl (Nat.le_of_ble_eq_true rfl) hd rfl k
theorem cw_V_0_1_2_3_4_5_6_7_8_9_10_11_12_13_14_15_16_1_i {x : vX} {g : vG} {cc : ByteArray} {own : String} {rm : Room} {nL pc : Nat} {lv : List (Option Value)} {st : List Value} {wt : va_W} {c0 c1 c2 c3 c4 c5 c6 c7 c8 c9 c10 c11 c12 c13 c14 c15 c16 d0 d1 d2 d3 d4 d5 d6 d7 d8 d9 d10 d11 d12 d13 d14 d15 d16 : Nat × va_E} {idx : Nat} {y : MethodName} {bytes : ByteArray} {ml : Nat} {ret : Option FieldType} {rmc : Room} {r : Int32} {p0 : Value} {a ci : Nat} {q : vw_C} {fs : List Value} (h : Ok x g cc own rm nL) (hc : Ct g y bytes ml ret rmc [c0, c1, c2, c3, c4, c5, c6, c7, c8, c9, c10, c11, c12, c13, c14, c15, c16] [.ref a, p0] (some (.int r)) [d0, d1, d2, d3, d4, d5, d6, d7, d8, d9, d10, d11, d12, d13, d14, d15, d16]) (lk : LkV own idx y bytes ml ret 1) (hrm : RmOk rmc rm ml) (hcl : vwCl[ci]? = some q) (hq : y.cls = q.1) (h0 : c0 = (a, .inr (ci, fs))) (hW : (st.map fun v => v.category).sum ≤ 8) (hd : decode cc pc = .ok (.invokevirtual idx, 3)) (k : vM x (pc + 3) lv (.int r :: st) (d0 :: d1 :: d2 :: d3 :: d4 :: d5 :: d6 :: d7 :: d8 :: d9 :: d10 :: d11 :: d12 :: d13 :: d14 :: d15 :: d16 :: wt)) : vM x pc lv (p0 :: .ref a :: st) (c0 :: c1 :: c2 :: c3 :: c4 :: c5 :: c6 :: c7 :: c8 :: c9 :: c10 :: c11 :: c12 :: c13 :: c14 :: c15 :: c16 :: wt) := v_callV (As := [p0]) (rest := st) h hc lk hrm hcl hq (by rw [h0]; rfl) rfl [0, 1, 2, 3, 4, 5, 6, 7, 8, 9, 10, 11, 12, 13, 14, 15, 16] rfl (by decide) hW hd rfl k
theorem lk_X8_101 : LkV RX8 101 yX8_isThing cX8_isThing 2 (some .boolean) 1 := ⟨ml_X8_101, mn_X8_isThing, mv_X8_isThing, mi_X8, mc_X8_isThing, ⟨by decide, by decide, by decide +kernel⟩⟩
theorem lk_X8_104 : LkS RX8 104 yX8_isWeight cX8_isWeight 1 (some .boolean) 1 := ⟨ml_X8_104, ms_X8_isWeight, mi_X8, mc_X8_isWeight, ⟨by decide, by decide, by decide +kernel⟩⟩
theorem v_iastN_at6 {x : vX} {g : vG} {cc : ByteArray} {own : String} {rm : Room} {nL pc : Nat} {lv : List (Option Value)} {st : List Value} {w0 w1 w2 w3 w4 w5 : Nat × va_E} {wt : va_W} {n b i v : Nat} {w : Nat → Nat} (h : Ok x g cc own rm nL) (hi : i < n) (hn : n < 2 ^ 31) (hd : decode cc pc = .ok (.iastore, 1)) (k : vM x (pc + 1) lv st (w0 :: w1 :: w2 :: w3 :: w4 :: w5 :: (b, .inl (gI g, n, .inl (fun j => nI (up w i v j)))) :: wt)) : vM x pc lv (.int (nI v) :: .int (nI i) :: .ref b :: st) (w0 :: w1 :: w2 :: w3 :: w4 :: w5 :: (b, .inl (gI g, n, .inl (fun j => nI (w j)))) :: wt) := v_iastN h 6 rfl hi hn hd rfl k
theorem v_iastN_at7 {x : vX} {g : vG} {cc : ByteArray} {own : String} {rm : Room} {nL pc : Nat} {lv : List (Option Value)} {st : List Value} {w0 w1 w2 w3 w4 w5 w6 : Nat × va_E} {wt : va_W} {n b i v : Nat} {w : Nat → Nat} (h : Ok x g cc own rm nL) (hi : i < n) (hn : n < 2 ^ 31) (hd : decode cc pc = .ok (.iastore, 1)) (k : vM x (pc + 1) lv st (w0 :: w1 :: w2 :: w3 :: w4 :: w5 :: w6 :: (b, .inl (gI g, n, .inl (fun j => nI (up w i v j)))) :: wt)) : vM x pc lv (.int (nI v) :: .int (nI i) :: .ref b :: st) (w0 :: w1 :: w2 :: w3 :: w4 :: w5 :: w6 :: (b, .inl (gI g, n, .inl (fun j => nI (w j)))) :: wt) := v_iastN h 7 rfl hi hn hd rfl k
theorem pf_X8_95_at0 {x : vX} {g : vG} {cc : ByteArray} {rm : Room} {nL pc : Nat} {lv : List (Option Value)} {st : List Value} {wt : va_W} {a : Nat} {f0 f1 f2 f3 f4 f5 f6 f7 f8 f9 f10 f11 f12 f13 f14 f15 f16 f17 f18 f19 f20 f21 f22 : Value} {v : Int32} (h : Ok x g cc RX8 rm nL) (hd : decode cc pc = .ok (.putfield 95, 3)) (k : vM x (pc + 3) lv st ((a, .inr (7, [f0, f1, f2, f3, f4, f5, f6, f7, f8, f9, .int v, f11, f12, f13, f14, f15, f16, f17, f18, f19, f20, f21, f22])) :: wt)) : vM x pc lv (.int v :: .ref a :: st) ((a, .inr (7, [f0, f1, f2, f3, f4, f5, f6, f7, f8, f9, f10, f11, f12, f13, f14, f15, f16, f17, f18, f19, f20, f21, f22])) :: wt) := v_put h mw_X8 tyX8 tyX8_ok nmX8 0 rfl rfl 10 (by decide) mf_X8_95 rfl (ty := .int) (by decide +kernel) rfl rfl (Nat.le_of_ble_eq_true rfl) hd rfl k
theorem lk_X8_107 : LkV RX8 107 yX8_isHand cX8_isHand 2 (some .boolean) 1 := ⟨ml_X8_107, mn_X8_isHand, mv_X8_isHand, mi_X8, mc_X8_isHand, ⟨by decide, by decide, by decide +kernel⟩⟩
theorem lk_X8_110 : LkV RX8 110 yX8_times cX8_times 2 (some .int) 1 := ⟨ml_X8_110, mn_X8_times, mv_X8_times, mi_X8, mc_X8_times, ⟨by decide, by decide, by decide +kernel⟩⟩
theorem cw_V_0_1_2_3_4_5_6_7_8_9_10_11_12_13_14_15_16_3_i {x : vX} {g : vG} {cc : ByteArray} {own : String} {rm : Room} {nL pc : Nat} {lv : List (Option Value)} {st : List Value} {wt : va_W} {c0 c1 c2 c3 c4 c5 c6 c7 c8 c9 c10 c11 c12 c13 c14 c15 c16 d0 d1 d2 d3 d4 d5 d6 d7 d8 d9 d10 d11 d12 d13 d14 d15 d16 : Nat × va_E} {idx : Nat} {y : MethodName} {bytes : ByteArray} {ml : Nat} {ret : Option FieldType} {rmc : Room} {r : Int32} {p0 p1 p2 : Value} {a ci : Nat} {q : vw_C} {fs : List Value} (h : Ok x g cc own rm nL) (hc : Ct g y bytes ml ret rmc [c0, c1, c2, c3, c4, c5, c6, c7, c8, c9, c10, c11, c12, c13, c14, c15, c16] [.ref a, p0, p1, p2] (some (.int r)) [d0, d1, d2, d3, d4, d5, d6, d7, d8, d9, d10, d11, d12, d13, d14, d15, d16]) (lk : LkV own idx y bytes ml ret 3) (hrm : RmOk rmc rm ml) (hcl : vwCl[ci]? = some q) (hq : y.cls = q.1) (h0 : c0 = (a, .inr (ci, fs))) (hW : (st.map fun v => v.category).sum ≤ 8) (hd : decode cc pc = .ok (.invokevirtual idx, 3)) (k : vM x (pc + 3) lv (.int r :: st) (d0 :: d1 :: d2 :: d3 :: d4 :: d5 :: d6 :: d7 :: d8 :: d9 :: d10 :: d11 :: d12 :: d13 :: d14 :: d15 :: d16 :: wt)) : vM x pc lv (p2 :: p1 :: p0 :: .ref a :: st) (c0 :: c1 :: c2 :: c3 :: c4 :: c5 :: c6 :: c7 :: c8 :: c9 :: c10 :: c11 :: c12 :: c13 :: c14 :: c15 :: c16 :: wt) := v_callV (As := [p0, p1, p2]) (rest := st) h hc lk hrm hcl hq (by rw [h0]; rfl) rfl [0, 1, 2, 3, 4, 5, 6, 7, 8, 9, 10, 11, 12, 13, 14, 15, 16] rfl (by decide) hW hd rfl k
theorem lk_X8_113 : LkV RX8 113 yX8_isTold cX8_isTold 5 (some .boolean) 3 := ⟨ml_X8_113, mn_X8_isTold, mv_X8_isTold, mi_X8, mc_X8_isTold, ⟨by decide, by decide, by decide +kernel⟩⟩
theorem lk_X8_116 : LkV RX8 116 yX8_tellsThem cX8_tellsThem 4 (some .boolean) 3 := ⟨ml_X8_116, mn_X8_tellsThem, mv_X8_tellsThem, mi_X8, mc_X8_tellsThem, ⟨by decide, by decide, by decide +kernel⟩⟩
theorem lk_X8_119 : LkV RX8 119 yX8_areAlike cX8_areAlike 4 (some .boolean) 3 := ⟨ml_X8_119, mn_X8_areAlike, mv_X8_areAlike, mi_X8, mc_X8_areAlike, ⟨by decide, by decide, by decide +kernel⟩⟩
theorem cw_V_0_1_2_3_4_5_6_7_8_9_10_11_12_13_14_15_16_2_i {x : vX} {g : vG} {cc : ByteArray} {own : String} {rm : Room} {nL pc : Nat} {lv : List (Option Value)} {st : List Value} {wt : va_W} {c0 c1 c2 c3 c4 c5 c6 c7 c8 c9 c10 c11 c12 c13 c14 c15 c16 d0 d1 d2 d3 d4 d5 d6 d7 d8 d9 d10 d11 d12 d13 d14 d15 d16 : Nat × va_E} {idx : Nat} {y : MethodName} {bytes : ByteArray} {ml : Nat} {ret : Option FieldType} {rmc : Room} {r : Int32} {p0 p1 : Value} {a ci : Nat} {q : vw_C} {fs : List Value} (h : Ok x g cc own rm nL) (hc : Ct g y bytes ml ret rmc [c0, c1, c2, c3, c4, c5, c6, c7, c8, c9, c10, c11, c12, c13, c14, c15, c16] [.ref a, p0, p1] (some (.int r)) [d0, d1, d2, d3, d4, d5, d6, d7, d8, d9, d10, d11, d12, d13, d14, d15, d16]) (lk : LkV own idx y bytes ml ret 2) (hrm : RmOk rmc rm ml) (hcl : vwCl[ci]? = some q) (hq : y.cls = q.1) (h0 : c0 = (a, .inr (ci, fs))) (hW : (st.map fun v => v.category).sum ≤ 8) (hd : decode cc pc = .ok (.invokevirtual idx, 3)) (k : vM x (pc + 3) lv (.int r :: st) (d0 :: d1 :: d2 :: d3 :: d4 :: d5 :: d6 :: d7 :: d8 :: d9 :: d10 :: d11 :: d12 :: d13 :: d14 :: d15 :: d16 :: wt)) : vM x pc lv (p1 :: p0 :: .ref a :: st) (c0 :: c1 :: c2 :: c3 :: c4 :: c5 :: c6 :: c7 :: c8 :: c9 :: c10 :: c11 :: c12 :: c13 :: c14 :: c15 :: c16 :: wt) := v_callV (As := [p0, p1]) (rest := st) h hc lk hrm hcl hq (by rw [h0]; rfl) rfl [0, 1, 2, 3, 4, 5, 6, 7, 8, 9, 10, 11, 12, 13, 14, 15, 16] rfl (by decide) hW hd rfl k
theorem lk_X8_122 : LkV RX8 122 yX8_alikeTo cX8_alikeTo 5 (some .int) 2 := ⟨ml_X8_122, mn_X8_alikeTo, mv_X8_alikeTo, mi_X8, mc_X8_alikeTo, ⟨by decide, by decide, by decide +kernel⟩⟩
theorem v_iastN_at9 {x : vX} {g : vG} {cc : ByteArray} {own : String} {rm : Room} {nL pc : Nat} {lv : List (Option Value)} {st : List Value} {w0 w1 w2 w3 w4 w5 w6 w7 w8 : Nat × va_E} {wt : va_W} {n b i v : Nat} {w : Nat → Nat} (h : Ok x g cc own rm nL) (hi : i < n) (hn : n < 2 ^ 31) (hd : decode cc pc = .ok (.iastore, 1)) (k : vM x (pc + 1) lv st (w0 :: w1 :: w2 :: w3 :: w4 :: w5 :: w6 :: w7 :: w8 :: (b, .inl (gI g, n, .inl (fun j => nI (up w i v j)))) :: wt)) : vM x pc lv (.int (nI v) :: .int (nI i) :: .ref b :: st) (w0 :: w1 :: w2 :: w3 :: w4 :: w5 :: w6 :: w7 :: w8 :: (b, .inl (gI g, n, .inl (fun j => nI (w j)))) :: wt) := v_iastN h 9 rfl hi hn hd rfl k
theorem v_iastN_at10 {x : vX} {g : vG} {cc : ByteArray} {own : String} {rm : Room} {nL pc : Nat} {lv : List (Option Value)} {st : List Value} {w0 w1 w2 w3 w4 w5 w6 w7 w8 w9 : Nat × va_E} {wt : va_W} {n b i v : Nat} {w : Nat → Nat} (h : Ok x g cc own rm nL) (hi : i < n) (hn : n < 2 ^ 31) (hd : decode cc pc = .ok (.iastore, 1)) (k : vM x (pc + 1) lv st (w0 :: w1 :: w2 :: w3 :: w4 :: w5 :: w6 :: w7 :: w8 :: w9 :: (b, .inl (gI g, n, .inl (fun j => nI (up w i v j)))) :: wt)) : vM x pc lv (.int (nI v) :: .int (nI i) :: .ref b :: st) (w0 :: w1 :: w2 :: w3 :: w4 :: w5 :: w6 :: w7 :: w8 :: w9 :: (b, .inl (gI g, n, .inl (fun j => nI (w j)))) :: wt) := v_iastN h 10 rfl hi hn hd rfl k
theorem v_iastN_at11 {x : vX} {g : vG} {cc : ByteArray} {own : String} {rm : Room} {nL pc : Nat} {lv : List (Option Value)} {st : List Value} {w0 w1 w2 w3 w4 w5 w6 w7 w8 w9 w10 : Nat × va_E} {wt : va_W} {n b i v : Nat} {w : Nat → Nat} (h : Ok x g cc own rm nL) (hi : i < n) (hn : n < 2 ^ 31) (hd : decode cc pc = .ok (.iastore, 1)) (k : vM x (pc + 1) lv st (w0 :: w1 :: w2 :: w3 :: w4 :: w5 :: w6 :: w7 :: w8 :: w9 :: w10 :: (b, .inl (gI g, n, .inl (fun j => nI (up w i v j)))) :: wt)) : vM x pc lv (.int (nI v) :: .int (nI i) :: .ref b :: st) (w0 :: w1 :: w2 :: w3 :: w4 :: w5 :: w6 :: w7 :: w8 :: w9 :: w10 :: (b, .inl (gI g, n, .inl (fun j => nI (w j)))) :: wt) := v_iastN h 11 rfl hi hn hd rfl k
theorem v_iastN_at12 {x : vX} {g : vG} {cc : ByteArray} {own : String} {rm : Room} {nL pc : Nat} {lv : List (Option Value)} {st : List Value} {w0 w1 w2 w3 w4 w5 w6 w7 w8 w9 w10 w11 : Nat × va_E} {wt : va_W} {n b i v : Nat} {w : Nat → Nat} (h : Ok x g cc own rm nL) (hi : i < n) (hn : n < 2 ^ 31) (hd : decode cc pc = .ok (.iastore, 1)) (k : vM x (pc + 1) lv st (w0 :: w1 :: w2 :: w3 :: w4 :: w5 :: w6 :: w7 :: w8 :: w9 :: w10 :: w11 :: (b, .inl (gI g, n, .inl (fun j => nI (up w i v j)))) :: wt)) : vM x pc lv (.int (nI v) :: .int (nI i) :: .ref b :: st) (w0 :: w1 :: w2 :: w3 :: w4 :: w5 :: w6 :: w7 :: w8 :: w9 :: w10 :: w11 :: (b, .inl (gI g, n, .inl (fun j => nI (w j)))) :: wt) := v_iastN h 12 rfl hi hn hd rfl k
theorem pf_X8_98_at0 {x : vX} {g : vG} {cc : ByteArray} {rm : Room} {nL pc : Nat} {lv : List (Option Value)} {st : List Value} {wt : va_W} {a : Nat} {f0 f1 f2 f3 f4 f5 f6 f7 f8 f9 f10 f11 f12 f13 f14 f15 f16 f17 f18 f19 f20 f21 f22 : Value} {v : Int32} (h : Ok x g cc RX8 rm nL) (hd : decode cc pc = .ok (.putfield 98, 3)) (k : vM x (pc + 3) lv st ((a, .inr (7, [f0, f1, f2, f3, f4, f5, f6, f7, f8, f9, f10, f11, f12, f13, .int v, f15, f16, f17, f18, f19, f20, f21, f22])) :: wt)) : vM x pc lv (.int v :: .ref a :: st) ((a, .inr (7, [f0, f1, f2, f3, f4, f5, f6, f7, f8, f9, f10, f11, f12, f13, f14, f15, f16, f17, f18, f19, f20, f21, f22])) :: wt) := v_put h mw_X8 tyX8 tyX8_ok nmX8 0 rfl rfl 14 (by decide) mf_X8_98 rfl (ty := .int) (by decide +kernel) rfl rfl (Nat.le_of_ble_eq_true rfl) hd rfl k
theorem lk_X8_137 : LkV RX8 137 yX8_isSo cX8_isSo 4 (some .boolean) 1 := ⟨ml_X8_137, mn_X8_isSo, mv_X8_isSo, mi_X8, mc_X8_isSo, ⟨by decide, by decide, by decide +kernel⟩⟩
theorem lk_X8_140 : LkV RX8 140 yX8_falseOf cX8_falseOf 4 (some .int) 1 := ⟨ml_X8_140, mn_X8_falseOf, mv_X8_falseOf, mi_X8, mc_X8_falseOf, ⟨by decide, by decide, by decide +kernel⟩⟩
set_option maxRecDepth 20000 in
set_option maxHeartbeats 2000000 in
theorem c_X8_within {g : vG} {p : Int32} {a : Int32} {b : Int32} : Ct g yX8_within cX8_within 3 (some .boolean) (rmOf 0 0) [] [.int p, .int a, .int b] (some (.int (nI (bN (wr p a b))))) [] := by
  refine Ct.ofV RX8 rfl (by decide +kernel) rfl rfl rfl (Nat.le_of_ble_eq_true rfl) (List.forall_mem_cons.mpr ⟨rfl, (List.forall_mem_cons.mpr ⟨rfl, (List.forall_mem_cons.mpr ⟨rfl, (fun _ h9 => absurd h9 List.not_mem_nil)⟩)⟩)⟩) (fun x h hr => ?_)
  show vM x 0 [some (.int p), some (.int a), some (.int b)] [] []
  refine v_iload_n0 h dX8_within_0 ?_
  refine v_iload_n1 h dX8_within_1 ?_
  refine v_icmp_lt h dX8_within_2 (tgt := 14) (by decide) (fun c2 => ?_) (fun c2 => ?_)
  · refine v_iconst h (v := nI 0) dX8_within_14 (by decide) ?_
    exact v_zret (v := false) h hr dX8_within_15 (by first | exact (decide_eq_false (fun q => Int32.not_le.mpr c2 q.1)).symm | exact (decide_eq_false (fun q => Int32.not_le.mpr c7 q.2)).symm | exact (decide_eq_true ⟨Int32.not_lt.mp c2, Int32.not_lt.mp c7⟩).symm) rfl
  · refine v_iload_n0 h dX8_within_5 ?_
    refine v_iload_n2 h dX8_within_6 ?_
    refine v_icmp_gt h dX8_within_7 (tgt := 14) (by decide) (fun c7 => ?_) (fun c7 => ?_)
    · refine v_iconst h (v := nI 0) dX8_within_14 (by decide) ?_
      exact v_zret (v := false) h hr dX8_within_15 (by first | exact (decide_eq_false (fun q => Int32.not_le.mpr c2 q.1)).symm | exact (decide_eq_false (fun q => Int32.not_le.mpr c7 q.2)).symm | exact (decide_eq_true ⟨Int32.not_lt.mp c2, Int32.not_lt.mp c7⟩).symm) rfl
    · refine v_iconst h (v := nI 1) dX8_within_10 (by decide) ?_
      refine v_goto h dX8_within_11 (tgt := 15) (by decide) ?_
      exact v_zret (v := true) h hr dX8_within_15 (by first | exact (decide_eq_false (fun q => Int32.not_le.mpr c2 q.1)).symm | exact (decide_eq_false (fun q => Int32.not_le.mpr c7 q.2)).symm | exact (decide_eq_true ⟨Int32.not_lt.mp c2, Int32.not_lt.mp c7⟩).symm) rfl
set_option maxRecDepth 20000 in
set_option maxHeartbeats 2000000 in
theorem c_X8_isSheet {g : vG} {p : Int32} : Ct g yX8_isSheet cX8_isSheet 1 (some .boolean) (rmOf 1 22) [] [.int p] (some (.int (nI (bN (wi p 0 3))))) [] := by
  refine Ct.ofV RX8 rfl (by decide +kernel) rfl rfl rfl (Nat.le_of_ble_eq_true rfl) (List.forall_mem_cons.mpr ⟨rfl, (fun _ h9 => absurd h9 List.not_mem_nil)⟩) (fun x h hr => ?_)
  show vM x 0 [some (.int p)] [] []
  refine v_iload_n0 h dX8_isSheet_0 ?_
  refine v_iconst h (v := nI 0) dX8_isSheet_1 (by decide) ?_
  refine v_iconst h (v := nI 3) dX8_isSheet_2 (by decide) ?_
  refine cw_S_e_3_i h (c_X8_within (g := g)) lk_X8_64 ⟨rfl, rfl, (Nat.le_of_ble_eq_true rfl), (Nat.le_of_ble_eq_true rfl)⟩ (Nat.le_of_ble_eq_true rfl) dX8_isSheet_3 ?_
  exact v_zret h hr dX8_isSheet_6 rfl rfl
set_option maxRecDepth 20000 in
set_option maxHeartbeats 2000000 in
theorem c_X8_isSort {g : vG} {p : Int32} : Ct g yX8_isSort cX8_isSort 1 (some .boolean) (rmOf 1 22) [] [.int p] (some (.int (nI (bN (wi p 0 2))))) [] := by
  refine Ct.ofV RX8 rfl (by decide +kernel) rfl rfl rfl (Nat.le_of_ble_eq_true rfl) (List.forall_mem_cons.mpr ⟨rfl, (fun _ h9 => absurd h9 List.not_mem_nil)⟩) (fun x h hr => ?_)
  show vM x 0 [some (.int p)] [] []
  refine v_iload_n0 h dX8_isSort_0 ?_
  refine v_iconst h (v := nI 0) dX8_isSort_1 (by decide) ?_
  refine v_iconst h (v := nI 2) dX8_isSort_2 (by decide) ?_
  refine cw_S_e_3_i h (c_X8_within (g := g)) lk_X8_64 ⟨rfl, rfl, (Nat.le_of_ble_eq_true rfl), (Nat.le_of_ble_eq_true rfl)⟩ (Nat.le_of_ble_eq_true rfl) dX8_isSort_3 ?_
  exact v_zret h hr dX8_isSort_6 rfl rfl
set_option maxRecDepth 20000 in
set_option maxHeartbeats 2000000 in
theorem c_X8_isWeight {g : vG} {p : Int32} : Ct g yX8_isWeight cX8_isWeight 1 (some .boolean) (rmOf 1 22) [] [.int p] (some (.int (nI (bN (wi p 1 999))))) [] := by
  refine Ct.ofV RX8 rfl (by decide +kernel) rfl rfl rfl (Nat.le_of_ble_eq_true rfl) (List.forall_mem_cons.mpr ⟨rfl, (fun _ h9 => absurd h9 List.not_mem_nil)⟩) (fun x h hr => ?_)
  show vM x 0 [some (.int p)] [] []
  refine v_iload_n0 h dX8_isWeight_0 ?_
  refine v_iconst h (v := nI 1) dX8_isWeight_1 (by decide) ?_
  refine v_sipush h (v := nI 999) dX8_isWeight_2 (by decide) ?_
  refine cw_S_e_3_i h (c_X8_within (g := g)) lk_X8_64 ⟨rfl, rfl, (Nat.le_of_ble_eq_true rfl), (Nat.le_of_ble_eq_true rfl)⟩ (Nat.le_of_ble_eq_true rfl) dX8_isWeight_5 ?_
  exact v_zret h hr dX8_isWeight_8 rfl rfl
set_option maxRecDepth 20000 in
set_option maxHeartbeats 2000000 in
theorem c_X8_fails {g : vG} {m0 m1 m2 m3 m4 m5 m6 m7 m8 m9 m10 m11 m12 m13 m14 m15 m16 : Nat} {fl : Nat} {tr : Int32} {msrt : Nat → Int32} {len : Nat → Nat} {mc : Nat → Int32} {n : Nat} {w : Nat → Nat} {atp : Nat} {rt : Nat} {rwt : Nat → Nat} {hn : Nat} {kd : Nat → Nat} {pt : Nat → Nat} {far : Nat → Int32} {sn : Nat} {sb : Nat → Nat} {sf : Nat → Nat} {ss : Nat → Nat} {sw : Nat → Nat} {ways : Nat → Nat} {chain : Nat → Nat} {row : Nat → Nat} {best : Nat → Nat} {k : Nat} : Ct g yX8_fails cX8_fails 2 (some .int) (rmOf 0 0) [(m0, .inr (7, [.int (nI fl), .int tr, .ref m1, .ref m2, .ref m3, .int (nI n), .ref m4, .int (nI atp), .int (nI rt), .ref m5, .int (nI hn), .ref m6, .ref m7, .ref m8, .int (nI sn), .ref m9, .ref m10, .ref m11, .ref m12, .ref m13, .ref m14, .ref m15, .ref m16])), (m1, .inl (gI g, 4, .inl msrt)), (m2, .inl (gI g, 4, .inl (fun z9 => nI (len z9)))), (m3, .inl (gI g, 160, .inl mc)), (m4, .inl (gI g, 8, .inl (fun z9 => nI (w z9)))), (m5, .inl (gI g, 8, .inl (fun z9 => nI (rwt z9)))), (m6, .inl (gI g, 6, .inl (fun z9 => nI (kd z9)))), (m7, .inl (gI g, 6, .inl (fun z9 => nI (pt z9)))), (m8, .inl (gI g, 8, .inl far)), (m9, .inl (gI g, 10, .inl (fun z9 => nI (sb z9)))), (m10, .inl (gI g, 10, .inl (fun z9 => nI (sf z9)))), (m11, .inl (gI g, 10, .inl (fun z9 => nI (ss z9)))), (m12, .inl (gI g, 10, .inl (fun z9 => nI (sw z9)))), (m13, .inl (gI g, 256, .inl (fun z9 => nI (ways z9)))), (m14, .inl (gI g, 8, .inl (fun z9 => nI (chain z9)))), (m15, .inl (gI g, 5, .inl (fun z9 => nI (row z9)))), (m16, .inl (gI g, 5, .inl (fun z9 => nI (best z9))))] [.ref m0, .int (nI k)] (some (.int (-10 - nI k))) [(m0, .inr (7, [.int (nI k), .int tr, .ref m1, .ref m2, .ref m3, .int (nI n), .ref m4, .int (nI atp), .int (nI rt), .ref m5, .int (nI hn), .ref m6, .ref m7, .ref m8, .int (nI sn), .ref m9, .ref m10, .ref m11, .ref m12, .ref m13, .ref m14, .ref m15, .ref m16])), (m1, .inl (gI g, 4, .inl msrt)), (m2, .inl (gI g, 4, .inl (fun z9 => nI (len z9)))), (m3, .inl (gI g, 160, .inl mc)), (m4, .inl (gI g, 8, .inl (fun z9 => nI (w z9)))), (m5, .inl (gI g, 8, .inl (fun z9 => nI (rwt z9)))), (m6, .inl (gI g, 6, .inl (fun z9 => nI (kd z9)))), (m7, .inl (gI g, 6, .inl (fun z9 => nI (pt z9)))), (m8, .inl (gI g, 8, .inl far)), (m9, .inl (gI g, 10, .inl (fun z9 => nI (sb z9)))), (m10, .inl (gI g, 10, .inl (fun z9 => nI (sf z9)))), (m11, .inl (gI g, 10, .inl (fun z9 => nI (ss z9)))), (m12, .inl (gI g, 10, .inl (fun z9 => nI (sw z9)))), (m13, .inl (gI g, 256, .inl (fun z9 => nI (ways z9)))), (m14, .inl (gI g, 8, .inl (fun z9 => nI (chain z9)))), (m15, .inl (gI g, 5, .inl (fun z9 => nI (row z9)))), (m16, .inl (gI g, 5, .inl (fun z9 => nI (best z9))))] := by
  refine Ct.ofV RX8 rfl (by decide +kernel) rfl rfl rfl (Nat.le_of_ble_eq_true rfl) (List.forall_mem_cons.mpr ⟨rfl, (List.forall_mem_cons.mpr ⟨rfl, (fun _ h9 => absurd h9 List.not_mem_nil)⟩)⟩) (fun x h hr => ?_)
  show vM x 0 [some (.ref m0), some (.int (nI k))] [] [(m0, .inr (7, [.int (nI fl), .int tr, .ref m1, .ref m2, .ref m3, .int (nI n), .ref m4, .int (nI atp), .int (nI rt), .ref m5, .int (nI hn), .ref m6, .ref m7, .ref m8, .int (nI sn), .ref m9, .ref m10, .ref m11, .ref m12, .ref m13, .ref m14, .ref m15, .ref m16])), (m1, .inl (gI g, 4, .inl msrt)), (m2, .inl (gI g, 4, .inl (fun z9 => nI (len z9)))), (m3, .inl (gI g, 160, .inl mc)), (m4, .inl (gI g, 8, .inl (fun z9 => nI (w z9)))), (m5, .inl (gI g, 8, .inl (fun z9 => nI (rwt z9)))), (m6, .inl (gI g, 6, .inl (fun z9 => nI (kd z9)))), (m7, .inl (gI g, 6, .inl (fun z9 => nI (pt z9)))), (m8, .inl (gI g, 8, .inl far)), (m9, .inl (gI g, 10, .inl (fun z9 => nI (sb z9)))), (m10, .inl (gI g, 10, .inl (fun z9 => nI (sf z9)))), (m11, .inl (gI g, 10, .inl (fun z9 => nI (ss z9)))), (m12, .inl (gI g, 10, .inl (fun z9 => nI (sw z9)))), (m13, .inl (gI g, 256, .inl (fun z9 => nI (ways z9)))), (m14, .inl (gI g, 8, .inl (fun z9 => nI (chain z9)))), (m15, .inl (gI g, 5, .inl (fun z9 => nI (row z9)))), (m16, .inl (gI g, 5, .inl (fun z9 => nI (best z9))))]
  refine v_aload_n0 h dX8_fails_0 ?_
  refine v_iload_n1 h dX8_fails_1 ?_
  refine pf_X8_58_at0 h dX8_fails_2 ?_
  refine v_bipush h (v := -10) dX8_fails_5 (by decide) ?_
  refine v_iload_n1 h dX8_fails_7 ?_
  refine v_isub h dX8_fails_8 ?_
  exact v_iret h hr dX8_fails_9 rfl rfl
set_option maxRecDepth 20000 in
set_option maxHeartbeats 2000000 in
theorem c_X8_lost {g : vG} {m0 m1 m2 m3 m4 m5 m6 m7 m8 m9 m10 m11 m12 m13 m14 m15 m16 : Nat} {fl : Nat} {tr : Int32} {msrt : Nat → Int32} {len : Nat → Nat} {mc : Nat → Int32} {n : Nat} {w : Nat → Nat} {atp : Nat} {rt : Nat} {rwt : Nat → Nat} {hn : Nat} {kd : Nat → Nat} {pt : Nat → Nat} {far : Nat → Int32} {sn : Nat} {sb : Nat → Nat} {sf : Nat → Nat} {ss : Nat → Nat} {sw : Nat → Nat} {ways : Nat → Nat} {chain : Nat → Nat} {row : Nat → Nat} {best : Nat → Nat} {k : Nat} : Ct g yX8_lost cX8_lost 2 (some .long) (rmOf 0 0) [(m0, .inr (7, [.int (nI fl), .int tr, .ref m1, .ref m2, .ref m3, .int (nI n), .ref m4, .int (nI atp), .int (nI rt), .ref m5, .int (nI hn), .ref m6, .ref m7, .ref m8, .int (nI sn), .ref m9, .ref m10, .ref m11, .ref m12, .ref m13, .ref m14, .ref m15, .ref m16])), (m1, .inl (gI g, 4, .inl msrt)), (m2, .inl (gI g, 4, .inl (fun z9 => nI (len z9)))), (m3, .inl (gI g, 160, .inl mc)), (m4, .inl (gI g, 8, .inl (fun z9 => nI (w z9)))), (m5, .inl (gI g, 8, .inl (fun z9 => nI (rwt z9)))), (m6, .inl (gI g, 6, .inl (fun z9 => nI (kd z9)))), (m7, .inl (gI g, 6, .inl (fun z9 => nI (pt z9)))), (m8, .inl (gI g, 8, .inl far)), (m9, .inl (gI g, 10, .inl (fun z9 => nI (sb z9)))), (m10, .inl (gI g, 10, .inl (fun z9 => nI (sf z9)))), (m11, .inl (gI g, 10, .inl (fun z9 => nI (ss z9)))), (m12, .inl (gI g, 10, .inl (fun z9 => nI (sw z9)))), (m13, .inl (gI g, 256, .inl (fun z9 => nI (ways z9)))), (m14, .inl (gI g, 8, .inl (fun z9 => nI (chain z9)))), (m15, .inl (gI g, 5, .inl (fun z9 => nI (row z9)))), (m16, .inl (gI g, 5, .inl (fun z9 => nI (best z9))))] [.ref m0, .int (nI k)] (some (.long (-9223372036854775808))) [(m0, .inr (7, [.int (nI k), .int tr, .ref m1, .ref m2, .ref m3, .int (nI n), .ref m4, .int (nI atp), .int (nI rt), .ref m5, .int (nI hn), .ref m6, .ref m7, .ref m8, .int (nI sn), .ref m9, .ref m10, .ref m11, .ref m12, .ref m13, .ref m14, .ref m15, .ref m16])), (m1, .inl (gI g, 4, .inl msrt)), (m2, .inl (gI g, 4, .inl (fun z9 => nI (len z9)))), (m3, .inl (gI g, 160, .inl mc)), (m4, .inl (gI g, 8, .inl (fun z9 => nI (w z9)))), (m5, .inl (gI g, 8, .inl (fun z9 => nI (rwt z9)))), (m6, .inl (gI g, 6, .inl (fun z9 => nI (kd z9)))), (m7, .inl (gI g, 6, .inl (fun z9 => nI (pt z9)))), (m8, .inl (gI g, 8, .inl far)), (m9, .inl (gI g, 10, .inl (fun z9 => nI (sb z9)))), (m10, .inl (gI g, 10, .inl (fun z9 => nI (sf z9)))), (m11, .inl (gI g, 10, .inl (fun z9 => nI (ss z9)))), (m12, .inl (gI g, 10, .inl (fun z9 => nI (sw z9)))), (m13, .inl (gI g, 256, .inl (fun z9 => nI (ways z9)))), (m14, .inl (gI g, 8, .inl (fun z9 => nI (chain z9)))), (m15, .inl (gI g, 5, .inl (fun z9 => nI (row z9)))), (m16, .inl (gI g, 5, .inl (fun z9 => nI (best z9))))] := by
  refine Ct.ofV RX8 rfl (by decide +kernel) rfl rfl rfl (Nat.le_of_ble_eq_true rfl) (List.forall_mem_cons.mpr ⟨rfl, (List.forall_mem_cons.mpr ⟨rfl, (fun _ h9 => absurd h9 List.not_mem_nil)⟩)⟩) (fun x h hr => ?_)
  show vM x 0 [some (.ref m0), some (.int (nI k))] [] [(m0, .inr (7, [.int (nI fl), .int tr, .ref m1, .ref m2, .ref m3, .int (nI n), .ref m4, .int (nI atp), .int (nI rt), .ref m5, .int (nI hn), .ref m6, .ref m7, .ref m8, .int (nI sn), .ref m9, .ref m10, .ref m11, .ref m12, .ref m13, .ref m14, .ref m15, .ref m16])), (m1, .inl (gI g, 4, .inl msrt)), (m2, .inl (gI g, 4, .inl (fun z9 => nI (len z9)))), (m3, .inl (gI g, 160, .inl mc)), (m4, .inl (gI g, 8, .inl (fun z9 => nI (w z9)))), (m5, .inl (gI g, 8, .inl (fun z9 => nI (rwt z9)))), (m6, .inl (gI g, 6, .inl (fun z9 => nI (kd z9)))), (m7, .inl (gI g, 6, .inl (fun z9 => nI (pt z9)))), (m8, .inl (gI g, 8, .inl far)), (m9, .inl (gI g, 10, .inl (fun z9 => nI (sb z9)))), (m10, .inl (gI g, 10, .inl (fun z9 => nI (sf z9)))), (m11, .inl (gI g, 10, .inl (fun z9 => nI (ss z9)))), (m12, .inl (gI g, 10, .inl (fun z9 => nI (sw z9)))), (m13, .inl (gI g, 256, .inl (fun z9 => nI (ways z9)))), (m14, .inl (gI g, 8, .inl (fun z9 => nI (chain z9)))), (m15, .inl (gI g, 5, .inl (fun z9 => nI (row z9)))), (m16, .inl (gI g, 5, .inl (fun z9 => nI (best z9))))]
  refine v_aload_n0 h dX8_lost_0 ?_
  refine v_iload_n1 h dX8_lost_1 ?_
  refine pf_X8_58_at0 h dX8_lost_2 ?_
  refine v_ldc2 h mk2_X8_62 dX8_lost_5 ?_
  exact v_lret h hr dX8_lost_8 rfl rfl
set_option maxRecDepth 20000 in
set_option maxHeartbeats 2000000 in
theorem c_X8_bits {g : vG} {a : Nat} (ha : a < 2 ^ 31) : Ct g yX8_bits cX8_bits 3 (some .int) (rmOf 0 0) [] [.int (nI a)] (some (.int (nI (popN a)))) [] := by
  refine Ct.ofV RX8 rfl (by decide +kernel) rfl rfl rfl (Nat.le_of_ble_eq_true rfl) (List.forall_mem_cons.mpr ⟨rfl, (fun _ h9 => absurd h9 List.not_mem_nil)⟩) (fun x h hr => ?_)
  show vM x 0 [some (.int (nI a)), none, none] [] []
  refine v_iconst h (v := nI 0) dX8_bits_0 (by decide) ?_
  refine v_istore_n1 h (Nat.le_of_ble_eq_true rfl) dX8_bits_1 ?_
  refine v_iconst h (v := nI 0) dX8_bits_2 (by decide) ?_
  refine v_istore_n2 h (Nat.le_of_ble_eq_true rfl) dX8_bits_3 ?_
  have L4 : ∀ (k4 : Nat) (i : Nat), 20 - i = k4 → (i ≤ 20) → vM x 4 [some (.int (nI a)), some (.int (nI (sumTo (fun k => a / 2 ^ k &&& 1) i))), some (.int (nI i))] [] [] := by
    intro k4
    induction k4 using Nat.strongRecOn with
    | _ k4 ih4 =>
      intro i hm4 hi
      refine v_iload_n2 h dX8_bits_4 ?_
      refine v_bipush h (v := nI 20) dX8_bits_5 (by decide) ?_
      refine v_icmp_geN h dX8_bits_7 (tgt := 24) (by decide) (by omega) (by omega) (fun c7 => ?_) (fun c7 => ?_)
      · refine v_iload_n1 h dX8_bits_24 ?_
        exact v_iret h hr dX8_bits_25 (by rw [show i = 20 by omega]; rfl) rfl
      · refine v_iload_n1 h dX8_bits_10 ?_
        refine v_iload_n0 h dX8_bits_11 ?_
        refine v_iload_n2 h dX8_bits_12 ?_
        refine v_ishrN h dX8_bits_13 (by omega) (by omega) ?_
        refine v_iconst h (v := nI 1) dX8_bits_14 (by decide) ?_
        refine v_iandN h dX8_bits_15 ?_
        refine v_iaddN h dX8_bits_16 ?_
        refine v_istore_n1 h (Nat.le_of_ble_eq_true rfl) dX8_bits_17 ?_
        refine v_iincN2 h (Nat.le_of_ble_eq_true rfl) dX8_bits_18 ?_
        refine v_goto h dX8_bits_21 (tgt := 4) (by decide) ?_
        exact vM.fg (ih4 _ (by omega) (i + 1) rfl (by first | assumption | rfl | omega)) ⟨rfl, rfl, rfl, trivial⟩
  exact vM.fg (L4 _ 0 rfl (by first | assumption | rfl | omega)) ⟨rfl, rfl, rfl, trivial⟩
set_option maxRecDepth 20000 in
set_option maxHeartbeats 2000000 in
theorem c_X8_isThing {g : vG} {m0 m1 m2 m3 m4 m5 m6 m7 m8 m9 m10 m11 m12 m13 m14 m15 m16 : Nat} {fl : Nat} {tr : Int32} {msrt : Nat → Int32} {len : Nat → Nat} {mc : Nat → Int32} {n : Nat} {w : Nat → Nat} {atp : Nat} {rt : Nat} {rwt : Nat → Nat} {hn : Nat} {kd : Nat → Nat} {pt : Nat → Nat} {far : Nat → Int32} {sn : Nat} {sb : Nat → Nat} {sf : Nat → Nat} {ss : Nat → Nat} {sw : Nat → Nat} {ways : Nat → Nat} {chain : Nat → Nat} {row : Nat → Nat} {best : Nat → Nat} {p : Int32} : Ct g yX8_isThing cX8_isThing 2 (some .boolean) (rmOf 0 0) [(m0, .inr (7, [.int (nI fl), .int tr, .ref m1, .ref m2, .ref m3, .int (nI n), .ref m4, .int (nI atp), .int (nI rt), .ref m5, .int (nI hn), .ref m6, .ref m7, .ref m8, .int (nI sn), .ref m9, .ref m10, .ref m11, .ref m12, .ref m13, .ref m14, .ref m15, .ref m16])), (m1, .inl (gI g, 4, .inl msrt)), (m2, .inl (gI g, 4, .inl (fun z9 => nI (len z9)))), (m3, .inl (gI g, 160, .inl mc)), (m4, .inl (gI g, 8, .inl (fun z9 => nI (w z9)))), (m5, .inl (gI g, 8, .inl (fun z9 => nI (rwt z9)))), (m6, .inl (gI g, 6, .inl (fun z9 => nI (kd z9)))), (m7, .inl (gI g, 6, .inl (fun z9 => nI (pt z9)))), (m8, .inl (gI g, 8, .inl far)), (m9, .inl (gI g, 10, .inl (fun z9 => nI (sb z9)))), (m10, .inl (gI g, 10, .inl (fun z9 => nI (sf z9)))), (m11, .inl (gI g, 10, .inl (fun z9 => nI (ss z9)))), (m12, .inl (gI g, 10, .inl (fun z9 => nI (sw z9)))), (m13, .inl (gI g, 256, .inl (fun z9 => nI (ways z9)))), (m14, .inl (gI g, 8, .inl (fun z9 => nI (chain z9)))), (m15, .inl (gI g, 5, .inl (fun z9 => nI (row z9)))), (m16, .inl (gI g, 5, .inl (fun z9 => nI (best z9))))] [.ref m0, .int p] (some (.int (nI (bN (inR p n))))) [(m0, .inr (7, [.int (nI fl), .int tr, .ref m1, .ref m2, .ref m3, .int (nI n), .ref m4, .int (nI atp), .int (nI rt), .ref m5, .int (nI hn), .ref m6, .ref m7, .ref m8, .int (nI sn), .ref m9, .ref m10, .ref m11, .ref m12, .ref m13, .ref m14, .ref m15, .ref m16])), (m1, .inl (gI g, 4, .inl msrt)), (m2, .inl (gI g, 4, .inl (fun z9 => nI (len z9)))), (m3, .inl (gI g, 160, .inl mc)), (m4, .inl (gI g, 8, .inl (fun z9 => nI (w z9)))), (m5, .inl (gI g, 8, .inl (fun z9 => nI (rwt z9)))), (m6, .inl (gI g, 6, .inl (fun z9 => nI (kd z9)))), (m7, .inl (gI g, 6, .inl (fun z9 => nI (pt z9)))), (m8, .inl (gI g, 8, .inl far)), (m9, .inl (gI g, 10, .inl (fun z9 => nI (sb z9)))), (m10, .inl (gI g, 10, .inl (fun z9 => nI (sf z9)))), (m11, .inl (gI g, 10, .inl (fun z9 => nI (ss z9)))), (m12, .inl (gI g, 10, .inl (fun z9 => nI (sw z9)))), (m13, .inl (gI g, 256, .inl (fun z9 => nI (ways z9)))), (m14, .inl (gI g, 8, .inl (fun z9 => nI (chain z9)))), (m15, .inl (gI g, 5, .inl (fun z9 => nI (row z9)))), (m16, .inl (gI g, 5, .inl (fun z9 => nI (best z9))))] := by
  refine Ct.ofV RX8 rfl (by decide +kernel) rfl rfl rfl (Nat.le_of_ble_eq_true rfl) (List.forall_mem_cons.mpr ⟨rfl, (List.forall_mem_cons.mpr ⟨rfl, (fun _ h9 => absurd h9 List.not_mem_nil)⟩)⟩) (fun x h hr => ?_)
  show vM x 0 [some (.ref m0), some (.int p)] [] [(m0, .inr (7, [.int (nI fl), .int tr, .ref m1, .ref m2, .ref m3, .int (nI n), .ref m4, .int (nI atp), .int (nI rt), .ref m5, .int (nI hn), .ref m6, .ref m7, .ref m8, .int (nI sn), .ref m9, .ref m10, .ref m11, .ref m12, .ref m13, .ref m14, .ref m15, .ref m16])), (m1, .inl (gI g, 4, .inl msrt)), (m2, .inl (gI g, 4, .inl (fun z9 => nI (len z9)))), (m3, .inl (gI g, 160, .inl mc)), (m4, .inl (gI g, 8, .inl (fun z9 => nI (w z9)))), (m5, .inl (gI g, 8, .inl (fun z9 => nI (rwt z9)))), (m6, .inl (gI g, 6, .inl (fun z9 => nI (kd z9)))), (m7, .inl (gI g, 6, .inl (fun z9 => nI (pt z9)))), (m8, .inl (gI g, 8, .inl far)), (m9, .inl (gI g, 10, .inl (fun z9 => nI (sb z9)))), (m10, .inl (gI g, 10, .inl (fun z9 => nI (sf z9)))), (m11, .inl (gI g, 10, .inl (fun z9 => nI (ss z9)))), (m12, .inl (gI g, 10, .inl (fun z9 => nI (sw z9)))), (m13, .inl (gI g, 256, .inl (fun z9 => nI (ways z9)))), (m14, .inl (gI g, 8, .inl (fun z9 => nI (chain z9)))), (m15, .inl (gI g, 5, .inl (fun z9 => nI (row z9)))), (m16, .inl (gI g, 5, .inl (fun z9 => nI (best z9))))]
  refine v_iload_n1 h dX8_isThing_0 ?_
  refine v_if_lt h dX8_isThing_1 (tgt := 16) (by decide) (fun c1 => ?_) (fun c1 => ?_)
  · refine v_iconst h (v := nI 0) dX8_isThing_16 (by decide) ?_
    exact v_zret (v := false) h hr dX8_isThing_17 (by first | exact (inR_f0 c1).symm | exact (inR_f1 c9).symm | exact (inR_t c1 c9).symm) rfl
  · refine v_iload_n1 h dX8_isThing_4 ?_
    refine v_aload_n0 h dX8_isThing_5 ?_
    refine v_get h mw_X8 0 rfl rfl 5 (by decide) mf_X8_68 rfl dX8_isThing_6 ?_
    refine v_icmp_ge h dX8_isThing_9 (tgt := 16) (by decide) (fun c9 => ?_) (fun c9 => ?_)
    · refine v_iconst h (v := nI 0) dX8_isThing_16 (by decide) ?_
      exact v_zret (v := false) h hr dX8_isThing_17 (by first | exact (inR_f0 c1).symm | exact (inR_f1 c9).symm | exact (inR_t c1 c9).symm) rfl
    · refine v_iconst h (v := nI 1) dX8_isThing_12 (by decide) ?_
      refine v_goto h dX8_isThing_13 (tgt := 17) (by decide) ?_
      exact v_zret (v := true) h hr dX8_isThing_17 (by first | exact (inR_f0 c1).symm | exact (inR_f1 c9).symm | exact (inR_t c1 c9).symm) rfl
set_option maxRecDepth 20000 in
set_option maxHeartbeats 2000000 in
theorem c_X8_isHand {g : vG} {m0 m1 m2 m3 m4 m5 m6 m7 m8 m9 m10 m11 m12 m13 m14 m15 m16 : Nat} {fl : Nat} {tr : Int32} {msrt : Nat → Int32} {len : Nat → Nat} {mc : Nat → Int32} {n : Nat} {w : Nat → Nat} {atp : Nat} {rt : Nat} {rwt : Nat → Nat} {hn : Nat} {kd : Nat → Nat} {pt : Nat → Nat} {far : Nat → Int32} {sn : Nat} {sb : Nat → Nat} {sf : Nat → Nat} {ss : Nat → Nat} {sw : Nat → Nat} {ways : Nat → Nat} {chain : Nat → Nat} {row : Nat → Nat} {best : Nat → Nat} {p : Int32} : Ct g yX8_isHand cX8_isHand 2 (some .boolean) (rmOf 0 0) [(m0, .inr (7, [.int (nI fl), .int tr, .ref m1, .ref m2, .ref m3, .int (nI n), .ref m4, .int (nI atp), .int (nI rt), .ref m5, .int (nI hn), .ref m6, .ref m7, .ref m8, .int (nI sn), .ref m9, .ref m10, .ref m11, .ref m12, .ref m13, .ref m14, .ref m15, .ref m16])), (m1, .inl (gI g, 4, .inl msrt)), (m2, .inl (gI g, 4, .inl (fun z9 => nI (len z9)))), (m3, .inl (gI g, 160, .inl mc)), (m4, .inl (gI g, 8, .inl (fun z9 => nI (w z9)))), (m5, .inl (gI g, 8, .inl (fun z9 => nI (rwt z9)))), (m6, .inl (gI g, 6, .inl (fun z9 => nI (kd z9)))), (m7, .inl (gI g, 6, .inl (fun z9 => nI (pt z9)))), (m8, .inl (gI g, 8, .inl far)), (m9, .inl (gI g, 10, .inl (fun z9 => nI (sb z9)))), (m10, .inl (gI g, 10, .inl (fun z9 => nI (sf z9)))), (m11, .inl (gI g, 10, .inl (fun z9 => nI (ss z9)))), (m12, .inl (gI g, 10, .inl (fun z9 => nI (sw z9)))), (m13, .inl (gI g, 256, .inl (fun z9 => nI (ways z9)))), (m14, .inl (gI g, 8, .inl (fun z9 => nI (chain z9)))), (m15, .inl (gI g, 5, .inl (fun z9 => nI (row z9)))), (m16, .inl (gI g, 5, .inl (fun z9 => nI (best z9))))] [.ref m0, .int p] (some (.int (nI (bN (inR p hn))))) [(m0, .inr (7, [.int (nI fl), .int tr, .ref m1, .ref m2, .ref m3, .int (nI n), .ref m4, .int (nI atp), .int (nI rt), .ref m5, .int (nI hn), .ref m6, .ref m7, .ref m8, .int (nI sn), .ref m9, .ref m10, .ref m11, .ref m12, .ref m13, .ref m14, .ref m15, .ref m16])), (m1, .inl (gI g, 4, .inl msrt)), (m2, .inl (gI g, 4, .inl (fun z9 => nI (len z9)))), (m3, .inl (gI g, 160, .inl mc)), (m4, .inl (gI g, 8, .inl (fun z9 => nI (w z9)))), (m5, .inl (gI g, 8, .inl (fun z9 => nI (rwt z9)))), (m6, .inl (gI g, 6, .inl (fun z9 => nI (kd z9)))), (m7, .inl (gI g, 6, .inl (fun z9 => nI (pt z9)))), (m8, .inl (gI g, 8, .inl far)), (m9, .inl (gI g, 10, .inl (fun z9 => nI (sb z9)))), (m10, .inl (gI g, 10, .inl (fun z9 => nI (sf z9)))), (m11, .inl (gI g, 10, .inl (fun z9 => nI (ss z9)))), (m12, .inl (gI g, 10, .inl (fun z9 => nI (sw z9)))), (m13, .inl (gI g, 256, .inl (fun z9 => nI (ways z9)))), (m14, .inl (gI g, 8, .inl (fun z9 => nI (chain z9)))), (m15, .inl (gI g, 5, .inl (fun z9 => nI (row z9)))), (m16, .inl (gI g, 5, .inl (fun z9 => nI (best z9))))] := by
  refine Ct.ofV RX8 rfl (by decide +kernel) rfl rfl rfl (Nat.le_of_ble_eq_true rfl) (List.forall_mem_cons.mpr ⟨rfl, (List.forall_mem_cons.mpr ⟨rfl, (fun _ h9 => absurd h9 List.not_mem_nil)⟩)⟩) (fun x h hr => ?_)
  show vM x 0 [some (.ref m0), some (.int p)] [] [(m0, .inr (7, [.int (nI fl), .int tr, .ref m1, .ref m2, .ref m3, .int (nI n), .ref m4, .int (nI atp), .int (nI rt), .ref m5, .int (nI hn), .ref m6, .ref m7, .ref m8, .int (nI sn), .ref m9, .ref m10, .ref m11, .ref m12, .ref m13, .ref m14, .ref m15, .ref m16])), (m1, .inl (gI g, 4, .inl msrt)), (m2, .inl (gI g, 4, .inl (fun z9 => nI (len z9)))), (m3, .inl (gI g, 160, .inl mc)), (m4, .inl (gI g, 8, .inl (fun z9 => nI (w z9)))), (m5, .inl (gI g, 8, .inl (fun z9 => nI (rwt z9)))), (m6, .inl (gI g, 6, .inl (fun z9 => nI (kd z9)))), (m7, .inl (gI g, 6, .inl (fun z9 => nI (pt z9)))), (m8, .inl (gI g, 8, .inl far)), (m9, .inl (gI g, 10, .inl (fun z9 => nI (sb z9)))), (m10, .inl (gI g, 10, .inl (fun z9 => nI (sf z9)))), (m11, .inl (gI g, 10, .inl (fun z9 => nI (ss z9)))), (m12, .inl (gI g, 10, .inl (fun z9 => nI (sw z9)))), (m13, .inl (gI g, 256, .inl (fun z9 => nI (ways z9)))), (m14, .inl (gI g, 8, .inl (fun z9 => nI (chain z9)))), (m15, .inl (gI g, 5, .inl (fun z9 => nI (row z9)))), (m16, .inl (gI g, 5, .inl (fun z9 => nI (best z9))))]
  refine v_iload_n1 h dX8_isHand_0 ?_
  refine v_if_lt h dX8_isHand_1 (tgt := 16) (by decide) (fun c1 => ?_) (fun c1 => ?_)
  · refine v_iconst h (v := nI 0) dX8_isHand_16 (by decide) ?_
    exact v_zret (v := false) h hr dX8_isHand_17 (by first | exact (inR_f0 c1).symm | exact (inR_f1 c9).symm | exact (inR_t c1 c9).symm) rfl
  · refine v_iload_n1 h dX8_isHand_4 ?_
    refine v_aload_n0 h dX8_isHand_5 ?_
    refine v_get h mw_X8 0 rfl rfl 10 (by decide) mf_X8_95 rfl dX8_isHand_6 ?_
    refine v_icmp_ge h dX8_isHand_9 (tgt := 16) (by decide) (fun c9 => ?_) (fun c9 => ?_)
    · refine v_iconst h (v := nI 0) dX8_isHand_16 (by decide) ?_
      exact v_zret (v := false) h hr dX8_isHand_17 (by first | exact (inR_f0 c1).symm | exact (inR_f1 c9).symm | exact (inR_t c1 c9).symm) rfl
    · refine v_iconst h (v := nI 1) dX8_isHand_12 (by decide) ?_
      refine v_goto h dX8_isHand_13 (tgt := 17) (by decide) ?_
      exact v_zret (v := true) h hr dX8_isHand_17 (by first | exact (inR_f0 c1).symm | exact (inR_f1 c9).symm | exact (inR_t c1 c9).symm) rfl
def P_X8_weight (g : vG) (m0 m1 m2 m3 m4 m5 m6 m7 m8 m9 m10 m11 m12 m13 m14 m15 m16 : Nat) (fl : Nat) (tr : Int32) (msrt : Nat → Int32) (len : Nat → Nat) (mc : Nat → Int32) (n : Nat) (w : Nat → Nat) (atp : Nat) (rt : Nat) (rwt : Nat → Nat) (hn : Nat) (kd : Nat → Nat) (pt : Nat → Nat) (far : Nat → Int32) (sn : Nat) (sb : Nat → Nat) (sf : Nat → Nat) (ss : Nat → Nat) (sw : Nat → Nat) (ways : Nat → Nat) (chain : Nat → Nat) (row : Nat → Nat) (best : Nat → Nat) (p0 : Int32) : Option Value → va_W → Prop := fun r wo => r = some (.int (s_weight n w p0)) ∧ wo = [(m0, .inr (7, [.int (nI fl), .int tr, .ref m1, .ref m2, .ref m3, .int (nI n), .ref m4, .int (nI atp), .int (nI rt), .ref m5, .int (nI hn), .ref m6, .ref m7, .ref m8, .int (nI sn), .ref m9, .ref m10, .ref m11, .ref m12, .ref m13, .ref m14, .ref m15, .ref m16])), (m1, .inl (gI g, 4, .inl msrt)), (m2, .inl (gI g, 4, .inl (fun z9 => nI (len z9)))), (m3, .inl (gI g, 160, .inl mc)), (m4, .inl (gI g, 8, .inl (fun z9 => nI (w z9)))), (m5, .inl (gI g, 8, .inl (fun z9 => nI (rwt z9)))), (m6, .inl (gI g, 6, .inl (fun z9 => nI (kd z9)))), (m7, .inl (gI g, 6, .inl (fun z9 => nI (pt z9)))), (m8, .inl (gI g, 8, .inl far)), (m9, .inl (gI g, 10, .inl (fun z9 => nI (sb z9)))), (m10, .inl (gI g, 10, .inl (fun z9 => nI (sf z9)))), (m11, .inl (gI g, 10, .inl (fun z9 => nI (ss z9)))), (m12, .inl (gI g, 10, .inl (fun z9 => nI (sw z9)))), (m13, .inl (gI g, 256, .inl (fun z9 => nI (ways z9)))), (m14, .inl (gI g, 8, .inl (fun z9 => nI (chain z9)))), (m15, .inl (gI g, 5, .inl (fun z9 => nI (row z9)))), (m16, .inl (gI g, 5, .inl (fun z9 => nI (best z9))))]
theorem P_X8_weight_mk {g : vG} {m0 m1 m2 m3 m4 m5 m6 m7 m8 m9 m10 m11 m12 m13 m14 m15 m16 : Nat} {fl : Nat} {tr : Int32} {msrt : Nat → Int32} {len : Nat → Nat} {mc : Nat → Int32} {n : Nat} {w : Nat → Nat} {atp : Nat} {rt : Nat} {rwt : Nat → Nat} {hn : Nat} {kd : Nat → Nat} {pt : Nat → Nat} {far : Nat → Int32} {sn : Nat} {sb : Nat → Nat} {sf : Nat → Nat} {ss : Nat → Nat} {sw : Nat → Nat} {ways : Nat → Nat} {chain : Nat → Nat} {row : Nat → Nat} {best : Nat → Nat} {p0 : Int32}  {q : Int32} (hs : s_weight n w p0 = q)  : P_X8_weight g m0 m1 m2 m3 m4 m5 m6 m7 m8 m9 m10 m11 m12 m13 m14 m15 m16 fl tr msrt len mc n w atp rt rwt hn kd pt far sn sb sf ss sw ways chain row best p0 (some (.int q)) [(m0, .inr (7, [.int (nI fl), .int tr, .ref m1, .ref m2, .ref m3, .int (nI n), .ref m4, .int (nI atp), .int (nI rt), .ref m5, .int (nI hn), .ref m6, .ref m7, .ref m8, .int (nI sn), .ref m9, .ref m10, .ref m11, .ref m12, .ref m13, .ref m14, .ref m15, .ref m16])), (m1, .inl (gI g, 4, .inl msrt)), (m2, .inl (gI g, 4, .inl (fun z9 => nI (len z9)))), (m3, .inl (gI g, 160, .inl mc)), (m4, .inl (gI g, 8, .inl (fun z9 => nI (w z9)))), (m5, .inl (gI g, 8, .inl (fun z9 => nI (rwt z9)))), (m6, .inl (gI g, 6, .inl (fun z9 => nI (kd z9)))), (m7, .inl (gI g, 6, .inl (fun z9 => nI (pt z9)))), (m8, .inl (gI g, 8, .inl far)), (m9, .inl (gI g, 10, .inl (fun z9 => nI (sb z9)))), (m10, .inl (gI g, 10, .inl (fun z9 => nI (sf z9)))), (m11, .inl (gI g, 10, .inl (fun z9 => nI (ss z9)))), (m12, .inl (gI g, 10, .inl (fun z9 => nI (sw z9)))), (m13, .inl (gI g, 256, .inl (fun z9 => nI (ways z9)))), (m14, .inl (gI g, 8, .inl (fun z9 => nI (chain z9)))), (m15, .inl (gI g, 5, .inl (fun z9 => nI (row z9)))), (m16, .inl (gI g, 5, .inl (fun z9 => nI (best z9))))] := by subst hs; exact ⟨rfl, rfl⟩
set_option maxRecDepth 20000 in
set_option maxHeartbeats 4000000 in
theorem c_X8_weight {g : vG} {m0 m1 m2 m3 m4 m5 m6 m7 m8 m9 m10 m11 m12 m13 m14 m15 m16 : Nat} {fl : Nat} {tr : Int32} {msrt : Nat → Int32} {len : Nat → Nat} {mc : Nat → Int32} {n : Nat} {w : Nat → Nat} {atp : Nat} {rt : Nat} {rwt : Nat → Nat} {hn : Nat} {kd : Nat → Nat} {pt : Nat → Nat} {far : Nat → Int32} {sn : Nat} {sb : Nat → Nat} {sf : Nat → Nat} {ss : Nat → Nat} {sw : Nat → Nat} {ways : Nat → Nat} {chain : Nat → Nat} {row : Nat → Nat} {best : Nat → Nat} {p0 : Int32} (hT : wfT n w) : CtP g yX8_weight cX8_weight 2 (some .int) (rmOf 1 21) [(m0, .inr (7, [.int (nI fl), .int tr, .ref m1, .ref m2, .ref m3, .int (nI n), .ref m4, .int (nI atp), .int (nI rt), .ref m5, .int (nI hn), .ref m6, .ref m7, .ref m8, .int (nI sn), .ref m9, .ref m10, .ref m11, .ref m12, .ref m13, .ref m14, .ref m15, .ref m16])), (m1, .inl (gI g, 4, .inl msrt)), (m2, .inl (gI g, 4, .inl (fun z9 => nI (len z9)))), (m3, .inl (gI g, 160, .inl mc)), (m4, .inl (gI g, 8, .inl (fun z9 => nI (w z9)))), (m5, .inl (gI g, 8, .inl (fun z9 => nI (rwt z9)))), (m6, .inl (gI g, 6, .inl (fun z9 => nI (kd z9)))), (m7, .inl (gI g, 6, .inl (fun z9 => nI (pt z9)))), (m8, .inl (gI g, 8, .inl far)), (m9, .inl (gI g, 10, .inl (fun z9 => nI (sb z9)))), (m10, .inl (gI g, 10, .inl (fun z9 => nI (sf z9)))), (m11, .inl (gI g, 10, .inl (fun z9 => nI (ss z9)))), (m12, .inl (gI g, 10, .inl (fun z9 => nI (sw z9)))), (m13, .inl (gI g, 256, .inl (fun z9 => nI (ways z9)))), (m14, .inl (gI g, 8, .inl (fun z9 => nI (chain z9)))), (m15, .inl (gI g, 5, .inl (fun z9 => nI (row z9)))), (m16, .inl (gI g, 5, .inl (fun z9 => nI (best z9))))] [.ref m0, .int p0] (P_X8_weight g m0 m1 m2 m3 m4 m5 m6 m7 m8 m9 m10 m11 m12 m13 m14 m15 m16 fl tr msrt len mc n w atp rt rwt hn kd pt far sn sb sf ss sw ways chain row best p0) := by
  refine CtP.ofV RX8 rfl (by decide +kernel) rfl rfl (Nat.le_of_ble_eq_true rfl) (List.forall_mem_cons.mpr ⟨rfl, (List.forall_mem_cons.mpr ⟨rfl, (fun _ h9 => absurd h9 List.not_mem_nil)⟩)⟩) (fun x h hr => ?_)
  show vM x 0 [some (.ref m0), some (.int p0)] [] [(m0, .inr (7, [.int (nI fl), .int tr, .ref m1, .ref m2, .ref m3, .int (nI n), .ref m4, .int (nI atp), .int (nI rt), .ref m5, .int (nI hn), .ref m6, .ref m7, .ref m8, .int (nI sn), .ref m9, .ref m10, .ref m11, .ref m12, .ref m13, .ref m14, .ref m15, .ref m16])), (m1, .inl (gI g, 4, .inl msrt)), (m2, .inl (gI g, 4, .inl (fun z9 => nI (len z9)))), (m3, .inl (gI g, 160, .inl mc)), (m4, .inl (gI g, 8, .inl (fun z9 => nI (w z9)))), (m5, .inl (gI g, 8, .inl (fun z9 => nI (rwt z9)))), (m6, .inl (gI g, 6, .inl (fun z9 => nI (kd z9)))), (m7, .inl (gI g, 6, .inl (fun z9 => nI (pt z9)))), (m8, .inl (gI g, 8, .inl far)), (m9, .inl (gI g, 10, .inl (fun z9 => nI (sb z9)))), (m10, .inl (gI g, 10, .inl (fun z9 => nI (sf z9)))), (m11, .inl (gI g, 10, .inl (fun z9 => nI (ss z9)))), (m12, .inl (gI g, 10, .inl (fun z9 => nI (sw z9)))), (m13, .inl (gI g, 256, .inl (fun z9 => nI (ways z9)))), (m14, .inl (gI g, 8, .inl (fun z9 => nI (chain z9)))), (m15, .inl (gI g, 5, .inl (fun z9 => nI (row z9)))), (m16, .inl (gI g, 5, .inl (fun z9 => nI (best z9))))]
  have ht1 := hT.1; have ht2 := hT.2.1; have ht3 := hT.2.2
  refine v_aload_n0 h dX8_weight_0 ?_
  refine v_iload_n1 h dX8_weight_1 ?_
  refine cw_V_0_1_2_3_4_5_6_7_8_9_10_11_12_13_14_15_16_1_i (ci := 7) h (c_X8_isThing (g := g)) lk_X8_101 ⟨rfl, rfl, (Nat.le_of_ble_eq_true rfl), (Nat.le_of_ble_eq_true rfl)⟩ rfl rfl rfl (Nat.le_of_ble_eq_true rfl) dX8_weight_2 ?_
  refine v_if_eqB h dX8_weight_5 (tgt := 17) (by decide) (fun c5 => ?_) (fun c5 => ?_)
  · have e5 := rN_f c5
    refine v_iconst h (v := -1) dX8_weight_17 (by decide) ?_
    exact v_iretP h hr dX8_weight_18 (P_X8_weight_mk (q := _) (by simp only [s_weight, e5]) ) rfl
  · obtain ⟨j0, hj0, rfl⟩ := inR_of c5 (by omega)
    have e5 := rN_N hj0 (by omega)
    refine v_aload_n0 h dX8_weight_8 ?_
    refine v_get h mw_X8 0 rfl rfl 6 (by decide) mf_X8_19 rfl dX8_weight_9 ?_
    refine v_iload_n1 h dX8_weight_12 ?_
    refine v_ialdN h 4 rfl (by omega) (Nat.le_of_ble_eq_true rfl) dX8_weight_13 ?_
    refine v_goto h dX8_weight_14 (tgt := 18) (by decide) ?_
    exact v_iretP h hr dX8_weight_18 (P_X8_weight_mk (q := _) (by simp only [s_weight, e5]) ) rfl
def P_X8_weigh (g : vG) (m0 m1 m2 m3 m4 m5 m6 m7 m8 m9 m10 m11 m12 m13 m14 m15 m16 : Nat) (fl : Nat) (tr : Int32) (msrt : Nat → Int32) (len : Nat → Nat) (mc : Nat → Int32) (n : Nat) (w : Nat → Nat) (atp : Nat) (rt : Nat) (rwt : Nat → Nat) (hn : Nat) (kd : Nat → Nat) (pt : Nat → Nat) (far : Nat → Int32) (sn : Nat) (sb : Nat → Nat) (sf : Nat → Nat) (ss : Nat → Nat) (sw : Nat → Nat) (ways : Nat → Nat) (chain : Nat → Nat) (row : Nat → Nat) (best : Nat → Nat) (p0 : Int32) (p1 : Int32) : Option Value → va_W → Prop := fun r wo => r = some (.int (s_weigh n w p0 p1).1) ∧ wo = [(m0, .inr (7, [.int (nI fl), .int tr, .ref m1, .ref m2, .ref m3, .int (nI n), .ref m4, .int (nI atp), .int (nI rt), .ref m5, .int (nI hn), .ref m6, .ref m7, .ref m8, .int (nI sn), .ref m9, .ref m10, .ref m11, .ref m12, .ref m13, .ref m14, .ref m15, .ref m16])), (m1, .inl (gI g, 4, .inl msrt)), (m2, .inl (gI g, 4, .inl (fun z9 => nI (len z9)))), (m3, .inl (gI g, 160, .inl mc)), (m4, .inl (gI g, 8, .inl (fun z9 => nI (((s_weigh n w p0 p1).2) z9)))), (m5, .inl (gI g, 8, .inl (fun z9 => nI (rwt z9)))), (m6, .inl (gI g, 6, .inl (fun z9 => nI (kd z9)))), (m7, .inl (gI g, 6, .inl (fun z9 => nI (pt z9)))), (m8, .inl (gI g, 8, .inl far)), (m9, .inl (gI g, 10, .inl (fun z9 => nI (sb z9)))), (m10, .inl (gI g, 10, .inl (fun z9 => nI (sf z9)))), (m11, .inl (gI g, 10, .inl (fun z9 => nI (ss z9)))), (m12, .inl (gI g, 10, .inl (fun z9 => nI (sw z9)))), (m13, .inl (gI g, 256, .inl (fun z9 => nI (ways z9)))), (m14, .inl (gI g, 8, .inl (fun z9 => nI (chain z9)))), (m15, .inl (gI g, 5, .inl (fun z9 => nI (row z9)))), (m16, .inl (gI g, 5, .inl (fun z9 => nI (best z9))))]
theorem P_X8_weigh_mk {g : vG} {m0 m1 m2 m3 m4 m5 m6 m7 m8 m9 m10 m11 m12 m13 m14 m15 m16 : Nat} {fl : Nat} {tr : Int32} {msrt : Nat → Int32} {len : Nat → Nat} {mc : Nat → Int32} {n : Nat} {w : Nat → Nat} {atp : Nat} {rt : Nat} {rwt : Nat → Nat} {hn : Nat} {kd : Nat → Nat} {pt : Nat → Nat} {far : Nat → Int32} {sn : Nat} {sb : Nat → Nat} {sf : Nat → Nat} {ss : Nat → Nat} {sw : Nat → Nat} {ways : Nat → Nat} {chain : Nat → Nat} {row : Nat → Nat} {best : Nat → Nat} {p0 : Int32} {p1 : Int32}  {q : Int32 × (Nat → Nat)} (hs : s_weigh n w p0 p1 = q)  : P_X8_weigh g m0 m1 m2 m3 m4 m5 m6 m7 m8 m9 m10 m11 m12 m13 m14 m15 m16 fl tr msrt len mc n w atp rt rwt hn kd pt far sn sb sf ss sw ways chain row best p0 p1 (some (.int q.1)) [(m0, .inr (7, [.int (nI fl), .int tr, .ref m1, .ref m2, .ref m3, .int (nI n), .ref m4, .int (nI atp), .int (nI rt), .ref m5, .int (nI hn), .ref m6, .ref m7, .ref m8, .int (nI sn), .ref m9, .ref m10, .ref m11, .ref m12, .ref m13, .ref m14, .ref m15, .ref m16])), (m1, .inl (gI g, 4, .inl msrt)), (m2, .inl (gI g, 4, .inl (fun z9 => nI (len z9)))), (m3, .inl (gI g, 160, .inl mc)), (m4, .inl (gI g, 8, .inl (fun z9 => nI (q.2 z9)))), (m5, .inl (gI g, 8, .inl (fun z9 => nI (rwt z9)))), (m6, .inl (gI g, 6, .inl (fun z9 => nI (kd z9)))), (m7, .inl (gI g, 6, .inl (fun z9 => nI (pt z9)))), (m8, .inl (gI g, 8, .inl far)), (m9, .inl (gI g, 10, .inl (fun z9 => nI (sb z9)))), (m10, .inl (gI g, 10, .inl (fun z9 => nI (sf z9)))), (m11, .inl (gI g, 10, .inl (fun z9 => nI (ss z9)))), (m12, .inl (gI g, 10, .inl (fun z9 => nI (sw z9)))), (m13, .inl (gI g, 256, .inl (fun z9 => nI (ways z9)))), (m14, .inl (gI g, 8, .inl (fun z9 => nI (chain z9)))), (m15, .inl (gI g, 5, .inl (fun z9 => nI (row z9)))), (m16, .inl (gI g, 5, .inl (fun z9 => nI (best z9))))] := by subst hs; exact ⟨rfl, rfl⟩
set_option maxRecDepth 20000 in
set_option maxHeartbeats 4000000 in
theorem c_X8_weigh {g : vG} {m0 m1 m2 m3 m4 m5 m6 m7 m8 m9 m10 m11 m12 m13 m14 m15 m16 : Nat} {fl : Nat} {tr : Int32} {msrt : Nat → Int32} {len : Nat → Nat} {mc : Nat → Int32} {n : Nat} {w : Nat → Nat} {atp : Nat} {rt : Nat} {rwt : Nat → Nat} {hn : Nat} {kd : Nat → Nat} {pt : Nat → Nat} {far : Nat → Int32} {sn : Nat} {sb : Nat → Nat} {sf : Nat → Nat} {ss : Nat → Nat} {sw : Nat → Nat} {ways : Nat → Nat} {chain : Nat → Nat} {row : Nat → Nat} {best : Nat → Nat} {p0 : Int32} {p1 : Int32} (hT : wfT n w) : CtP g yX8_weigh cX8_weigh 4 (some .int) (rmOf 2 42) [(m0, .inr (7, [.int (nI fl), .int tr, .ref m1, .ref m2, .ref m3, .int (nI n), .ref m4, .int (nI atp), .int (nI rt), .ref m5, .int (nI hn), .ref m6, .ref m7, .ref m8, .int (nI sn), .ref m9, .ref m10, .ref m11, .ref m12, .ref m13, .ref m14, .ref m15, .ref m16])), (m1, .inl (gI g, 4, .inl msrt)), (m2, .inl (gI g, 4, .inl (fun z9 => nI (len z9)))), (m3, .inl (gI g, 160, .inl mc)), (m4, .inl (gI g, 8, .inl (fun z9 => nI (w z9)))), (m5, .inl (gI g, 8, .inl (fun z9 => nI (rwt z9)))), (m6, .inl (gI g, 6, .inl (fun z9 => nI (kd z9)))), (m7, .inl (gI g, 6, .inl (fun z9 => nI (pt z9)))), (m8, .inl (gI g, 8, .inl far)), (m9, .inl (gI g, 10, .inl (fun z9 => nI (sb z9)))), (m10, .inl (gI g, 10, .inl (fun z9 => nI (sf z9)))), (m11, .inl (gI g, 10, .inl (fun z9 => nI (ss z9)))), (m12, .inl (gI g, 10, .inl (fun z9 => nI (sw z9)))), (m13, .inl (gI g, 256, .inl (fun z9 => nI (ways z9)))), (m14, .inl (gI g, 8, .inl (fun z9 => nI (chain z9)))), (m15, .inl (gI g, 5, .inl (fun z9 => nI (row z9)))), (m16, .inl (gI g, 5, .inl (fun z9 => nI (best z9))))] [.ref m0, .int p0, .int p1] (P_X8_weigh g m0 m1 m2 m3 m4 m5 m6 m7 m8 m9 m10 m11 m12 m13 m14 m15 m16 fl tr msrt len mc n w atp rt rwt hn kd pt far sn sb sf ss sw ways chain row best p0 p1) := by
  refine CtP.ofV RX8 rfl (by decide +kernel) rfl rfl (Nat.le_of_ble_eq_true rfl) (List.forall_mem_cons.mpr ⟨rfl, (List.forall_mem_cons.mpr ⟨rfl, (List.forall_mem_cons.mpr ⟨rfl, (fun _ h9 => absurd h9 List.not_mem_nil)⟩)⟩)⟩) (fun x h hr => ?_)
  show vM x 0 [some (.ref m0), some (.int p0), some (.int p1), none] [] [(m0, .inr (7, [.int (nI fl), .int tr, .ref m1, .ref m2, .ref m3, .int (nI n), .ref m4, .int (nI atp), .int (nI rt), .ref m5, .int (nI hn), .ref m6, .ref m7, .ref m8, .int (nI sn), .ref m9, .ref m10, .ref m11, .ref m12, .ref m13, .ref m14, .ref m15, .ref m16])), (m1, .inl (gI g, 4, .inl msrt)), (m2, .inl (gI g, 4, .inl (fun z9 => nI (len z9)))), (m3, .inl (gI g, 160, .inl mc)), (m4, .inl (gI g, 8, .inl (fun z9 => nI (w z9)))), (m5, .inl (gI g, 8, .inl (fun z9 => nI (rwt z9)))), (m6, .inl (gI g, 6, .inl (fun z9 => nI (kd z9)))), (m7, .inl (gI g, 6, .inl (fun z9 => nI (pt z9)))), (m8, .inl (gI g, 8, .inl far)), (m9, .inl (gI g, 10, .inl (fun z9 => nI (sb z9)))), (m10, .inl (gI g, 10, .inl (fun z9 => nI (sf z9)))), (m11, .inl (gI g, 10, .inl (fun z9 => nI (ss z9)))), (m12, .inl (gI g, 10, .inl (fun z9 => nI (sw z9)))), (m13, .inl (gI g, 256, .inl (fun z9 => nI (ways z9)))), (m14, .inl (gI g, 8, .inl (fun z9 => nI (chain z9)))), (m15, .inl (gI g, 5, .inl (fun z9 => nI (row z9)))), (m16, .inl (gI g, 5, .inl (fun z9 => nI (best z9))))]
  have ht1 := hT.1; have ht2 := hT.2.1; have ht3 := hT.2.2
  refine v_aload_n0 h dX8_weigh_0 ?_
  refine v_iload_n1 h dX8_weigh_1 ?_
  refine cw_V_0_1_2_3_4_5_6_7_8_9_10_11_12_13_14_15_16_1_i (ci := 7) h (c_X8_isThing (g := g)) lk_X8_101 ⟨rfl, rfl, (Nat.le_of_ble_eq_true rfl), (Nat.le_of_ble_eq_true rfl)⟩ rfl rfl rfl (Nat.le_of_ble_eq_true rfl) dX8_weigh_2 ?_
  refine v_if_neB h dX8_weigh_5 (tgt := 10) (by decide) (fun c5 => ?_) (fun c5 => ?_)
  · obtain ⟨j0, hj0, rfl⟩ := inR_of c5 (by omega)
    have e5 := rN_N hj0 (by omega)
    refine v_iload_n2 h dX8_weigh_10 ?_
    refine cw_S_e_1_i h (c_X8_isWeight (g := g)) lk_X8_104 ⟨rfl, rfl, (Nat.le_of_ble_eq_true rfl), (Nat.le_of_ble_eq_true rfl)⟩ (Nat.le_of_ble_eq_true rfl) dX8_weigh_11 ?_
    refine v_if_neB h dX8_weigh_14 (tgt := 20) (by decide) (fun c14 => ?_) (fun c14 => ?_)
    · obtain ⟨j1, hj1a, hj1, rfl⟩ := wi_of c14 (by decide) (by decide)
      have e14 := rW_N hj1a hj1 (by decide)
      refine v_aload_n0 h dX8_weigh_20 ?_
      refine v_get h mw_X8 0 rfl rfl 6 (by decide) mf_X8_19 rfl dX8_weigh_21 ?_
      refine v_iload_n1 h dX8_weigh_24 ?_
      refine v_ialdN h 4 rfl (by omega) (Nat.le_of_ble_eq_true rfl) dX8_weigh_25 ?_
      refine v_istore_n3 h (Nat.le_of_ble_eq_true rfl) dX8_weigh_26 ?_
      refine v_aload_n0 h dX8_weigh_27 ?_
      refine v_get h mw_X8 0 rfl rfl 6 (by decide) mf_X8_19 rfl dX8_weigh_28 ?_
      refine v_iload_n1 h dX8_weigh_31 ?_
      refine v_iload_n2 h dX8_weigh_32 ?_
      refine v_iastN_at4 h (by omega) (Nat.le_of_ble_eq_true rfl) dX8_weigh_33 ?_
      refine v_iload_n3 h dX8_weigh_34 ?_
      exact v_iretP h hr dX8_weigh_35 (P_X8_weigh_mk (q := (nI (w j0), up w j0 j1)) (by simp only [s_weigh, e5, e14]) ) rfl
    · have e14 := wi_no c14
      refine v_bipush h (v := -2) dX8_weigh_17 (by decide) ?_
      exact v_iretP h hr dX8_weigh_19 (P_X8_weigh_mk (q := (_, w)) (by simp only [s_weigh, e5, e14]) ) rfl
  · have e5 := rN_f c5
    refine v_iconst h (v := -1) dX8_weigh_8 (by decide) ?_
    exact v_iretP h hr dX8_weigh_9 (P_X8_weigh_mk (q := (_, w)) (by simp only [s_weigh, e5]) ) rfl
def P_X8_hand (g : vG) (m0 m1 m2 m3 m4 m5 m6 m7 m8 m9 m10 m11 m12 m13 m14 m15 m16 : Nat) (fl : Nat) (tr : Int32) (msrt : Nat → Int32) (len : Nat → Nat) (mc : Nat → Int32) (n : Nat) (w : Nat → Nat) (atp : Nat) (rt : Nat) (rwt : Nat → Nat) (hn : Nat) (kd : Nat → Nat) (pt : Nat → Nat) (far : Nat → Int32) (sn : Nat) (sb : Nat → Nat) (sf : Nat → Nat) (ss : Nat → Nat) (sw : Nat → Nat) (ways : Nat → Nat) (chain : Nat → Nat) (row : Nat → Nat) (best : Nat → Nat) (p0 : Int32) (p1 : Int32) : Option Value → va_W → Prop := fun r wo => r = some (.int (s_hand n hn kd pt p0 p1).1) ∧ wo = [(m0, .inr (7, [.int (nI fl), .int tr, .ref m1, .ref m2, .ref m3, .int (nI n), .ref m4, .int (nI atp), .int (nI rt), .ref m5, .int (nI ((s_hand n hn kd pt p0 p1).2.1)), .ref m6, .ref m7, .ref m8, .int (nI sn), .ref m9, .ref m10, .ref m11, .ref m12, .ref m13, .ref m14, .ref m15, .ref m16])), (m1, .inl (gI g, 4, .inl msrt)), (m2, .inl (gI g, 4, .inl (fun z9 => nI (len z9)))), (m3, .inl (gI g, 160, .inl mc)), (m4, .inl (gI g, 8, .inl (fun z9 => nI (w z9)))), (m5, .inl (gI g, 8, .inl (fun z9 => nI (rwt z9)))), (m6, .inl (gI g, 6, .inl (fun z9 => nI (((s_hand n hn kd pt p0 p1).2.2.1) z9)))), (m7, .inl (gI g, 6, .inl (fun z9 => nI (((s_hand n hn kd pt p0 p1).2.2.2) z9)))), (m8, .inl (gI g, 8, .inl far)), (m9, .inl (gI g, 10, .inl (fun z9 => nI (sb z9)))), (m10, .inl (gI g, 10, .inl (fun z9 => nI (sf z9)))), (m11, .inl (gI g, 10, .inl (fun z9 => nI (ss z9)))), (m12, .inl (gI g, 10, .inl (fun z9 => nI (sw z9)))), (m13, .inl (gI g, 256, .inl (fun z9 => nI (ways z9)))), (m14, .inl (gI g, 8, .inl (fun z9 => nI (chain z9)))), (m15, .inl (gI g, 5, .inl (fun z9 => nI (row z9)))), (m16, .inl (gI g, 5, .inl (fun z9 => nI (best z9))))]
theorem P_X8_hand_mk {g : vG} {m0 m1 m2 m3 m4 m5 m6 m7 m8 m9 m10 m11 m12 m13 m14 m15 m16 : Nat} {fl : Nat} {tr : Int32} {msrt : Nat → Int32} {len : Nat → Nat} {mc : Nat → Int32} {n : Nat} {w : Nat → Nat} {atp : Nat} {rt : Nat} {rwt : Nat → Nat} {hn : Nat} {kd : Nat → Nat} {pt : Nat → Nat} {far : Nat → Int32} {sn : Nat} {sb : Nat → Nat} {sf : Nat → Nat} {ss : Nat → Nat} {sw : Nat → Nat} {ways : Nat → Nat} {chain : Nat → Nat} {row : Nat → Nat} {best : Nat → Nat} {p0 : Int32} {p1 : Int32}  {q : Int32 × (Nat) × (Nat → Nat) × (Nat → Nat)} (hs : s_hand n hn kd pt p0 p1 = q)  : P_X8_hand g m0 m1 m2 m3 m4 m5 m6 m7 m8 m9 m10 m11 m12 m13 m14 m15 m16 fl tr msrt len mc n w atp rt rwt hn kd pt far sn sb sf ss sw ways chain row best p0 p1 (some (.int q.1)) [(m0, .inr (7, [.int (nI fl), .int tr, .ref m1, .ref m2, .ref m3, .int (nI n), .ref m4, .int (nI atp), .int (nI rt), .ref m5, .int (nI q.2.1), .ref m6, .ref m7, .ref m8, .int (nI sn), .ref m9, .ref m10, .ref m11, .ref m12, .ref m13, .ref m14, .ref m15, .ref m16])), (m1, .inl (gI g, 4, .inl msrt)), (m2, .inl (gI g, 4, .inl (fun z9 => nI (len z9)))), (m3, .inl (gI g, 160, .inl mc)), (m4, .inl (gI g, 8, .inl (fun z9 => nI (w z9)))), (m5, .inl (gI g, 8, .inl (fun z9 => nI (rwt z9)))), (m6, .inl (gI g, 6, .inl (fun z9 => nI (q.2.2.1 z9)))), (m7, .inl (gI g, 6, .inl (fun z9 => nI (q.2.2.2 z9)))), (m8, .inl (gI g, 8, .inl far)), (m9, .inl (gI g, 10, .inl (fun z9 => nI (sb z9)))), (m10, .inl (gI g, 10, .inl (fun z9 => nI (sf z9)))), (m11, .inl (gI g, 10, .inl (fun z9 => nI (ss z9)))), (m12, .inl (gI g, 10, .inl (fun z9 => nI (sw z9)))), (m13, .inl (gI g, 256, .inl (fun z9 => nI (ways z9)))), (m14, .inl (gI g, 8, .inl (fun z9 => nI (chain z9)))), (m15, .inl (gI g, 5, .inl (fun z9 => nI (row z9)))), (m16, .inl (gI g, 5, .inl (fun z9 => nI (best z9))))] := by subst hs; exact ⟨rfl, rfl⟩
set_option maxRecDepth 20000 in
set_option maxHeartbeats 4000000 in
theorem c_X8_hand {g : vG} {m0 m1 m2 m3 m4 m5 m6 m7 m8 m9 m10 m11 m12 m13 m14 m15 m16 : Nat} {fl : Nat} {tr : Int32} {msrt : Nat → Int32} {len : Nat → Nat} {mc : Nat → Int32} {n : Nat} {w : Nat → Nat} {atp : Nat} {rt : Nat} {rwt : Nat → Nat} {hn : Nat} {kd : Nat → Nat} {pt : Nat → Nat} {far : Nat → Int32} {sn : Nat} {sb : Nat → Nat} {sf : Nat → Nat} {ss : Nat → Nat} {sw : Nat → Nat} {ways : Nat → Nat} {chain : Nat → Nat} {row : Nat → Nat} {best : Nat → Nat} {p0 : Int32} {p1 : Int32} (hT : wfT n w) (hH : wfH hn kd pt) : CtP g yX8_hand cX8_hand 3 (some .int) (rmOf 1 22) [(m0, .inr (7, [.int (nI fl), .int tr, .ref m1, .ref m2, .ref m3, .int (nI n), .ref m4, .int (nI atp), .int (nI rt), .ref m5, .int (nI hn), .ref m6, .ref m7, .ref m8, .int (nI sn), .ref m9, .ref m10, .ref m11, .ref m12, .ref m13, .ref m14, .ref m15, .ref m16])), (m1, .inl (gI g, 4, .inl msrt)), (m2, .inl (gI g, 4, .inl (fun z9 => nI (len z9)))), (m3, .inl (gI g, 160, .inl mc)), (m4, .inl (gI g, 8, .inl (fun z9 => nI (w z9)))), (m5, .inl (gI g, 8, .inl (fun z9 => nI (rwt z9)))), (m6, .inl (gI g, 6, .inl (fun z9 => nI (kd z9)))), (m7, .inl (gI g, 6, .inl (fun z9 => nI (pt z9)))), (m8, .inl (gI g, 8, .inl far)), (m9, .inl (gI g, 10, .inl (fun z9 => nI (sb z9)))), (m10, .inl (gI g, 10, .inl (fun z9 => nI (sf z9)))), (m11, .inl (gI g, 10, .inl (fun z9 => nI (ss z9)))), (m12, .inl (gI g, 10, .inl (fun z9 => nI (sw z9)))), (m13, .inl (gI g, 256, .inl (fun z9 => nI (ways z9)))), (m14, .inl (gI g, 8, .inl (fun z9 => nI (chain z9)))), (m15, .inl (gI g, 5, .inl (fun z9 => nI (row z9)))), (m16, .inl (gI g, 5, .inl (fun z9 => nI (best z9))))] [.ref m0, .int p0, .int p1] (P_X8_hand g m0 m1 m2 m3 m4 m5 m6 m7 m8 m9 m10 m11 m12 m13 m14 m15 m16 fl tr msrt len mc n w atp rt rwt hn kd pt far sn sb sf ss sw ways chain row best p0 p1) := by
  refine CtP.ofV RX8 rfl (by decide +kernel) rfl rfl (Nat.le_of_ble_eq_true rfl) (List.forall_mem_cons.mpr ⟨rfl, (List.forall_mem_cons.mpr ⟨rfl, (List.forall_mem_cons.mpr ⟨rfl, (fun _ h9 => absurd h9 List.not_mem_nil)⟩)⟩)⟩) (fun x h hr => ?_)
  show vM x 0 [some (.ref m0), some (.int p0), some (.int p1)] [] [(m0, .inr (7, [.int (nI fl), .int tr, .ref m1, .ref m2, .ref m3, .int (nI n), .ref m4, .int (nI atp), .int (nI rt), .ref m5, .int (nI hn), .ref m6, .ref m7, .ref m8, .int (nI sn), .ref m9, .ref m10, .ref m11, .ref m12, .ref m13, .ref m14, .ref m15, .ref m16])), (m1, .inl (gI g, 4, .inl msrt)), (m2, .inl (gI g, 4, .inl (fun z9 => nI (len z9)))), (m3, .inl (gI g, 160, .inl mc)), (m4, .inl (gI g, 8, .inl (fun z9 => nI (w z9)))), (m5, .inl (gI g, 8, .inl (fun z9 => nI (rwt z9)))), (m6, .inl (gI g, 6, .inl (fun z9 => nI (kd z9)))), (m7, .inl (gI g, 6, .inl (fun z9 => nI (pt z9)))), (m8, .inl (gI g, 8, .inl far)), (m9, .inl (gI g, 10, .inl (fun z9 => nI (sb z9)))), (m10, .inl (gI g, 10, .inl (fun z9 => nI (sf z9)))), (m11, .inl (gI g, 10, .inl (fun z9 => nI (ss z9)))), (m12, .inl (gI g, 10, .inl (fun z9 => nI (sw z9)))), (m13, .inl (gI g, 256, .inl (fun z9 => nI (ways z9)))), (m14, .inl (gI g, 8, .inl (fun z9 => nI (chain z9)))), (m15, .inl (gI g, 5, .inl (fun z9 => nI (row z9)))), (m16, .inl (gI g, 5, .inl (fun z9 => nI (best z9))))]
  have ht1 := hT.1; have ht2 := hT.2.1; have ht3 := hT.2.2; have hh1 := hH.1; have hh2 := hH.2.1; have hh3 := hH.2.2.1; have hh4 := hH.2.2.2
  refine v_iload_n1 h dX8_hand_0 ?_
  refine v_iconst h (v := nI 0) dX8_hand_1 (by decide) ?_
  refine v_iconst h (v := nI 2) dX8_hand_2 (by decide) ?_
  refine cw_S_e_3_i h (c_X8_within (g := g)) lk_X8_64 ⟨rfl, rfl, (Nat.le_of_ble_eq_true rfl), (Nat.le_of_ble_eq_true rfl)⟩ (Nat.le_of_ble_eq_true rfl) dX8_hand_3 ?_
  refine v_if_eqB h dX8_hand_6 (tgt := 19) (by decide) (fun c6 => ?_) (fun c6 => ?_)
  · have e6 := wi_no c6
    refine v_bipush h (v := -2) dX8_hand_19 (by decide) ?_
    exact v_iretP h hr dX8_hand_21 (P_X8_hand_mk (q := (_, hn, kd, pt)) (by simp only [s_hand, e6]) ) rfl
  · obtain ⟨j0, hj0a, hj0, rfl⟩ := wi_of c6 (by decide) (by decide)
    have e6 := rW_N hj0a hj0 (by decide)
    refine v_iload_n2 h dX8_hand_9 ?_
    refine v_iconst h (v := nI 1) dX8_hand_10 (by decide) ?_
    refine v_bipush h (v := nI 20) dX8_hand_11 (by decide) ?_
    refine cw_S_e_3_i h (c_X8_within (g := g)) lk_X8_64 ⟨rfl, rfl, (Nat.le_of_ble_eq_true rfl), (Nat.le_of_ble_eq_true rfl)⟩ (Nat.le_of_ble_eq_true rfl) dX8_hand_13 ?_
    refine v_if_neB h dX8_hand_16 (tgt := 22) (by decide) (fun c16 => ?_) (fun c16 => ?_)
    · obtain ⟨j1, hj1a, hj1, rfl⟩ := wi_of c16 (by decide) (by decide)
      have e16 := rW_N hj1a hj1 (by decide)
      refine v_aload_n0 h dX8_hand_22 ?_
      refine v_get h mw_X8 0 rfl rfl 5 (by decide) mf_X8_68 rfl dX8_hand_23 ?_
      refine v_if_neN h dX8_hand_26 (tgt := 32) (by decide) (by omega) (fun c26 => ?_) (fun c26 => ?_)
      · refine v_aload_n0 h dX8_hand_32 ?_
        refine v_get h mw_X8 0 rfl rfl 10 (by decide) mf_X8_95 rfl dX8_hand_33 ?_
        refine v_bipush h (v := nI 6) dX8_hand_36 (by decide) ?_
        refine v_icmp_neN h dX8_hand_38 (tgt := 44) (by decide) (by omega) (by omega) (fun c38 => ?_) (fun c38 => ?_)
        · refine v_aload_n0 h dX8_hand_44 ?_
          refine v_get h mw_X8 0 rfl rfl 11 (by decide) mf_X8_25 rfl dX8_hand_45 ?_
          refine v_aload_n0 h dX8_hand_48 ?_
          refine v_get h mw_X8 0 rfl rfl 10 (by decide) mf_X8_95 rfl dX8_hand_49 ?_
          refine v_iload_n1 h dX8_hand_52 ?_
          refine v_iastN_at6 h (by omega) (Nat.le_of_ble_eq_true rfl) dX8_hand_53 ?_
          refine v_aload_n0 h dX8_hand_54 ?_
          refine v_get h mw_X8 0 rfl rfl 12 (by decide) mf_X8_28 rfl dX8_hand_55 ?_
          refine v_aload_n0 h dX8_hand_58 ?_
          refine v_get h mw_X8 0 rfl rfl 10 (by decide) mf_X8_95 rfl dX8_hand_59 ?_
          refine v_iload_n2 h dX8_hand_62 ?_
          refine v_iastN_at7 h (by omega) (Nat.le_of_ble_eq_true rfl) dX8_hand_63 ?_
          refine v_aload_n0 h dX8_hand_64 ?_
          refine v_dup h dX8_hand_65 rfl ?_
          refine v_get h mw_X8 0 rfl rfl 10 (by decide) mf_X8_95 rfl dX8_hand_66 ?_
          refine v_iconst h (v := nI 1) dX8_hand_69 (by decide) ?_
          refine v_iaddN h dX8_hand_70 ?_
          refine pf_X8_95_at0 h dX8_hand_71 ?_
          refine v_aload_n0 h dX8_hand_74 ?_
          refine v_get h mw_X8 0 rfl rfl 10 (by decide) mf_X8_95 rfl dX8_hand_75 ?_
          refine v_iconst h (v := nI 1) dX8_hand_78 (by decide) ?_
          refine v_isubN h dX8_hand_79 (by omega) ?_
          rw [Nat.add_sub_cancel]
          exact v_iretP h hr dX8_hand_80 (P_X8_hand_mk (q := (nI hn, hn + 1, up kd hn j0, up pt hn j1)) (by simp only [s_hand, e6, e16, if_neg (show ¬ n = 0 by omega), if_pos (show hn < 6 by omega)]) ) rfl
        · refine v_bipush h (v := -4) dX8_hand_41 (by decide) ?_
          exact v_iretP h hr dX8_hand_43 (P_X8_hand_mk (q := (_, hn, kd, pt)) (by simp only [s_hand, e6, e16, if_neg (show ¬ n = 0 by omega), if_neg (show ¬ hn < 6 by omega)]) ) rfl
      · refine v_bipush h (v := -3) dX8_hand_29 (by decide) ?_
        exact v_iretP h hr dX8_hand_31 (P_X8_hand_mk (q := (_, hn, kd, pt)) (by simp only [s_hand, e6, e16, if_pos c26]) ) rfl
    · have e16 := wi_no c16
      refine v_bipush h (v := -2) dX8_hand_19 (by decide) ?_
      exact v_iretP h hr dX8_hand_21 (P_X8_hand_mk (q := (_, hn, kd, pt)) (by simp only [s_hand, e6, e16]) ) rfl
def P_X8_ofHand (g : vG) (m0 m1 m2 m3 m4 m5 m6 m7 m8 m9 m10 m11 m12 m13 m14 m15 m16 : Nat) (fl : Nat) (tr : Int32) (msrt : Nat → Int32) (len : Nat → Nat) (mc : Nat → Int32) (n : Nat) (w : Nat → Nat) (atp : Nat) (rt : Nat) (rwt : Nat → Nat) (hn : Nat) (kd : Nat → Nat) (pt : Nat → Nat) (far : Nat → Int32) (sn : Nat) (sb : Nat → Nat) (sf : Nat → Nat) (ss : Nat → Nat) (sw : Nat → Nat) (ways : Nat → Nat) (chain : Nat → Nat) (row : Nat → Nat) (best : Nat → Nat) (p0 : Int32) (p1 : Int32) : Option Value → va_W → Prop := fun r wo => r = some (.int (s_ofHand hn kd pt p0 p1)) ∧ wo = [(m0, .inr (7, [.int (nI fl), .int tr, .ref m1, .ref m2, .ref m3, .int (nI n), .ref m4, .int (nI atp), .int (nI rt), .ref m5, .int (nI hn), .ref m6, .ref m7, .ref m8, .int (nI sn), .ref m9, .ref m10, .ref m11, .ref m12, .ref m13, .ref m14, .ref m15, .ref m16])), (m1, .inl (gI g, 4, .inl msrt)), (m2, .inl (gI g, 4, .inl (fun z9 => nI (len z9)))), (m3, .inl (gI g, 160, .inl mc)), (m4, .inl (gI g, 8, .inl (fun z9 => nI (w z9)))), (m5, .inl (gI g, 8, .inl (fun z9 => nI (rwt z9)))), (m6, .inl (gI g, 6, .inl (fun z9 => nI (kd z9)))), (m7, .inl (gI g, 6, .inl (fun z9 => nI (pt z9)))), (m8, .inl (gI g, 8, .inl far)), (m9, .inl (gI g, 10, .inl (fun z9 => nI (sb z9)))), (m10, .inl (gI g, 10, .inl (fun z9 => nI (sf z9)))), (m11, .inl (gI g, 10, .inl (fun z9 => nI (ss z9)))), (m12, .inl (gI g, 10, .inl (fun z9 => nI (sw z9)))), (m13, .inl (gI g, 256, .inl (fun z9 => nI (ways z9)))), (m14, .inl (gI g, 8, .inl (fun z9 => nI (chain z9)))), (m15, .inl (gI g, 5, .inl (fun z9 => nI (row z9)))), (m16, .inl (gI g, 5, .inl (fun z9 => nI (best z9))))]
theorem P_X8_ofHand_mk {g : vG} {m0 m1 m2 m3 m4 m5 m6 m7 m8 m9 m10 m11 m12 m13 m14 m15 m16 : Nat} {fl : Nat} {tr : Int32} {msrt : Nat → Int32} {len : Nat → Nat} {mc : Nat → Int32} {n : Nat} {w : Nat → Nat} {atp : Nat} {rt : Nat} {rwt : Nat → Nat} {hn : Nat} {kd : Nat → Nat} {pt : Nat → Nat} {far : Nat → Int32} {sn : Nat} {sb : Nat → Nat} {sf : Nat → Nat} {ss : Nat → Nat} {sw : Nat → Nat} {ways : Nat → Nat} {chain : Nat → Nat} {row : Nat → Nat} {best : Nat → Nat} {p0 : Int32} {p1 : Int32}  {q : Int32} (hs : s_ofHand hn kd pt p0 p1 = q)  : P_X8_ofHand g m0 m1 m2 m3 m4 m5 m6 m7 m8 m9 m10 m11 m12 m13 m14 m15 m16 fl tr msrt len mc n w atp rt rwt hn kd pt far sn sb sf ss sw ways chain row best p0 p1 (some (.int q)) [(m0, .inr (7, [.int (nI fl), .int tr, .ref m1, .ref m2, .ref m3, .int (nI n), .ref m4, .int (nI atp), .int (nI rt), .ref m5, .int (nI hn), .ref m6, .ref m7, .ref m8, .int (nI sn), .ref m9, .ref m10, .ref m11, .ref m12, .ref m13, .ref m14, .ref m15, .ref m16])), (m1, .inl (gI g, 4, .inl msrt)), (m2, .inl (gI g, 4, .inl (fun z9 => nI (len z9)))), (m3, .inl (gI g, 160, .inl mc)), (m4, .inl (gI g, 8, .inl (fun z9 => nI (w z9)))), (m5, .inl (gI g, 8, .inl (fun z9 => nI (rwt z9)))), (m6, .inl (gI g, 6, .inl (fun z9 => nI (kd z9)))), (m7, .inl (gI g, 6, .inl (fun z9 => nI (pt z9)))), (m8, .inl (gI g, 8, .inl far)), (m9, .inl (gI g, 10, .inl (fun z9 => nI (sb z9)))), (m10, .inl (gI g, 10, .inl (fun z9 => nI (sf z9)))), (m11, .inl (gI g, 10, .inl (fun z9 => nI (ss z9)))), (m12, .inl (gI g, 10, .inl (fun z9 => nI (sw z9)))), (m13, .inl (gI g, 256, .inl (fun z9 => nI (ways z9)))), (m14, .inl (gI g, 8, .inl (fun z9 => nI (chain z9)))), (m15, .inl (gI g, 5, .inl (fun z9 => nI (row z9)))), (m16, .inl (gI g, 5, .inl (fun z9 => nI (best z9))))] := by subst hs; exact ⟨rfl, rfl⟩
set_option maxRecDepth 20000 in
set_option maxHeartbeats 4000000 in
theorem c_X8_ofHand {g : vG} {m0 m1 m2 m3 m4 m5 m6 m7 m8 m9 m10 m11 m12 m13 m14 m15 m16 : Nat} {fl : Nat} {tr : Int32} {msrt : Nat → Int32} {len : Nat → Nat} {mc : Nat → Int32} {n : Nat} {w : Nat → Nat} {atp : Nat} {rt : Nat} {rwt : Nat → Nat} {hn : Nat} {kd : Nat → Nat} {pt : Nat → Nat} {far : Nat → Int32} {sn : Nat} {sb : Nat → Nat} {sf : Nat → Nat} {ss : Nat → Nat} {sw : Nat → Nat} {ways : Nat → Nat} {chain : Nat → Nat} {row : Nat → Nat} {best : Nat → Nat} {p0 : Int32} {p1 : Int32} (hH : wfH hn kd pt) : CtP g yX8_ofHand cX8_ofHand 3 (some .int) (rmOf 1 21) [(m0, .inr (7, [.int (nI fl), .int tr, .ref m1, .ref m2, .ref m3, .int (nI n), .ref m4, .int (nI atp), .int (nI rt), .ref m5, .int (nI hn), .ref m6, .ref m7, .ref m8, .int (nI sn), .ref m9, .ref m10, .ref m11, .ref m12, .ref m13, .ref m14, .ref m15, .ref m16])), (m1, .inl (gI g, 4, .inl msrt)), (m2, .inl (gI g, 4, .inl (fun z9 => nI (len z9)))), (m3, .inl (gI g, 160, .inl mc)), (m4, .inl (gI g, 8, .inl (fun z9 => nI (w z9)))), (m5, .inl (gI g, 8, .inl (fun z9 => nI (rwt z9)))), (m6, .inl (gI g, 6, .inl (fun z9 => nI (kd z9)))), (m7, .inl (gI g, 6, .inl (fun z9 => nI (pt z9)))), (m8, .inl (gI g, 8, .inl far)), (m9, .inl (gI g, 10, .inl (fun z9 => nI (sb z9)))), (m10, .inl (gI g, 10, .inl (fun z9 => nI (sf z9)))), (m11, .inl (gI g, 10, .inl (fun z9 => nI (ss z9)))), (m12, .inl (gI g, 10, .inl (fun z9 => nI (sw z9)))), (m13, .inl (gI g, 256, .inl (fun z9 => nI (ways z9)))), (m14, .inl (gI g, 8, .inl (fun z9 => nI (chain z9)))), (m15, .inl (gI g, 5, .inl (fun z9 => nI (row z9)))), (m16, .inl (gI g, 5, .inl (fun z9 => nI (best z9))))] [.ref m0, .int p0, .int p1] (P_X8_ofHand g m0 m1 m2 m3 m4 m5 m6 m7 m8 m9 m10 m11 m12 m13 m14 m15 m16 fl tr msrt len mc n w atp rt rwt hn kd pt far sn sb sf ss sw ways chain row best p0 p1) := by
  refine CtP.ofV RX8 rfl (by decide +kernel) rfl rfl (Nat.le_of_ble_eq_true rfl) (List.forall_mem_cons.mpr ⟨rfl, (List.forall_mem_cons.mpr ⟨rfl, (List.forall_mem_cons.mpr ⟨rfl, (fun _ h9 => absurd h9 List.not_mem_nil)⟩)⟩)⟩) (fun x h hr => ?_)
  show vM x 0 [some (.ref m0), some (.int p0), some (.int p1)] [] [(m0, .inr (7, [.int (nI fl), .int tr, .ref m1, .ref m2, .ref m3, .int (nI n), .ref m4, .int (nI atp), .int (nI rt), .ref m5, .int (nI hn), .ref m6, .ref m7, .ref m8, .int (nI sn), .ref m9, .ref m10, .ref m11, .ref m12, .ref m13, .ref m14, .ref m15, .ref m16])), (m1, .inl (gI g, 4, .inl msrt)), (m2, .inl (gI g, 4, .inl (fun z9 => nI (len z9)))), (m3, .inl (gI g, 160, .inl mc)), (m4, .inl (gI g, 8, .inl (fun z9 => nI (w z9)))), (m5, .inl (gI g, 8, .inl (fun z9 => nI (rwt z9)))), (m6, .inl (gI g, 6, .inl (fun z9 => nI (kd z9)))), (m7, .inl (gI g, 6, .inl (fun z9 => nI (pt z9)))), (m8, .inl (gI g, 8, .inl far)), (m9, .inl (gI g, 10, .inl (fun z9 => nI (sb z9)))), (m10, .inl (gI g, 10, .inl (fun z9 => nI (sf z9)))), (m11, .inl (gI g, 10, .inl (fun z9 => nI (ss z9)))), (m12, .inl (gI g, 10, .inl (fun z9 => nI (sw z9)))), (m13, .inl (gI g, 256, .inl (fun z9 => nI (ways z9)))), (m14, .inl (gI g, 8, .inl (fun z9 => nI (chain z9)))), (m15, .inl (gI g, 5, .inl (fun z9 => nI (row z9)))), (m16, .inl (gI g, 5, .inl (fun z9 => nI (best z9))))]
  have hh1 := hH.1; have hh2 := hH.2.1; have hh3 := hH.2.2.1; have hh4 := hH.2.2.2
  refine v_aload_n0 h dX8_ofHand_0 ?_
  refine v_iload_n1 h dX8_ofHand_1 ?_
  refine cw_V_0_1_2_3_4_5_6_7_8_9_10_11_12_13_14_15_16_1_i (ci := 7) h (c_X8_isHand (g := g)) lk_X8_107 ⟨rfl, rfl, (Nat.le_of_ble_eq_true rfl), (Nat.le_of_ble_eq_true rfl)⟩ rfl rfl rfl (Nat.le_of_ble_eq_true rfl) dX8_ofHand_2 ?_
  refine v_if_neB h dX8_ofHand_5 (tgt := 10) (by decide) (fun c5 => ?_) (fun c5 => ?_)
  · obtain ⟨j0, hj0, rfl⟩ := inR_of c5 (by omega)
    have e5 := rN_N hj0 (by omega)
    refine v_iload_n2 h dX8_ofHand_10 ?_
    refine v_if_ne h dX8_ofHand_11 (tgt := 23) (by decide) (fun c11 => ?_) (fun c11 => ?_)
    · refine v_iload_n2 h dX8_ofHand_23 ?_
      refine v_iconst h (v := nI 1) dX8_ofHand_24 (by decide) ?_
      refine v_icmp_ne h dX8_ofHand_25 (tgt := 37) (by decide) (fun c25 => ?_) (fun c25 => ?_)
      · have e25 := wi_no (wi01 c11 c25)
        refine v_bipush h (v := -2) dX8_ofHand_37 (by decide) ?_
        exact v_iretP h hr dX8_ofHand_39 (P_X8_ofHand_mk (q := _) (by simp only [s_ofHand, e5, e25]) ) rfl
      · subst c25
        have e25 := rW_N (j := 1) (a := 0) (b := 1) (by decide) (by decide) (by decide)
        refine v_aload_n0 h dX8_ofHand_28 ?_
        refine v_get h mw_X8 0 rfl rfl 12 (by decide) mf_X8_28 rfl dX8_ofHand_29 ?_
        refine v_iload_n1 h dX8_ofHand_32 ?_
        refine v_ialdN h 7 rfl (by omega) (Nat.le_of_ble_eq_true rfl) dX8_ofHand_33 ?_
        refine v_goto h dX8_ofHand_34 (tgt := 39) (by decide) ?_
        exact v_iretP h hr dX8_ofHand_39 (P_X8_ofHand_mk (q := _) (by simp only [s_ofHand, e5, e25, if_neg (show ¬ (1 : Nat) = 0 by decide)]) ) rfl
    · subst c11
      have e11 := rW_N (j := 0) (a := 0) (b := 1) (by decide) (by decide) (by decide)
      refine v_aload_n0 h dX8_ofHand_14 ?_
      refine v_get h mw_X8 0 rfl rfl 11 (by decide) mf_X8_25 rfl dX8_ofHand_15 ?_
      refine v_iload_n1 h dX8_ofHand_18 ?_
      refine v_ialdN h 6 rfl (by omega) (Nat.le_of_ble_eq_true rfl) dX8_ofHand_19 ?_
      refine v_goto h dX8_ofHand_20 (tgt := 39) (by decide) ?_
      exact v_iretP h hr dX8_ofHand_39 (P_X8_ofHand_mk (q := _) (by simp only [s_ofHand, e5, (show rW 0 0 1 = some 0 from e11), if_true, ↓reduceIte]) ) rfl
  · have e5 := rN_f c5
    refine v_iconst h (v := -1) dX8_ofHand_8 (by decide) ?_
    exact v_iretP h hr dX8_ofHand_9 (P_X8_ofHand_mk (q := _) (by simp only [s_ofHand, e5]) ) rfl
set_option maxRecDepth 20000 in
set_option maxHeartbeats 2000000 in
theorem c_X8_times {g : vG} {m0 m1 m2 m3 m4 m5 m6 m7 m8 m9 m10 m11 m12 m13 m14 m15 m16 : Nat} {fl : Nat} {tr : Int32} {msrt : Nat → Int32} {len : Nat → Nat} {mc : Nat → Int32} {n : Nat} {w : Nat → Nat} {atp : Nat} {rt : Nat} {rwt : Nat → Nat} {hn : Nat} {kd : Nat → Nat} {pt : Nat → Nat} {far : Nat → Int32} {sn : Nat} {sb : Nat → Nat} {sf : Nat → Nat} {ss : Nat → Nat} {sw : Nat → Nat} {ways : Nat → Nat} {chain : Nat → Nat} {row : Nat → Nat} {best : Nat → Nat} {j : Nat} (hH : wfH hn kd pt) (hj : j < hn) : Ct g yX8_times cX8_times 2 (some .int) (rmOf 0 0) [(m0, .inr (7, [.int (nI fl), .int tr, .ref m1, .ref m2, .ref m3, .int (nI n), .ref m4, .int (nI atp), .int (nI rt), .ref m5, .int (nI hn), .ref m6, .ref m7, .ref m8, .int (nI sn), .ref m9, .ref m10, .ref m11, .ref m12, .ref m13, .ref m14, .ref m15, .ref m16])), (m1, .inl (gI g, 4, .inl msrt)), (m2, .inl (gI g, 4, .inl (fun z9 => nI (len z9)))), (m3, .inl (gI g, 160, .inl mc)), (m4, .inl (gI g, 8, .inl (fun z9 => nI (w z9)))), (m5, .inl (gI g, 8, .inl (fun z9 => nI (rwt z9)))), (m6, .inl (gI g, 6, .inl (fun z9 => nI (kd z9)))), (m7, .inl (gI g, 6, .inl (fun z9 => nI (pt z9)))), (m8, .inl (gI g, 8, .inl far)), (m9, .inl (gI g, 10, .inl (fun z9 => nI (sb z9)))), (m10, .inl (gI g, 10, .inl (fun z9 => nI (sf z9)))), (m11, .inl (gI g, 10, .inl (fun z9 => nI (ss z9)))), (m12, .inl (gI g, 10, .inl (fun z9 => nI (sw z9)))), (m13, .inl (gI g, 256, .inl (fun z9 => nI (ways z9)))), (m14, .inl (gI g, 8, .inl (fun z9 => nI (chain z9)))), (m15, .inl (gI g, 5, .inl (fun z9 => nI (row z9)))), (m16, .inl (gI g, 5, .inl (fun z9 => nI (best z9))))] [.ref m0, .int (nI j)] (some (.int (nI (times (kd j) (pt j))))) [(m0, .inr (7, [.int (nI fl), .int tr, .ref m1, .ref m2, .ref m3, .int (nI n), .ref m4, .int (nI atp), .int (nI rt), .ref m5, .int (nI hn), .ref m6, .ref m7, .ref m8, .int (nI sn), .ref m9, .ref m10, .ref m11, .ref m12, .ref m13, .ref m14, .ref m15, .ref m16])), (m1, .inl (gI g, 4, .inl msrt)), (m2, .inl (gI g, 4, .inl (fun z9 => nI (len z9)))), (m3, .inl (gI g, 160, .inl mc)), (m4, .inl (gI g, 8, .inl (fun z9 => nI (w z9)))), (m5, .inl (gI g, 8, .inl (fun z9 => nI (rwt z9)))), (m6, .inl (gI g, 6, .inl (fun z9 => nI (kd z9)))), (m7, .inl (gI g, 6, .inl (fun z9 => nI (pt z9)))), (m8, .inl (gI g, 8, .inl far)), (m9, .inl (gI g, 10, .inl (fun z9 => nI (sb z9)))), (m10, .inl (gI g, 10, .inl (fun z9 => nI (sf z9)))), (m11, .inl (gI g, 10, .inl (fun z9 => nI (ss z9)))), (m12, .inl (gI g, 10, .inl (fun z9 => nI (sw z9)))), (m13, .inl (gI g, 256, .inl (fun z9 => nI (ways z9)))), (m14, .inl (gI g, 8, .inl (fun z9 => nI (chain z9)))), (m15, .inl (gI g, 5, .inl (fun z9 => nI (row z9)))), (m16, .inl (gI g, 5, .inl (fun z9 => nI (best z9))))] := by
  refine Ct.ofV RX8 rfl (by decide +kernel) rfl rfl rfl (Nat.le_of_ble_eq_true rfl) (List.forall_mem_cons.mpr ⟨rfl, (List.forall_mem_cons.mpr ⟨rfl, (fun _ h9 => absurd h9 List.not_mem_nil)⟩)⟩) (fun x h hr => ?_)
  show vM x 0 [some (.ref m0), some (.int (nI j))] [] [(m0, .inr (7, [.int (nI fl), .int tr, .ref m1, .ref m2, .ref m3, .int (nI n), .ref m4, .int (nI atp), .int (nI rt), .ref m5, .int (nI hn), .ref m6, .ref m7, .ref m8, .int (nI sn), .ref m9, .ref m10, .ref m11, .ref m12, .ref m13, .ref m14, .ref m15, .ref m16])), (m1, .inl (gI g, 4, .inl msrt)), (m2, .inl (gI g, 4, .inl (fun z9 => nI (len z9)))), (m3, .inl (gI g, 160, .inl mc)), (m4, .inl (gI g, 8, .inl (fun z9 => nI (w z9)))), (m5, .inl (gI g, 8, .inl (fun z9 => nI (rwt z9)))), (m6, .inl (gI g, 6, .inl (fun z9 => nI (kd z9)))), (m7, .inl (gI g, 6, .inl (fun z9 => nI (pt z9)))), (m8, .inl (gI g, 8, .inl far)), (m9, .inl (gI g, 10, .inl (fun z9 => nI (sb z9)))), (m10, .inl (gI g, 10, .inl (fun z9 => nI (sf z9)))), (m11, .inl (gI g, 10, .inl (fun z9 => nI (ss z9)))), (m12, .inl (gI g, 10, .inl (fun z9 => nI (sw z9)))), (m13, .inl (gI g, 256, .inl (fun z9 => nI (ways z9)))), (m14, .inl (gI g, 8, .inl (fun z9 => nI (chain z9)))), (m15, .inl (gI g, 5, .inl (fun z9 => nI (row z9)))), (m16, .inl (gI g, 5, .inl (fun z9 => nI (best z9))))]
  have hh1 := hH.1; have hh2 := hH.2.1; have hh3 := hH.2.2.1; have hh4 := hH.2.2.2
  refine v_aload_n0 h dX8_times_0 ?_
  refine v_get h mw_X8 0 rfl rfl 11 (by decide) mf_X8_25 rfl dX8_times_1 ?_
  refine v_iload_n1 h dX8_times_4 ?_
  refine v_ialdN h 6 rfl (by omega) (Nat.le_of_ble_eq_true rfl) dX8_times_5 ?_
  refine v_if_neN h dX8_times_6 (tgt := 18) (by decide) (by have := hh2 j; omega) (fun c6 => ?_) (fun c6 => ?_)
  · refine v_iconst h (v := nI 2) dX8_times_18 (by decide) ?_
    refine v_aload_n0 h dX8_times_19 ?_
    refine v_get h mw_X8 0 rfl rfl 12 (by decide) mf_X8_28 rfl dX8_times_20 ?_
    refine v_iload_n1 h dX8_times_23 ?_
    refine v_ialdN h 7 rfl (by omega) (Nat.le_of_ble_eq_true rfl) dX8_times_24 ?_
    refine v_imulN h dX8_times_25 ?_
    exact v_iret h hr dX8_times_26 (by first | rw [times, if_pos (by omega)] | rw [times, if_neg (by omega)]) rfl
  · refine v_aload_n0 h dX8_times_9 ?_
    refine v_get h mw_X8 0 rfl rfl 12 (by decide) mf_X8_28 rfl dX8_times_10 ?_
    refine v_iload_n1 h dX8_times_13 ?_
    refine v_ialdN h 7 rfl (by omega) (Nat.le_of_ble_eq_true rfl) dX8_times_14 ?_
    refine v_goto h dX8_times_15 (tgt := 26) (by decide) ?_
    exact v_iret h hr dX8_times_26 (by first | rw [times, if_pos (by omega)] | rw [times, if_neg (by omega)]) rfl
set_option maxRecDepth 20000 in
set_option maxHeartbeats 2000000 in
theorem c_X8_isTold {g : vG} {m0 m1 m2 m3 m4 m5 m6 m7 m8 m9 m10 m11 m12 m13 m14 m15 m16 : Nat} {fl : Nat} {tr : Int32} {msrt : Nat → Int32} {len : Nat → Nat} {mc : Nat → Int32} {n : Nat} {w : Nat → Nat} {atp : Nat} {rt : Nat} {rwt : Nat → Nat} {hn : Nat} {kd : Nat → Nat} {pt : Nat → Nat} {far : Nat → Int32} {sn : Nat} {sb : Nat → Nat} {sf : Nat → Nat} {ss : Nat → Nat} {sw : Nat → Nat} {ways : Nat → Nat} {chain : Nat → Nat} {row : Nat → Nat} {best : Nat → Nat} {j : Nat} {a : Nat} {b : Nat} (hH : wfH hn kd pt) (hj : j < hn) (ha : a ≤ 9999) (hb : b ≤ 9999) : Ct g yX8_isTold cX8_isTold 5 (some .boolean) (rmOf 1 21) [(m0, .inr (7, [.int (nI fl), .int tr, .ref m1, .ref m2, .ref m3, .int (nI n), .ref m4, .int (nI atp), .int (nI rt), .ref m5, .int (nI hn), .ref m6, .ref m7, .ref m8, .int (nI sn), .ref m9, .ref m10, .ref m11, .ref m12, .ref m13, .ref m14, .ref m15, .ref m16])), (m1, .inl (gI g, 4, .inl msrt)), (m2, .inl (gI g, 4, .inl (fun z9 => nI (len z9)))), (m3, .inl (gI g, 160, .inl mc)), (m4, .inl (gI g, 8, .inl (fun z9 => nI (w z9)))), (m5, .inl (gI g, 8, .inl (fun z9 => nI (rwt z9)))), (m6, .inl (gI g, 6, .inl (fun z9 => nI (kd z9)))), (m7, .inl (gI g, 6, .inl (fun z9 => nI (pt z9)))), (m8, .inl (gI g, 8, .inl far)), (m9, .inl (gI g, 10, .inl (fun z9 => nI (sb z9)))), (m10, .inl (gI g, 10, .inl (fun z9 => nI (sf z9)))), (m11, .inl (gI g, 10, .inl (fun z9 => nI (ss z9)))), (m12, .inl (gI g, 10, .inl (fun z9 => nI (sw z9)))), (m13, .inl (gI g, 256, .inl (fun z9 => nI (ways z9)))), (m14, .inl (gI g, 8, .inl (fun z9 => nI (chain z9)))), (m15, .inl (gI g, 5, .inl (fun z9 => nI (row z9)))), (m16, .inl (gI g, 5, .inl (fun z9 => nI (best z9))))] [.ref m0, .int (nI j), .int (nI a), .int (nI b)] (some (.int (nI (bN (tls (kd j) (pt j) a b))))) [(m0, .inr (7, [.int (nI fl), .int tr, .ref m1, .ref m2, .ref m3, .int (nI n), .ref m4, .int (nI atp), .int (nI rt), .ref m5, .int (nI hn), .ref m6, .ref m7, .ref m8, .int (nI sn), .ref m9, .ref m10, .ref m11, .ref m12, .ref m13, .ref m14, .ref m15, .ref m16])), (m1, .inl (gI g, 4, .inl msrt)), (m2, .inl (gI g, 4, .inl (fun z9 => nI (len z9)))), (m3, .inl (gI g, 160, .inl mc)), (m4, .inl (gI g, 8, .inl (fun z9 => nI (w z9)))), (m5, .inl (gI g, 8, .inl (fun z9 => nI (rwt z9)))), (m6, .inl (gI g, 6, .inl (fun z9 => nI (kd z9)))), (m7, .inl (gI g, 6, .inl (fun z9 => nI (pt z9)))), (m8, .inl (gI g, 8, .inl far)), (m9, .inl (gI g, 10, .inl (fun z9 => nI (sb z9)))), (m10, .inl (gI g, 10, .inl (fun z9 => nI (sf z9)))), (m11, .inl (gI g, 10, .inl (fun z9 => nI (ss z9)))), (m12, .inl (gI g, 10, .inl (fun z9 => nI (sw z9)))), (m13, .inl (gI g, 256, .inl (fun z9 => nI (ways z9)))), (m14, .inl (gI g, 8, .inl (fun z9 => nI (chain z9)))), (m15, .inl (gI g, 5, .inl (fun z9 => nI (row z9)))), (m16, .inl (gI g, 5, .inl (fun z9 => nI (best z9))))] := by
  refine Ct.ofV RX8 rfl (by decide +kernel) rfl rfl rfl (Nat.le_of_ble_eq_true rfl) (List.forall_mem_cons.mpr ⟨rfl, (List.forall_mem_cons.mpr ⟨rfl, (List.forall_mem_cons.mpr ⟨rfl, (List.forall_mem_cons.mpr ⟨rfl, (fun _ h9 => absurd h9 List.not_mem_nil)⟩)⟩)⟩)⟩) (fun x h hr => ?_)
  show vM x 0 [some (.ref m0), some (.int (nI j)), some (.int (nI a)), some (.int (nI b)), none] [] [(m0, .inr (7, [.int (nI fl), .int tr, .ref m1, .ref m2, .ref m3, .int (nI n), .ref m4, .int (nI atp), .int (nI rt), .ref m5, .int (nI hn), .ref m6, .ref m7, .ref m8, .int (nI sn), .ref m9, .ref m10, .ref m11, .ref m12, .ref m13, .ref m14, .ref m15, .ref m16])), (m1, .inl (gI g, 4, .inl msrt)), (m2, .inl (gI g, 4, .inl (fun z9 => nI (len z9)))), (m3, .inl (gI g, 160, .inl mc)), (m4, .inl (gI g, 8, .inl (fun z9 => nI (w z9)))), (m5, .inl (gI g, 8, .inl (fun z9 => nI (rwt z9)))), (m6, .inl (gI g, 6, .inl (fun z9 => nI (kd z9)))), (m7, .inl (gI g, 6, .inl (fun z9 => nI (pt z9)))), (m8, .inl (gI g, 8, .inl far)), (m9, .inl (gI g, 10, .inl (fun z9 => nI (sb z9)))), (m10, .inl (gI g, 10, .inl (fun z9 => nI (sf z9)))), (m11, .inl (gI g, 10, .inl (fun z9 => nI (ss z9)))), (m12, .inl (gI g, 10, .inl (fun z9 => nI (sw z9)))), (m13, .inl (gI g, 256, .inl (fun z9 => nI (ways z9)))), (m14, .inl (gI g, 8, .inl (fun z9 => nI (chain z9)))), (m15, .inl (gI g, 5, .inl (fun z9 => nI (row z9)))), (m16, .inl (gI g, 5, .inl (fun z9 => nI (best z9))))]
  have hh1 := hH.1; have hh2 := hH.2.1; have hh3 := hH.2.2.1; have hh4 := hH.2.2.2
  refine v_iload_n2 h dX8_isTold_0 ?_
  refine v_iload_n3 h dX8_isTold_1 ?_
  refine v_icmp_gtN h dX8_isTold_2 (tgt := 7) (by decide) (by first | omega | (have := hh2 j; omega) | exact mulb (by omega) (Nat.le_trans (times_le (hh3 j)) (by decide))) (by first | omega | (have := hh2 j; omega) | exact mulb (by omega) (Nat.le_trans (times_le (hh3 j)) (by decide))) (fun c2 => ?_) (fun c2 => ?_)
  · refine v_iload_n2 h dX8_isTold_7 ?_
    refine v_iload_n3 h dX8_isTold_8 ?_
    refine v_isubN h dX8_isTold_9 (by omega) ?_
    refine v_aload_n0 h dX8_isTold_10 ?_
    refine v_iload_n1 h dX8_isTold_11 ?_
    refine cw_V_0_1_2_3_4_5_6_7_8_9_10_11_12_13_14_15_16_1_i (ci := 7) h (c_X8_times (g := g) (by first | assumption | omega) (by first | assumption | omega)) lk_X8_110 ⟨rfl, rfl, (Nat.le_of_ble_eq_true rfl), (Nat.le_of_ble_eq_true rfl)⟩ rfl rfl rfl (Nat.le_of_ble_eq_true rfl) dX8_isTold_12 ?_
    refine v_imulN h dX8_isTold_15 ?_
    refine v_istore4 h (Nat.le_of_ble_eq_true rfl) dX8_isTold_16 ?_
    refine v_aload_n0 h dX8_isTold_18 ?_
    refine v_get h mw_X8 0 rfl rfl 11 (by decide) mf_X8_25 rfl dX8_isTold_19 ?_
    refine v_iload_n1 h dX8_isTold_22 ?_
    refine v_ialdN h 6 rfl (by omega) (Nat.le_of_ble_eq_true rfl) dX8_isTold_23 ?_
    refine v_iconst h (v := nI 2) dX8_isTold_24 (by decide) ?_
    refine v_icmp_neN h dX8_isTold_25 (tgt := 42) (by decide) (by first | omega | (have := hh2 j; omega) | exact mulb (by omega) (Nat.le_trans (times_le (hh3 j)) (by decide))) (by first | omega | (have := hh2 j; omega) | exact mulb (by omega) (Nat.le_trans (times_le (hh3 j)) (by decide))) (fun c25 => ?_) (fun c25 => ?_)
    · refine v_iload4 h dX8_isTold_42 ?_
      refine v_iload_n3 h dX8_isTold_44 ?_
      refine v_icmp_leN h dX8_isTold_45 (tgt := 52) (by decide) (by first | omega | (have := hh2 j; omega) | exact mulb (by omega) (Nat.le_trans (times_le (hh3 j)) (by decide))) (by first | omega | (have := hh2 j; omega) | exact mulb (by omega) (Nat.le_trans (times_le (hh3 j)) (by decide))) (fun c45 => ?_) (fun c45 => ?_)
      · refine v_iconst h (v := nI 0) dX8_isTold_52 (by decide) ?_
        exact v_zret (v := false) h hr dX8_isTold_53 (by first | exact (tls_iff.mpr (by omega)).symm | exact (tls_f (by omega)).symm) rfl
      · refine v_iconst h (v := nI 1) dX8_isTold_48 (by decide) ?_
        refine v_goto h dX8_isTold_49 (tgt := 53) (by decide) ?_
        exact v_zret (v := true) h hr dX8_isTold_53 (by first | exact (tls_iff.mpr (by omega)).symm | exact (tls_f (by omega)).symm) rfl
    · refine v_iload4 h dX8_isTold_28 ?_
      refine v_iload_n3 h dX8_isTold_30 ?_
      refine v_icmp_ltN h dX8_isTold_31 (tgt := 38) (by decide) (by first | omega | (have := hh2 j; omega) | exact mulb (by omega) (Nat.le_trans (times_le (hh3 j)) (by decide))) (by first | omega | (have := hh2 j; omega) | exact mulb (by omega) (Nat.le_trans (times_le (hh3 j)) (by decide))) (fun c31 => ?_) (fun c31 => ?_)
      · refine v_iconst h (v := nI 0) dX8_isTold_38 (by decide) ?_
        refine v_goto h dX8_isTold_39 (tgt := 53) (by decide) ?_
        exact v_zret (v := false) h hr dX8_isTold_53 (by first | exact (tls_iff.mpr (by omega)).symm | exact (tls_f (by omega)).symm) rfl
      · refine v_iconst h (v := nI 1) dX8_isTold_34 (by decide) ?_
        refine v_goto h dX8_isTold_35 (tgt := 53) (by decide) ?_
        exact v_zret (v := true) h hr dX8_isTold_53 (by first | exact (tls_iff.mpr (by omega)).symm | exact (tls_f (by omega)).symm) rfl
  · refine v_iconst h (v := nI 0) dX8_isTold_5 (by decide) ?_
    exact v_zret (v := false) h hr dX8_isTold_6 (by first | exact (tls_iff.mpr (by omega)).symm | exact (tls_f (by omega)).symm) rfl
def P_X8_tells (g : vG) (m0 m1 m2 m3 m4 m5 m6 m7 m8 m9 m10 m11 m12 m13 m14 m15 m16 : Nat) (fl : Nat) (tr : Int32) (msrt : Nat → Int32) (len : Nat → Nat) (mc : Nat → Int32) (n : Nat) (w : Nat → Nat) (atp : Nat) (rt : Nat) (rwt : Nat → Nat) (hn : Nat) (kd : Nat → Nat) (pt : Nat → Nat) (far : Nat → Int32) (sn : Nat) (sb : Nat → Nat) (sf : Nat → Nat) (ss : Nat → Nat) (sw : Nat → Nat) (ways : Nat → Nat) (chain : Nat → Nat) (row : Nat → Nat) (best : Nat → Nat) (p0 : Int32) (p1 : Int32) (p2 : Int32) : Option Value → va_W → Prop := fun r wo => r = some (.int (s_tells hn kd pt p0 p1 p2)) ∧ wo = [(m0, .inr (7, [.int (nI fl), .int tr, .ref m1, .ref m2, .ref m3, .int (nI n), .ref m4, .int (nI atp), .int (nI rt), .ref m5, .int (nI hn), .ref m6, .ref m7, .ref m8, .int (nI sn), .ref m9, .ref m10, .ref m11, .ref m12, .ref m13, .ref m14, .ref m15, .ref m16])), (m1, .inl (gI g, 4, .inl msrt)), (m2, .inl (gI g, 4, .inl (fun z9 => nI (len z9)))), (m3, .inl (gI g, 160, .inl mc)), (m4, .inl (gI g, 8, .inl (fun z9 => nI (w z9)))), (m5, .inl (gI g, 8, .inl (fun z9 => nI (rwt z9)))), (m6, .inl (gI g, 6, .inl (fun z9 => nI (kd z9)))), (m7, .inl (gI g, 6, .inl (fun z9 => nI (pt z9)))), (m8, .inl (gI g, 8, .inl far)), (m9, .inl (gI g, 10, .inl (fun z9 => nI (sb z9)))), (m10, .inl (gI g, 10, .inl (fun z9 => nI (sf z9)))), (m11, .inl (gI g, 10, .inl (fun z9 => nI (ss z9)))), (m12, .inl (gI g, 10, .inl (fun z9 => nI (sw z9)))), (m13, .inl (gI g, 256, .inl (fun z9 => nI (ways z9)))), (m14, .inl (gI g, 8, .inl (fun z9 => nI (chain z9)))), (m15, .inl (gI g, 5, .inl (fun z9 => nI (row z9)))), (m16, .inl (gI g, 5, .inl (fun z9 => nI (best z9))))]
theorem P_X8_tells_mk {g : vG} {m0 m1 m2 m3 m4 m5 m6 m7 m8 m9 m10 m11 m12 m13 m14 m15 m16 : Nat} {fl : Nat} {tr : Int32} {msrt : Nat → Int32} {len : Nat → Nat} {mc : Nat → Int32} {n : Nat} {w : Nat → Nat} {atp : Nat} {rt : Nat} {rwt : Nat → Nat} {hn : Nat} {kd : Nat → Nat} {pt : Nat → Nat} {far : Nat → Int32} {sn : Nat} {sb : Nat → Nat} {sf : Nat → Nat} {ss : Nat → Nat} {sw : Nat → Nat} {ways : Nat → Nat} {chain : Nat → Nat} {row : Nat → Nat} {best : Nat → Nat} {p0 : Int32} {p1 : Int32} {p2 : Int32}  {q : Int32} (hs : s_tells hn kd pt p0 p1 p2 = q)  : P_X8_tells g m0 m1 m2 m3 m4 m5 m6 m7 m8 m9 m10 m11 m12 m13 m14 m15 m16 fl tr msrt len mc n w atp rt rwt hn kd pt far sn sb sf ss sw ways chain row best p0 p1 p2 (some (.int q)) [(m0, .inr (7, [.int (nI fl), .int tr, .ref m1, .ref m2, .ref m3, .int (nI n), .ref m4, .int (nI atp), .int (nI rt), .ref m5, .int (nI hn), .ref m6, .ref m7, .ref m8, .int (nI sn), .ref m9, .ref m10, .ref m11, .ref m12, .ref m13, .ref m14, .ref m15, .ref m16])), (m1, .inl (gI g, 4, .inl msrt)), (m2, .inl (gI g, 4, .inl (fun z9 => nI (len z9)))), (m3, .inl (gI g, 160, .inl mc)), (m4, .inl (gI g, 8, .inl (fun z9 => nI (w z9)))), (m5, .inl (gI g, 8, .inl (fun z9 => nI (rwt z9)))), (m6, .inl (gI g, 6, .inl (fun z9 => nI (kd z9)))), (m7, .inl (gI g, 6, .inl (fun z9 => nI (pt z9)))), (m8, .inl (gI g, 8, .inl far)), (m9, .inl (gI g, 10, .inl (fun z9 => nI (sb z9)))), (m10, .inl (gI g, 10, .inl (fun z9 => nI (sf z9)))), (m11, .inl (gI g, 10, .inl (fun z9 => nI (ss z9)))), (m12, .inl (gI g, 10, .inl (fun z9 => nI (sw z9)))), (m13, .inl (gI g, 256, .inl (fun z9 => nI (ways z9)))), (m14, .inl (gI g, 8, .inl (fun z9 => nI (chain z9)))), (m15, .inl (gI g, 5, .inl (fun z9 => nI (row z9)))), (m16, .inl (gI g, 5, .inl (fun z9 => nI (best z9))))] := by subst hs; exact ⟨rfl, rfl⟩
set_option maxRecDepth 20000 in
set_option maxHeartbeats 4000000 in
theorem c_X8_tells {g : vG} {m0 m1 m2 m3 m4 m5 m6 m7 m8 m9 m10 m11 m12 m13 m14 m15 m16 : Nat} {fl : Nat} {tr : Int32} {msrt : Nat → Int32} {len : Nat → Nat} {mc : Nat → Int32} {n : Nat} {w : Nat → Nat} {atp : Nat} {rt : Nat} {rwt : Nat → Nat} {hn : Nat} {kd : Nat → Nat} {pt : Nat → Nat} {far : Nat → Int32} {sn : Nat} {sb : Nat → Nat} {sf : Nat → Nat} {ss : Nat → Nat} {sw : Nat → Nat} {ways : Nat → Nat} {chain : Nat → Nat} {row : Nat → Nat} {best : Nat → Nat} {p0 : Int32} {p1 : Int32} {p2 : Int32} (hH : wfH hn kd pt) : CtP g yX8_tells cX8_tells 4 (some .int) (rmOf 2 45) [(m0, .inr (7, [.int (nI fl), .int tr, .ref m1, .ref m2, .ref m3, .int (nI n), .ref m4, .int (nI atp), .int (nI rt), .ref m5, .int (nI hn), .ref m6, .ref m7, .ref m8, .int (nI sn), .ref m9, .ref m10, .ref m11, .ref m12, .ref m13, .ref m14, .ref m15, .ref m16])), (m1, .inl (gI g, 4, .inl msrt)), (m2, .inl (gI g, 4, .inl (fun z9 => nI (len z9)))), (m3, .inl (gI g, 160, .inl mc)), (m4, .inl (gI g, 8, .inl (fun z9 => nI (w z9)))), (m5, .inl (gI g, 8, .inl (fun z9 => nI (rwt z9)))), (m6, .inl (gI g, 6, .inl (fun z9 => nI (kd z9)))), (m7, .inl (gI g, 6, .inl (fun z9 => nI (pt z9)))), (m8, .inl (gI g, 8, .inl far)), (m9, .inl (gI g, 10, .inl (fun z9 => nI (sb z9)))), (m10, .inl (gI g, 10, .inl (fun z9 => nI (sf z9)))), (m11, .inl (gI g, 10, .inl (fun z9 => nI (ss z9)))), (m12, .inl (gI g, 10, .inl (fun z9 => nI (sw z9)))), (m13, .inl (gI g, 256, .inl (fun z9 => nI (ways z9)))), (m14, .inl (gI g, 8, .inl (fun z9 => nI (chain z9)))), (m15, .inl (gI g, 5, .inl (fun z9 => nI (row z9)))), (m16, .inl (gI g, 5, .inl (fun z9 => nI (best z9))))] [.ref m0, .int p0, .int p1, .int p2] (P_X8_tells g m0 m1 m2 m3 m4 m5 m6 m7 m8 m9 m10 m11 m12 m13 m14 m15 m16 fl tr msrt len mc n w atp rt rwt hn kd pt far sn sb sf ss sw ways chain row best p0 p1 p2) := by
  refine CtP.ofV RX8 rfl (by decide +kernel) rfl rfl (Nat.le_of_ble_eq_true rfl) (List.forall_mem_cons.mpr ⟨rfl, (List.forall_mem_cons.mpr ⟨rfl, (List.forall_mem_cons.mpr ⟨rfl, (List.forall_mem_cons.mpr ⟨rfl, (fun _ h9 => absurd h9 List.not_mem_nil)⟩)⟩)⟩)⟩) (fun x h hr => ?_)
  show vM x 0 [some (.ref m0), some (.int p0), some (.int p1), some (.int p2)] [] [(m0, .inr (7, [.int (nI fl), .int tr, .ref m1, .ref m2, .ref m3, .int (nI n), .ref m4, .int (nI atp), .int (nI rt), .ref m5, .int (nI hn), .ref m6, .ref m7, .ref m8, .int (nI sn), .ref m9, .ref m10, .ref m11, .ref m12, .ref m13, .ref m14, .ref m15, .ref m16])), (m1, .inl (gI g, 4, .inl msrt)), (m2, .inl (gI g, 4, .inl (fun z9 => nI (len z9)))), (m3, .inl (gI g, 160, .inl mc)), (m4, .inl (gI g, 8, .inl (fun z9 => nI (w z9)))), (m5, .inl (gI g, 8, .inl (fun z9 => nI (rwt z9)))), (m6, .inl (gI g, 6, .inl (fun z9 => nI (kd z9)))), (m7, .inl (gI g, 6, .inl (fun z9 => nI (pt z9)))), (m8, .inl (gI g, 8, .inl far)), (m9, .inl (gI g, 10, .inl (fun z9 => nI (sb z9)))), (m10, .inl (gI g, 10, .inl (fun z9 => nI (sf z9)))), (m11, .inl (gI g, 10, .inl (fun z9 => nI (ss z9)))), (m12, .inl (gI g, 10, .inl (fun z9 => nI (sw z9)))), (m13, .inl (gI g, 256, .inl (fun z9 => nI (ways z9)))), (m14, .inl (gI g, 8, .inl (fun z9 => nI (chain z9)))), (m15, .inl (gI g, 5, .inl (fun z9 => nI (row z9)))), (m16, .inl (gI g, 5, .inl (fun z9 => nI (best z9))))]
  have hh1 := hH.1; have hh2 := hH.2.1; have hh3 := hH.2.2.1; have hh4 := hH.2.2.2
  refine v_aload_n0 h dX8_tells_0 ?_
  refine v_iload_n1 h dX8_tells_1 ?_
  refine cw_V_0_1_2_3_4_5_6_7_8_9_10_11_12_13_14_15_16_1_i (ci := 7) h (c_X8_isHand (g := g)) lk_X8_107 ⟨rfl, rfl, (Nat.le_of_ble_eq_true rfl), (Nat.le_of_ble_eq_true rfl)⟩ rfl rfl rfl (Nat.le_of_ble_eq_true rfl) dX8_tells_2 ?_
  refine v_if_neB h dX8_tells_5 (tgt := 10) (by decide) (fun c5 => ?_) (fun c5 => ?_)
  · obtain ⟨j0, hj0, rfl⟩ := inR_of c5 (by omega)
    have e5 := rN_N hj0 (by omega)
    refine v_iload_n2 h dX8_tells_10 ?_
    refine v_iconst h (v := nI 1) dX8_tells_11 (by decide) ?_
    refine v_sipush h (v := nI 9999) dX8_tells_12 (by decide) ?_
    refine cw_S_e_3_i h (c_X8_within (g := g)) lk_X8_64 ⟨rfl, rfl, (Nat.le_of_ble_eq_true rfl), (Nat.le_of_ble_eq_true rfl)⟩ (Nat.le_of_ble_eq_true rfl) dX8_tells_15 ?_
    refine v_if_eqB h dX8_tells_18 (tgt := 32) (by decide) (fun c18 => ?_) (fun c18 => ?_)
    · have e18 := wi_no c18
      refine v_bipush h (v := -2) dX8_tells_32 (by decide) ?_
      exact v_iretP h hr dX8_tells_34 (P_X8_tells_mk (q := _) (by simp only [s_tells, e5, e18]) ) rfl
    · obtain ⟨j1, hj1a, hj1, rfl⟩ := wi_of c18 (by decide) (by decide)
      have e18 := rW_N hj1a hj1 (by decide)
      refine v_iload_n3 h dX8_tells_21 ?_
      refine v_iconst h (v := nI 1) dX8_tells_22 (by decide) ?_
      refine v_sipush h (v := nI 9999) dX8_tells_23 (by decide) ?_
      refine cw_S_e_3_i h (c_X8_within (g := g)) lk_X8_64 ⟨rfl, rfl, (Nat.le_of_ble_eq_true rfl), (Nat.le_of_ble_eq_true rfl)⟩ (Nat.le_of_ble_eq_true rfl) dX8_tells_26 ?_
      refine v_if_neB h dX8_tells_29 (tgt := 35) (by decide) (fun c29 => ?_) (fun c29 => ?_)
      · obtain ⟨j2, hj2a, hj2, rfl⟩ := wi_of c29 (by decide) (by decide)
        have e29 := rW_N hj2a hj2 (by decide)
        refine v_aload_n0 h dX8_tells_35 ?_
        refine v_iload_n1 h dX8_tells_36 ?_
        refine v_iload_n2 h dX8_tells_37 ?_
        refine v_iload_n3 h dX8_tells_38 ?_
        refine cw_V_0_1_2_3_4_5_6_7_8_9_10_11_12_13_14_15_16_3_i (ci := 7) h (c_X8_isTold (g := g) (by first | assumption | omega) (by first | assumption | omega) (by first | assumption | omega) (by first | assumption | omega)) lk_X8_113 ⟨rfl, rfl, (Nat.le_of_ble_eq_true rfl), (Nat.le_of_ble_eq_true rfl)⟩ rfl rfl rfl (Nat.le_of_ble_eq_true rfl) dX8_tells_39 ?_
        refine v_if_eqB h dX8_tells_42 (tgt := 49) (by decide) (fun c42 => ?_) (fun c42 => ?_)
        · refine v_iconst h (v := nI 0) dX8_tells_49 (by decide) ?_
          exact v_iretP h hr dX8_tells_50 (P_X8_tells_mk (q := _) (by simp only [s_tells, e5, e18, e29, c42, bN, if_true, Bool.false_eq_true, if_false]) ) rfl
        · refine v_iconst h (v := nI 1) dX8_tells_45 (by decide) ?_
          refine v_goto h dX8_tells_46 (tgt := 50) (by decide) ?_
          exact v_iretP h hr dX8_tells_50 (P_X8_tells_mk (q := _) (by simp only [s_tells, e5, e18, e29, c42, bN, if_true, Bool.false_eq_true, if_false]) ) rfl
      · have e29 := wi_no c29
        refine v_bipush h (v := -2) dX8_tells_32 (by decide) ?_
        exact v_iretP h hr dX8_tells_34 (P_X8_tells_mk (q := _) (by simp only [s_tells, e5, e18, e29]) ) rfl
  · have e5 := rN_f c5
    refine v_iconst h (v := -1) dX8_tells_8 (by decide) ?_
    exact v_iretP h hr dX8_tells_9 (P_X8_tells_mk (q := _) (by simp only [s_tells, e5]) ) rfl
set_option maxRecDepth 20000 in
set_option maxHeartbeats 2000000 in
theorem c_X8_tellsThem {g : vG} {m0 m1 m2 m3 m4 m5 m6 m7 m8 m9 m10 m11 m12 m13 m14 m15 m16 : Nat} {fl : Nat} {tr : Int32} {msrt : Nat → Int32} {len : Nat → Nat} {mc : Nat → Int32} {n : Nat} {w : Nat → Nat} {atp : Nat} {rt : Nat} {rwt : Nat → Nat} {hn : Nat} {kd : Nat → Nat} {pt : Nat → Nat} {far : Nat → Int32} {sn : Nat} {sb : Nat → Nat} {sf : Nat → Nat} {ss : Nat → Nat} {sw : Nat → Nat} {ways : Nat → Nat} {chain : Nat → Nat} {row : Nat → Nat} {best : Nat → Nat} {j : Nat} {xq : Nat} {yq : Nat} (hT : wfT n w) (hH : wfH hn kd pt) (hj : j < hn) (hx : xq < n) (hy : yq < n) : Ct g yX8_tellsThem cX8_tellsThem 4 (some .boolean) (rmOf 2 45) [(m0, .inr (7, [.int (nI fl), .int tr, .ref m1, .ref m2, .ref m3, .int (nI n), .ref m4, .int (nI atp), .int (nI rt), .ref m5, .int (nI hn), .ref m6, .ref m7, .ref m8, .int (nI sn), .ref m9, .ref m10, .ref m11, .ref m12, .ref m13, .ref m14, .ref m15, .ref m16])), (m1, .inl (gI g, 4, .inl msrt)), (m2, .inl (gI g, 4, .inl (fun z9 => nI (len z9)))), (m3, .inl (gI g, 160, .inl mc)), (m4, .inl (gI g, 8, .inl (fun z9 => nI (w z9)))), (m5, .inl (gI g, 8, .inl (fun z9 => nI (rwt z9)))), (m6, .inl (gI g, 6, .inl (fun z9 => nI (kd z9)))), (m7, .inl (gI g, 6, .inl (fun z9 => nI (pt z9)))), (m8, .inl (gI g, 8, .inl far)), (m9, .inl (gI g, 10, .inl (fun z9 => nI (sb z9)))), (m10, .inl (gI g, 10, .inl (fun z9 => nI (sf z9)))), (m11, .inl (gI g, 10, .inl (fun z9 => nI (ss z9)))), (m12, .inl (gI g, 10, .inl (fun z9 => nI (sw z9)))), (m13, .inl (gI g, 256, .inl (fun z9 => nI (ways z9)))), (m14, .inl (gI g, 8, .inl (fun z9 => nI (chain z9)))), (m15, .inl (gI g, 5, .inl (fun z9 => nI (row z9)))), (m16, .inl (gI g, 5, .inl (fun z9 => nI (best z9))))] [.ref m0, .int (nI j), .int (nI xq), .int (nI yq)] (some (.int (nI (bN (tls (kd j) (pt j) (w xq) (w yq)))))) [(m0, .inr (7, [.int (nI fl), .int tr, .ref m1, .ref m2, .ref m3, .int (nI n), .ref m4, .int (nI atp), .int (nI rt), .ref m5, .int (nI hn), .ref m6, .ref m7, .ref m8, .int (nI sn), .ref m9, .ref m10, .ref m11, .ref m12, .ref m13, .ref m14, .ref m15, .ref m16])), (m1, .inl (gI g, 4, .inl msrt)), (m2, .inl (gI g, 4, .inl (fun z9 => nI (len z9)))), (m3, .inl (gI g, 160, .inl mc)), (m4, .inl (gI g, 8, .inl (fun z9 => nI (w z9)))), (m5, .inl (gI g, 8, .inl (fun z9 => nI (rwt z9)))), (m6, .inl (gI g, 6, .inl (fun z9 => nI (kd z9)))), (m7, .inl (gI g, 6, .inl (fun z9 => nI (pt z9)))), (m8, .inl (gI g, 8, .inl far)), (m9, .inl (gI g, 10, .inl (fun z9 => nI (sb z9)))), (m10, .inl (gI g, 10, .inl (fun z9 => nI (sf z9)))), (m11, .inl (gI g, 10, .inl (fun z9 => nI (ss z9)))), (m12, .inl (gI g, 10, .inl (fun z9 => nI (sw z9)))), (m13, .inl (gI g, 256, .inl (fun z9 => nI (ways z9)))), (m14, .inl (gI g, 8, .inl (fun z9 => nI (chain z9)))), (m15, .inl (gI g, 5, .inl (fun z9 => nI (row z9)))), (m16, .inl (gI g, 5, .inl (fun z9 => nI (best z9))))] := by
  refine Ct.ofV RX8 rfl (by decide +kernel) rfl rfl rfl (Nat.le_of_ble_eq_true rfl) (List.forall_mem_cons.mpr ⟨rfl, (List.forall_mem_cons.mpr ⟨rfl, (List.forall_mem_cons.mpr ⟨rfl, (List.forall_mem_cons.mpr ⟨rfl, (fun _ h9 => absurd h9 List.not_mem_nil)⟩)⟩)⟩)⟩) (fun x h hr => ?_)
  show vM x 0 [some (.ref m0), some (.int (nI j)), some (.int (nI xq)), some (.int (nI yq))] [] [(m0, .inr (7, [.int (nI fl), .int tr, .ref m1, .ref m2, .ref m3, .int (nI n), .ref m4, .int (nI atp), .int (nI rt), .ref m5, .int (nI hn), .ref m6, .ref m7, .ref m8, .int (nI sn), .ref m9, .ref m10, .ref m11, .ref m12, .ref m13, .ref m14, .ref m15, .ref m16])), (m1, .inl (gI g, 4, .inl msrt)), (m2, .inl (gI g, 4, .inl (fun z9 => nI (len z9)))), (m3, .inl (gI g, 160, .inl mc)), (m4, .inl (gI g, 8, .inl (fun z9 => nI (w z9)))), (m5, .inl (gI g, 8, .inl (fun z9 => nI (rwt z9)))), (m6, .inl (gI g, 6, .inl (fun z9 => nI (kd z9)))), (m7, .inl (gI g, 6, .inl (fun z9 => nI (pt z9)))), (m8, .inl (gI g, 8, .inl far)), (m9, .inl (gI g, 10, .inl (fun z9 => nI (sb z9)))), (m10, .inl (gI g, 10, .inl (fun z9 => nI (sf z9)))), (m11, .inl (gI g, 10, .inl (fun z9 => nI (ss z9)))), (m12, .inl (gI g, 10, .inl (fun z9 => nI (sw z9)))), (m13, .inl (gI g, 256, .inl (fun z9 => nI (ways z9)))), (m14, .inl (gI g, 8, .inl (fun z9 => nI (chain z9)))), (m15, .inl (gI g, 5, .inl (fun z9 => nI (row z9)))), (m16, .inl (gI g, 5, .inl (fun z9 => nI (best z9))))]
  have ht1 := hT.1; have ht2 := hT.2.1; have ht3 := hT.2.2
  refine v_aload_n0 h dX8_tellsThem_0 ?_
  refine v_iload_n1 h dX8_tellsThem_1 ?_
  refine v_aload_n0 h dX8_tellsThem_2 ?_
  refine v_get h mw_X8 0 rfl rfl 6 (by decide) mf_X8_19 rfl dX8_tellsThem_3 ?_
  refine v_iload_n2 h dX8_tellsThem_6 ?_
  refine v_ialdN h 4 rfl (by omega) (Nat.le_of_ble_eq_true rfl) dX8_tellsThem_7 ?_
  refine v_aload_n0 h dX8_tellsThem_8 ?_
  refine v_get h mw_X8 0 rfl rfl 6 (by decide) mf_X8_19 rfl dX8_tellsThem_9 ?_
  refine v_iload_n3 h dX8_tellsThem_12 ?_
  refine v_ialdN h 4 rfl (by omega) (Nat.le_of_ble_eq_true rfl) dX8_tellsThem_13 ?_
  refine cw_V_0_1_2_3_4_5_6_7_8_9_10_11_12_13_14_15_16_3_i (ci := 7) h (c_X8_isTold (g := g) (by first | assumption | omega) (by first | assumption | omega) (by have := ht2 xq; omega) (by have := ht2 yq; omega)) lk_X8_113 ⟨rfl, rfl, (Nat.le_of_ble_eq_true rfl), (Nat.le_of_ble_eq_true rfl)⟩ rfl rfl rfl (Nat.le_of_ble_eq_true rfl) dX8_tellsThem_14 ?_
  exact v_zret h hr dX8_tellsThem_17 rfl rfl
set_option maxRecDepth 20000 in
set_option maxHeartbeats 2000000 in
theorem c_X8_areAlike {g : vG} {m0 m1 m2 m3 m4 m5 m6 m7 m8 m9 m10 m11 m12 m13 m14 m15 m16 : Nat} {fl : Nat} {tr : Int32} {msrt : Nat → Int32} {len : Nat → Nat} {mc : Nat → Int32} {n : Nat} {w : Nat → Nat} {atp : Nat} {rt : Nat} {rwt : Nat → Nat} {hn : Nat} {kd : Nat → Nat} {pt : Nat → Nat} {far : Nat → Int32} {sn : Nat} {sb : Nat → Nat} {sf : Nat → Nat} {ss : Nat → Nat} {sw : Nat → Nat} {ways : Nat → Nat} {chain : Nat → Nat} {row : Nat → Nat} {best : Nat → Nat} {j : Nat} {xq : Nat} {yq : Nat} (hT : wfT n w) (hH : wfH hn kd pt) (hj : j < hn) (hx : xq < n) (hy : yq < n) : Ct g yX8_areAlike cX8_areAlike 4 (some .boolean) (rmOf 3 68) [(m0, .inr (7, [.int (nI fl), .int tr, .ref m1, .ref m2, .ref m3, .int (nI n), .ref m4, .int (nI atp), .int (nI rt), .ref m5, .int (nI hn), .ref m6, .ref m7, .ref m8, .int (nI sn), .ref m9, .ref m10, .ref m11, .ref m12, .ref m13, .ref m14, .ref m15, .ref m16])), (m1, .inl (gI g, 4, .inl msrt)), (m2, .inl (gI g, 4, .inl (fun z9 => nI (len z9)))), (m3, .inl (gI g, 160, .inl mc)), (m4, .inl (gI g, 8, .inl (fun z9 => nI (w z9)))), (m5, .inl (gI g, 8, .inl (fun z9 => nI (rwt z9)))), (m6, .inl (gI g, 6, .inl (fun z9 => nI (kd z9)))), (m7, .inl (gI g, 6, .inl (fun z9 => nI (pt z9)))), (m8, .inl (gI g, 8, .inl far)), (m9, .inl (gI g, 10, .inl (fun z9 => nI (sb z9)))), (m10, .inl (gI g, 10, .inl (fun z9 => nI (sf z9)))), (m11, .inl (gI g, 10, .inl (fun z9 => nI (ss z9)))), (m12, .inl (gI g, 10, .inl (fun z9 => nI (sw z9)))), (m13, .inl (gI g, 256, .inl (fun z9 => nI (ways z9)))), (m14, .inl (gI g, 8, .inl (fun z9 => nI (chain z9)))), (m15, .inl (gI g, 5, .inl (fun z9 => nI (row z9)))), (m16, .inl (gI g, 5, .inl (fun z9 => nI (best z9))))] [.ref m0, .int (nI j), .int (nI xq), .int (nI yq)] (some (.int (nI (bN (alk (kd j) (pt j) (w xq) (w yq)))))) [(m0, .inr (7, [.int (nI fl), .int tr, .ref m1, .ref m2, .ref m3, .int (nI n), .ref m4, .int (nI atp), .int (nI rt), .ref m5, .int (nI hn), .ref m6, .ref m7, .ref m8, .int (nI sn), .ref m9, .ref m10, .ref m11, .ref m12, .ref m13, .ref m14, .ref m15, .ref m16])), (m1, .inl (gI g, 4, .inl msrt)), (m2, .inl (gI g, 4, .inl (fun z9 => nI (len z9)))), (m3, .inl (gI g, 160, .inl mc)), (m4, .inl (gI g, 8, .inl (fun z9 => nI (w z9)))), (m5, .inl (gI g, 8, .inl (fun z9 => nI (rwt z9)))), (m6, .inl (gI g, 6, .inl (fun z9 => nI (kd z9)))), (m7, .inl (gI g, 6, .inl (fun z9 => nI (pt z9)))), (m8, .inl (gI g, 8, .inl far)), (m9, .inl (gI g, 10, .inl (fun z9 => nI (sb z9)))), (m10, .inl (gI g, 10, .inl (fun z9 => nI (sf z9)))), (m11, .inl (gI g, 10, .inl (fun z9 => nI (ss z9)))), (m12, .inl (gI g, 10, .inl (fun z9 => nI (sw z9)))), (m13, .inl (gI g, 256, .inl (fun z9 => nI (ways z9)))), (m14, .inl (gI g, 8, .inl (fun z9 => nI (chain z9)))), (m15, .inl (gI g, 5, .inl (fun z9 => nI (row z9)))), (m16, .inl (gI g, 5, .inl (fun z9 => nI (best z9))))] := by
  refine Ct.ofV RX8 rfl (by decide +kernel) rfl rfl rfl (Nat.le_of_ble_eq_true rfl) (List.forall_mem_cons.mpr ⟨rfl, (List.forall_mem_cons.mpr ⟨rfl, (List.forall_mem_cons.mpr ⟨rfl, (List.forall_mem_cons.mpr ⟨rfl, (fun _ h9 => absurd h9 List.not_mem_nil)⟩)⟩)⟩)⟩) (fun x h hr => ?_)
  show vM x 0 [some (.ref m0), some (.int (nI j)), some (.int (nI xq)), some (.int (nI yq))] [] [(m0, .inr (7, [.int (nI fl), .int tr, .ref m1, .ref m2, .ref m3, .int (nI n), .ref m4, .int (nI atp), .int (nI rt), .ref m5, .int (nI hn), .ref m6, .ref m7, .ref m8, .int (nI sn), .ref m9, .ref m10, .ref m11, .ref m12, .ref m13, .ref m14, .ref m15, .ref m16])), (m1, .inl (gI g, 4, .inl msrt)), (m2, .inl (gI g, 4, .inl (fun z9 => nI (len z9)))), (m3, .inl (gI g, 160, .inl mc)), (m4, .inl (gI g, 8, .inl (fun z9 => nI (w z9)))), (m5, .inl (gI g, 8, .inl (fun z9 => nI (rwt z9)))), (m6, .inl (gI g, 6, .inl (fun z9 => nI (kd z9)))), (m7, .inl (gI g, 6, .inl (fun z9 => nI (pt z9)))), (m8, .inl (gI g, 8, .inl far)), (m9, .inl (gI g, 10, .inl (fun z9 => nI (sb z9)))), (m10, .inl (gI g, 10, .inl (fun z9 => nI (sf z9)))), (m11, .inl (gI g, 10, .inl (fun z9 => nI (ss z9)))), (m12, .inl (gI g, 10, .inl (fun z9 => nI (sw z9)))), (m13, .inl (gI g, 256, .inl (fun z9 => nI (ways z9)))), (m14, .inl (gI g, 8, .inl (fun z9 => nI (chain z9)))), (m15, .inl (gI g, 5, .inl (fun z9 => nI (row z9)))), (m16, .inl (gI g, 5, .inl (fun z9 => nI (best z9))))]
  refine v_aload_n0 h dX8_areAlike_0 ?_
  refine v_iload_n1 h dX8_areAlike_1 ?_
  refine v_iload_n2 h dX8_areAlike_2 ?_
  refine v_iload_n3 h dX8_areAlike_3 ?_
  refine cw_V_0_1_2_3_4_5_6_7_8_9_10_11_12_13_14_15_16_3_i (ci := 7) h (c_X8_tellsThem (g := g) (by first | assumption | omega) (by first | assumption | omega) (by first | assumption | omega) (by first | assumption | omega) (by first | assumption | omega)) lk_X8_116 ⟨rfl, rfl, (Nat.le_of_ble_eq_true rfl), (Nat.le_of_ble_eq_true rfl)⟩ rfl rfl rfl (Nat.le_of_ble_eq_true rfl) dX8_areAlike_4 ?_
  refine v_if_neB h dX8_areAlike_7 (tgt := 24) (by decide) (fun c7 => ?_) (fun c7 => ?_)
  · refine v_iconst h (v := nI 0) dX8_areAlike_24 (by decide) ?_
    exact v_zret (v := false) h hr dX8_areAlike_25 (by first | exact (alk_t c7 c17).symm | exact (alk_f1 c7).symm | exact (alk_f2 c17).symm) rfl
  · refine v_aload_n0 h dX8_areAlike_10 ?_
    refine v_iload_n1 h dX8_areAlike_11 ?_
    refine v_iload_n3 h dX8_areAlike_12 ?_
    refine v_iload_n2 h dX8_areAlike_13 ?_
    refine cw_V_0_1_2_3_4_5_6_7_8_9_10_11_12_13_14_15_16_3_i (ci := 7) h (c_X8_tellsThem (g := g) (by first | assumption | omega) (by first | assumption | omega) (by first | assumption | omega) (by first | assumption | omega) (by first | assumption | omega)) lk_X8_116 ⟨rfl, rfl, (Nat.le_of_ble_eq_true rfl), (Nat.le_of_ble_eq_true rfl)⟩ rfl rfl rfl (Nat.le_of_ble_eq_true rfl) dX8_areAlike_14 ?_
    refine v_if_neB h dX8_areAlike_17 (tgt := 24) (by decide) (fun c17 => ?_) (fun c17 => ?_)
    · refine v_iconst h (v := nI 0) dX8_areAlike_24 (by decide) ?_
      exact v_zret (v := false) h hr dX8_areAlike_25 (by first | exact (alk_t c7 c17).symm | exact (alk_f1 c7).symm | exact (alk_f2 c17).symm) rfl
    · refine v_iconst h (v := nI 1) dX8_areAlike_20 (by decide) ?_
      refine v_goto h dX8_areAlike_21 (tgt := 25) (by decide) ?_
      exact v_zret (v := true) h hr dX8_areAlike_25 (by first | exact (alk_t c7 c17).symm | exact (alk_f1 c7).symm | exact (alk_f2 c17).symm) rfl
set_option maxRecDepth 20000 in
set_option maxHeartbeats 2000000 in
theorem c_X8_alikeTo {g : vG} {m0 m1 m2 m3 m4 m5 m6 m7 m8 m9 m10 m11 m12 m13 m14 m15 m16 : Nat} {fl : Nat} {tr : Int32} {msrt : Nat → Int32} {len : Nat → Nat} {mc : Nat → Int32} {n : Nat} {w : Nat → Nat} {atp : Nat} {rt : Nat} {rwt : Nat → Nat} {hn : Nat} {kd : Nat → Nat} {pt : Nat → Nat} {far : Nat → Int32} {sn : Nat} {sb : Nat → Nat} {sf : Nat → Nat} {ss : Nat → Nat} {sw : Nat → Nat} {ways : Nat → Nat} {chain : Nat → Nat} {row : Nat → Nat} {best : Nat → Nat} {j : Nat} {xq : Nat} (hT : wfT n w) (hH : wfH hn kd pt) (hj : j < hn) (hx : xq < n) : Ct g yX8_alikeTo cX8_alikeTo 5 (some .int) (rmOf 4 91) [(m0, .inr (7, [.int (nI fl), .int tr, .ref m1, .ref m2, .ref m3, .int (nI n), .ref m4, .int (nI atp), .int (nI rt), .ref m5, .int (nI hn), .ref m6, .ref m7, .ref m8, .int (nI sn), .ref m9, .ref m10, .ref m11, .ref m12, .ref m13, .ref m14, .ref m15, .ref m16])), (m1, .inl (gI g, 4, .inl msrt)), (m2, .inl (gI g, 4, .inl (fun z9 => nI (len z9)))), (m3, .inl (gI g, 160, .inl mc)), (m4, .inl (gI g, 8, .inl (fun z9 => nI (w z9)))), (m5, .inl (gI g, 8, .inl (fun z9 => nI (rwt z9)))), (m6, .inl (gI g, 6, .inl (fun z9 => nI (kd z9)))), (m7, .inl (gI g, 6, .inl (fun z9 => nI (pt z9)))), (m8, .inl (gI g, 8, .inl far)), (m9, .inl (gI g, 10, .inl (fun z9 => nI (sb z9)))), (m10, .inl (gI g, 10, .inl (fun z9 => nI (sf z9)))), (m11, .inl (gI g, 10, .inl (fun z9 => nI (ss z9)))), (m12, .inl (gI g, 10, .inl (fun z9 => nI (sw z9)))), (m13, .inl (gI g, 256, .inl (fun z9 => nI (ways z9)))), (m14, .inl (gI g, 8, .inl (fun z9 => nI (chain z9)))), (m15, .inl (gI g, 5, .inl (fun z9 => nI (row z9)))), (m16, .inl (gI g, 5, .inl (fun z9 => nI (best z9))))] [.ref m0, .int (nI j), .int (nI xq)] (some (.int (nI (alkS (kd j) (pt j) w n xq)))) [(m0, .inr (7, [.int (nI fl), .int tr, .ref m1, .ref m2, .ref m3, .int (nI n), .ref m4, .int (nI atp), .int (nI rt), .ref m5, .int (nI hn), .ref m6, .ref m7, .ref m8, .int (nI sn), .ref m9, .ref m10, .ref m11, .ref m12, .ref m13, .ref m14, .ref m15, .ref m16])), (m1, .inl (gI g, 4, .inl msrt)), (m2, .inl (gI g, 4, .inl (fun z9 => nI (len z9)))), (m3, .inl (gI g, 160, .inl mc)), (m4, .inl (gI g, 8, .inl (fun z9 => nI (w z9)))), (m5, .inl (gI g, 8, .inl (fun z9 => nI (rwt z9)))), (m6, .inl (gI g, 6, .inl (fun z9 => nI (kd z9)))), (m7, .inl (gI g, 6, .inl (fun z9 => nI (pt z9)))), (m8, .inl (gI g, 8, .inl far)), (m9, .inl (gI g, 10, .inl (fun z9 => nI (sb z9)))), (m10, .inl (gI g, 10, .inl (fun z9 => nI (sf z9)))), (m11, .inl (gI g, 10, .inl (fun z9 => nI (ss z9)))), (m12, .inl (gI g, 10, .inl (fun z9 => nI (sw z9)))), (m13, .inl (gI g, 256, .inl (fun z9 => nI (ways z9)))), (m14, .inl (gI g, 8, .inl (fun z9 => nI (chain z9)))), (m15, .inl (gI g, 5, .inl (fun z9 => nI (row z9)))), (m16, .inl (gI g, 5, .inl (fun z9 => nI (best z9))))] := by
  refine Ct.ofV RX8 rfl (by decide +kernel) rfl rfl rfl (Nat.le_of_ble_eq_true rfl) (List.forall_mem_cons.mpr ⟨rfl, (List.forall_mem_cons.mpr ⟨rfl, (List.forall_mem_cons.mpr ⟨rfl, (fun _ h9 => absurd h9 List.not_mem_nil)⟩)⟩)⟩) (fun x h hr => ?_)
  show vM x 0 [some (.ref m0), some (.int (nI j)), some (.int (nI xq)), none, none] [] [(m0, .inr (7, [.int (nI fl), .int tr, .ref m1, .ref m2, .ref m3, .int (nI n), .ref m4, .int (nI atp), .int (nI rt), .ref m5, .int (nI hn), .ref m6, .ref m7, .ref m8, .int (nI sn), .ref m9, .ref m10, .ref m11, .ref m12, .ref m13, .ref m14, .ref m15, .ref m16])), (m1, .inl (gI g, 4, .inl msrt)), (m2, .inl (gI g, 4, .inl (fun z9 => nI (len z9)))), (m3, .inl (gI g, 160, .inl mc)), (m4, .inl (gI g, 8, .inl (fun z9 => nI (w z9)))), (m5, .inl (gI g, 8, .inl (fun z9 => nI (rwt z9)))), (m6, .inl (gI g, 6, .inl (fun z9 => nI (kd z9)))), (m7, .inl (gI g, 6, .inl (fun z9 => nI (pt z9)))), (m8, .inl (gI g, 8, .inl far)), (m9, .inl (gI g, 10, .inl (fun z9 => nI (sb z9)))), (m10, .inl (gI g, 10, .inl (fun z9 => nI (sf z9)))), (m11, .inl (gI g, 10, .inl (fun z9 => nI (ss z9)))), (m12, .inl (gI g, 10, .inl (fun z9 => nI (sw z9)))), (m13, .inl (gI g, 256, .inl (fun z9 => nI (ways z9)))), (m14, .inl (gI g, 8, .inl (fun z9 => nI (chain z9)))), (m15, .inl (gI g, 5, .inl (fun z9 => nI (row z9)))), (m16, .inl (gI g, 5, .inl (fun z9 => nI (best z9))))]
  have ht1 := hT.1; have ht2 := hT.2.1; have ht3 := hT.2.2; have hh1 := hH.1; have hh2 := hH.2.1; have hh3 := hH.2.2.1; have hh4 := hH.2.2.2
  refine v_iconst h (v := nI 0) dX8_alikeTo_0 (by decide) ?_
  refine v_istore_n3 h (Nat.le_of_ble_eq_true rfl) dX8_alikeTo_1 ?_
  refine v_iconst h (v := nI 0) dX8_alikeTo_2 (by decide) ?_
  refine v_istore4 h (Nat.le_of_ble_eq_true rfl) dX8_alikeTo_3 ?_
  have L5 : ∀ (k5 : Nat) (i : Nat), n - i = k5 → (i ≤ n) → vM x 5 [some (.ref m0), some (.int (nI j)), some (.int (nI xq)), some (.int (nI (orTo (alkF (kd j) (pt j) w xq) i))), some (.int (nI i))] [] [(m0, .inr (7, [.int (nI fl), .int tr, .ref m1, .ref m2, .ref m3, .int (nI n), .ref m4, .int (nI atp), .int (nI rt), .ref m5, .int (nI hn), .ref m6, .ref m7, .ref m8, .int (nI sn), .ref m9, .ref m10, .ref m11, .ref m12, .ref m13, .ref m14, .ref m15, .ref m16])), (m1, .inl (gI g, 4, .inl msrt)), (m2, .inl (gI g, 4, .inl (fun z9 => nI (len z9)))), (m3, .inl (gI g, 160, .inl mc)), (m4, .inl (gI g, 8, .inl (fun z9 => nI (w z9)))), (m5, .inl (gI g, 8, .inl (fun z9 => nI (rwt z9)))), (m6, .inl (gI g, 6, .inl (fun z9 => nI (kd z9)))), (m7, .inl (gI g, 6, .inl (fun z9 => nI (pt z9)))), (m8, .inl (gI g, 8, .inl far)), (m9, .inl (gI g, 10, .inl (fun z9 => nI (sb z9)))), (m10, .inl (gI g, 10, .inl (fun z9 => nI (sf z9)))), (m11, .inl (gI g, 10, .inl (fun z9 => nI (ss z9)))), (m12, .inl (gI g, 10, .inl (fun z9 => nI (sw z9)))), (m13, .inl (gI g, 256, .inl (fun z9 => nI (ways z9)))), (m14, .inl (gI g, 8, .inl (fun z9 => nI (chain z9)))), (m15, .inl (gI g, 5, .inl (fun z9 => nI (row z9)))), (m16, .inl (gI g, 5, .inl (fun z9 => nI (best z9))))] := by
    intro k5
    induction k5 using Nat.strongRecOn with
    | _ k5 ih5 =>
      intro i hm5 hi
      refine v_iload4 h dX8_alikeTo_5 ?_
      refine v_aload_n0 h dX8_alikeTo_7 ?_
      refine v_get h mw_X8 0 rfl rfl 5 (by decide) mf_X8_68 rfl dX8_alikeTo_8 ?_
      refine v_icmp_geN h dX8_alikeTo_11 (tgt := 42) (by decide) (by omega) (by omega) (fun c11 => ?_) (fun c11 => ?_)
      · refine v_iload_n3 h dX8_alikeTo_42 ?_
        exact v_iret h hr dX8_alikeTo_43 (by rw [show i = n by omega]; rfl) rfl
      · refine v_iload_n3 h dX8_alikeTo_14 ?_
        refine v_aload_n0 h dX8_alikeTo_15 ?_
        refine v_iload_n1 h dX8_alikeTo_16 ?_
        refine v_iload_n2 h dX8_alikeTo_17 ?_
        refine v_iload4 h dX8_alikeTo_18 ?_
        refine cw_V_0_1_2_3_4_5_6_7_8_9_10_11_12_13_14_15_16_3_i (ci := 7) h (c_X8_areAlike (g := g) (by first | assumption | omega) (by first | assumption | omega) (by first | assumption | omega) (by first | assumption | omega) (by first | assumption | omega)) lk_X8_119 ⟨rfl, rfl, (Nat.le_of_ble_eq_true rfl), (Nat.le_of_ble_eq_true rfl)⟩ rfl rfl rfl (Nat.le_of_ble_eq_true rfl) dX8_alikeTo_20 ?_
        refine v_if_eqB h dX8_alikeTo_23 (tgt := 33) (by decide) (fun c23 => ?_) (fun c23 => ?_)
        · refine v_iconst h (v := nI 0) dX8_alikeTo_33 (by decide) ?_
          refine v_iorN h dX8_alikeTo_34 ?_
          refine v_istore_n3 h (Nat.le_of_ble_eq_true rfl) dX8_alikeTo_35 ?_
          refine v_iincN4 h (Nat.le_of_ble_eq_true rfl) dX8_alikeTo_36 ?_
          refine v_goto h dX8_alikeTo_39 (tgt := 5) (by decide) ?_
          exact vM.fg (ih5 _ (by omega) (i + 1) rfl (by first | assumption | rfl | omega)) ⟨rfl, rfl, rfl, (by first | (rw [orTo, alkF_t c23]; done) | (rw [orTo, alkF_f c23]; done)), rfl, trivial⟩
        · refine v_iconst h (v := nI 1) dX8_alikeTo_26 (by decide) ?_
          refine v_iload4 h dX8_alikeTo_27 ?_
          refine v_ishlN h dX8_alikeTo_29 (by omega) ?_
          refine v_goto h dX8_alikeTo_30 (tgt := 34) (by decide) ?_
          refine v_iorN h dX8_alikeTo_34 ?_
          refine v_istore_n3 h (Nat.le_of_ble_eq_true rfl) dX8_alikeTo_35 ?_
          refine v_iincN4 h (Nat.le_of_ble_eq_true rfl) dX8_alikeTo_36 ?_
          refine v_goto h dX8_alikeTo_39 (tgt := 5) (by decide) ?_
          exact vM.fg (ih5 _ (by omega) (i + 1) rfl (by first | assumption | rfl | omega)) ⟨rfl, rfl, rfl, (by first | (rw [orTo, alkF_t c23]; done) | (rw [orTo, alkF_f c23]; done)), rfl, trivial⟩
  exact vM.fg (L5 _ 0 rfl (by first | assumption | rfl | omega)) ⟨rfl, rfl, rfl, rfl, rfl, trivial⟩
def P_X8_alike (g : vG) (m0 m1 m2 m3 m4 m5 m6 m7 m8 m9 m10 m11 m12 m13 m14 m15 m16 : Nat) (fl : Nat) (tr : Int32) (msrt : Nat → Int32) (len : Nat → Nat) (mc : Nat → Int32) (n : Nat) (w : Nat → Nat) (atp : Nat) (rt : Nat) (rwt : Nat → Nat) (hn : Nat) (kd : Nat → Nat) (pt : Nat → Nat) (far : Nat → Int32) (sn : Nat) (sb : Nat → Nat) (sf : Nat → Nat) (ss : Nat → Nat) (sw : Nat → Nat) (ways : Nat → Nat) (chain : Nat → Nat) (row : Nat → Nat) (best : Nat → Nat) (p0 : Int32) (p1 : Int32) : Option Value → va_W → Prop := fun r wo => r = some (.int (s_alike n w hn kd pt p0 p1)) ∧ wo = [(m0, .inr (7, [.int (nI fl), .int tr, .ref m1, .ref m2, .ref m3, .int (nI n), .ref m4, .int (nI atp), .int (nI rt), .ref m5, .int (nI hn), .ref m6, .ref m7, .ref m8, .int (nI sn), .ref m9, .ref m10, .ref m11, .ref m12, .ref m13, .ref m14, .ref m15, .ref m16])), (m1, .inl (gI g, 4, .inl msrt)), (m2, .inl (gI g, 4, .inl (fun z9 => nI (len z9)))), (m3, .inl (gI g, 160, .inl mc)), (m4, .inl (gI g, 8, .inl (fun z9 => nI (w z9)))), (m5, .inl (gI g, 8, .inl (fun z9 => nI (rwt z9)))), (m6, .inl (gI g, 6, .inl (fun z9 => nI (kd z9)))), (m7, .inl (gI g, 6, .inl (fun z9 => nI (pt z9)))), (m8, .inl (gI g, 8, .inl far)), (m9, .inl (gI g, 10, .inl (fun z9 => nI (sb z9)))), (m10, .inl (gI g, 10, .inl (fun z9 => nI (sf z9)))), (m11, .inl (gI g, 10, .inl (fun z9 => nI (ss z9)))), (m12, .inl (gI g, 10, .inl (fun z9 => nI (sw z9)))), (m13, .inl (gI g, 256, .inl (fun z9 => nI (ways z9)))), (m14, .inl (gI g, 8, .inl (fun z9 => nI (chain z9)))), (m15, .inl (gI g, 5, .inl (fun z9 => nI (row z9)))), (m16, .inl (gI g, 5, .inl (fun z9 => nI (best z9))))]
theorem P_X8_alike_mk {g : vG} {m0 m1 m2 m3 m4 m5 m6 m7 m8 m9 m10 m11 m12 m13 m14 m15 m16 : Nat} {fl : Nat} {tr : Int32} {msrt : Nat → Int32} {len : Nat → Nat} {mc : Nat → Int32} {n : Nat} {w : Nat → Nat} {atp : Nat} {rt : Nat} {rwt : Nat → Nat} {hn : Nat} {kd : Nat → Nat} {pt : Nat → Nat} {far : Nat → Int32} {sn : Nat} {sb : Nat → Nat} {sf : Nat → Nat} {ss : Nat → Nat} {sw : Nat → Nat} {ways : Nat → Nat} {chain : Nat → Nat} {row : Nat → Nat} {best : Nat → Nat} {p0 : Int32} {p1 : Int32}  {q : Int32} (hs : s_alike n w hn kd pt p0 p1 = q)  : P_X8_alike g m0 m1 m2 m3 m4 m5 m6 m7 m8 m9 m10 m11 m12 m13 m14 m15 m16 fl tr msrt len mc n w atp rt rwt hn kd pt far sn sb sf ss sw ways chain row best p0 p1 (some (.int q)) [(m0, .inr (7, [.int (nI fl), .int tr, .ref m1, .ref m2, .ref m3, .int (nI n), .ref m4, .int (nI atp), .int (nI rt), .ref m5, .int (nI hn), .ref m6, .ref m7, .ref m8, .int (nI sn), .ref m9, .ref m10, .ref m11, .ref m12, .ref m13, .ref m14, .ref m15, .ref m16])), (m1, .inl (gI g, 4, .inl msrt)), (m2, .inl (gI g, 4, .inl (fun z9 => nI (len z9)))), (m3, .inl (gI g, 160, .inl mc)), (m4, .inl (gI g, 8, .inl (fun z9 => nI (w z9)))), (m5, .inl (gI g, 8, .inl (fun z9 => nI (rwt z9)))), (m6, .inl (gI g, 6, .inl (fun z9 => nI (kd z9)))), (m7, .inl (gI g, 6, .inl (fun z9 => nI (pt z9)))), (m8, .inl (gI g, 8, .inl far)), (m9, .inl (gI g, 10, .inl (fun z9 => nI (sb z9)))), (m10, .inl (gI g, 10, .inl (fun z9 => nI (sf z9)))), (m11, .inl (gI g, 10, .inl (fun z9 => nI (ss z9)))), (m12, .inl (gI g, 10, .inl (fun z9 => nI (sw z9)))), (m13, .inl (gI g, 256, .inl (fun z9 => nI (ways z9)))), (m14, .inl (gI g, 8, .inl (fun z9 => nI (chain z9)))), (m15, .inl (gI g, 5, .inl (fun z9 => nI (row z9)))), (m16, .inl (gI g, 5, .inl (fun z9 => nI (best z9))))] := by subst hs; exact ⟨rfl, rfl⟩
set_option maxRecDepth 20000 in
set_option maxHeartbeats 4000000 in
theorem c_X8_alike {g : vG} {m0 m1 m2 m3 m4 m5 m6 m7 m8 m9 m10 m11 m12 m13 m14 m15 m16 : Nat} {fl : Nat} {tr : Int32} {msrt : Nat → Int32} {len : Nat → Nat} {mc : Nat → Int32} {n : Nat} {w : Nat → Nat} {atp : Nat} {rt : Nat} {rwt : Nat → Nat} {hn : Nat} {kd : Nat → Nat} {pt : Nat → Nat} {far : Nat → Int32} {sn : Nat} {sb : Nat → Nat} {sf : Nat → Nat} {ss : Nat → Nat} {sw : Nat → Nat} {ways : Nat → Nat} {chain : Nat → Nat} {row : Nat → Nat} {best : Nat → Nat} {p0 : Int32} {p1 : Int32} (hT : wfT n w) (hH : wfH hn kd pt) : CtP g yX8_alike cX8_alike 3 (some .int) (rmOf 5 115) [(m0, .inr (7, [.int (nI fl), .int tr, .ref m1, .ref m2, .ref m3, .int (nI n), .ref m4, .int (nI atp), .int (nI rt), .ref m5, .int (nI hn), .ref m6, .ref m7, .ref m8, .int (nI sn), .ref m9, .ref m10, .ref m11, .ref m12, .ref m13, .ref m14, .ref m15, .ref m16])), (m1, .inl (gI g, 4, .inl msrt)), (m2, .inl (gI g, 4, .inl (fun z9 => nI (len z9)))), (m3, .inl (gI g, 160, .inl mc)), (m4, .inl (gI g, 8, .inl (fun z9 => nI (w z9)))), (m5, .inl (gI g, 8, .inl (fun z9 => nI (rwt z9)))), (m6, .inl (gI g, 6, .inl (fun z9 => nI (kd z9)))), (m7, .inl (gI g, 6, .inl (fun z9 => nI (pt z9)))), (m8, .inl (gI g, 8, .inl far)), (m9, .inl (gI g, 10, .inl (fun z9 => nI (sb z9)))), (m10, .inl (gI g, 10, .inl (fun z9 => nI (sf z9)))), (m11, .inl (gI g, 10, .inl (fun z9 => nI (ss z9)))), (m12, .inl (gI g, 10, .inl (fun z9 => nI (sw z9)))), (m13, .inl (gI g, 256, .inl (fun z9 => nI (ways z9)))), (m14, .inl (gI g, 8, .inl (fun z9 => nI (chain z9)))), (m15, .inl (gI g, 5, .inl (fun z9 => nI (row z9)))), (m16, .inl (gI g, 5, .inl (fun z9 => nI (best z9))))] [.ref m0, .int p0, .int p1] (P_X8_alike g m0 m1 m2 m3 m4 m5 m6 m7 m8 m9 m10 m11 m12 m13 m14 m15 m16 fl tr msrt len mc n w atp rt rwt hn kd pt far sn sb sf ss sw ways chain row best p0 p1) := by
  refine CtP.ofV RX8 rfl (by decide +kernel) rfl rfl (Nat.le_of_ble_eq_true rfl) (List.forall_mem_cons.mpr ⟨rfl, (List.forall_mem_cons.mpr ⟨rfl, (List.forall_mem_cons.mpr ⟨rfl, (fun _ h9 => absurd h9 List.not_mem_nil)⟩)⟩)⟩) (fun x h hr => ?_)
  show vM x 0 [some (.ref m0), some (.int p0), some (.int p1)] [] [(m0, .inr (7, [.int (nI fl), .int tr, .ref m1, .ref m2, .ref m3, .int (nI n), .ref m4, .int (nI atp), .int (nI rt), .ref m5, .int (nI hn), .ref m6, .ref m7, .ref m8, .int (nI sn), .ref m9, .ref m10, .ref m11, .ref m12, .ref m13, .ref m14, .ref m15, .ref m16])), (m1, .inl (gI g, 4, .inl msrt)), (m2, .inl (gI g, 4, .inl (fun z9 => nI (len z9)))), (m3, .inl (gI g, 160, .inl mc)), (m4, .inl (gI g, 8, .inl (fun z9 => nI (w z9)))), (m5, .inl (gI g, 8, .inl (fun z9 => nI (rwt z9)))), (m6, .inl (gI g, 6, .inl (fun z9 => nI (kd z9)))), (m7, .inl (gI g, 6, .inl (fun z9 => nI (pt z9)))), (m8, .inl (gI g, 8, .inl far)), (m9, .inl (gI g, 10, .inl (fun z9 => nI (sb z9)))), (m10, .inl (gI g, 10, .inl (fun z9 => nI (sf z9)))), (m11, .inl (gI g, 10, .inl (fun z9 => nI (ss z9)))), (m12, .inl (gI g, 10, .inl (fun z9 => nI (sw z9)))), (m13, .inl (gI g, 256, .inl (fun z9 => nI (ways z9)))), (m14, .inl (gI g, 8, .inl (fun z9 => nI (chain z9)))), (m15, .inl (gI g, 5, .inl (fun z9 => nI (row z9)))), (m16, .inl (gI g, 5, .inl (fun z9 => nI (best z9))))]
  have ht1 := hT.1; have ht2 := hT.2.1; have ht3 := hT.2.2; have hh1 := hH.1; have hh2 := hH.2.1; have hh3 := hH.2.2.1; have hh4 := hH.2.2.2
  refine v_aload_n0 h dX8_alike_0 ?_
  refine v_iload_n1 h dX8_alike_1 ?_
  refine cw_V_0_1_2_3_4_5_6_7_8_9_10_11_12_13_14_15_16_1_i (ci := 7) h (c_X8_isHand (g := g)) lk_X8_107 ⟨rfl, rfl, (Nat.le_of_ble_eq_true rfl), (Nat.le_of_ble_eq_true rfl)⟩ rfl rfl rfl (Nat.le_of_ble_eq_true rfl) dX8_alike_2 ?_
  refine v_if_eqB h dX8_alike_5 (tgt := 25) (by decide) (fun c5 => ?_) (fun c5 => ?_)
  · have e5 := rN_f c5
    refine v_iconst h (v := -1) dX8_alike_25 (by decide) ?_
    exact v_iretP h hr dX8_alike_26 (P_X8_alike_mk (q := _) (by simp only [s_alike, e5]) ) rfl
  · obtain ⟨j0, hj0, rfl⟩ := inR_of c5 (by omega)
    have e5 := rN_N hj0 (by omega)
    refine v_aload_n0 h dX8_alike_8 ?_
    refine v_iload_n2 h dX8_alike_9 ?_
    refine cw_V_0_1_2_3_4_5_6_7_8_9_10_11_12_13_14_15_16_1_i (ci := 7) h (c_X8_isThing (g := g)) lk_X8_101 ⟨rfl, rfl, (Nat.le_of_ble_eq_true rfl), (Nat.le_of_ble_eq_true rfl)⟩ rfl rfl rfl (Nat.le_of_ble_eq_true rfl) dX8_alike_10 ?_
    refine v_if_eqB h dX8_alike_13 (tgt := 25) (by decide) (fun c13 => ?_) (fun c13 => ?_)
    · have e13 := rN_f c13
      refine v_iconst h (v := -1) dX8_alike_25 (by decide) ?_
      exact v_iretP h hr dX8_alike_26 (P_X8_alike_mk (q := _) (by simp only [s_alike, e5, e13]) ) rfl
    · obtain ⟨j1, hj1, rfl⟩ := inR_of c13 (by omega)
      have e13 := rN_N hj1 (by omega)
      refine v_aload_n0 h dX8_alike_16 ?_
      refine v_iload_n1 h dX8_alike_17 ?_
      refine v_iload_n2 h dX8_alike_18 ?_
      refine cw_V_0_1_2_3_4_5_6_7_8_9_10_11_12_13_14_15_16_2_i (ci := 7) h (c_X8_alikeTo (g := g) (by first | assumption | omega) (by first | assumption | omega) (by first | assumption | omega) (by first | assumption | omega)) lk_X8_122 ⟨rfl, rfl, (Nat.le_of_ble_eq_true rfl), (Nat.le_of_ble_eq_true rfl)⟩ rfl rfl rfl (Nat.le_of_ble_eq_true rfl) dX8_alike_19 ?_
      refine v_goto h dX8_alike_22 (tgt := 26) (by decide) ?_
      exact v_iretP h hr dX8_alike_26 (P_X8_alike_mk (q := _) (by simp only [s_alike, e5, e13]) ) rfl
def P_X8_finer (g : vG) (m0 m1 m2 m3 m4 m5 m6 m7 m8 m9 m10 m11 m12 m13 m14 m15 m16 : Nat) (fl : Nat) (tr : Int32) (msrt : Nat → Int32) (len : Nat → Nat) (mc : Nat → Int32) (n : Nat) (w : Nat → Nat) (atp : Nat) (rt : Nat) (rwt : Nat → Nat) (hn : Nat) (kd : Nat → Nat) (pt : Nat → Nat) (far : Nat → Int32) (sn : Nat) (sb : Nat → Nat) (sf : Nat → Nat) (ss : Nat → Nat) (sw : Nat → Nat) (ways : Nat → Nat) (chain : Nat → Nat) (row : Nat → Nat) (best : Nat → Nat) (p0 : Int32) (p1 : Int32) : Option Value → va_W → Prop := fun r wo => r = some (.int (s_finer n w hn kd pt p0 p1)) ∧ wo = [(m0, .inr (7, [.int (nI fl), .int tr, .ref m1, .ref m2, .ref m3, .int (nI n), .ref m4, .int (nI atp), .int (nI rt), .ref m5, .int (nI hn), .ref m6, .ref m7, .ref m8, .int (nI sn), .ref m9, .ref m10, .ref m11, .ref m12, .ref m13, .ref m14, .ref m15, .ref m16])), (m1, .inl (gI g, 4, .inl msrt)), (m2, .inl (gI g, 4, .inl (fun z9 => nI (len z9)))), (m3, .inl (gI g, 160, .inl mc)), (m4, .inl (gI g, 8, .inl (fun z9 => nI (w z9)))), (m5, .inl (gI g, 8, .inl (fun z9 => nI (rwt z9)))), (m6, .inl (gI g, 6, .inl (fun z9 => nI (kd z9)))), (m7, .inl (gI g, 6, .inl (fun z9 => nI (pt z9)))), (m8, .inl (gI g, 8, .inl far)), (m9, .inl (gI g, 10, .inl (fun z9 => nI (sb z9)))), (m10, .inl (gI g, 10, .inl (fun z9 => nI (sf z9)))), (m11, .inl (gI g, 10, .inl (fun z9 => nI (ss z9)))), (m12, .inl (gI g, 10, .inl (fun z9 => nI (sw z9)))), (m13, .inl (gI g, 256, .inl (fun z9 => nI (ways z9)))), (m14, .inl (gI g, 8, .inl (fun z9 => nI (chain z9)))), (m15, .inl (gI g, 5, .inl (fun z9 => nI (row z9)))), (m16, .inl (gI g, 5, .inl (fun z9 => nI (best z9))))]
theorem P_X8_finer_mk {g : vG} {m0 m1 m2 m3 m4 m5 m6 m7 m8 m9 m10 m11 m12 m13 m14 m15 m16 : Nat} {fl : Nat} {tr : Int32} {msrt : Nat → Int32} {len : Nat → Nat} {mc : Nat → Int32} {n : Nat} {w : Nat → Nat} {atp : Nat} {rt : Nat} {rwt : Nat → Nat} {hn : Nat} {kd : Nat → Nat} {pt : Nat → Nat} {far : Nat → Int32} {sn : Nat} {sb : Nat → Nat} {sf : Nat → Nat} {ss : Nat → Nat} {sw : Nat → Nat} {ways : Nat → Nat} {chain : Nat → Nat} {row : Nat → Nat} {best : Nat → Nat} {p0 : Int32} {p1 : Int32}  {q : Int32} (hs : s_finer n w hn kd pt p0 p1 = q)  : P_X8_finer g m0 m1 m2 m3 m4 m5 m6 m7 m8 m9 m10 m11 m12 m13 m14 m15 m16 fl tr msrt len mc n w atp rt rwt hn kd pt far sn sb sf ss sw ways chain row best p0 p1 (some (.int q)) [(m0, .inr (7, [.int (nI fl), .int tr, .ref m1, .ref m2, .ref m3, .int (nI n), .ref m4, .int (nI atp), .int (nI rt), .ref m5, .int (nI hn), .ref m6, .ref m7, .ref m8, .int (nI sn), .ref m9, .ref m10, .ref m11, .ref m12, .ref m13, .ref m14, .ref m15, .ref m16])), (m1, .inl (gI g, 4, .inl msrt)), (m2, .inl (gI g, 4, .inl (fun z9 => nI (len z9)))), (m3, .inl (gI g, 160, .inl mc)), (m4, .inl (gI g, 8, .inl (fun z9 => nI (w z9)))), (m5, .inl (gI g, 8, .inl (fun z9 => nI (rwt z9)))), (m6, .inl (gI g, 6, .inl (fun z9 => nI (kd z9)))), (m7, .inl (gI g, 6, .inl (fun z9 => nI (pt z9)))), (m8, .inl (gI g, 8, .inl far)), (m9, .inl (gI g, 10, .inl (fun z9 => nI (sb z9)))), (m10, .inl (gI g, 10, .inl (fun z9 => nI (sf z9)))), (m11, .inl (gI g, 10, .inl (fun z9 => nI (ss z9)))), (m12, .inl (gI g, 10, .inl (fun z9 => nI (sw z9)))), (m13, .inl (gI g, 256, .inl (fun z9 => nI (ways z9)))), (m14, .inl (gI g, 8, .inl (fun z9 => nI (chain z9)))), (m15, .inl (gI g, 5, .inl (fun z9 => nI (row z9)))), (m16, .inl (gI g, 5, .inl (fun z9 => nI (best z9))))] := by subst hs; exact ⟨rfl, rfl⟩
set_option maxRecDepth 20000 in
set_option maxHeartbeats 4000000 in
theorem c_X8_finer {g : vG} {m0 m1 m2 m3 m4 m5 m6 m7 m8 m9 m10 m11 m12 m13 m14 m15 m16 : Nat} {fl : Nat} {tr : Int32} {msrt : Nat → Int32} {len : Nat → Nat} {mc : Nat → Int32} {n : Nat} {w : Nat → Nat} {atp : Nat} {rt : Nat} {rwt : Nat → Nat} {hn : Nat} {kd : Nat → Nat} {pt : Nat → Nat} {far : Nat → Int32} {sn : Nat} {sb : Nat → Nat} {sf : Nat → Nat} {ss : Nat → Nat} {sw : Nat → Nat} {ways : Nat → Nat} {chain : Nat → Nat} {row : Nat → Nat} {best : Nat → Nat} {p0 : Int32} {p1 : Int32} (hT : wfT n w) (hH : wfH hn kd pt) : CtP g yX8_finer cX8_finer 7 (some .int) (rmOf 3 68) [(m0, .inr (7, [.int (nI fl), .int tr, .ref m1, .ref m2, .ref m3, .int (nI n), .ref m4, .int (nI atp), .int (nI rt), .ref m5, .int (nI hn), .ref m6, .ref m7, .ref m8, .int (nI sn), .ref m9, .ref m10, .ref m11, .ref m12, .ref m13, .ref m14, .ref m15, .ref m16])), (m1, .inl (gI g, 4, .inl msrt)), (m2, .inl (gI g, 4, .inl (fun z9 => nI (len z9)))), (m3, .inl (gI g, 160, .inl mc)), (m4, .inl (gI g, 8, .inl (fun z9 => nI (w z9)))), (m5, .inl (gI g, 8, .inl (fun z9 => nI (rwt z9)))), (m6, .inl (gI g, 6, .inl (fun z9 => nI (kd z9)))), (m7, .inl (gI g, 6, .inl (fun z9 => nI (pt z9)))), (m8, .inl (gI g, 8, .inl far)), (m9, .inl (gI g, 10, .inl (fun z9 => nI (sb z9)))), (m10, .inl (gI g, 10, .inl (fun z9 => nI (sf z9)))), (m11, .inl (gI g, 10, .inl (fun z9 => nI (ss z9)))), (m12, .inl (gI g, 10, .inl (fun z9 => nI (sw z9)))), (m13, .inl (gI g, 256, .inl (fun z9 => nI (ways z9)))), (m14, .inl (gI g, 8, .inl (fun z9 => nI (chain z9)))), (m15, .inl (gI g, 5, .inl (fun z9 => nI (row z9)))), (m16, .inl (gI g, 5, .inl (fun z9 => nI (best z9))))] [.ref m0, .int p0, .int p1] (P_X8_finer g m0 m1 m2 m3 m4 m5 m6 m7 m8 m9 m10 m11 m12 m13 m14 m15 m16 fl tr msrt len mc n w atp rt rwt hn kd pt far sn sb sf ss sw ways chain row best p0 p1) := by
  refine CtP.ofV RX8 rfl (by decide +kernel) rfl rfl (Nat.le_of_ble_eq_true rfl) (List.forall_mem_cons.mpr ⟨rfl, (List.forall_mem_cons.mpr ⟨rfl, (List.forall_mem_cons.mpr ⟨rfl, (fun _ h9 => absurd h9 List.not_mem_nil)⟩)⟩)⟩) (fun x h hr => ?_)
  show vM x 0 [some (.ref m0), some (.int p0), some (.int p1), none, none, none, none] [] [(m0, .inr (7, [.int (nI fl), .int tr, .ref m1, .ref m2, .ref m3, .int (nI n), .ref m4, .int (nI atp), .int (nI rt), .ref m5, .int (nI hn), .ref m6, .ref m7, .ref m8, .int (nI sn), .ref m9, .ref m10, .ref m11, .ref m12, .ref m13, .ref m14, .ref m15, .ref m16])), (m1, .inl (gI g, 4, .inl msrt)), (m2, .inl (gI g, 4, .inl (fun z9 => nI (len z9)))), (m3, .inl (gI g, 160, .inl mc)), (m4, .inl (gI g, 8, .inl (fun z9 => nI (w z9)))), (m5, .inl (gI g, 8, .inl (fun z9 => nI (rwt z9)))), (m6, .inl (gI g, 6, .inl (fun z9 => nI (kd z9)))), (m7, .inl (gI g, 6, .inl (fun z9 => nI (pt z9)))), (m8, .inl (gI g, 8, .inl far)), (m9, .inl (gI g, 10, .inl (fun z9 => nI (sb z9)))), (m10, .inl (gI g, 10, .inl (fun z9 => nI (sf z9)))), (m11, .inl (gI g, 10, .inl (fun z9 => nI (ss z9)))), (m12, .inl (gI g, 10, .inl (fun z9 => nI (sw z9)))), (m13, .inl (gI g, 256, .inl (fun z9 => nI (ways z9)))), (m14, .inl (gI g, 8, .inl (fun z9 => nI (chain z9)))), (m15, .inl (gI g, 5, .inl (fun z9 => nI (row z9)))), (m16, .inl (gI g, 5, .inl (fun z9 => nI (best z9))))]
  have ht1 := hT.1; have ht2 := hT.2.1; have ht3 := hT.2.2; have hh1 := hH.1; have hh2 := hH.2.1; have hh3 := hH.2.2.1; have hh4 := hH.2.2.2
  refine v_aload_n0 h dX8_finer_0 ?_
  refine v_iload_n1 h dX8_finer_1 ?_
  refine cw_V_0_1_2_3_4_5_6_7_8_9_10_11_12_13_14_15_16_1_i (ci := 7) h (c_X8_isHand (g := g)) lk_X8_107 ⟨rfl, rfl, (Nat.le_of_ble_eq_true rfl), (Nat.le_of_ble_eq_true rfl)⟩ rfl rfl rfl (Nat.le_of_ble_eq_true rfl) dX8_finer_2 ?_
  refine v_if_eqB h dX8_finer_5 (tgt := 16) (by decide) (fun c5 => ?_) (fun c5 => ?_)
  · have e5 := rN_f c5
    refine v_iconst h (v := -1) dX8_finer_16 (by decide) ?_
    exact v_iretP h hr dX8_finer_17 (P_X8_finer_mk (q := _) (by simp only [s_finer, e5]) ) rfl
  · obtain ⟨j0, hj0, rfl⟩ := inR_of c5 (by omega)
    have e5 := rN_N hj0 (by omega)
    refine v_aload_n0 h dX8_finer_8 ?_
    refine v_iload_n2 h dX8_finer_9 ?_
    refine cw_V_0_1_2_3_4_5_6_7_8_9_10_11_12_13_14_15_16_1_i (ci := 7) h (c_X8_isHand (g := g)) lk_X8_107 ⟨rfl, rfl, (Nat.le_of_ble_eq_true rfl), (Nat.le_of_ble_eq_true rfl)⟩ rfl rfl rfl (Nat.le_of_ble_eq_true rfl) dX8_finer_10 ?_
    refine v_if_neB h dX8_finer_13 (tgt := 18) (by decide) (fun c13 => ?_) (fun c13 => ?_)
    · obtain ⟨j1, hj1, rfl⟩ := inR_of c13 (by omega)
      have e13 := rN_N hj1 (by omega)
      refine v_iconst h (v := nI 1) dX8_finer_18 (by decide) ?_
      refine v_istore_n3 h (Nat.le_of_ble_eq_true rfl) dX8_finer_19 ?_
      refine v_iconst h (v := nI 0) dX8_finer_20 (by decide) ?_
      refine v_istore4 h (Nat.le_of_ble_eq_true rfl) dX8_finer_21 ?_
      refine v_iconst h (v := nI 0) dX8_finer_23 (by decide) ?_
      refine v_istore5 h (Nat.le_of_ble_eq_true rfl) dX8_finer_24 ?_
      have L26 : ∀ (k26 : Nat) (x1 : Nat), n - x1 = k26 → (x1 ≤ n) → vM x 26 [some (.ref m0), some (.int (nI j0)), some (.int (nI j1)), some (.int (nI (bN (allTo (fiA (fun x y => tls (kd j0) (pt j0) (w x) (w y)) (fun x y => tls (kd j1) (pt j1) (w x) (w y)) n) x1)))), some (.int (nI (bN (!allTo (fiB (fun x y => tls (kd j0) (pt j0) (w x) (w y)) (fun x y => tls (kd j1) (pt j1) (w x) (w y)) n) x1)))), some (.int (nI x1)), none] [] [(m0, .inr (7, [.int (nI fl), .int tr, .ref m1, .ref m2, .ref m3, .int (nI n), .ref m4, .int (nI atp), .int (nI rt), .ref m5, .int (nI hn), .ref m6, .ref m7, .ref m8, .int (nI sn), .ref m9, .ref m10, .ref m11, .ref m12, .ref m13, .ref m14, .ref m15, .ref m16])), (m1, .inl (gI g, 4, .inl msrt)), (m2, .inl (gI g, 4, .inl (fun z9 => nI (len z9)))), (m3, .inl (gI g, 160, .inl mc)), (m4, .inl (gI g, 8, .inl (fun z9 => nI (w z9)))), (m5, .inl (gI g, 8, .inl (fun z9 => nI (rwt z9)))), (m6, .inl (gI g, 6, .inl (fun z9 => nI (kd z9)))), (m7, .inl (gI g, 6, .inl (fun z9 => nI (pt z9)))), (m8, .inl (gI g, 8, .inl far)), (m9, .inl (gI g, 10, .inl (fun z9 => nI (sb z9)))), (m10, .inl (gI g, 10, .inl (fun z9 => nI (sf z9)))), (m11, .inl (gI g, 10, .inl (fun z9 => nI (ss z9)))), (m12, .inl (gI g, 10, .inl (fun z9 => nI (sw z9)))), (m13, .inl (gI g, 256, .inl (fun z9 => nI (ways z9)))), (m14, .inl (gI g, 8, .inl (fun z9 => nI (chain z9)))), (m15, .inl (gI g, 5, .inl (fun z9 => nI (row z9)))), (m16, .inl (gI g, 5, .inl (fun z9 => nI (best z9))))] := by
        intro k26
        induction k26 using Nat.strongRecOn with
        | _ k26 ih26 =>
          intro x1 hm26 hx1
          refine v_iload5 h dX8_finer_26 ?_
          refine v_aload_n0 h dX8_finer_28 ?_
          refine v_get h mw_X8 0 rfl rfl 5 (by decide) mf_X8_68 rfl dX8_finer_29 ?_
          refine v_icmp_geN h dX8_finer_32 (tgt := 129) (by decide) (by omega) (by omega) (fun c32 => ?_) (fun c32 => ?_)
          · obtain rfl : x1 = n := by omega
            refine v_iload_n3 h dX8_finer_129 ?_
            refine v_if_eqB h dX8_finer_130 (tgt := 142) (by decide) (fun c130 => ?_) (fun c130 => ?_)
            · refine v_iconst h (v := nI 0) dX8_finer_142 (by decide) ?_
              exact v_iretP h hr dX8_finer_143 (P_X8_finer_mk (q := _) (by simp only [s_finer, e5, e13]; rw [← fin_eq]; first | (rw [c130, c135]; rfl) | (rw [c130]; rfl)) ) rfl
            · refine v_iload4 h dX8_finer_133 ?_
              refine v_if_eqB h dX8_finer_135 (tgt := 142) (by decide) (fun c135 => ?_) (fun c135 => ?_)
              · refine v_iconst h (v := nI 0) dX8_finer_142 (by decide) ?_
                exact v_iretP h hr dX8_finer_143 (P_X8_finer_mk (q := _) (by simp only [s_finer, e5, e13]; rw [← fin_eq]; first | (rw [c130, c135]; rfl) | (rw [c130]; rfl)) ) rfl
              · refine v_iconst h (v := nI 1) dX8_finer_138 (by decide) ?_
                refine v_goto h dX8_finer_139 (tgt := 143) (by decide) ?_
                exact v_iretP h hr dX8_finer_143 (P_X8_finer_mk (q := _) (by simp only [s_finer, e5, e13]; rw [← fin_eq]; first | (rw [c130, c135]; rfl) | (rw [c130]; rfl)) ) rfl
          · refine v_iconst h (v := nI 0) dX8_finer_35 (by decide) ?_
            refine v_istore6 h (Nat.le_of_ble_eq_true rfl) dX8_finer_36 ?_
            have L38 : ∀ (k38 : Nat) (y1 : Nat), n - y1 = k38 → (y1 ≤ n) → vM x 38 [some (.ref m0), some (.int (nI j0)), some (.int (nI j1)), some (.int (nI (bN (allTo (fiA (fun x y => tls (kd j0) (pt j0) (w x) (w y)) (fun x y => tls (kd j1) (pt j1) (w x) (w y)) n) x1 && allTo (fun y => (fun x y => tls (kd j0) (pt j0) (w x) (w y)) x1 y || !(fun x y => tls (kd j1) (pt j1) (w x) (w y)) x1 y) y1)))), some (.int (nI (bN (!(allTo (fiB (fun x y => tls (kd j0) (pt j0) (w x) (w y)) (fun x y => tls (kd j1) (pt j1) (w x) (w y)) n) x1 && allTo (fun y => !((fun x y => tls (kd j0) (pt j0) (w x) (w y)) x1 y && !(fun x y => tls (kd j1) (pt j1) (w x) (w y)) x1 y)) y1))))), some (.int (nI x1)), some (.int (nI y1))] [] [(m0, .inr (7, [.int (nI fl), .int tr, .ref m1, .ref m2, .ref m3, .int (nI n), .ref m4, .int (nI atp), .int (nI rt), .ref m5, .int (nI hn), .ref m6, .ref m7, .ref m8, .int (nI sn), .ref m9, .ref m10, .ref m11, .ref m12, .ref m13, .ref m14, .ref m15, .ref m16])), (m1, .inl (gI g, 4, .inl msrt)), (m2, .inl (gI g, 4, .inl (fun z9 => nI (len z9)))), (m3, .inl (gI g, 160, .inl mc)), (m4, .inl (gI g, 8, .inl (fun z9 => nI (w z9)))), (m5, .inl (gI g, 8, .inl (fun z9 => nI (rwt z9)))), (m6, .inl (gI g, 6, .inl (fun z9 => nI (kd z9)))), (m7, .inl (gI g, 6, .inl (fun z9 => nI (pt z9)))), (m8, .inl (gI g, 8, .inl far)), (m9, .inl (gI g, 10, .inl (fun z9 => nI (sb z9)))), (m10, .inl (gI g, 10, .inl (fun z9 => nI (sf z9)))), (m11, .inl (gI g, 10, .inl (fun z9 => nI (ss z9)))), (m12, .inl (gI g, 10, .inl (fun z9 => nI (sw z9)))), (m13, .inl (gI g, 256, .inl (fun z9 => nI (ways z9)))), (m14, .inl (gI g, 8, .inl (fun z9 => nI (chain z9)))), (m15, .inl (gI g, 5, .inl (fun z9 => nI (row z9)))), (m16, .inl (gI g, 5, .inl (fun z9 => nI (best z9))))] := by
              intro k38
              induction k38 using Nat.strongRecOn with
              | _ k38 ih38 =>
                intro y1 hm38 hy1
                refine v_iload6 h dX8_finer_38 ?_
                refine v_aload_n0 h dX8_finer_40 ?_
                refine v_get h mw_X8 0 rfl rfl 5 (by decide) mf_X8_68 rfl dX8_finer_41 ?_
                refine v_icmp_geN h dX8_finer_44 (tgt := 123) (by decide) (by omega) (by omega) (fun c44 => ?_) (fun c44 => ?_)
                · obtain rfl : y1 = n := by omega
                  refine v_iincN5 h (Nat.le_of_ble_eq_true rfl) dX8_finer_123 ?_
                  refine v_goto h dX8_finer_126 (tgt := 26) (by decide) ?_
                  exact vM.fg (ih26 _ (by omega) (x1 + 1) rfl (by first | assumption | rfl | omega)) ⟨rfl, rfl, rfl, rfl, rfl, rfl, trivial⟩
                · refine v_iload_n3 h dX8_finer_47 ?_
                  refine v_if_eqB h dX8_finer_48 (tgt := 79) (by decide) (fun c48 => ?_) (fun c48 => ?_)
                  · refine v_iconst h (v := nI 0) dX8_finer_79 (by decide) ?_
                    refine v_istore_n3 h (Nat.le_of_ble_eq_true rfl) dX8_finer_80 ?_
                    refine v_iload4 h dX8_finer_81 ?_
                    refine v_if_neB h dX8_finer_83 (tgt := 110) (by decide) (fun c83 => ?_) (fun c83 => ?_)
                    · refine v_iconst h (v := nI 1) dX8_finer_110 (by decide) ?_
                      refine v_goto h dX8_finer_111 (tgt := 115) (by decide) ?_
                      refine v_istore4 h (Nat.le_of_ble_eq_true rfl) dX8_finer_115 ?_
                      refine v_iincN6 h (Nat.le_of_ble_eq_true rfl) dX8_finer_117 ?_
                      refine v_goto h dX8_finer_120 (tgt := 38) (by decide) ?_
                      exact vM.fg (ih38 _ (by omega) (y1 + 1) rfl (by first | assumption | rfl | omega)) ⟨rfl, rfl, rfl, (by rw [allTo, ← Bool.and_assoc, c48]; first | (simp [bN]; done) | (simp [bN, c60]; done) | (simp [bN, c60, c72]; done)), (by rw [allTo, ← Bool.and_assoc]; (first | rw [bnot_t c83] | rw [bnot_f c83]); first | (simp [bN]; done) | (simp [bN, c95]; done) | (simp [bN, c95, c107]; done)), rfl, rfl, trivial⟩
                    · refine v_aload_n0 h dX8_finer_86 ?_
                      refine v_iload_n1 h dX8_finer_87 ?_
                      refine v_iload5 h dX8_finer_88 ?_
                      refine v_iload6 h dX8_finer_90 ?_
                      refine cw_V_0_1_2_3_4_5_6_7_8_9_10_11_12_13_14_15_16_3_i (ci := 7) h (c_X8_tellsThem (g := g) (by first | assumption | omega) (by first | assumption | omega) (by first | assumption | omega) (by first | assumption | omega) (by first | assumption | omega)) lk_X8_116 ⟨rfl, rfl, (Nat.le_of_ble_eq_true rfl), (Nat.le_of_ble_eq_true rfl)⟩ rfl rfl rfl (Nat.le_of_ble_eq_true rfl) dX8_finer_92 ?_
                      refine v_if_eqB h dX8_finer_95 (tgt := 114) (by decide) (fun c95 => ?_) (fun c95 => ?_)
                      · refine v_iconst h (v := nI 0) dX8_finer_114 (by decide) ?_
                        refine v_istore4 h (Nat.le_of_ble_eq_true rfl) dX8_finer_115 ?_
                        refine v_iincN6 h (Nat.le_of_ble_eq_true rfl) dX8_finer_117 ?_
                        refine v_goto h dX8_finer_120 (tgt := 38) (by decide) ?_
                        exact vM.fg (ih38 _ (by omega) (y1 + 1) rfl (by first | assumption | rfl | omega)) ⟨rfl, rfl, rfl, (by rw [allTo, ← Bool.and_assoc, c48]; first | (simp [bN]; done) | (simp [bN, c60]; done) | (simp [bN, c60, c72]; done)), (by rw [allTo, ← Bool.and_assoc]; (first | rw [bnot_t c83] | rw [bnot_f c83]); first | (simp [bN]; done) | (simp [bN, c95]; done) | (simp [bN, c95, c107]; done)), rfl, rfl, trivial⟩
                      · refine v_aload_n0 h dX8_finer_98 ?_
                        refine v_iload_n2 h dX8_finer_99 ?_
                        refine v_iload5 h dX8_finer_100 ?_
                        refine v_iload6 h dX8_finer_102 ?_
                        refine cw_V_0_1_2_3_4_5_6_7_8_9_10_11_12_13_14_15_16_3_i (ci := 7) h (c_X8_tellsThem (g := g) (by first | assumption | omega) (by first | assumption | omega) (by first | assumption | omega) (by first | assumption | omega) (by first | assumption | omega)) lk_X8_116 ⟨rfl, rfl, (Nat.le_of_ble_eq_true rfl), (Nat.le_of_ble_eq_true rfl)⟩ rfl rfl rfl (Nat.le_of_ble_eq_true rfl) dX8_finer_104 ?_
                        refine v_if_neB h dX8_finer_107 (tgt := 114) (by decide) (fun c107 => ?_) (fun c107 => ?_)
                        · refine v_iconst h (v := nI 0) dX8_finer_114 (by decide) ?_
                          refine v_istore4 h (Nat.le_of_ble_eq_true rfl) dX8_finer_115 ?_
                          refine v_iincN6 h (Nat.le_of_ble_eq_true rfl) dX8_finer_117 ?_
                          refine v_goto h dX8_finer_120 (tgt := 38) (by decide) ?_
                          exact vM.fg (ih38 _ (by omega) (y1 + 1) rfl (by first | assumption | rfl | omega)) ⟨rfl, rfl, rfl, (by rw [allTo, ← Bool.and_assoc, c48]; first | (simp [bN]; done) | (simp [bN, c60]; done) | (simp [bN, c60, c72]; done)), (by rw [allTo, ← Bool.and_assoc]; (first | rw [bnot_t c83] | rw [bnot_f c83]); first | (simp [bN]; done) | (simp [bN, c95]; done) | (simp [bN, c95, c107]; done)), rfl, rfl, trivial⟩
                        · refine v_iconst h (v := nI 1) dX8_finer_110 (by decide) ?_
                          refine v_goto h dX8_finer_111 (tgt := 115) (by decide) ?_
                          refine v_istore4 h (Nat.le_of_ble_eq_true rfl) dX8_finer_115 ?_
                          refine v_iincN6 h (Nat.le_of_ble_eq_true rfl) dX8_finer_117 ?_
                          refine v_goto h dX8_finer_120 (tgt := 38) (by decide) ?_
                          exact vM.fg (ih38 _ (by omega) (y1 + 1) rfl (by first | assumption | rfl | omega)) ⟨rfl, rfl, rfl, (by rw [allTo, ← Bool.and_assoc, c48]; first | (simp [bN]; done) | (simp [bN, c60]; done) | (simp [bN, c60, c72]; done)), (by rw [allTo, ← Bool.and_assoc]; (first | rw [bnot_t c83] | rw [bnot_f c83]); first | (simp [bN]; done) | (simp [bN, c95]; done) | (simp [bN, c95, c107]; done)), rfl, rfl, trivial⟩
                  · refine v_aload_n0 h dX8_finer_51 ?_
                    refine v_iload_n1 h dX8_finer_52 ?_
                    refine v_iload5 h dX8_finer_53 ?_
                    refine v_iload6 h dX8_finer_55 ?_
                    refine cw_V_0_1_2_3_4_5_6_7_8_9_10_11_12_13_14_15_16_3_i (ci := 7) h (c_X8_tellsThem (g := g) (by first | assumption | omega) (by first | assumption | omega) (by first | assumption | omega) (by first | assumption | omega) (by first | assumption | omega)) lk_X8_116 ⟨rfl, rfl, (Nat.le_of_ble_eq_true rfl), (Nat.le_of_ble_eq_true rfl)⟩ rfl rfl rfl (Nat.le_of_ble_eq_true rfl) dX8_finer_57 ?_
                    refine v_if_neB h dX8_finer_60 (tgt := 75) (by decide) (fun c60 => ?_) (fun c60 => ?_)
                    · refine v_iconst h (v := nI 1) dX8_finer_75 (by decide) ?_
                      refine v_goto h dX8_finer_76 (tgt := 80) (by decide) ?_
                      refine v_istore_n3 h (Nat.le_of_ble_eq_true rfl) dX8_finer_80 ?_
                      refine v_iload4 h dX8_finer_81 ?_
                      refine v_if_neB h dX8_finer_83 (tgt := 110) (by decide) (fun c83 => ?_) (fun c83 => ?_)
                      · refine v_iconst h (v := nI 1) dX8_finer_110 (by decide) ?_
                        refine v_goto h dX8_finer_111 (tgt := 115) (by decide) ?_
                        refine v_istore4 h (Nat.le_of_ble_eq_true rfl) dX8_finer_115 ?_
                        refine v_iincN6 h (Nat.le_of_ble_eq_true rfl) dX8_finer_117 ?_
                        refine v_goto h dX8_finer_120 (tgt := 38) (by decide) ?_
                        exact vM.fg (ih38 _ (by omega) (y1 + 1) rfl (by first | assumption | rfl | omega)) ⟨rfl, rfl, rfl, (by rw [allTo, ← Bool.and_assoc, c48]; first | (simp [bN]; done) | (simp [bN, c60]; done) | (simp [bN, c60, c72]; done)), (by rw [allTo, ← Bool.and_assoc]; (first | rw [bnot_t c83] | rw [bnot_f c83]); first | (simp [bN]; done) | (simp [bN, c95]; done) | (simp [bN, c95, c107]; done)), rfl, rfl, trivial⟩
                      · refine v_aload_n0 h dX8_finer_86 ?_
                        refine v_iload_n1 h dX8_finer_87 ?_
                        refine v_iload5 h dX8_finer_88 ?_
                        refine v_iload6 h dX8_finer_90 ?_
                        refine cw_V_0_1_2_3_4_5_6_7_8_9_10_11_12_13_14_15_16_3_i (ci := 7) h (c_X8_tellsThem (g := g) (by first | assumption | omega) (by first | assumption | omega) (by first | assumption | omega) (by first | assumption | omega) (by first | assumption | omega)) lk_X8_116 ⟨rfl, rfl, (Nat.le_of_ble_eq_true rfl), (Nat.le_of_ble_eq_true rfl)⟩ rfl rfl rfl (Nat.le_of_ble_eq_true rfl) dX8_finer_92 ?_
                        refine v_if_eqB h dX8_finer_95 (tgt := 114) (by decide) (fun c95 => ?_) (fun c95 => ?_)
                        · refine v_iconst h (v := nI 0) dX8_finer_114 (by decide) ?_
                          refine v_istore4 h (Nat.le_of_ble_eq_true rfl) dX8_finer_115 ?_
                          refine v_iincN6 h (Nat.le_of_ble_eq_true rfl) dX8_finer_117 ?_
                          refine v_goto h dX8_finer_120 (tgt := 38) (by decide) ?_
                          exact vM.fg (ih38 _ (by omega) (y1 + 1) rfl (by first | assumption | rfl | omega)) ⟨rfl, rfl, rfl, (by rw [allTo, ← Bool.and_assoc, c48]; first | (simp [bN]; done) | (simp [bN, c60]; done) | (simp [bN, c60, c72]; done)), (by rw [allTo, ← Bool.and_assoc]; (first | rw [bnot_t c83] | rw [bnot_f c83]); first | (simp [bN]; done) | (simp [bN, c95]; done) | (simp [bN, c95, c107]; done)), rfl, rfl, trivial⟩
                        · refine v_aload_n0 h dX8_finer_98 ?_
                          refine v_iload_n2 h dX8_finer_99 ?_
                          refine v_iload5 h dX8_finer_100 ?_
                          refine v_iload6 h dX8_finer_102 ?_
                          refine cw_V_0_1_2_3_4_5_6_7_8_9_10_11_12_13_14_15_16_3_i (ci := 7) h (c_X8_tellsThem (g := g) (by first | assumption | omega) (by first | assumption | omega) (by first | assumption | omega) (by first | assumption | omega) (by first | assumption | omega)) lk_X8_116 ⟨rfl, rfl, (Nat.le_of_ble_eq_true rfl), (Nat.le_of_ble_eq_true rfl)⟩ rfl rfl rfl (Nat.le_of_ble_eq_true rfl) dX8_finer_104 ?_
                          refine v_if_neB h dX8_finer_107 (tgt := 114) (by decide) (fun c107 => ?_) (fun c107 => ?_)
                          · refine v_iconst h (v := nI 0) dX8_finer_114 (by decide) ?_
                            refine v_istore4 h (Nat.le_of_ble_eq_true rfl) dX8_finer_115 ?_
                            refine v_iincN6 h (Nat.le_of_ble_eq_true rfl) dX8_finer_117 ?_
                            refine v_goto h dX8_finer_120 (tgt := 38) (by decide) ?_
                            exact vM.fg (ih38 _ (by omega) (y1 + 1) rfl (by first | assumption | rfl | omega)) ⟨rfl, rfl, rfl, (by rw [allTo, ← Bool.and_assoc, c48]; first | (simp [bN]; done) | (simp [bN, c60]; done) | (simp [bN, c60, c72]; done)), (by rw [allTo, ← Bool.and_assoc]; (first | rw [bnot_t c83] | rw [bnot_f c83]); first | (simp [bN]; done) | (simp [bN, c95]; done) | (simp [bN, c95, c107]; done)), rfl, rfl, trivial⟩
                          · refine v_iconst h (v := nI 1) dX8_finer_110 (by decide) ?_
                            refine v_goto h dX8_finer_111 (tgt := 115) (by decide) ?_
                            refine v_istore4 h (Nat.le_of_ble_eq_true rfl) dX8_finer_115 ?_
                            refine v_iincN6 h (Nat.le_of_ble_eq_true rfl) dX8_finer_117 ?_
                            refine v_goto h dX8_finer_120 (tgt := 38) (by decide) ?_
                            exact vM.fg (ih38 _ (by omega) (y1 + 1) rfl (by first | assumption | rfl | omega)) ⟨rfl, rfl, rfl, (by rw [allTo, ← Bool.and_assoc, c48]; first | (simp [bN]; done) | (simp [bN, c60]; done) | (simp [bN, c60, c72]; done)), (by rw [allTo, ← Bool.and_assoc]; (first | rw [bnot_t c83] | rw [bnot_f c83]); first | (simp [bN]; done) | (simp [bN, c95]; done) | (simp [bN, c95, c107]; done)), rfl, rfl, trivial⟩
                    · refine v_aload_n0 h dX8_finer_63 ?_
                      refine v_iload_n2 h dX8_finer_64 ?_
                      refine v_iload5 h dX8_finer_65 ?_
                      refine v_iload6 h dX8_finer_67 ?_
                      refine cw_V_0_1_2_3_4_5_6_7_8_9_10_11_12_13_14_15_16_3_i (ci := 7) h (c_X8_tellsThem (g := g) (by first | assumption | omega) (by first | assumption | omega) (by first | assumption | omega) (by first | assumption | omega) (by first | assumption | omega)) lk_X8_116 ⟨rfl, rfl, (Nat.le_of_ble_eq_true rfl), (Nat.le_of_ble_eq_true rfl)⟩ rfl rfl rfl (Nat.le_of_ble_eq_true rfl) dX8_finer_69 ?_
                      refine v_if_neB h dX8_finer_72 (tgt := 79) (by decide) (fun c72 => ?_) (fun c72 => ?_)
                      · refine v_iconst h (v := nI 0) dX8_finer_79 (by decide) ?_
                        refine v_istore_n3 h (Nat.le_of_ble_eq_true rfl) dX8_finer_80 ?_
                        refine v_iload4 h dX8_finer_81 ?_
                        refine v_if_neB h dX8_finer_83 (tgt := 110) (by decide) (fun c83 => ?_) (fun c83 => ?_)
                        · refine v_iconst h (v := nI 1) dX8_finer_110 (by decide) ?_
                          refine v_goto h dX8_finer_111 (tgt := 115) (by decide) ?_
                          refine v_istore4 h (Nat.le_of_ble_eq_true rfl) dX8_finer_115 ?_
                          refine v_iincN6 h (Nat.le_of_ble_eq_true rfl) dX8_finer_117 ?_
                          refine v_goto h dX8_finer_120 (tgt := 38) (by decide) ?_
                          exact vM.fg (ih38 _ (by omega) (y1 + 1) rfl (by first | assumption | rfl | omega)) ⟨rfl, rfl, rfl, (by rw [allTo, ← Bool.and_assoc, c48]; first | (simp [bN]; done) | (simp [bN, c60]; done) | (simp [bN, c60, c72]; done)), (by rw [allTo, ← Bool.and_assoc]; (first | rw [bnot_t c83] | rw [bnot_f c83]); first | (simp [bN]; done) | (simp [bN, c95]; done) | (simp [bN, c95, c107]; done)), rfl, rfl, trivial⟩
                        · refine v_aload_n0 h dX8_finer_86 ?_
                          refine v_iload_n1 h dX8_finer_87 ?_
                          refine v_iload5 h dX8_finer_88 ?_
                          refine v_iload6 h dX8_finer_90 ?_
                          refine cw_V_0_1_2_3_4_5_6_7_8_9_10_11_12_13_14_15_16_3_i (ci := 7) h (c_X8_tellsThem (g := g) (by first | assumption | omega) (by first | assumption | omega) (by first | assumption | omega) (by first | assumption | omega) (by first | assumption | omega)) lk_X8_116 ⟨rfl, rfl, (Nat.le_of_ble_eq_true rfl), (Nat.le_of_ble_eq_true rfl)⟩ rfl rfl rfl (Nat.le_of_ble_eq_true rfl) dX8_finer_92 ?_
                          refine v_if_eqB h dX8_finer_95 (tgt := 114) (by decide) (fun c95 => ?_) (fun c95 => ?_)
                          · refine v_iconst h (v := nI 0) dX8_finer_114 (by decide) ?_
                            refine v_istore4 h (Nat.le_of_ble_eq_true rfl) dX8_finer_115 ?_
                            refine v_iincN6 h (Nat.le_of_ble_eq_true rfl) dX8_finer_117 ?_
                            refine v_goto h dX8_finer_120 (tgt := 38) (by decide) ?_
                            exact vM.fg (ih38 _ (by omega) (y1 + 1) rfl (by first | assumption | rfl | omega)) ⟨rfl, rfl, rfl, (by rw [allTo, ← Bool.and_assoc, c48]; first | (simp [bN]; done) | (simp [bN, c60]; done) | (simp [bN, c60, c72]; done)), (by rw [allTo, ← Bool.and_assoc]; (first | rw [bnot_t c83] | rw [bnot_f c83]); first | (simp [bN]; done) | (simp [bN, c95]; done) | (simp [bN, c95, c107]; done)), rfl, rfl, trivial⟩
                          · refine v_aload_n0 h dX8_finer_98 ?_
                            refine v_iload_n2 h dX8_finer_99 ?_
                            refine v_iload5 h dX8_finer_100 ?_
                            refine v_iload6 h dX8_finer_102 ?_
                            refine cw_V_0_1_2_3_4_5_6_7_8_9_10_11_12_13_14_15_16_3_i (ci := 7) h (c_X8_tellsThem (g := g) (by first | assumption | omega) (by first | assumption | omega) (by first | assumption | omega) (by first | assumption | omega) (by first | assumption | omega)) lk_X8_116 ⟨rfl, rfl, (Nat.le_of_ble_eq_true rfl), (Nat.le_of_ble_eq_true rfl)⟩ rfl rfl rfl (Nat.le_of_ble_eq_true rfl) dX8_finer_104 ?_
                            refine v_if_neB h dX8_finer_107 (tgt := 114) (by decide) (fun c107 => ?_) (fun c107 => ?_)
                            · refine v_iconst h (v := nI 0) dX8_finer_114 (by decide) ?_
                              refine v_istore4 h (Nat.le_of_ble_eq_true rfl) dX8_finer_115 ?_
                              refine v_iincN6 h (Nat.le_of_ble_eq_true rfl) dX8_finer_117 ?_
                              refine v_goto h dX8_finer_120 (tgt := 38) (by decide) ?_
                              exact vM.fg (ih38 _ (by omega) (y1 + 1) rfl (by first | assumption | rfl | omega)) ⟨rfl, rfl, rfl, (by rw [allTo, ← Bool.and_assoc, c48]; first | (simp [bN]; done) | (simp [bN, c60]; done) | (simp [bN, c60, c72]; done)), (by rw [allTo, ← Bool.and_assoc]; (first | rw [bnot_t c83] | rw [bnot_f c83]); first | (simp [bN]; done) | (simp [bN, c95]; done) | (simp [bN, c95, c107]; done)), rfl, rfl, trivial⟩
                            · refine v_iconst h (v := nI 1) dX8_finer_110 (by decide) ?_
                              refine v_goto h dX8_finer_111 (tgt := 115) (by decide) ?_
                              refine v_istore4 h (Nat.le_of_ble_eq_true rfl) dX8_finer_115 ?_
                              refine v_iincN6 h (Nat.le_of_ble_eq_true rfl) dX8_finer_117 ?_
                              refine v_goto h dX8_finer_120 (tgt := 38) (by decide) ?_
                              exact vM.fg (ih38 _ (by omega) (y1 + 1) rfl (by first | assumption | rfl | omega)) ⟨rfl, rfl, rfl, (by rw [allTo, ← Bool.and_assoc, c48]; first | (simp [bN]; done) | (simp [bN, c60]; done) | (simp [bN, c60, c72]; done)), (by rw [allTo, ← Bool.and_assoc]; (first | rw [bnot_t c83] | rw [bnot_f c83]); first | (simp [bN]; done) | (simp [bN, c95]; done) | (simp [bN, c95, c107]; done)), rfl, rfl, trivial⟩
                      · refine v_iconst h (v := nI 1) dX8_finer_75 (by decide) ?_
                        refine v_goto h dX8_finer_76 (tgt := 80) (by decide) ?_
                        refine v_istore_n3 h (Nat.le_of_ble_eq_true rfl) dX8_finer_80 ?_
                        refine v_iload4 h dX8_finer_81 ?_
                        refine v_if_neB h dX8_finer_83 (tgt := 110) (by decide) (fun c83 => ?_) (fun c83 => ?_)
                        · refine v_iconst h (v := nI 1) dX8_finer_110 (by decide) ?_
                          refine v_goto h dX8_finer_111 (tgt := 115) (by decide) ?_
                          refine v_istore4 h (Nat.le_of_ble_eq_true rfl) dX8_finer_115 ?_
                          refine v_iincN6 h (Nat.le_of_ble_eq_true rfl) dX8_finer_117 ?_
                          refine v_goto h dX8_finer_120 (tgt := 38) (by decide) ?_
                          exact vM.fg (ih38 _ (by omega) (y1 + 1) rfl (by first | assumption | rfl | omega)) ⟨rfl, rfl, rfl, (by rw [allTo, ← Bool.and_assoc, c48]; first | (simp [bN]; done) | (simp [bN, c60]; done) | (simp [bN, c60, c72]; done)), (by rw [allTo, ← Bool.and_assoc]; (first | rw [bnot_t c83] | rw [bnot_f c83]); first | (simp [bN]; done) | (simp [bN, c95]; done) | (simp [bN, c95, c107]; done)), rfl, rfl, trivial⟩
                        · refine v_aload_n0 h dX8_finer_86 ?_
                          refine v_iload_n1 h dX8_finer_87 ?_
                          refine v_iload5 h dX8_finer_88 ?_
                          refine v_iload6 h dX8_finer_90 ?_
                          refine cw_V_0_1_2_3_4_5_6_7_8_9_10_11_12_13_14_15_16_3_i (ci := 7) h (c_X8_tellsThem (g := g) (by first | assumption | omega) (by first | assumption | omega) (by first | assumption | omega) (by first | assumption | omega) (by first | assumption | omega)) lk_X8_116 ⟨rfl, rfl, (Nat.le_of_ble_eq_true rfl), (Nat.le_of_ble_eq_true rfl)⟩ rfl rfl rfl (Nat.le_of_ble_eq_true rfl) dX8_finer_92 ?_
                          refine v_if_eqB h dX8_finer_95 (tgt := 114) (by decide) (fun c95 => ?_) (fun c95 => ?_)
                          · refine v_iconst h (v := nI 0) dX8_finer_114 (by decide) ?_
                            refine v_istore4 h (Nat.le_of_ble_eq_true rfl) dX8_finer_115 ?_
                            refine v_iincN6 h (Nat.le_of_ble_eq_true rfl) dX8_finer_117 ?_
                            refine v_goto h dX8_finer_120 (tgt := 38) (by decide) ?_
                            exact vM.fg (ih38 _ (by omega) (y1 + 1) rfl (by first | assumption | rfl | omega)) ⟨rfl, rfl, rfl, (by rw [allTo, ← Bool.and_assoc, c48]; first | (simp [bN]; done) | (simp [bN, c60]; done) | (simp [bN, c60, c72]; done)), (by rw [allTo, ← Bool.and_assoc]; (first | rw [bnot_t c83] | rw [bnot_f c83]); first | (simp [bN]; done) | (simp [bN, c95]; done) | (simp [bN, c95, c107]; done)), rfl, rfl, trivial⟩
                          · refine v_aload_n0 h dX8_finer_98 ?_
                            refine v_iload_n2 h dX8_finer_99 ?_
                            refine v_iload5 h dX8_finer_100 ?_
                            refine v_iload6 h dX8_finer_102 ?_
                            refine cw_V_0_1_2_3_4_5_6_7_8_9_10_11_12_13_14_15_16_3_i (ci := 7) h (c_X8_tellsThem (g := g) (by first | assumption | omega) (by first | assumption | omega) (by first | assumption | omega) (by first | assumption | omega) (by first | assumption | omega)) lk_X8_116 ⟨rfl, rfl, (Nat.le_of_ble_eq_true rfl), (Nat.le_of_ble_eq_true rfl)⟩ rfl rfl rfl (Nat.le_of_ble_eq_true rfl) dX8_finer_104 ?_
                            refine v_if_neB h dX8_finer_107 (tgt := 114) (by decide) (fun c107 => ?_) (fun c107 => ?_)
                            · refine v_iconst h (v := nI 0) dX8_finer_114 (by decide) ?_
                              refine v_istore4 h (Nat.le_of_ble_eq_true rfl) dX8_finer_115 ?_
                              refine v_iincN6 h (Nat.le_of_ble_eq_true rfl) dX8_finer_117 ?_
                              refine v_goto h dX8_finer_120 (tgt := 38) (by decide) ?_
                              exact vM.fg (ih38 _ (by omega) (y1 + 1) rfl (by first | assumption | rfl | omega)) ⟨rfl, rfl, rfl, (by rw [allTo, ← Bool.and_assoc, c48]; first | (simp [bN]; done) | (simp [bN, c60]; done) | (simp [bN, c60, c72]; done)), (by rw [allTo, ← Bool.and_assoc]; (first | rw [bnot_t c83] | rw [bnot_f c83]); first | (simp [bN]; done) | (simp [bN, c95]; done) | (simp [bN, c95, c107]; done)), rfl, rfl, trivial⟩
                            · refine v_iconst h (v := nI 1) dX8_finer_110 (by decide) ?_
                              refine v_goto h dX8_finer_111 (tgt := 115) (by decide) ?_
                              refine v_istore4 h (Nat.le_of_ble_eq_true rfl) dX8_finer_115 ?_
                              refine v_iincN6 h (Nat.le_of_ble_eq_true rfl) dX8_finer_117 ?_
                              refine v_goto h dX8_finer_120 (tgt := 38) (by decide) ?_
                              exact vM.fg (ih38 _ (by omega) (y1 + 1) rfl (by first | assumption | rfl | omega)) ⟨rfl, rfl, rfl, (by rw [allTo, ← Bool.and_assoc, c48]; first | (simp [bN]; done) | (simp [bN, c60]; done) | (simp [bN, c60, c72]; done)), (by rw [allTo, ← Bool.and_assoc]; (first | rw [bnot_t c83] | rw [bnot_f c83]); first | (simp [bN]; done) | (simp [bN, c95]; done) | (simp [bN, c95, c107]; done)), rfl, rfl, trivial⟩
            exact vM.fg (L38 _ 0 rfl (by first | assumption | rfl | omega)) ⟨rfl, rfl, rfl, (by rw [show allTo (fun y => (fun x y => tls (kd j0) (pt j0) (w x) (w y)) x1 y || !(fun x y => tls (kd j1) (pt j1) (w x) (w y)) x1 y) 0 = true from rfl, Bool.and_true]), (by rw [show allTo (fun y => !((fun x y => tls (kd j0) (pt j0) (w x) (w y)) x1 y && !(fun x y => tls (kd j1) (pt j1) (w x) (w y)) x1 y)) 0 = true from rfl, Bool.and_true]), rfl, rfl, trivial⟩
      exact vM.fg (L26 _ 0 rfl (by first | assumption | rfl | omega)) ⟨rfl, rfl, rfl, rfl, rfl, rfl, trivial⟩
    · have e13 := rN_f c13
      refine v_iconst h (v := -1) dX8_finer_16 (by decide) ?_
      exact v_iretP h hr dX8_finer_17 (P_X8_finer_mk (q := _) (by simp only [s_finer, e5, e13]) ) rfl
def P_X8_saying (g : vG) (m0 m1 m2 m3 m4 m5 m6 m7 m8 m9 m10 m11 m12 m13 m14 m15 m16 : Nat) (fl : Nat) (tr : Int32) (msrt : Nat → Int32) (len : Nat → Nat) (mc : Nat → Int32) (n : Nat) (w : Nat → Nat) (atp : Nat) (rt : Nat) (rwt : Nat → Nat) (hn : Nat) (kd : Nat → Nat) (pt : Nat → Nat) (far : Nat → Int32) (sn : Nat) (sb : Nat → Nat) (sf : Nat → Nat) (ss : Nat → Nat) (sw : Nat → Nat) (ways : Nat → Nat) (chain : Nat → Nat) (row : Nat → Nat) (best : Nat → Nat) (p0 : Int32) (p1 : Int32) (p2 : Int32) (p3 : Int32) : Option Value → va_W → Prop := fun r wo => r = some (.int (s_saying n hn sn sb sf ss sw p0 p1 p2 p3).1) ∧ wo = [(m0, .inr (7, [.int (nI fl), .int tr, .ref m1, .ref m2, .ref m3, .int (nI n), .ref m4, .int (nI atp), .int (nI rt), .ref m5, .int (nI hn), .ref m6, .ref m7, .ref m8, .int (nI ((s_saying n hn sn sb sf ss sw p0 p1 p2 p3).2.1)), .ref m9, .ref m10, .ref m11, .ref m12, .ref m13, .ref m14, .ref m15, .ref m16])), (m1, .inl (gI g, 4, .inl msrt)), (m2, .inl (gI g, 4, .inl (fun z9 => nI (len z9)))), (m3, .inl (gI g, 160, .inl mc)), (m4, .inl (gI g, 8, .inl (fun z9 => nI (w z9)))), (m5, .inl (gI g, 8, .inl (fun z9 => nI (rwt z9)))), (m6, .inl (gI g, 6, .inl (fun z9 => nI (kd z9)))), (m7, .inl (gI g, 6, .inl (fun z9 => nI (pt z9)))), (m8, .inl (gI g, 8, .inl far)), (m9, .inl (gI g, 10, .inl (fun z9 => nI (((s_saying n hn sn sb sf ss sw p0 p1 p2 p3).2.2.1) z9)))), (m10, .inl (gI g, 10, .inl (fun z9 => nI (((s_saying n hn sn sb sf ss sw p0 p1 p2 p3).2.2.2.1) z9)))), (m11, .inl (gI g, 10, .inl (fun z9 => nI (((s_saying n hn sn sb sf ss sw p0 p1 p2 p3).2.2.2.2.1) z9)))), (m12, .inl (gI g, 10, .inl (fun z9 => nI (((s_saying n hn sn sb sf ss sw p0 p1 p2 p3).2.2.2.2.2) z9)))), (m13, .inl (gI g, 256, .inl (fun z9 => nI (ways z9)))), (m14, .inl (gI g, 8, .inl (fun z9 => nI (chain z9)))), (m15, .inl (gI g, 5, .inl (fun z9 => nI (row z9)))), (m16, .inl (gI g, 5, .inl (fun z9 => nI (best z9))))]
theorem P_X8_saying_mk {g : vG} {m0 m1 m2 m3 m4 m5 m6 m7 m8 m9 m10 m11 m12 m13 m14 m15 m16 : Nat} {fl : Nat} {tr : Int32} {msrt : Nat → Int32} {len : Nat → Nat} {mc : Nat → Int32} {n : Nat} {w : Nat → Nat} {atp : Nat} {rt : Nat} {rwt : Nat → Nat} {hn : Nat} {kd : Nat → Nat} {pt : Nat → Nat} {far : Nat → Int32} {sn : Nat} {sb : Nat → Nat} {sf : Nat → Nat} {ss : Nat → Nat} {sw : Nat → Nat} {ways : Nat → Nat} {chain : Nat → Nat} {row : Nat → Nat} {best : Nat → Nat} {p0 : Int32} {p1 : Int32} {p2 : Int32} {p3 : Int32}  {q : Int32 × (Nat) × (Nat → Nat) × (Nat → Nat) × (Nat → Nat) × (Nat → Nat)} (hs : s_saying n hn sn sb sf ss sw p0 p1 p2 p3 = q)  : P_X8_saying g m0 m1 m2 m3 m4 m5 m6 m7 m8 m9 m10 m11 m12 m13 m14 m15 m16 fl tr msrt len mc n w atp rt rwt hn kd pt far sn sb sf ss sw ways chain row best p0 p1 p2 p3 (some (.int q.1)) [(m0, .inr (7, [.int (nI fl), .int tr, .ref m1, .ref m2, .ref m3, .int (nI n), .ref m4, .int (nI atp), .int (nI rt), .ref m5, .int (nI hn), .ref m6, .ref m7, .ref m8, .int (nI q.2.1), .ref m9, .ref m10, .ref m11, .ref m12, .ref m13, .ref m14, .ref m15, .ref m16])), (m1, .inl (gI g, 4, .inl msrt)), (m2, .inl (gI g, 4, .inl (fun z9 => nI (len z9)))), (m3, .inl (gI g, 160, .inl mc)), (m4, .inl (gI g, 8, .inl (fun z9 => nI (w z9)))), (m5, .inl (gI g, 8, .inl (fun z9 => nI (rwt z9)))), (m6, .inl (gI g, 6, .inl (fun z9 => nI (kd z9)))), (m7, .inl (gI g, 6, .inl (fun z9 => nI (pt z9)))), (m8, .inl (gI g, 8, .inl far)), (m9, .inl (gI g, 10, .inl (fun z9 => nI (q.2.2.1 z9)))), (m10, .inl (gI g, 10, .inl (fun z9 => nI (q.2.2.2.1 z9)))), (m11, .inl (gI g, 10, .inl (fun z9 => nI (q.2.2.2.2.1 z9)))), (m12, .inl (gI g, 10, .inl (fun z9 => nI (q.2.2.2.2.2 z9)))), (m13, .inl (gI g, 256, .inl (fun z9 => nI (ways z9)))), (m14, .inl (gI g, 8, .inl (fun z9 => nI (chain z9)))), (m15, .inl (gI g, 5, .inl (fun z9 => nI (row z9)))), (m16, .inl (gI g, 5, .inl (fun z9 => nI (best z9))))] := by subst hs; exact ⟨rfl, rfl⟩
set_option maxRecDepth 20000 in
set_option maxHeartbeats 4000000 in
theorem c_X8_saying {g : vG} {m0 m1 m2 m3 m4 m5 m6 m7 m8 m9 m10 m11 m12 m13 m14 m15 m16 : Nat} {fl : Nat} {tr : Int32} {msrt : Nat → Int32} {len : Nat → Nat} {mc : Nat → Int32} {n : Nat} {w : Nat → Nat} {atp : Nat} {rt : Nat} {rwt : Nat → Nat} {hn : Nat} {kd : Nat → Nat} {pt : Nat → Nat} {far : Nat → Int32} {sn : Nat} {sb : Nat → Nat} {sf : Nat → Nat} {ss : Nat → Nat} {sw : Nat → Nat} {ways : Nat → Nat} {chain : Nat → Nat} {row : Nat → Nat} {best : Nat → Nat} {p0 : Int32} {p1 : Int32} {p2 : Int32} {p3 : Int32} (hT : wfT n w) (hH : wfH hn kd pt) (hs1 : sn ≤ 10) (hsb : ∀ j, j < sn → sb j < hn) (hsf : ∀ j, j < sn → sf j < n) (hss : ∀ j, j < sn → ss j < n) (hsw : ∀ j, sw j ≤ 1) : CtP g yX8_saying cX8_saying 5 (some .int) (rmOf 1 22) [(m0, .inr (7, [.int (nI fl), .int tr, .ref m1, .ref m2, .ref m3, .int (nI n), .ref m4, .int (nI atp), .int (nI rt), .ref m5, .int (nI hn), .ref m6, .ref m7, .ref m8, .int (nI sn), .ref m9, .ref m10, .ref m11, .ref m12, .ref m13, .ref m14, .ref m15, .ref m16])), (m1, .inl (gI g, 4, .inl msrt)), (m2, .inl (gI g, 4, .inl (fun z9 => nI (len z9)))), (m3, .inl (gI g, 160, .inl mc)), (m4, .inl (gI g, 8, .inl (fun z9 => nI (w z9)))), (m5, .inl (gI g, 8, .inl (fun z9 => nI (rwt z9)))), (m6, .inl (gI g, 6, .inl (fun z9 => nI (kd z9)))), (m7, .inl (gI g, 6, .inl (fun z9 => nI (pt z9)))), (m8, .inl (gI g, 8, .inl far)), (m9, .inl (gI g, 10, .inl (fun z9 => nI (sb z9)))), (m10, .inl (gI g, 10, .inl (fun z9 => nI (sf z9)))), (m11, .inl (gI g, 10, .inl (fun z9 => nI (ss z9)))), (m12, .inl (gI g, 10, .inl (fun z9 => nI (sw z9)))), (m13, .inl (gI g, 256, .inl (fun z9 => nI (ways z9)))), (m14, .inl (gI g, 8, .inl (fun z9 => nI (chain z9)))), (m15, .inl (gI g, 5, .inl (fun z9 => nI (row z9)))), (m16, .inl (gI g, 5, .inl (fun z9 => nI (best z9))))] [.ref m0, .int p0, .int p1, .int p2, .int p3] (P_X8_saying g m0 m1 m2 m3 m4 m5 m6 m7 m8 m9 m10 m11 m12 m13 m14 m15 m16 fl tr msrt len mc n w atp rt rwt hn kd pt far sn sb sf ss sw ways chain row best p0 p1 p2 p3) := by
  refine CtP.ofV RX8 rfl (by decide +kernel) rfl rfl (Nat.le_of_ble_eq_true rfl) (List.forall_mem_cons.mpr ⟨rfl, (List.forall_mem_cons.mpr ⟨rfl, (List.forall_mem_cons.mpr ⟨rfl, (List.forall_mem_cons.mpr ⟨rfl, (List.forall_mem_cons.mpr ⟨rfl, (fun _ h9 => absurd h9 List.not_mem_nil)⟩)⟩)⟩)⟩)⟩) (fun x h hr => ?_)
  show vM x 0 [some (.ref m0), some (.int p0), some (.int p1), some (.int p2), some (.int p3)] [] [(m0, .inr (7, [.int (nI fl), .int tr, .ref m1, .ref m2, .ref m3, .int (nI n), .ref m4, .int (nI atp), .int (nI rt), .ref m5, .int (nI hn), .ref m6, .ref m7, .ref m8, .int (nI sn), .ref m9, .ref m10, .ref m11, .ref m12, .ref m13, .ref m14, .ref m15, .ref m16])), (m1, .inl (gI g, 4, .inl msrt)), (m2, .inl (gI g, 4, .inl (fun z9 => nI (len z9)))), (m3, .inl (gI g, 160, .inl mc)), (m4, .inl (gI g, 8, .inl (fun z9 => nI (w z9)))), (m5, .inl (gI g, 8, .inl (fun z9 => nI (rwt z9)))), (m6, .inl (gI g, 6, .inl (fun z9 => nI (kd z9)))), (m7, .inl (gI g, 6, .inl (fun z9 => nI (pt z9)))), (m8, .inl (gI g, 8, .inl far)), (m9, .inl (gI g, 10, .inl (fun z9 => nI (sb z9)))), (m10, .inl (gI g, 10, .inl (fun z9 => nI (sf z9)))), (m11, .inl (gI g, 10, .inl (fun z9 => nI (ss z9)))), (m12, .inl (gI g, 10, .inl (fun z9 => nI (sw z9)))), (m13, .inl (gI g, 256, .inl (fun z9 => nI (ways z9)))), (m14, .inl (gI g, 8, .inl (fun z9 => nI (chain z9)))), (m15, .inl (gI g, 5, .inl (fun z9 => nI (row z9)))), (m16, .inl (gI g, 5, .inl (fun z9 => nI (best z9))))]
  have ht1 := hT.1; have ht2 := hT.2.1; have ht3 := hT.2.2; have hh1 := hH.1; have hh2 := hH.2.1; have hh3 := hH.2.2.1; have hh4 := hH.2.2.2
  refine v_aload_n0 h dX8_saying_0 ?_
  refine v_iload_n1 h dX8_saying_1 ?_
  refine cw_V_0_1_2_3_4_5_6_7_8_9_10_11_12_13_14_15_16_1_i (ci := 7) h (c_X8_isHand (g := g)) lk_X8_107 ⟨rfl, rfl, (Nat.le_of_ble_eq_true rfl), (Nat.le_of_ble_eq_true rfl)⟩ rfl rfl rfl (Nat.le_of_ble_eq_true rfl) dX8_saying_2 ?_
  refine v_if_eqB h dX8_saying_5 (tgt := 29) (by decide) (fun c5 => ?_) (fun c5 => ?_)
  · have e5 := rN_f c5
    refine v_iconst h (v := -1) dX8_saying_29 (by decide) ?_
    exact v_iretP h hr dX8_saying_30 (P_X8_saying_mk (q := (_, sn, sb, sf, ss, sw)) (by simp only [s_saying, e5]) ) rfl
  · obtain ⟨j0, hj0, rfl⟩ := inR_of c5 (by omega)
    have e5 := rN_N hj0 (by omega)
    refine v_aload_n0 h dX8_saying_8 ?_
    refine v_iload_n2 h dX8_saying_9 ?_
    refine cw_V_0_1_2_3_4_5_6_7_8_9_10_11_12_13_14_15_16_1_i (ci := 7) h (c_X8_isThing (g := g)) lk_X8_101 ⟨rfl, rfl, (Nat.le_of_ble_eq_true rfl), (Nat.le_of_ble_eq_true rfl)⟩ rfl rfl rfl (Nat.le_of_ble_eq_true rfl) dX8_saying_10 ?_
    refine v_if_eqB h dX8_saying_13 (tgt := 29) (by decide) (fun c13 => ?_) (fun c13 => ?_)
    · have e13 := rN_f c13
      refine v_iconst h (v := -1) dX8_saying_29 (by decide) ?_
      exact v_iretP h hr dX8_saying_30 (P_X8_saying_mk (q := (_, sn, sb, sf, ss, sw)) (by simp only [s_saying, e5, e13]) ) rfl
    · obtain ⟨j1, hj1, rfl⟩ := inR_of c13 (by omega)
      have e13 := rN_N hj1 (by omega)
      refine v_aload_n0 h dX8_saying_16 ?_
      refine v_iload_n3 h dX8_saying_17 ?_
      refine cw_V_0_1_2_3_4_5_6_7_8_9_10_11_12_13_14_15_16_1_i (ci := 7) h (c_X8_isThing (g := g)) lk_X8_101 ⟨rfl, rfl, (Nat.le_of_ble_eq_true rfl), (Nat.le_of_ble_eq_true rfl)⟩ rfl rfl rfl (Nat.le_of_ble_eq_true rfl) dX8_saying_18 ?_
      refine v_if_eqB h dX8_saying_21 (tgt := 29) (by decide) (fun c21 => ?_) (fun c21 => ?_)
      · have e21 := rN_f c21
        refine v_iconst h (v := -1) dX8_saying_29 (by decide) ?_
        exact v_iretP h hr dX8_saying_30 (P_X8_saying_mk (q := (_, sn, sb, sf, ss, sw)) (by simp only [s_saying, e5, e13, e21]) ) rfl
      · obtain ⟨j2, hj2, rfl⟩ := inR_of c21 (by omega)
        have e21 := rN_N hj2 (by omega)
        refine v_iload_n2 h dX8_saying_24 ?_
        refine v_iload_n3 h dX8_saying_25 ?_
        refine v_icmp_neN h dX8_saying_26 (tgt := 31) (by decide) (by omega) (by omega) (fun c26 => ?_) (fun c26 => ?_)
        · refine v_iload4 h dX8_saying_31 ?_
          refine v_iconst h (v := nI 0) dX8_saying_33 (by decide) ?_
          refine v_iconst h (v := nI 1) dX8_saying_34 (by decide) ?_
          refine cw_S_e_3_i h (c_X8_within (g := g)) lk_X8_64 ⟨rfl, rfl, (Nat.le_of_ble_eq_true rfl), (Nat.le_of_ble_eq_true rfl)⟩ (Nat.le_of_ble_eq_true rfl) dX8_saying_35 ?_
          refine v_if_neB h dX8_saying_38 (tgt := 44) (by decide) (fun c38 => ?_) (fun c38 => ?_)
          · obtain ⟨j3, hj3a, hj3, rfl⟩ := wi_of c38 (by decide) (by decide)
            have e38 := rW_N hj3a hj3 (by decide)
            refine v_aload_n0 h dX8_saying_44 ?_
            refine v_get h mw_X8 0 rfl rfl 14 (by decide) mf_X8_98 rfl dX8_saying_45 ?_
            refine v_bipush h (v := nI 10) dX8_saying_48 (by decide) ?_
            refine v_icmp_neN h dX8_saying_50 (tgt := 56) (by decide) (by omega) (by omega) (fun c50 => ?_) (fun c50 => ?_)
            · refine v_aload_n0 h dX8_saying_56 ?_
              refine v_get h mw_X8 0 rfl rfl 15 (by decide) mf_X8_34 rfl dX8_saying_57 ?_
              refine v_aload_n0 h dX8_saying_60 ?_
              refine v_get h mw_X8 0 rfl rfl 14 (by decide) mf_X8_98 rfl dX8_saying_61 ?_
              refine v_iload_n1 h dX8_saying_64 ?_
              refine v_iastN_at9 h (by omega) (Nat.le_of_ble_eq_true rfl) dX8_saying_65 ?_
              refine v_aload_n0 h dX8_saying_66 ?_
              refine v_get h mw_X8 0 rfl rfl 16 (by decide) mf_X8_37 rfl dX8_saying_67 ?_
              refine v_aload_n0 h dX8_saying_70 ?_
              refine v_get h mw_X8 0 rfl rfl 14 (by decide) mf_X8_98 rfl dX8_saying_71 ?_
              refine v_iload_n2 h dX8_saying_74 ?_
              refine v_iastN_at10 h (by omega) (Nat.le_of_ble_eq_true rfl) dX8_saying_75 ?_
              refine v_aload_n0 h dX8_saying_76 ?_
              refine v_get h mw_X8 0 rfl rfl 17 (by decide) mf_X8_40 rfl dX8_saying_77 ?_
              refine v_aload_n0 h dX8_saying_80 ?_
              refine v_get h mw_X8 0 rfl rfl 14 (by decide) mf_X8_98 rfl dX8_saying_81 ?_
              refine v_iload_n3 h dX8_saying_84 ?_
              refine v_iastN_at11 h (by omega) (Nat.le_of_ble_eq_true rfl) dX8_saying_85 ?_
              refine v_aload_n0 h dX8_saying_86 ?_
              refine v_get h mw_X8 0 rfl rfl 18 (by decide) mf_X8_43 rfl dX8_saying_87 ?_
              refine v_aload_n0 h dX8_saying_90 ?_
              refine v_get h mw_X8 0 rfl rfl 14 (by decide) mf_X8_98 rfl dX8_saying_91 ?_
              refine v_iload4 h dX8_saying_94 ?_
              refine v_iastN_at12 h (by omega) (Nat.le_of_ble_eq_true rfl) dX8_saying_96 ?_
              refine v_aload_n0 h dX8_saying_97 ?_
              refine v_dup h dX8_saying_98 rfl ?_
              refine v_get h mw_X8 0 rfl rfl 14 (by decide) mf_X8_98 rfl dX8_saying_99 ?_
              refine v_iconst h (v := nI 1) dX8_saying_102 (by decide) ?_
              refine v_iaddN h dX8_saying_103 ?_
              refine pf_X8_98_at0 h dX8_saying_104 ?_
              refine v_aload_n0 h dX8_saying_107 ?_
              refine v_get h mw_X8 0 rfl rfl 14 (by decide) mf_X8_98 rfl dX8_saying_108 ?_
              refine v_iconst h (v := nI 1) dX8_saying_111 (by decide) ?_
              refine v_isubN h dX8_saying_112 (by omega) ?_
              rw [Nat.add_sub_cancel]
              exact v_iretP h hr dX8_saying_113 (P_X8_saying_mk (q := (nI sn, sn + 1, up sb sn j0, up sf sn j1, up ss sn j2, up sw sn j3)) (by simp only [s_saying, e5, e13, e21, if_neg c26, e38, if_pos (show sn < 10 by omega)]) ) rfl
            · refine v_bipush h (v := -4) dX8_saying_53 (by decide) ?_
              exact v_iretP h hr dX8_saying_55 (P_X8_saying_mk (q := (_, sn, sb, sf, ss, sw)) (by simp only [s_saying, e5, e13, e21, if_neg c26, e38, if_neg (show ¬ sn < 10 by omega)]) ) rfl
          · have e38 := wi_no c38
            refine v_bipush h (v := -2) dX8_saying_41 (by decide) ?_
            exact v_iretP h hr dX8_saying_43 (P_X8_saying_mk (q := (_, sn, sb, sf, ss, sw)) (by simp only [s_saying, e5, e13, e21, if_neg c26, e38]) ) rfl
        · refine v_iconst h (v := -1) dX8_saying_29 (by decide) ?_
          exact v_iretP h hr dX8_saying_30 (P_X8_saying_mk (q := (_, sn, sb, sf, ss, sw)) (by simp only [s_saying, e5, e13, e21, if_pos c26]) ) rfl
def P_X8_back (g : vG) (m0 m1 m2 m3 m4 m5 m6 m7 m8 m9 m10 m11 m12 m13 m14 m15 m16 : Nat) (fl : Nat) (tr : Int32) (msrt : Nat → Int32) (len : Nat → Nat) (mc : Nat → Int32) (n : Nat) (w : Nat → Nat) (atp : Nat) (rt : Nat) (rwt : Nat → Nat) (hn : Nat) (kd : Nat → Nat) (pt : Nat → Nat) (far : Nat → Int32) (sn : Nat) (sb : Nat → Nat) (sf : Nat → Nat) (ss : Nat → Nat) (sw : Nat → Nat) (ways : Nat → Nat) (chain : Nat → Nat) (row : Nat → Nat) (best : Nat → Nat) (p0 : Int32) : Option Value → va_W → Prop := fun r wo => r = some (.int (s_back sn p0).1) ∧ wo = [(m0, .inr (7, [.int (nI fl), .int tr, .ref m1, .ref m2, .ref m3, .int (nI n), .ref m4, .int (nI atp), .int (nI rt), .ref m5, .int (nI hn), .ref m6, .ref m7, .ref m8, .int (nI ((s_back sn p0).2)), .ref m9, .ref m10, .ref m11, .ref m12, .ref m13, .ref m14, .ref m15, .ref m16])), (m1, .inl (gI g, 4, .inl msrt)), (m2, .inl (gI g, 4, .inl (fun z9 => nI (len z9)))), (m3, .inl (gI g, 160, .inl mc)), (m4, .inl (gI g, 8, .inl (fun z9 => nI (w z9)))), (m5, .inl (gI g, 8, .inl (fun z9 => nI (rwt z9)))), (m6, .inl (gI g, 6, .inl (fun z9 => nI (kd z9)))), (m7, .inl (gI g, 6, .inl (fun z9 => nI (pt z9)))), (m8, .inl (gI g, 8, .inl far)), (m9, .inl (gI g, 10, .inl (fun z9 => nI (sb z9)))), (m10, .inl (gI g, 10, .inl (fun z9 => nI (sf z9)))), (m11, .inl (gI g, 10, .inl (fun z9 => nI (ss z9)))), (m12, .inl (gI g, 10, .inl (fun z9 => nI (sw z9)))), (m13, .inl (gI g, 256, .inl (fun z9 => nI (ways z9)))), (m14, .inl (gI g, 8, .inl (fun z9 => nI (chain z9)))), (m15, .inl (gI g, 5, .inl (fun z9 => nI (row z9)))), (m16, .inl (gI g, 5, .inl (fun z9 => nI (best z9))))]
theorem P_X8_back_mk {g : vG} {m0 m1 m2 m3 m4 m5 m6 m7 m8 m9 m10 m11 m12 m13 m14 m15 m16 : Nat} {fl : Nat} {tr : Int32} {msrt : Nat → Int32} {len : Nat → Nat} {mc : Nat → Int32} {n : Nat} {w : Nat → Nat} {atp : Nat} {rt : Nat} {rwt : Nat → Nat} {hn : Nat} {kd : Nat → Nat} {pt : Nat → Nat} {far : Nat → Int32} {sn : Nat} {sb : Nat → Nat} {sf : Nat → Nat} {ss : Nat → Nat} {sw : Nat → Nat} {ways : Nat → Nat} {chain : Nat → Nat} {row : Nat → Nat} {best : Nat → Nat} {p0 : Int32}  {q : Int32 × (Nat)} (hs : s_back sn p0 = q)  : P_X8_back g m0 m1 m2 m3 m4 m5 m6 m7 m8 m9 m10 m11 m12 m13 m14 m15 m16 fl tr msrt len mc n w atp rt rwt hn kd pt far sn sb sf ss sw ways chain row best p0 (some (.int q.1)) [(m0, .inr (7, [.int (nI fl), .int tr, .ref m1, .ref m2, .ref m3, .int (nI n), .ref m4, .int (nI atp), .int (nI rt), .ref m5, .int (nI hn), .ref m6, .ref m7, .ref m8, .int (nI q.2), .ref m9, .ref m10, .ref m11, .ref m12, .ref m13, .ref m14, .ref m15, .ref m16])), (m1, .inl (gI g, 4, .inl msrt)), (m2, .inl (gI g, 4, .inl (fun z9 => nI (len z9)))), (m3, .inl (gI g, 160, .inl mc)), (m4, .inl (gI g, 8, .inl (fun z9 => nI (w z9)))), (m5, .inl (gI g, 8, .inl (fun z9 => nI (rwt z9)))), (m6, .inl (gI g, 6, .inl (fun z9 => nI (kd z9)))), (m7, .inl (gI g, 6, .inl (fun z9 => nI (pt z9)))), (m8, .inl (gI g, 8, .inl far)), (m9, .inl (gI g, 10, .inl (fun z9 => nI (sb z9)))), (m10, .inl (gI g, 10, .inl (fun z9 => nI (sf z9)))), (m11, .inl (gI g, 10, .inl (fun z9 => nI (ss z9)))), (m12, .inl (gI g, 10, .inl (fun z9 => nI (sw z9)))), (m13, .inl (gI g, 256, .inl (fun z9 => nI (ways z9)))), (m14, .inl (gI g, 8, .inl (fun z9 => nI (chain z9)))), (m15, .inl (gI g, 5, .inl (fun z9 => nI (row z9)))), (m16, .inl (gI g, 5, .inl (fun z9 => nI (best z9))))] := by subst hs; exact ⟨rfl, rfl⟩
set_option maxRecDepth 20000 in
set_option maxHeartbeats 4000000 in
theorem c_X8_back {g : vG} {m0 m1 m2 m3 m4 m5 m6 m7 m8 m9 m10 m11 m12 m13 m14 m15 m16 : Nat} {fl : Nat} {tr : Int32} {msrt : Nat → Int32} {len : Nat → Nat} {mc : Nat → Int32} {n : Nat} {w : Nat → Nat} {atp : Nat} {rt : Nat} {rwt : Nat → Nat} {hn : Nat} {kd : Nat → Nat} {pt : Nat → Nat} {far : Nat → Int32} {sn : Nat} {sb : Nat → Nat} {sf : Nat → Nat} {ss : Nat → Nat} {sw : Nat → Nat} {ways : Nat → Nat} {chain : Nat → Nat} {row : Nat → Nat} {best : Nat → Nat} {p0 : Int32} (hs1 : sn ≤ 10) : CtP g yX8_back cX8_back 2 (some .int) (rmOf 1 22) [(m0, .inr (7, [.int (nI fl), .int tr, .ref m1, .ref m2, .ref m3, .int (nI n), .ref m4, .int (nI atp), .int (nI rt), .ref m5, .int (nI hn), .ref m6, .ref m7, .ref m8, .int (nI sn), .ref m9, .ref m10, .ref m11, .ref m12, .ref m13, .ref m14, .ref m15, .ref m16])), (m1, .inl (gI g, 4, .inl msrt)), (m2, .inl (gI g, 4, .inl (fun z9 => nI (len z9)))), (m3, .inl (gI g, 160, .inl mc)), (m4, .inl (gI g, 8, .inl (fun z9 => nI (w z9)))), (m5, .inl (gI g, 8, .inl (fun z9 => nI (rwt z9)))), (m6, .inl (gI g, 6, .inl (fun z9 => nI (kd z9)))), (m7, .inl (gI g, 6, .inl (fun z9 => nI (pt z9)))), (m8, .inl (gI g, 8, .inl far)), (m9, .inl (gI g, 10, .inl (fun z9 => nI (sb z9)))), (m10, .inl (gI g, 10, .inl (fun z9 => nI (sf z9)))), (m11, .inl (gI g, 10, .inl (fun z9 => nI (ss z9)))), (m12, .inl (gI g, 10, .inl (fun z9 => nI (sw z9)))), (m13, .inl (gI g, 256, .inl (fun z9 => nI (ways z9)))), (m14, .inl (gI g, 8, .inl (fun z9 => nI (chain z9)))), (m15, .inl (gI g, 5, .inl (fun z9 => nI (row z9)))), (m16, .inl (gI g, 5, .inl (fun z9 => nI (best z9))))] [.ref m0, .int p0] (P_X8_back g m0 m1 m2 m3 m4 m5 m6 m7 m8 m9 m10 m11 m12 m13 m14 m15 m16 fl tr msrt len mc n w atp rt rwt hn kd pt far sn sb sf ss sw ways chain row best p0) := by
  refine CtP.ofV RX8 rfl (by decide +kernel) rfl rfl (Nat.le_of_ble_eq_true rfl) (List.forall_mem_cons.mpr ⟨rfl, (List.forall_mem_cons.mpr ⟨rfl, (fun _ h9 => absurd h9 List.not_mem_nil)⟩)⟩) (fun x h hr => ?_)
  show vM x 0 [some (.ref m0), some (.int p0)] [] [(m0, .inr (7, [.int (nI fl), .int tr, .ref m1, .ref m2, .ref m3, .int (nI n), .ref m4, .int (nI atp), .int (nI rt), .ref m5, .int (nI hn), .ref m6, .ref m7, .ref m8, .int (nI sn), .ref m9, .ref m10, .ref m11, .ref m12, .ref m13, .ref m14, .ref m15, .ref m16])), (m1, .inl (gI g, 4, .inl msrt)), (m2, .inl (gI g, 4, .inl (fun z9 => nI (len z9)))), (m3, .inl (gI g, 160, .inl mc)), (m4, .inl (gI g, 8, .inl (fun z9 => nI (w z9)))), (m5, .inl (gI g, 8, .inl (fun z9 => nI (rwt z9)))), (m6, .inl (gI g, 6, .inl (fun z9 => nI (kd z9)))), (m7, .inl (gI g, 6, .inl (fun z9 => nI (pt z9)))), (m8, .inl (gI g, 8, .inl far)), (m9, .inl (gI g, 10, .inl (fun z9 => nI (sb z9)))), (m10, .inl (gI g, 10, .inl (fun z9 => nI (sf z9)))), (m11, .inl (gI g, 10, .inl (fun z9 => nI (ss z9)))), (m12, .inl (gI g, 10, .inl (fun z9 => nI (sw z9)))), (m13, .inl (gI g, 256, .inl (fun z9 => nI (ways z9)))), (m14, .inl (gI g, 8, .inl (fun z9 => nI (chain z9)))), (m15, .inl (gI g, 5, .inl (fun z9 => nI (row z9)))), (m16, .inl (gI g, 5, .inl (fun z9 => nI (best z9))))]
  refine v_iload_n1 h dX8_back_0 ?_
  refine v_iconst h (v := nI 0) dX8_back_1 (by decide) ?_
  refine v_aload_n0 h dX8_back_2 ?_
  refine v_get h mw_X8 0 rfl rfl 14 (by decide) mf_X8_98 rfl dX8_back_3 ?_
  refine cw_S_e_3_i h (c_X8_within (g := g)) lk_X8_64 ⟨rfl, rfl, (Nat.le_of_ble_eq_true rfl), (Nat.le_of_ble_eq_true rfl)⟩ (Nat.le_of_ble_eq_true rfl) dX8_back_6 ?_
  refine v_if_neB h dX8_back_9 (tgt := 15) (by decide) (fun c9 => ?_) (fun c9 => ?_)
  · obtain ⟨j0, hj0a, hj0, rfl⟩ := wi_of c9 (by omega) (by omega)
    have e9 := rW_N hj0a hj0 (by omega)
    refine v_aload_n0 h dX8_back_15 ?_
    refine v_dup h dX8_back_16 rfl ?_
    refine v_get h mw_X8 0 rfl rfl 14 (by decide) mf_X8_98 rfl dX8_back_17 ?_
    refine v_iload_n1 h dX8_back_20 ?_
    refine v_isubN h dX8_back_21 (by omega) ?_
    refine pf_X8_98_at0 h dX8_back_22 ?_
    refine v_aload_n0 h dX8_back_25 ?_
    refine v_get h mw_X8 0 rfl rfl 14 (by decide) mf_X8_98 rfl dX8_back_26 ?_
    exact v_iretP h hr dX8_back_29 (P_X8_back_mk (q := (nI (sn - j0), sn - j0)) (by simp only [s_back, e9]) ) rfl
  · have e9 := wi_no c9
    refine v_bipush h (v := -2) dX8_back_12 (by decide) ?_
    exact v_iretP h hr dX8_back_14 (P_X8_back_mk (q := (_, sn)) (by simp only [s_back, e9]) ) rfl
set_option maxRecDepth 20000 in
set_option maxHeartbeats 2000000 in
theorem c_X8_isSo {g : vG} {m0 m1 m2 m3 m4 m5 m6 m7 m8 m9 m10 m11 m12 m13 m14 m15 m16 : Nat} {fl : Nat} {tr : Int32} {msrt : Nat → Int32} {len : Nat → Nat} {mc : Nat → Int32} {n : Nat} {w : Nat → Nat} {atp : Nat} {rt : Nat} {rwt : Nat → Nat} {hn : Nat} {kd : Nat → Nat} {pt : Nat → Nat} {far : Nat → Int32} {sn : Nat} {sb : Nat → Nat} {sf : Nat → Nat} {ss : Nat → Nat} {sw : Nat → Nat} {ways : Nat → Nat} {chain : Nat → Nat} {row : Nat → Nat} {best : Nat → Nat} {s1 : Nat} (hjs : s1 < sn) (hT : wfT n w) (hH : wfH hn kd pt) (hs1 : sn ≤ 10) (hsb : ∀ j, j < sn → sb j < hn) (hsf : ∀ j, j < sn → sf j < n) (hss : ∀ j, j < sn → ss j < n) (hsw : ∀ j, sw j ≤ 1) : Ct g yX8_isSo cX8_isSo 4 (some .boolean) (rmOf 4 91) [(m0, .inr (7, [.int (nI fl), .int tr, .ref m1, .ref m2, .ref m3, .int (nI n), .ref m4, .int (nI atp), .int (nI rt), .ref m5, .int (nI hn), .ref m6, .ref m7, .ref m8, .int (nI sn), .ref m9, .ref m10, .ref m11, .ref m12, .ref m13, .ref m14, .ref m15, .ref m16])), (m1, .inl (gI g, 4, .inl msrt)), (m2, .inl (gI g, 4, .inl (fun z9 => nI (len z9)))), (m3, .inl (gI g, 160, .inl mc)), (m4, .inl (gI g, 8, .inl (fun z9 => nI (w z9)))), (m5, .inl (gI g, 8, .inl (fun z9 => nI (rwt z9)))), (m6, .inl (gI g, 6, .inl (fun z9 => nI (kd z9)))), (m7, .inl (gI g, 6, .inl (fun z9 => nI (pt z9)))), (m8, .inl (gI g, 8, .inl far)), (m9, .inl (gI g, 10, .inl (fun z9 => nI (sb z9)))), (m10, .inl (gI g, 10, .inl (fun z9 => nI (sf z9)))), (m11, .inl (gI g, 10, .inl (fun z9 => nI (ss z9)))), (m12, .inl (gI g, 10, .inl (fun z9 => nI (sw z9)))), (m13, .inl (gI g, 256, .inl (fun z9 => nI (ways z9)))), (m14, .inl (gI g, 8, .inl (fun z9 => nI (chain z9)))), (m15, .inl (gI g, 5, .inl (fun z9 => nI (row z9)))), (m16, .inl (gI g, 5, .inl (fun z9 => nI (best z9))))] [.ref m0, .int (nI s1)] (some (.int (nI (bN (!flsN kd pt (sb s1) (sw s1) (w (sf s1)) (w (ss s1))))))) [(m0, .inr (7, [.int (nI fl), .int tr, .ref m1, .ref m2, .ref m3, .int (nI n), .ref m4, .int (nI atp), .int (nI rt), .ref m5, .int (nI hn), .ref m6, .ref m7, .ref m8, .int (nI sn), .ref m9, .ref m10, .ref m11, .ref m12, .ref m13, .ref m14, .ref m15, .ref m16])), (m1, .inl (gI g, 4, .inl msrt)), (m2, .inl (gI g, 4, .inl (fun z9 => nI (len z9)))), (m3, .inl (gI g, 160, .inl mc)), (m4, .inl (gI g, 8, .inl (fun z9 => nI (w z9)))), (m5, .inl (gI g, 8, .inl (fun z9 => nI (rwt z9)))), (m6, .inl (gI g, 6, .inl (fun z9 => nI (kd z9)))), (m7, .inl (gI g, 6, .inl (fun z9 => nI (pt z9)))), (m8, .inl (gI g, 8, .inl far)), (m9, .inl (gI g, 10, .inl (fun z9 => nI (sb z9)))), (m10, .inl (gI g, 10, .inl (fun z9 => nI (sf z9)))), (m11, .inl (gI g, 10, .inl (fun z9 => nI (ss z9)))), (m12, .inl (gI g, 10, .inl (fun z9 => nI (sw z9)))), (m13, .inl (gI g, 256, .inl (fun z9 => nI (ways z9)))), (m14, .inl (gI g, 8, .inl (fun z9 => nI (chain z9)))), (m15, .inl (gI g, 5, .inl (fun z9 => nI (row z9)))), (m16, .inl (gI g, 5, .inl (fun z9 => nI (best z9))))] := by
  refine Ct.ofV RX8 rfl (by decide +kernel) rfl rfl rfl (Nat.le_of_ble_eq_true rfl) (List.forall_mem_cons.mpr ⟨rfl, (List.forall_mem_cons.mpr ⟨rfl, (fun _ h9 => absurd h9 List.not_mem_nil)⟩)⟩) (fun x h hr => ?_)
  show vM x 0 [some (.ref m0), some (.int (nI s1)), none, none] [] [(m0, .inr (7, [.int (nI fl), .int tr, .ref m1, .ref m2, .ref m3, .int (nI n), .ref m4, .int (nI atp), .int (nI rt), .ref m5, .int (nI hn), .ref m6, .ref m7, .ref m8, .int (nI sn), .ref m9, .ref m10, .ref m11, .ref m12, .ref m13, .ref m14, .ref m15, .ref m16])), (m1, .inl (gI g, 4, .inl msrt)), (m2, .inl (gI g, 4, .inl (fun z9 => nI (len z9)))), (m3, .inl (gI g, 160, .inl mc)), (m4, .inl (gI g, 8, .inl (fun z9 => nI (w z9)))), (m5, .inl (gI g, 8, .inl (fun z9 => nI (rwt z9)))), (m6, .inl (gI g, 6, .inl (fun z9 => nI (kd z9)))), (m7, .inl (gI g, 6, .inl (fun z9 => nI (pt z9)))), (m8, .inl (gI g, 8, .inl far)), (m9, .inl (gI g, 10, .inl (fun z9 => nI (sb z9)))), (m10, .inl (gI g, 10, .inl (fun z9 => nI (sf z9)))), (m11, .inl (gI g, 10, .inl (fun z9 => nI (ss z9)))), (m12, .inl (gI g, 10, .inl (fun z9 => nI (sw z9)))), (m13, .inl (gI g, 256, .inl (fun z9 => nI (ways z9)))), (m14, .inl (gI g, 8, .inl (fun z9 => nI (chain z9)))), (m15, .inl (gI g, 5, .inl (fun z9 => nI (row z9)))), (m16, .inl (gI g, 5, .inl (fun z9 => nI (best z9))))]
  have ht1 := hT.1; have ht2 := hT.2.1; have ht3 := hT.2.2
  refine v_aload_n0 h dX8_isSo_0 ?_
  refine v_get h mw_X8 0 rfl rfl 16 (by decide) mf_X8_37 rfl dX8_isSo_1 ?_
  refine v_iload_n1 h dX8_isSo_4 ?_
  refine v_ialdN h 10 rfl (by omega) (Nat.le_of_ble_eq_true rfl) dX8_isSo_5 ?_
  refine v_istore_n2 h (Nat.le_of_ble_eq_true rfl) dX8_isSo_6 ?_
  refine v_aload_n0 h dX8_isSo_7 ?_
  refine v_get h mw_X8 0 rfl rfl 17 (by decide) mf_X8_40 rfl dX8_isSo_8 ?_
  refine v_iload_n1 h dX8_isSo_11 ?_
  refine v_ialdN h 11 rfl (by omega) (Nat.le_of_ble_eq_true rfl) dX8_isSo_12 ?_
  refine v_istore_n3 h (Nat.le_of_ble_eq_true rfl) dX8_isSo_13 ?_
  refine v_aload_n0 h dX8_isSo_14 ?_
  refine v_get h mw_X8 0 rfl rfl 18 (by decide) mf_X8_43 rfl dX8_isSo_15 ?_
  refine v_iload_n1 h dX8_isSo_18 ?_
  refine v_ialdN h 12 rfl (by omega) (Nat.le_of_ble_eq_true rfl) dX8_isSo_19 ?_
  refine v_iconst h (v := nI 1) dX8_isSo_20 (by decide) ?_
  refine v_icmp_neN h dX8_isSo_21 (tgt := 39) (by decide) (by have := hsw s1; omega) (by have := hsw s1; omega) (fun c21 => ?_) (fun c21 => ?_)
  · refine v_aload_n0 h dX8_isSo_39 ?_
    refine v_aload_n0 h dX8_isSo_40 ?_
    refine v_get h mw_X8 0 rfl rfl 15 (by decide) mf_X8_34 rfl dX8_isSo_41 ?_
    refine v_iload_n1 h dX8_isSo_44 ?_
    refine v_ialdN h 9 rfl (by omega) (Nat.le_of_ble_eq_true rfl) dX8_isSo_45 ?_
    refine v_iload_n2 h dX8_isSo_46 ?_
    refine v_iload_n3 h dX8_isSo_47 ?_
    refine cw_V_0_1_2_3_4_5_6_7_8_9_10_11_12_13_14_15_16_3_i (ci := 7) h (c_X8_areAlike (g := g) (by first | assumption | omega) (by first | assumption | omega) (by exact hsb s1 hjs) (by exact hsf s1 hjs) (by exact hss s1 hjs)) lk_X8_119 ⟨rfl, rfl, (Nat.le_of_ble_eq_true rfl), (Nat.le_of_ble_eq_true rfl)⟩ rfl rfl rfl (Nat.le_of_ble_eq_true rfl) dX8_isSo_48 ?_
    exact v_zret h hr dX8_isSo_51 (by first | (simp [flsN, c21]; done)) rfl
  · refine v_aload_n0 h dX8_isSo_24 ?_
    refine v_aload_n0 h dX8_isSo_25 ?_
    refine v_get h mw_X8 0 rfl rfl 15 (by decide) mf_X8_34 rfl dX8_isSo_26 ?_
    refine v_iload_n1 h dX8_isSo_29 ?_
    refine v_ialdN h 9 rfl (by omega) (Nat.le_of_ble_eq_true rfl) dX8_isSo_30 ?_
    refine v_iload_n2 h dX8_isSo_31 ?_
    refine v_iload_n3 h dX8_isSo_32 ?_
    refine cw_V_0_1_2_3_4_5_6_7_8_9_10_11_12_13_14_15_16_3_i (ci := 7) h (c_X8_tellsThem (g := g) (by first | assumption | omega) (by first | assumption | omega) (by exact hsb s1 hjs) (by exact hsf s1 hjs) (by exact hss s1 hjs)) lk_X8_116 ⟨rfl, rfl, (Nat.le_of_ble_eq_true rfl), (Nat.le_of_ble_eq_true rfl)⟩ rfl rfl rfl (Nat.le_of_ble_eq_true rfl) dX8_isSo_33 ?_
    refine v_goto h dX8_isSo_36 (tgt := 51) (by decide) ?_
    exact v_zret h hr dX8_isSo_51 (by first | (simp [flsN, c21]; done)) rfl
def P_X8_untrue (g : vG) (m0 m1 m2 m3 m4 m5 m6 m7 m8 m9 m10 m11 m12 m13 m14 m15 m16 : Nat) (fl : Nat) (tr : Int32) (msrt : Nat → Int32) (len : Nat → Nat) (mc : Nat → Int32) (n : Nat) (w : Nat → Nat) (atp : Nat) (rt : Nat) (rwt : Nat → Nat) (hn : Nat) (kd : Nat → Nat) (pt : Nat → Nat) (far : Nat → Int32) (sn : Nat) (sb : Nat → Nat) (sf : Nat → Nat) (ss : Nat → Nat) (sw : Nat → Nat) (ways : Nat → Nat) (chain : Nat → Nat) (row : Nat → Nat) (best : Nat → Nat) : Option Value → va_W → Prop := fun r wo => r = some (.int (s_untrue w kd pt sn sb sf ss sw)) ∧ wo = [(m0, .inr (7, [.int (nI fl), .int tr, .ref m1, .ref m2, .ref m3, .int (nI n), .ref m4, .int (nI atp), .int (nI rt), .ref m5, .int (nI hn), .ref m6, .ref m7, .ref m8, .int (nI sn), .ref m9, .ref m10, .ref m11, .ref m12, .ref m13, .ref m14, .ref m15, .ref m16])), (m1, .inl (gI g, 4, .inl msrt)), (m2, .inl (gI g, 4, .inl (fun z9 => nI (len z9)))), (m3, .inl (gI g, 160, .inl mc)), (m4, .inl (gI g, 8, .inl (fun z9 => nI (w z9)))), (m5, .inl (gI g, 8, .inl (fun z9 => nI (rwt z9)))), (m6, .inl (gI g, 6, .inl (fun z9 => nI (kd z9)))), (m7, .inl (gI g, 6, .inl (fun z9 => nI (pt z9)))), (m8, .inl (gI g, 8, .inl far)), (m9, .inl (gI g, 10, .inl (fun z9 => nI (sb z9)))), (m10, .inl (gI g, 10, .inl (fun z9 => nI (sf z9)))), (m11, .inl (gI g, 10, .inl (fun z9 => nI (ss z9)))), (m12, .inl (gI g, 10, .inl (fun z9 => nI (sw z9)))), (m13, .inl (gI g, 256, .inl (fun z9 => nI (ways z9)))), (m14, .inl (gI g, 8, .inl (fun z9 => nI (chain z9)))), (m15, .inl (gI g, 5, .inl (fun z9 => nI (row z9)))), (m16, .inl (gI g, 5, .inl (fun z9 => nI (best z9))))]
theorem P_X8_untrue_mk {g : vG} {m0 m1 m2 m3 m4 m5 m6 m7 m8 m9 m10 m11 m12 m13 m14 m15 m16 : Nat} {fl : Nat} {tr : Int32} {msrt : Nat → Int32} {len : Nat → Nat} {mc : Nat → Int32} {n : Nat} {w : Nat → Nat} {atp : Nat} {rt : Nat} {rwt : Nat → Nat} {hn : Nat} {kd : Nat → Nat} {pt : Nat → Nat} {far : Nat → Int32} {sn : Nat} {sb : Nat → Nat} {sf : Nat → Nat} {ss : Nat → Nat} {sw : Nat → Nat} {ways : Nat → Nat} {chain : Nat → Nat} {row : Nat → Nat} {best : Nat → Nat}  {q : Int32} (hs : s_untrue w kd pt sn sb sf ss sw = q)  : P_X8_untrue g m0 m1 m2 m3 m4 m5 m6 m7 m8 m9 m10 m11 m12 m13 m14 m15 m16 fl tr msrt len mc n w atp rt rwt hn kd pt far sn sb sf ss sw ways chain row best (some (.int q)) [(m0, .inr (7, [.int (nI fl), .int tr, .ref m1, .ref m2, .ref m3, .int (nI n), .ref m4, .int (nI atp), .int (nI rt), .ref m5, .int (nI hn), .ref m6, .ref m7, .ref m8, .int (nI sn), .ref m9, .ref m10, .ref m11, .ref m12, .ref m13, .ref m14, .ref m15, .ref m16])), (m1, .inl (gI g, 4, .inl msrt)), (m2, .inl (gI g, 4, .inl (fun z9 => nI (len z9)))), (m3, .inl (gI g, 160, .inl mc)), (m4, .inl (gI g, 8, .inl (fun z9 => nI (w z9)))), (m5, .inl (gI g, 8, .inl (fun z9 => nI (rwt z9)))), (m6, .inl (gI g, 6, .inl (fun z9 => nI (kd z9)))), (m7, .inl (gI g, 6, .inl (fun z9 => nI (pt z9)))), (m8, .inl (gI g, 8, .inl far)), (m9, .inl (gI g, 10, .inl (fun z9 => nI (sb z9)))), (m10, .inl (gI g, 10, .inl (fun z9 => nI (sf z9)))), (m11, .inl (gI g, 10, .inl (fun z9 => nI (ss z9)))), (m12, .inl (gI g, 10, .inl (fun z9 => nI (sw z9)))), (m13, .inl (gI g, 256, .inl (fun z9 => nI (ways z9)))), (m14, .inl (gI g, 8, .inl (fun z9 => nI (chain z9)))), (m15, .inl (gI g, 5, .inl (fun z9 => nI (row z9)))), (m16, .inl (gI g, 5, .inl (fun z9 => nI (best z9))))] := by subst hs; exact ⟨rfl, rfl⟩
set_option maxRecDepth 20000 in
set_option maxHeartbeats 4000000 in
theorem c_X8_untrue {g : vG} {m0 m1 m2 m3 m4 m5 m6 m7 m8 m9 m10 m11 m12 m13 m14 m15 m16 : Nat} {fl : Nat} {tr : Int32} {msrt : Nat → Int32} {len : Nat → Nat} {mc : Nat → Int32} {n : Nat} {w : Nat → Nat} {atp : Nat} {rt : Nat} {rwt : Nat → Nat} {hn : Nat} {kd : Nat → Nat} {pt : Nat → Nat} {far : Nat → Int32} {sn : Nat} {sb : Nat → Nat} {sf : Nat → Nat} {ss : Nat → Nat} {sw : Nat → Nat} {ways : Nat → Nat} {chain : Nat → Nat} {row : Nat → Nat} {best : Nat → Nat} (hT : wfT n w) (hH : wfH hn kd pt) (hs1 : sn ≤ 10) (hsb : ∀ j, j < sn → sb j < hn) (hsf : ∀ j, j < sn → sf j < n) (hss : ∀ j, j < sn → ss j < n) (hsw : ∀ j, sw j ≤ 1) : CtP g yX8_untrue cX8_untrue 3 (some .int) (rmOf 5 114) [(m0, .inr (7, [.int (nI fl), .int tr, .ref m1, .ref m2, .ref m3, .int (nI n), .ref m4, .int (nI atp), .int (nI rt), .ref m5, .int (nI hn), .ref m6, .ref m7, .ref m8, .int (nI sn), .ref m9, .ref m10, .ref m11, .ref m12, .ref m13, .ref m14, .ref m15, .ref m16])), (m1, .inl (gI g, 4, .inl msrt)), (m2, .inl (gI g, 4, .inl (fun z9 => nI (len z9)))), (m3, .inl (gI g, 160, .inl mc)), (m4, .inl (gI g, 8, .inl (fun z9 => nI (w z9)))), (m5, .inl (gI g, 8, .inl (fun z9 => nI (rwt z9)))), (m6, .inl (gI g, 6, .inl (fun z9 => nI (kd z9)))), (m7, .inl (gI g, 6, .inl (fun z9 => nI (pt z9)))), (m8, .inl (gI g, 8, .inl far)), (m9, .inl (gI g, 10, .inl (fun z9 => nI (sb z9)))), (m10, .inl (gI g, 10, .inl (fun z9 => nI (sf z9)))), (m11, .inl (gI g, 10, .inl (fun z9 => nI (ss z9)))), (m12, .inl (gI g, 10, .inl (fun z9 => nI (sw z9)))), (m13, .inl (gI g, 256, .inl (fun z9 => nI (ways z9)))), (m14, .inl (gI g, 8, .inl (fun z9 => nI (chain z9)))), (m15, .inl (gI g, 5, .inl (fun z9 => nI (row z9)))), (m16, .inl (gI g, 5, .inl (fun z9 => nI (best z9))))] [.ref m0] (P_X8_untrue g m0 m1 m2 m3 m4 m5 m6 m7 m8 m9 m10 m11 m12 m13 m14 m15 m16 fl tr msrt len mc n w atp rt rwt hn kd pt far sn sb sf ss sw ways chain row best) := by
  refine CtP.ofV RX8 rfl (by decide +kernel) rfl rfl (Nat.le_of_ble_eq_true rfl) (List.forall_mem_cons.mpr ⟨rfl, (fun _ h9 => absurd h9 List.not_mem_nil)⟩) (fun x h hr => ?_)
  show vM x 0 [some (.ref m0), none, none] [] [(m0, .inr (7, [.int (nI fl), .int tr, .ref m1, .ref m2, .ref m3, .int (nI n), .ref m4, .int (nI atp), .int (nI rt), .ref m5, .int (nI hn), .ref m6, .ref m7, .ref m8, .int (nI sn), .ref m9, .ref m10, .ref m11, .ref m12, .ref m13, .ref m14, .ref m15, .ref m16])), (m1, .inl (gI g, 4, .inl msrt)), (m2, .inl (gI g, 4, .inl (fun z9 => nI (len z9)))), (m3, .inl (gI g, 160, .inl mc)), (m4, .inl (gI g, 8, .inl (fun z9 => nI (w z9)))), (m5, .inl (gI g, 8, .inl (fun z9 => nI (rwt z9)))), (m6, .inl (gI g, 6, .inl (fun z9 => nI (kd z9)))), (m7, .inl (gI g, 6, .inl (fun z9 => nI (pt z9)))), (m8, .inl (gI g, 8, .inl far)), (m9, .inl (gI g, 10, .inl (fun z9 => nI (sb z9)))), (m10, .inl (gI g, 10, .inl (fun z9 => nI (sf z9)))), (m11, .inl (gI g, 10, .inl (fun z9 => nI (ss z9)))), (m12, .inl (gI g, 10, .inl (fun z9 => nI (sw z9)))), (m13, .inl (gI g, 256, .inl (fun z9 => nI (ways z9)))), (m14, .inl (gI g, 8, .inl (fun z9 => nI (chain z9)))), (m15, .inl (gI g, 5, .inl (fun z9 => nI (row z9)))), (m16, .inl (gI g, 5, .inl (fun z9 => nI (best z9))))]
  have ht1 := hT.1; have ht2 := hT.2.1; have ht3 := hT.2.2; have hh1 := hH.1; have hh2 := hH.2.1; have hh3 := hH.2.2.1; have hh4 := hH.2.2.2
  refine v_iconst h (v := nI 0) dX8_untrue_0 (by decide) ?_
  refine v_istore_n1 h (Nat.le_of_ble_eq_true rfl) dX8_untrue_1 ?_
  refine v_iconst h (v := nI 0) dX8_untrue_2 (by decide) ?_
  refine v_istore_n2 h (Nat.le_of_ble_eq_true rfl) dX8_untrue_3 ?_
  have L4 : ∀ (k4 : Nat) (i : Nat), sn - i = k4 → (i ≤ sn) → vM x 4 [some (.ref m0), some (.int (nI (orTo (fun s => if flsN kd pt (sb s) (sw s) (w (sf s)) (w (ss s)) = true then 2 ^ s else 0) i))), some (.int (nI i))] [] [(m0, .inr (7, [.int (nI fl), .int tr, .ref m1, .ref m2, .ref m3, .int (nI n), .ref m4, .int (nI atp), .int (nI rt), .ref m5, .int (nI hn), .ref m6, .ref m7, .ref m8, .int (nI sn), .ref m9, .ref m10, .ref m11, .ref m12, .ref m13, .ref m14, .ref m15, .ref m16])), (m1, .inl (gI g, 4, .inl msrt)), (m2, .inl (gI g, 4, .inl (fun z9 => nI (len z9)))), (m3, .inl (gI g, 160, .inl mc)), (m4, .inl (gI g, 8, .inl (fun z9 => nI (w z9)))), (m5, .inl (gI g, 8, .inl (fun z9 => nI (rwt z9)))), (m6, .inl (gI g, 6, .inl (fun z9 => nI (kd z9)))), (m7, .inl (gI g, 6, .inl (fun z9 => nI (pt z9)))), (m8, .inl (gI g, 8, .inl far)), (m9, .inl (gI g, 10, .inl (fun z9 => nI (sb z9)))), (m10, .inl (gI g, 10, .inl (fun z9 => nI (sf z9)))), (m11, .inl (gI g, 10, .inl (fun z9 => nI (ss z9)))), (m12, .inl (gI g, 10, .inl (fun z9 => nI (sw z9)))), (m13, .inl (gI g, 256, .inl (fun z9 => nI (ways z9)))), (m14, .inl (gI g, 8, .inl (fun z9 => nI (chain z9)))), (m15, .inl (gI g, 5, .inl (fun z9 => nI (row z9)))), (m16, .inl (gI g, 5, .inl (fun z9 => nI (best z9))))] := by
    intro k4
    induction k4 using Nat.strongRecOn with
    | _ k4 ih4 =>
      intro i hm4 hi
      refine v_iload_n2 h dX8_untrue_4 ?_
      refine v_aload_n0 h dX8_untrue_5 ?_
      refine v_get h mw_X8 0 rfl rfl 14 (by decide) mf_X8_98 rfl dX8_untrue_6 ?_
      refine v_icmp_geN h dX8_untrue_9 (tgt := 36) (by decide) (by omega) (by omega) (fun c9 => ?_) (fun c9 => ?_)
      · refine v_iload_n1 h dX8_untrue_36 ?_
        exact v_iretP h hr dX8_untrue_37 (P_X8_untrue_mk (q := _) (by rw [s_untrue, show sn = i by omega]) ) rfl
      · refine v_iload_n1 h dX8_untrue_12 ?_
        refine v_aload_n0 h dX8_untrue_13 ?_
        refine v_iload_n2 h dX8_untrue_14 ?_
        refine cw_V_0_1_2_3_4_5_6_7_8_9_10_11_12_13_14_15_16_1_i (ci := 7) h (c_X8_isSo (g := g) (by first | assumption | omega) (by first | assumption | omega) (by first | assumption | omega) (by first | assumption | omega) (by first | assumption | omega) (by first | assumption | omega) (by first | assumption | omega) (by first | assumption | omega)) lk_X8_137 ⟨rfl, rfl, (Nat.le_of_ble_eq_true rfl), (Nat.le_of_ble_eq_true rfl)⟩ rfl rfl rfl (Nat.le_of_ble_eq_true rfl) dX8_untrue_15 ?_
        refine v_if_eqB h dX8_untrue_18 (tgt := 25) (by decide) (fun c18 => ?_) (fun c18 => ?_)
        · refine v_iconst h (v := nI 1) dX8_untrue_25 (by decide) ?_
          refine v_iload_n2 h dX8_untrue_26 ?_
          refine v_ishlN h dX8_untrue_27 (by omega) ?_
          refine v_iorN h dX8_untrue_28 ?_
          refine v_istore_n1 h (Nat.le_of_ble_eq_true rfl) dX8_untrue_29 ?_
          refine v_iincN2 h (Nat.le_of_ble_eq_true rfl) dX8_untrue_30 ?_
          refine v_goto h dX8_untrue_33 (tgt := 4) (by decide) ?_
          exact vM.fg (ih4 _ (by omega) (i + 1) rfl (by first | assumption | rfl | omega)) ⟨rfl, (by rw [orTo]; simp at c18; simp [c18]), rfl, trivial⟩
        · refine v_iconst h (v := nI 0) dX8_untrue_21 (by decide) ?_
          refine v_goto h dX8_untrue_22 (tgt := 28) (by decide) ?_
          refine v_iorN h dX8_untrue_28 ?_
          refine v_istore_n1 h (Nat.le_of_ble_eq_true rfl) dX8_untrue_29 ?_
          refine v_iincN2 h (Nat.le_of_ble_eq_true rfl) dX8_untrue_30 ?_
          refine v_goto h dX8_untrue_33 (tgt := 4) (by decide) ?_
          exact vM.fg (ih4 _ (by omega) (i + 1) rfl (by first | assumption | rfl | omega)) ⟨rfl, (by rw [orTo]; simp at c18; simp [c18]), rfl, trivial⟩
  exact vM.fg (L4 _ 0 rfl (by first | assumption | rfl | omega)) ⟨rfl, rfl, rfl, trivial⟩
set_option maxRecDepth 20000 in
set_option maxHeartbeats 2000000 in
theorem c_X8_falseOf {g : vG} {m0 m1 m2 m3 m4 m5 m6 m7 m8 m9 m10 m11 m12 m13 m14 m15 m16 : Nat} {fl : Nat} {tr : Int32} {msrt : Nat → Int32} {len : Nat → Nat} {mc : Nat → Int32} {n : Nat} {w : Nat → Nat} {atp : Nat} {rt : Nat} {rwt : Nat → Nat} {hn : Nat} {kd : Nat → Nat} {pt : Nat → Nat} {far : Nat → Int32} {sn : Nat} {sb : Nat → Nat} {sf : Nat → Nat} {ss : Nat → Nat} {sw : Nat → Nat} {ways : Nat → Nat} {chain : Nat → Nat} {row : Nat → Nat} {best : Nat → Nat} {xq : Nat} (hT : wfT n w) (hH : wfH hn kd pt) (hs1 : sn ≤ 10) (hsb : ∀ j, j < sn → sb j < hn) (hsf : ∀ j, j < sn → sf j < n) (hss : ∀ j, j < sn → ss j < n) (hsw : ∀ j, sw j ≤ 1) (hx : xq < n) : Ct g yX8_falseOf cX8_falseOf 4 (some .int) (rmOf 5 114) [(m0, .inr (7, [.int (nI fl), .int tr, .ref m1, .ref m2, .ref m3, .int (nI n), .ref m4, .int (nI atp), .int (nI rt), .ref m5, .int (nI hn), .ref m6, .ref m7, .ref m8, .int (nI sn), .ref m9, .ref m10, .ref m11, .ref m12, .ref m13, .ref m14, .ref m15, .ref m16])), (m1, .inl (gI g, 4, .inl msrt)), (m2, .inl (gI g, 4, .inl (fun z9 => nI (len z9)))), (m3, .inl (gI g, 160, .inl mc)), (m4, .inl (gI g, 8, .inl (fun z9 => nI (w z9)))), (m5, .inl (gI g, 8, .inl (fun z9 => nI (rwt z9)))), (m6, .inl (gI g, 6, .inl (fun z9 => nI (kd z9)))), (m7, .inl (gI g, 6, .inl (fun z9 => nI (pt z9)))), (m8, .inl (gI g, 8, .inl far)), (m9, .inl (gI g, 10, .inl (fun z9 => nI (sb z9)))), (m10, .inl (gI g, 10, .inl (fun z9 => nI (sf z9)))), (m11, .inl (gI g, 10, .inl (fun z9 => nI (ss z9)))), (m12, .inl (gI g, 10, .inl (fun z9 => nI (sw z9)))), (m13, .inl (gI g, 256, .inl (fun z9 => nI (ways z9)))), (m14, .inl (gI g, 8, .inl (fun z9 => nI (chain z9)))), (m15, .inl (gI g, 5, .inl (fun z9 => nI (row z9)))), (m16, .inl (gI g, 5, .inl (fun z9 => nI (best z9))))] [.ref m0, .int (nI xq)] (some (.int (nI (flO w kd pt sn sb sf ss sw xq)))) [(m0, .inr (7, [.int (nI fl), .int tr, .ref m1, .ref m2, .ref m3, .int (nI n), .ref m4, .int (nI atp), .int (nI rt), .ref m5, .int (nI hn), .ref m6, .ref m7, .ref m8, .int (nI sn), .ref m9, .ref m10, .ref m11, .ref m12, .ref m13, .ref m14, .ref m15, .ref m16])), (m1, .inl (gI g, 4, .inl msrt)), (m2, .inl (gI g, 4, .inl (fun z9 => nI (len z9)))), (m3, .inl (gI g, 160, .inl mc)), (m4, .inl (gI g, 8, .inl (fun z9 => nI (w z9)))), (m5, .inl (gI g, 8, .inl (fun z9 => nI (rwt z9)))), (m6, .inl (gI g, 6, .inl (fun z9 => nI (kd z9)))), (m7, .inl (gI g, 6, .inl (fun z9 => nI (pt z9)))), (m8, .inl (gI g, 8, .inl far)), (m9, .inl (gI g, 10, .inl (fun z9 => nI (sb z9)))), (m10, .inl (gI g, 10, .inl (fun z9 => nI (sf z9)))), (m11, .inl (gI g, 10, .inl (fun z9 => nI (ss z9)))), (m12, .inl (gI g, 10, .inl (fun z9 => nI (sw z9)))), (m13, .inl (gI g, 256, .inl (fun z9 => nI (ways z9)))), (m14, .inl (gI g, 8, .inl (fun z9 => nI (chain z9)))), (m15, .inl (gI g, 5, .inl (fun z9 => nI (row z9)))), (m16, .inl (gI g, 5, .inl (fun z9 => nI (best z9))))] := by
  refine Ct.ofV RX8 rfl (by decide +kernel) rfl rfl rfl (Nat.le_of_ble_eq_true rfl) (List.forall_mem_cons.mpr ⟨rfl, (List.forall_mem_cons.mpr ⟨rfl, (fun _ h9 => absurd h9 List.not_mem_nil)⟩)⟩) (fun x h hr => ?_)
  show vM x 0 [some (.ref m0), some (.int (nI xq)), none, none] [] [(m0, .inr (7, [.int (nI fl), .int tr, .ref m1, .ref m2, .ref m3, .int (nI n), .ref m4, .int (nI atp), .int (nI rt), .ref m5, .int (nI hn), .ref m6, .ref m7, .ref m8, .int (nI sn), .ref m9, .ref m10, .ref m11, .ref m12, .ref m13, .ref m14, .ref m15, .ref m16])), (m1, .inl (gI g, 4, .inl msrt)), (m2, .inl (gI g, 4, .inl (fun z9 => nI (len z9)))), (m3, .inl (gI g, 160, .inl mc)), (m4, .inl (gI g, 8, .inl (fun z9 => nI (w z9)))), (m5, .inl (gI g, 8, .inl (fun z9 => nI (rwt z9)))), (m6, .inl (gI g, 6, .inl (fun z9 => nI (kd z9)))), (m7, .inl (gI g, 6, .inl (fun z9 => nI (pt z9)))), (m8, .inl (gI g, 8, .inl far)), (m9, .inl (gI g, 10, .inl (fun z9 => nI (sb z9)))), (m10, .inl (gI g, 10, .inl (fun z9 => nI (sf z9)))), (m11, .inl (gI g, 10, .inl (fun z9 => nI (ss z9)))), (m12, .inl (gI g, 10, .inl (fun z9 => nI (sw z9)))), (m13, .inl (gI g, 256, .inl (fun z9 => nI (ways z9)))), (m14, .inl (gI g, 8, .inl (fun z9 => nI (chain z9)))), (m15, .inl (gI g, 5, .inl (fun z9 => nI (row z9)))), (m16, .inl (gI g, 5, .inl (fun z9 => nI (best z9))))]
  have ht1 := hT.1; have ht2 := hT.2.1; have ht3 := hT.2.2; have hh1 := hH.1; have hh2 := hH.2.1; have hh3 := hH.2.2.1; have hh4 := hH.2.2.2
  refine v_iconst h (v := nI 0) dX8_falseOf_0 (by decide) ?_
  refine v_istore_n2 h (Nat.le_of_ble_eq_true rfl) dX8_falseOf_1 ?_
  refine v_iconst h (v := nI 0) dX8_falseOf_2 (by decide) ?_
  refine v_istore_n3 h (Nat.le_of_ble_eq_true rfl) dX8_falseOf_3 ?_
  have L4 : ∀ (k4 : Nat) (i : Nat), sn - i = k4 → (i ≤ sn) → vM x 4 [some (.ref m0), some (.int (nI xq)), some (.int (nI (sumTo (fun s => if (sf s = xq ∨ ss s = xq) ∧ flsN kd pt (sb s) (sw s) (w (sf s)) (w (ss s)) = true then 1 else 0) i))), some (.int (nI i))] [] [(m0, .inr (7, [.int (nI fl), .int tr, .ref m1, .ref m2, .ref m3, .int (nI n), .ref m4, .int (nI atp), .int (nI rt), .ref m5, .int (nI hn), .ref m6, .ref m7, .ref m8, .int (nI sn), .ref m9, .ref m10, .ref m11, .ref m12, .ref m13, .ref m14, .ref m15, .ref m16])), (m1, .inl (gI g, 4, .inl msrt)), (m2, .inl (gI g, 4, .inl (fun z9 => nI (len z9)))), (m3, .inl (gI g, 160, .inl mc)), (m4, .inl (gI g, 8, .inl (fun z9 => nI (w z9)))), (m5, .inl (gI g, 8, .inl (fun z9 => nI (rwt z9)))), (m6, .inl (gI g, 6, .inl (fun z9 => nI (kd z9)))), (m7, .inl (gI g, 6, .inl (fun z9 => nI (pt z9)))), (m8, .inl (gI g, 8, .inl far)), (m9, .inl (gI g, 10, .inl (fun z9 => nI (sb z9)))), (m10, .inl (gI g, 10, .inl (fun z9 => nI (sf z9)))), (m11, .inl (gI g, 10, .inl (fun z9 => nI (ss z9)))), (m12, .inl (gI g, 10, .inl (fun z9 => nI (sw z9)))), (m13, .inl (gI g, 256, .inl (fun z9 => nI (ways z9)))), (m14, .inl (gI g, 8, .inl (fun z9 => nI (chain z9)))), (m15, .inl (gI g, 5, .inl (fun z9 => nI (row z9)))), (m16, .inl (gI g, 5, .inl (fun z9 => nI (best z9))))] := by
    intro k4
    induction k4 using Nat.strongRecOn with
    | _ k4 ih4 =>
      intro i hm4 hi
      refine v_iload_n3 h dX8_falseOf_4 ?_
      refine v_aload_n0 h dX8_falseOf_5 ?_
      refine v_get h mw_X8 0 rfl rfl 14 (by decide) mf_X8_98 rfl dX8_falseOf_6 ?_
      refine v_icmp_geN h dX8_falseOf_9 (tgt := 54) (by decide) (by first | omega | (have := hsf i (by omega); omega) | (have := hss i (by omega); omega)) (by first | omega | (have := hsf i (by omega); omega) | (have := hss i (by omega); omega)) (fun c9 => ?_) (fun c9 => ?_)
      · refine v_iload_n2 h dX8_falseOf_54 ?_
        exact v_iret h hr dX8_falseOf_55 (by rw [flO, show sn = i by omega]) rfl
      · refine v_iload_n2 h dX8_falseOf_12 ?_
        refine v_aload_n0 h dX8_falseOf_13 ?_
        refine v_get h mw_X8 0 rfl rfl 16 (by decide) mf_X8_37 rfl dX8_falseOf_14 ?_
        refine v_iload_n3 h dX8_falseOf_17 ?_
        refine v_ialdN h 10 rfl (by omega) (Nat.le_of_ble_eq_true rfl) dX8_falseOf_18 ?_
        refine v_iload_n1 h dX8_falseOf_19 ?_
        refine v_icmp_eqN h dX8_falseOf_20 (tgt := 33) (by decide) (by first | omega | (have := hsf i (by omega); omega) | (have := hss i (by omega); omega)) (by first | omega | (have := hsf i (by omega); omega) | (have := hss i (by omega); omega)) (fun c20 => ?_) (fun c20 => ?_)
        · refine v_aload_n0 h dX8_falseOf_33 ?_
          refine v_iload_n3 h dX8_falseOf_34 ?_
          refine cw_V_0_1_2_3_4_5_6_7_8_9_10_11_12_13_14_15_16_1_i (ci := 7) h (c_X8_isSo (g := g) (by first | assumption | omega) (by first | assumption | omega) (by first | assumption | omega) (by first | assumption | omega) (by first | assumption | omega) (by first | assumption | omega) (by first | assumption | omega) (by first | assumption | omega)) lk_X8_137 ⟨rfl, rfl, (Nat.le_of_ble_eq_true rfl), (Nat.le_of_ble_eq_true rfl)⟩ rfl rfl rfl (Nat.le_of_ble_eq_true rfl) dX8_falseOf_35 ?_
          refine v_if_neB h dX8_falseOf_38 (tgt := 45) (by decide) (fun c38 => ?_) (fun c38 => ?_)
          · have g9 : (if (sf i = xq ∨ ss i = xq) ∧ flsN kd pt (sb i) (sw i) (w (sf i)) (w (ss i)) = true then 1 else 0) = 0 := if_neg (fun z => by rw [bnot_t c38] at z; cases z.2)
            refine v_iconst h (v := nI 0) dX8_falseOf_45 (by decide) ?_
            refine v_iaddN h dX8_falseOf_46 ?_
            refine v_istore_n2 h (Nat.le_of_ble_eq_true rfl) dX8_falseOf_47 ?_
            refine v_iincN3 h (Nat.le_of_ble_eq_true rfl) dX8_falseOf_48 ?_
            refine v_goto h dX8_falseOf_51 (tgt := 4) (by decide) ?_
            exact vM.fg (ih4 _ (by omega) (i + 1) rfl (by first | assumption | rfl | omega)) ⟨rfl, rfl, (by exact congrArg (fun y => some (Value.int (nI y))) (by rw [sumTo, g9])), rfl, trivial⟩
          · have g9 : (if (sf i = xq ∨ ss i = xq) ∧ flsN kd pt (sb i) (sw i) (w (sf i)) (w (ss i)) = true then 1 else 0) = 1 := if_pos ⟨by first | exact Or.inl c20 | exact Or.inr c30, bnot_f c38⟩
            refine v_iconst h (v := nI 1) dX8_falseOf_41 (by decide) ?_
            refine v_goto h dX8_falseOf_42 (tgt := 46) (by decide) ?_
            refine v_iaddN h dX8_falseOf_46 ?_
            refine v_istore_n2 h (Nat.le_of_ble_eq_true rfl) dX8_falseOf_47 ?_
            refine v_iincN3 h (Nat.le_of_ble_eq_true rfl) dX8_falseOf_48 ?_
            refine v_goto h dX8_falseOf_51 (tgt := 4) (by decide) ?_
            exact vM.fg (ih4 _ (by omega) (i + 1) rfl (by first | assumption | rfl | omega)) ⟨rfl, rfl, (by exact congrArg (fun y => some (Value.int (nI y))) (by rw [sumTo, g9])), rfl, trivial⟩
        · refine v_aload_n0 h dX8_falseOf_23 ?_
          refine v_get h mw_X8 0 rfl rfl 17 (by decide) mf_X8_40 rfl dX8_falseOf_24 ?_
          refine v_iload_n3 h dX8_falseOf_27 ?_
          refine v_ialdN h 11 rfl (by omega) (Nat.le_of_ble_eq_true rfl) dX8_falseOf_28 ?_
          refine v_iload_n1 h dX8_falseOf_29 ?_
          refine v_icmp_neN h dX8_falseOf_30 (tgt := 45) (by decide) (by first | omega | (have := hsf i (by omega); omega) | (have := hss i (by omega); omega)) (by first | omega | (have := hsf i (by omega); omega) | (have := hss i (by omega); omega)) (fun c30 => ?_) (fun c30 => ?_)
          · have g9 : (if (sf i = xq ∨ ss i = xq) ∧ flsN kd pt (sb i) (sw i) (w (sf i)) (w (ss i)) = true then 1 else 0) = 0 := if_neg (fun z => by rcases z.1 with q | q; exact c20 q; exact c30 q)
            refine v_iconst h (v := nI 0) dX8_falseOf_45 (by decide) ?_
            refine v_iaddN h dX8_falseOf_46 ?_
            refine v_istore_n2 h (Nat.le_of_ble_eq_true rfl) dX8_falseOf_47 ?_
            refine v_iincN3 h (Nat.le_of_ble_eq_true rfl) dX8_falseOf_48 ?_
            refine v_goto h dX8_falseOf_51 (tgt := 4) (by decide) ?_
            exact vM.fg (ih4 _ (by omega) (i + 1) rfl (by first | assumption | rfl | omega)) ⟨rfl, rfl, (by exact congrArg (fun y => some (Value.int (nI y))) (by rw [sumTo, g9])), rfl, trivial⟩
          · refine v_aload_n0 h dX8_falseOf_33 ?_
            refine v_iload_n3 h dX8_falseOf_34 ?_
            refine cw_V_0_1_2_3_4_5_6_7_8_9_10_11_12_13_14_15_16_1_i (ci := 7) h (c_X8_isSo (g := g) (by first | assumption | omega) (by first | assumption | omega) (by first | assumption | omega) (by first | assumption | omega) (by first | assumption | omega) (by first | assumption | omega) (by first | assumption | omega) (by first | assumption | omega)) lk_X8_137 ⟨rfl, rfl, (Nat.le_of_ble_eq_true rfl), (Nat.le_of_ble_eq_true rfl)⟩ rfl rfl rfl (Nat.le_of_ble_eq_true rfl) dX8_falseOf_35 ?_
            refine v_if_neB h dX8_falseOf_38 (tgt := 45) (by decide) (fun c38 => ?_) (fun c38 => ?_)
            · have g9 : (if (sf i = xq ∨ ss i = xq) ∧ flsN kd pt (sb i) (sw i) (w (sf i)) (w (ss i)) = true then 1 else 0) = 0 := if_neg (fun z => by rw [bnot_t c38] at z; cases z.2)
              refine v_iconst h (v := nI 0) dX8_falseOf_45 (by decide) ?_
              refine v_iaddN h dX8_falseOf_46 ?_
              refine v_istore_n2 h (Nat.le_of_ble_eq_true rfl) dX8_falseOf_47 ?_
              refine v_iincN3 h (Nat.le_of_ble_eq_true rfl) dX8_falseOf_48 ?_
              refine v_goto h dX8_falseOf_51 (tgt := 4) (by decide) ?_
              exact vM.fg (ih4 _ (by omega) (i + 1) rfl (by first | assumption | rfl | omega)) ⟨rfl, rfl, (by exact congrArg (fun y => some (Value.int (nI y))) (by rw [sumTo, g9])), rfl, trivial⟩
            · have g9 : (if (sf i = xq ∨ ss i = xq) ∧ flsN kd pt (sb i) (sw i) (w (sf i)) (w (ss i)) = true then 1 else 0) = 1 := if_pos ⟨by first | exact Or.inl c20 | exact Or.inr c30, bnot_f c38⟩
              refine v_iconst h (v := nI 1) dX8_falseOf_41 (by decide) ?_
              refine v_goto h dX8_falseOf_42 (tgt := 46) (by decide) ?_
              refine v_iaddN h dX8_falseOf_46 ?_
              refine v_istore_n2 h (Nat.le_of_ble_eq_true rfl) dX8_falseOf_47 ?_
              refine v_iincN3 h (Nat.le_of_ble_eq_true rfl) dX8_falseOf_48 ?_
              refine v_goto h dX8_falseOf_51 (tgt := 4) (by decide) ?_
              exact vM.fg (ih4 _ (by omega) (i + 1) rfl (by first | assumption | rfl | omega)) ⟨rfl, rfl, (by exact congrArg (fun y => some (Value.int (nI y))) (by rw [sumTo, g9])), rfl, trivial⟩
  exact vM.fg (L4 _ 0 rfl (by first | assumption | rfl | omega)) ⟨rfl, rfl, rfl, rfl, trivial⟩
def P_X8_leaves (g : vG) (m0 m1 m2 m3 m4 m5 m6 m7 m8 m9 m10 m11 m12 m13 m14 m15 m16 : Nat) (fl : Nat) (tr : Int32) (msrt : Nat → Int32) (len : Nat → Nat) (mc : Nat → Int32) (n : Nat) (w : Nat → Nat) (atp : Nat) (rt : Nat) (rwt : Nat → Nat) (hn : Nat) (kd : Nat → Nat) (pt : Nat → Nat) (far : Nat → Int32) (sn : Nat) (sb : Nat → Nat) (sf : Nat → Nat) (ss : Nat → Nat) (sw : Nat → Nat) (ways : Nat → Nat) (chain : Nat → Nat) (row : Nat → Nat) (best : Nat → Nat) (p0 : Int32) (p1 : Int32) : Option Value → va_W → Prop := fun r wo => r = some (.int (s_leaves n w kd pt sn sb sf ss sw p0 p1)) ∧ wo = [(m0, .inr (7, [.int (nI fl), .int tr, .ref m1, .ref m2, .ref m3, .int (nI n), .ref m4, .int (nI atp), .int (nI rt), .ref m5, .int (nI hn), .ref m6, .ref m7, .ref m8, .int (nI sn), .ref m9, .ref m10, .ref m11, .ref m12, .ref m13, .ref m14, .ref m15, .ref m16])), (m1, .inl (gI g, 4, .inl msrt)), (m2, .inl (gI g, 4, .inl (fun z9 => nI (len z9)))), (m3, .inl (gI g, 160, .inl mc)), (m4, .inl (gI g, 8, .inl (fun z9 => nI (w z9)))), (m5, .inl (gI g, 8, .inl (fun z9 => nI (rwt z9)))), (m6, .inl (gI g, 6, .inl (fun z9 => nI (kd z9)))), (m7, .inl (gI g, 6, .inl (fun z9 => nI (pt z9)))), (m8, .inl (gI g, 8, .inl far)), (m9, .inl (gI g, 10, .inl (fun z9 => nI (sb z9)))), (m10, .inl (gI g, 10, .inl (fun z9 => nI (sf z9)))), (m11, .inl (gI g, 10, .inl (fun z9 => nI (ss z9)))), (m12, .inl (gI g, 10, .inl (fun z9 => nI (sw z9)))), (m13, .inl (gI g, 256, .inl (fun z9 => nI (ways z9)))), (m14, .inl (gI g, 8, .inl (fun z9 => nI (chain z9)))), (m15, .inl (gI g, 5, .inl (fun z9 => nI (row z9)))), (m16, .inl (gI g, 5, .inl (fun z9 => nI (best z9))))]
theorem P_X8_leaves_mk {g : vG} {m0 m1 m2 m3 m4 m5 m6 m7 m8 m9 m10 m11 m12 m13 m14 m15 m16 : Nat} {fl : Nat} {tr : Int32} {msrt : Nat → Int32} {len : Nat → Nat} {mc : Nat → Int32} {n : Nat} {w : Nat → Nat} {atp : Nat} {rt : Nat} {rwt : Nat → Nat} {hn : Nat} {kd : Nat → Nat} {pt : Nat → Nat} {far : Nat → Int32} {sn : Nat} {sb : Nat → Nat} {sf : Nat → Nat} {ss : Nat → Nat} {sw : Nat → Nat} {ways : Nat → Nat} {chain : Nat → Nat} {row : Nat → Nat} {best : Nat → Nat} {p0 : Int32} {p1 : Int32}  {q : Int32} (hs : s_leaves n w kd pt sn sb sf ss sw p0 p1 = q)  : P_X8_leaves g m0 m1 m2 m3 m4 m5 m6 m7 m8 m9 m10 m11 m12 m13 m14 m15 m16 fl tr msrt len mc n w atp rt rwt hn kd pt far sn sb sf ss sw ways chain row best p0 p1 (some (.int q)) [(m0, .inr (7, [.int (nI fl), .int tr, .ref m1, .ref m2, .ref m3, .int (nI n), .ref m4, .int (nI atp), .int (nI rt), .ref m5, .int (nI hn), .ref m6, .ref m7, .ref m8, .int (nI sn), .ref m9, .ref m10, .ref m11, .ref m12, .ref m13, .ref m14, .ref m15, .ref m16])), (m1, .inl (gI g, 4, .inl msrt)), (m2, .inl (gI g, 4, .inl (fun z9 => nI (len z9)))), (m3, .inl (gI g, 160, .inl mc)), (m4, .inl (gI g, 8, .inl (fun z9 => nI (w z9)))), (m5, .inl (gI g, 8, .inl (fun z9 => nI (rwt z9)))), (m6, .inl (gI g, 6, .inl (fun z9 => nI (kd z9)))), (m7, .inl (gI g, 6, .inl (fun z9 => nI (pt z9)))), (m8, .inl (gI g, 8, .inl far)), (m9, .inl (gI g, 10, .inl (fun z9 => nI (sb z9)))), (m10, .inl (gI g, 10, .inl (fun z9 => nI (sf z9)))), (m11, .inl (gI g, 10, .inl (fun z9 => nI (ss z9)))), (m12, .inl (gI g, 10, .inl (fun z9 => nI (sw z9)))), (m13, .inl (gI g, 256, .inl (fun z9 => nI (ways z9)))), (m14, .inl (gI g, 8, .inl (fun z9 => nI (chain z9)))), (m15, .inl (gI g, 5, .inl (fun z9 => nI (row z9)))), (m16, .inl (gI g, 5, .inl (fun z9 => nI (best z9))))] := by subst hs; exact ⟨rfl, rfl⟩
set_option maxRecDepth 20000 in
set_option maxHeartbeats 4000000 in
theorem c_X8_leaves {g : vG} {m0 m1 m2 m3 m4 m5 m6 m7 m8 m9 m10 m11 m12 m13 m14 m15 m16 : Nat} {fl : Nat} {tr : Int32} {msrt : Nat → Int32} {len : Nat → Nat} {mc : Nat → Int32} {n : Nat} {w : Nat → Nat} {atp : Nat} {rt : Nat} {rwt : Nat → Nat} {hn : Nat} {kd : Nat → Nat} {pt : Nat → Nat} {far : Nat → Int32} {sn : Nat} {sb : Nat → Nat} {sf : Nat → Nat} {ss : Nat → Nat} {sw : Nat → Nat} {ways : Nat → Nat} {chain : Nat → Nat} {row : Nat → Nat} {best : Nat → Nat} {p0 : Int32} {p1 : Int32} (hT : wfT n w) (hH : wfH hn kd pt) (hs1 : sn ≤ 10) (hsb : ∀ j, j < sn → sb j < hn) (hsf : ∀ j, j < sn → sf j < n) (hss : ∀ j, j < sn → ss j < n) (hsw : ∀ j, sw j ≤ 1) : CtP g yX8_leaves cX8_leaves 8 (some .int) (rmOf 6 137) [(m0, .inr (7, [.int (nI fl), .int tr, .ref m1, .ref m2, .ref m3, .int (nI n), .ref m4, .int (nI atp), .int (nI rt), .ref m5, .int (nI hn), .ref m6, .ref m7, .ref m8, .int (nI sn), .ref m9, .ref m10, .ref m11, .ref m12, .ref m13, .ref m14, .ref m15, .ref m16])), (m1, .inl (gI g, 4, .inl msrt)), (m2, .inl (gI g, 4, .inl (fun z9 => nI (len z9)))), (m3, .inl (gI g, 160, .inl mc)), (m4, .inl (gI g, 8, .inl (fun z9 => nI (w z9)))), (m5, .inl (gI g, 8, .inl (fun z9 => nI (rwt z9)))), (m6, .inl (gI g, 6, .inl (fun z9 => nI (kd z9)))), (m7, .inl (gI g, 6, .inl (fun z9 => nI (pt z9)))), (m8, .inl (gI g, 8, .inl far)), (m9, .inl (gI g, 10, .inl (fun z9 => nI (sb z9)))), (m10, .inl (gI g, 10, .inl (fun z9 => nI (sf z9)))), (m11, .inl (gI g, 10, .inl (fun z9 => nI (ss z9)))), (m12, .inl (gI g, 10, .inl (fun z9 => nI (sw z9)))), (m13, .inl (gI g, 256, .inl (fun z9 => nI (ways z9)))), (m14, .inl (gI g, 8, .inl (fun z9 => nI (chain z9)))), (m15, .inl (gI g, 5, .inl (fun z9 => nI (row z9)))), (m16, .inl (gI g, 5, .inl (fun z9 => nI (best z9))))] [.ref m0, .int p0, .int p1] (P_X8_leaves g m0 m1 m2 m3 m4 m5 m6 m7 m8 m9 m10 m11 m12 m13 m14 m15 m16 fl tr msrt len mc n w atp rt rwt hn kd pt far sn sb sf ss sw ways chain row best p0 p1) := by
  refine CtP.ofV RX8 rfl (by decide +kernel) rfl rfl (Nat.le_of_ble_eq_true rfl) (List.forall_mem_cons.mpr ⟨rfl, (List.forall_mem_cons.mpr ⟨rfl, (List.forall_mem_cons.mpr ⟨rfl, (fun _ h9 => absurd h9 List.not_mem_nil)⟩)⟩)⟩) (fun x h hr => ?_)
  show vM x 0 [some (.ref m0), some (.int p0), some (.int p1), none, none, none, none, none] [] [(m0, .inr (7, [.int (nI fl), .int tr, .ref m1, .ref m2, .ref m3, .int (nI n), .ref m4, .int (nI atp), .int (nI rt), .ref m5, .int (nI hn), .ref m6, .ref m7, .ref m8, .int (nI sn), .ref m9, .ref m10, .ref m11, .ref m12, .ref m13, .ref m14, .ref m15, .ref m16])), (m1, .inl (gI g, 4, .inl msrt)), (m2, .inl (gI g, 4, .inl (fun z9 => nI (len z9)))), (m3, .inl (gI g, 160, .inl mc)), (m4, .inl (gI g, 8, .inl (fun z9 => nI (w z9)))), (m5, .inl (gI g, 8, .inl (fun z9 => nI (rwt z9)))), (m6, .inl (gI g, 6, .inl (fun z9 => nI (kd z9)))), (m7, .inl (gI g, 6, .inl (fun z9 => nI (pt z9)))), (m8, .inl (gI g, 8, .inl far)), (m9, .inl (gI g, 10, .inl (fun z9 => nI (sb z9)))), (m10, .inl (gI g, 10, .inl (fun z9 => nI (sf z9)))), (m11, .inl (gI g, 10, .inl (fun z9 => nI (ss z9)))), (m12, .inl (gI g, 10, .inl (fun z9 => nI (sw z9)))), (m13, .inl (gI g, 256, .inl (fun z9 => nI (ways z9)))), (m14, .inl (gI g, 8, .inl (fun z9 => nI (chain z9)))), (m15, .inl (gI g, 5, .inl (fun z9 => nI (row z9)))), (m16, .inl (gI g, 5, .inl (fun z9 => nI (best z9))))]
  have ht1 := hT.1; have ht2 := hT.2.1; have ht3 := hT.2.2; have hh1 := hH.1; have hh2 := hH.2.1; have hh3 := hH.2.2.1; have hh4 := hH.2.2.2
  refine v_aload_n0 h dX8_leaves_0 ?_
  refine v_iload_n1 h dX8_leaves_1 ?_
  refine cw_V_0_1_2_3_4_5_6_7_8_9_10_11_12_13_14_15_16_1_i (ci := 7) h (c_X8_isThing (g := g)) lk_X8_101 ⟨rfl, rfl, (Nat.le_of_ble_eq_true rfl), (Nat.le_of_ble_eq_true rfl)⟩ rfl rfl rfl (Nat.le_of_ble_eq_true rfl) dX8_leaves_2 ?_
  refine v_if_neB h dX8_leaves_5 (tgt := 10) (by decide) (fun c5 => ?_) (fun c5 => ?_)
  · obtain ⟨j0, hj0, rfl⟩ := inR_of c5 (by omega)
    have e5 := rN_N hj0 (by omega)
    refine v_iload_n2 h dX8_leaves_10 ?_
    refine v_iconst h (v := nI 0) dX8_leaves_11 (by decide) ?_
    refine v_iconst h (v := nI 2) dX8_leaves_12 (by decide) ?_
    refine cw_S_e_3_i h (c_X8_within (g := g)) lk_X8_64 ⟨rfl, rfl, (Nat.le_of_ble_eq_true rfl), (Nat.le_of_ble_eq_true rfl)⟩ (Nat.le_of_ble_eq_true rfl) dX8_leaves_13 ?_
    refine v_if_neB h dX8_leaves_16 (tgt := 22) (by decide) (fun c16 => ?_) (fun c16 => ?_)
    · obtain ⟨j1, hj1a, hj1, rfl⟩ := wi_of c16 (by decide) (by decide)
      have e16 := rW_N hj1a hj1 (by decide)
      refine v_aload_n0 h dX8_leaves_22 ?_
      refine v_get h mw_X8 0 rfl rfl 6 (by decide) mf_X8_19 rfl dX8_leaves_23 ?_
      refine v_iload_n1 h dX8_leaves_26 ?_
      refine v_ialdN h 4 rfl (by omega) (Nat.le_of_ble_eq_true rfl) dX8_leaves_27 ?_
      refine v_istore_n3 h (Nat.le_of_ble_eq_true rfl) dX8_leaves_28 ?_
      refine v_iconst h (v := nI 0) dX8_leaves_29 (by decide) ?_
      refine v_istore4 h (Nat.le_of_ble_eq_true rfl) dX8_leaves_30 ?_
      refine v_bipush h (v := -9) dX8_leaves_32 (by decide) ?_
      refine v_istore5 h (Nat.le_of_ble_eq_true rfl) dX8_leaves_34 ?_
      refine v_bipush h (v := -9) dX8_leaves_36 (by decide) ?_
      refine v_istore6 h (Nat.le_of_ble_eq_true rfl) dX8_leaves_38 ?_
      refine v_iconst h (v := nI 1) dX8_leaves_40 (by decide) ?_
      refine v_istore7 h (Nat.le_of_ble_eq_true rfl) dX8_leaves_41 ?_
      have L43 : ∀ (k43 : Nat) (k : Nat), 999 - k = k43 → (k ≤ 999) → vM x 43 [some (.ref m0), some (.int (nI j0)), some (.int (nI j1)), some (.int (nI (w j0))), some (.int (nI ((lvK (fbw w kd pt sn sb sf ss sw j0) k).1))), some (.int ((lvK (fbw w kd pt sn sb sf ss sw j0) k).2.1)), some (.int ((lvK (fbw w kd pt sn sb sf ss sw j0) k).2.2)), some (.int (nI (k + 1)))] [] [(m0, .inr (7, [.int (nI fl), .int tr, .ref m1, .ref m2, .ref m3, .int (nI n), .ref m4, .int (nI atp), .int (nI rt), .ref m5, .int (nI hn), .ref m6, .ref m7, .ref m8, .int (nI sn), .ref m9, .ref m10, .ref m11, .ref m12, .ref m13, .ref m14, .ref m15, .ref m16])), (m1, .inl (gI g, 4, .inl msrt)), (m2, .inl (gI g, 4, .inl (fun z9 => nI (len z9)))), (m3, .inl (gI g, 160, .inl mc)), (m4, .inl (gI g, 8, .inl (fun z9 => nI ((upK w j0 k) z9)))), (m5, .inl (gI g, 8, .inl (fun z9 => nI (rwt z9)))), (m6, .inl (gI g, 6, .inl (fun z9 => nI (kd z9)))), (m7, .inl (gI g, 6, .inl (fun z9 => nI (pt z9)))), (m8, .inl (gI g, 8, .inl far)), (m9, .inl (gI g, 10, .inl (fun z9 => nI (sb z9)))), (m10, .inl (gI g, 10, .inl (fun z9 => nI (sf z9)))), (m11, .inl (gI g, 10, .inl (fun z9 => nI (ss z9)))), (m12, .inl (gI g, 10, .inl (fun z9 => nI (sw z9)))), (m13, .inl (gI g, 256, .inl (fun z9 => nI (ways z9)))), (m14, .inl (gI g, 8, .inl (fun z9 => nI (chain z9)))), (m15, .inl (gI g, 5, .inl (fun z9 => nI (row z9)))), (m16, .inl (gI g, 5, .inl (fun z9 => nI (best z9))))] := by
        intro k43
        induction k43 using Nat.strongRecOn with
        | _ k43 ih43 =>
          intro k hm43 hk
          refine v_iload7 h dX8_leaves_43 ?_
          refine v_sipush h (v := nI 999) dX8_leaves_45 (by decide) ?_
          refine v_icmp_gtN h dX8_leaves_48 (tgt := 96) (by decide) (by omega) (by omega) (fun c48 => ?_) (fun c48 => ?_)
          · have e43 : k = 999 := by omega
            subst e43
            refine v_aload_n0 h dX8_leaves_96 ?_
            refine v_get h mw_X8 0 rfl rfl 6 (by decide) mf_X8_19 rfl dX8_leaves_97 ?_
            refine v_iload_n1 h dX8_leaves_100 ?_
            refine v_iload_n3 h dX8_leaves_101 ?_
            refine v_iastN_at4 h (by omega) (Nat.le_of_ble_eq_true rfl) dX8_leaves_102 ?_
            rw [upK_back]
            refine v_iload_n2 h dX8_leaves_103 ?_
            refine v_if_neN h dX8_leaves_104 (tgt := 112) (by decide) (by omega) (fun c104 => ?_) (fun c104 => ?_)
            · refine v_iload_n2 h dX8_leaves_112 ?_
              refine v_iconst h (v := nI 1) dX8_leaves_113 (by decide) ?_
              refine v_icmp_neN h dX8_leaves_114 (tgt := 122) (by decide) (by omega) (by omega) (fun c114 => ?_) (fun c114 => ?_)
              · refine v_iload6 h dX8_leaves_122 ?_
                exact v_iretP h hr dX8_leaves_124 (P_X8_leaves_mk (q := _) (by simp only [s_leaves, e5, e16, if_neg (show ¬ j1 = 0 by omega), if_neg c114]) ) rfl
              · refine v_iload5 h dX8_leaves_117 ?_
                refine v_goto h dX8_leaves_119 (tgt := 124) (by decide) ?_
                exact v_iretP h hr dX8_leaves_124 (P_X8_leaves_mk (q := _) (by simp only [s_leaves, e5, e16, if_neg (show ¬ j1 = 0 by omega), if_pos c114]) ) rfl
            · refine v_iload4 h dX8_leaves_107 ?_
              refine v_goto h dX8_leaves_109 (tgt := 124) (by decide) ?_
              exact v_iretP h hr dX8_leaves_124 (P_X8_leaves_mk (q := _) (by simp only [s_leaves, e5, e16, if_pos c104]) ) rfl
          · refine v_aload_n0 h dX8_leaves_51 ?_
            refine v_get h mw_X8 0 rfl rfl 6 (by decide) mf_X8_19 rfl dX8_leaves_52 ?_
            refine v_iload_n1 h dX8_leaves_55 ?_
            refine v_iload7 h dX8_leaves_56 ?_
            refine v_iastN_at4 h (by omega) (Nat.le_of_ble_eq_true rfl) dX8_leaves_58 ?_
            rw [upK_succ]
            refine v_aload_n0 h dX8_leaves_59 ?_
            refine v_iload_n1 h dX8_leaves_60 ?_
            refine cw_V_0_1_2_3_4_5_6_7_8_9_10_11_12_13_14_15_16_1_i (ci := 7) h (c_X8_falseOf (g := g) (by exact upK_1 (w := w) (x := j0) (k := k) ▸ wfT_up hT (by omega) (by omega)) (by first | assumption | omega) (by first | assumption | omega) (by first | assumption | omega) (by first | assumption | omega) (by first | assumption | omega) (by first | assumption | omega) (by first | assumption | omega)) lk_X8_140 ⟨rfl, rfl, (Nat.le_of_ble_eq_true rfl), (Nat.le_of_ble_eq_true rfl)⟩ rfl rfl rfl (Nat.le_of_ble_eq_true rfl) dX8_leaves_61 ?_
            rw [upK_1, flO_up, ← upK_1]
            refine v_if_neN h dX8_leaves_64 (tgt := 90) (by decide) (by exact Nat.lt_of_le_of_lt fbw_le (by omega)) (fun c64 => ?_) (fun c64 => ?_)
            · refine v_iincN7 h (Nat.le_of_ble_eq_true rfl) dX8_leaves_90 ?_
              refine v_goto h dX8_leaves_93 (tgt := 43) (by decide) ?_
              exact vM.fg (ih43 _ (by omega) (k + 1) rfl (by first | assumption | rfl | omega)) ⟨rfl, rfl, rfl, rfl, (by first | (rw [lvK, if_pos c64]; done) | (rw [lvK, if_neg (by omega)]; done)), (by first | (rw [lvK, if_pos c64]; first | (rw [if_pos c74]; done) | (rw [if_neg c74]; done)) | (rw [lvK, if_neg (by omega)]; done)), (by first | (rw [lvK, if_pos c64]; done) | (rw [lvK, if_neg (by omega)]; done)), rfl, trivial⟩
            · refine v_iincN4 h (Nat.le_of_ble_eq_true rfl) dX8_leaves_67 ?_
              refine v_iload5 h dX8_leaves_70 ?_
              refine v_bipush h (v := -9) dX8_leaves_72 (by decide) ?_
              refine v_icmp_ne h dX8_leaves_74 (tgt := 82) (by decide) (fun c74 => ?_) (fun c74 => ?_)
              · refine v_iload5 h dX8_leaves_82 ?_
                refine v_istore5 h (Nat.le_of_ble_eq_true rfl) dX8_leaves_84 ?_
                refine v_iload7 h dX8_leaves_86 ?_
                refine v_istore6 h (Nat.le_of_ble_eq_true rfl) dX8_leaves_88 ?_
                refine v_iincN7 h (Nat.le_of_ble_eq_true rfl) dX8_leaves_90 ?_
                refine v_goto h dX8_leaves_93 (tgt := 43) (by decide) ?_
                exact vM.fg (ih43 _ (by omega) (k + 1) rfl (by first | assumption | rfl | omega)) ⟨rfl, rfl, rfl, rfl, (by first | (rw [lvK, if_pos c64]; done) | (rw [lvK, if_neg (by omega)]; done)), (by first | (rw [lvK, if_pos c64]; first | (rw [if_pos c74]; done) | (rw [if_neg c74]; done)) | (rw [lvK, if_neg (by omega)]; done)), (by first | (rw [lvK, if_pos c64]; done) | (rw [lvK, if_neg (by omega)]; done)), rfl, trivial⟩
              · refine v_iload7 h dX8_leaves_77 ?_
                refine v_goto h dX8_leaves_79 (tgt := 84) (by decide) ?_
                refine v_istore5 h (Nat.le_of_ble_eq_true rfl) dX8_leaves_84 ?_
                refine v_iload7 h dX8_leaves_86 ?_
                refine v_istore6 h (Nat.le_of_ble_eq_true rfl) dX8_leaves_88 ?_
                refine v_iincN7 h (Nat.le_of_ble_eq_true rfl) dX8_leaves_90 ?_
                refine v_goto h dX8_leaves_93 (tgt := 43) (by decide) ?_
                exact vM.fg (ih43 _ (by omega) (k + 1) rfl (by first | assumption | rfl | omega)) ⟨rfl, rfl, rfl, rfl, (by first | (rw [lvK, if_pos c64]; done) | (rw [lvK, if_neg (by omega)]; done)), (by first | (rw [lvK, if_pos c64]; first | (rw [if_pos c74]; done) | (rw [if_neg c74]; done)) | (rw [lvK, if_neg (by omega)]; done)), (by first | (rw [lvK, if_pos c64]; done) | (rw [lvK, if_neg (by omega)]; done)), rfl, trivial⟩
      exact vM.fg (L43 _ 0 rfl (by first | assumption | rfl | omega)) ⟨rfl, rfl, rfl, rfl, rfl, rfl, rfl, rfl, trivial⟩
    · have e16 := wi_no c16
      refine v_bipush h (v := -2) dX8_leaves_19 (by decide) ?_
      exact v_iretP h hr dX8_leaves_21 (P_X8_leaves_mk (q := _) (by simp only [s_leaves, e5, e16]) ) rfl
  · have e5 := rN_f c5
    refine v_iconst h (v := -1) dX8_leaves_8 (by decide) ?_
    exact v_iretP h hr dX8_leaves_9 (P_X8_leaves_mk (q := _) (by simp only [s_leaves, e5]) ) rfl
def P_X8_breaks (g : vG) (m0 m1 m2 m3 m4 m5 m6 m7 m8 m9 m10 m11 m12 m13 m14 m15 m16 : Nat) (fl : Nat) (tr : Int32) (msrt : Nat → Int32) (len : Nat → Nat) (mc : Nat → Int32) (n : Nat) (w : Nat → Nat) (atp : Nat) (rt : Nat) (rwt : Nat → Nat) (hn : Nat) (kd : Nat → Nat) (pt : Nat → Nat) (far : Nat → Int32) (sn : Nat) (sb : Nat → Nat) (sf : Nat → Nat) (ss : Nat → Nat) (sw : Nat → Nat) (ways : Nat → Nat) (chain : Nat → Nat) (row : Nat → Nat) (best : Nat → Nat) (p0 : Int32) (p1 : Int32) : Option Value → va_W → Prop := fun r wo => r = some (.int (s_breaks n w kd pt sn sb sf ss sw p0 p1)) ∧ wo = [(m0, .inr (7, [.int (nI fl), .int tr, .ref m1, .ref m2, .ref m3, .int (nI n), .ref m4, .int (nI atp), .int (nI rt), .ref m5, .int (nI hn), .ref m6, .ref m7, .ref m8, .int (nI sn), .ref m9, .ref m10, .ref m11, .ref m12, .ref m13, .ref m14, .ref m15, .ref m16])), (m1, .inl (gI g, 4, .inl msrt)), (m2, .inl (gI g, 4, .inl (fun z9 => nI (len z9)))), (m3, .inl (gI g, 160, .inl mc)), (m4, .inl (gI g, 8, .inl (fun z9 => nI (w z9)))), (m5, .inl (gI g, 8, .inl (fun z9 => nI (rwt z9)))), (m6, .inl (gI g, 6, .inl (fun z9 => nI (kd z9)))), (m7, .inl (gI g, 6, .inl (fun z9 => nI (pt z9)))), (m8, .inl (gI g, 8, .inl far)), (m9, .inl (gI g, 10, .inl (fun z9 => nI (sb z9)))), (m10, .inl (gI g, 10, .inl (fun z9 => nI (sf z9)))), (m11, .inl (gI g, 10, .inl (fun z9 => nI (ss z9)))), (m12, .inl (gI g, 10, .inl (fun z9 => nI (sw z9)))), (m13, .inl (gI g, 256, .inl (fun z9 => nI (ways z9)))), (m14, .inl (gI g, 8, .inl (fun z9 => nI (chain z9)))), (m15, .inl (gI g, 5, .inl (fun z9 => nI (row z9)))), (m16, .inl (gI g, 5, .inl (fun z9 => nI (best z9))))]
theorem P_X8_breaks_mk {g : vG} {m0 m1 m2 m3 m4 m5 m6 m7 m8 m9 m10 m11 m12 m13 m14 m15 m16 : Nat} {fl : Nat} {tr : Int32} {msrt : Nat → Int32} {len : Nat → Nat} {mc : Nat → Int32} {n : Nat} {w : Nat → Nat} {atp : Nat} {rt : Nat} {rwt : Nat → Nat} {hn : Nat} {kd : Nat → Nat} {pt : Nat → Nat} {far : Nat → Int32} {sn : Nat} {sb : Nat → Nat} {sf : Nat → Nat} {ss : Nat → Nat} {sw : Nat → Nat} {ways : Nat → Nat} {chain : Nat → Nat} {row : Nat → Nat} {best : Nat → Nat} {p0 : Int32} {p1 : Int32}  {q : Int32} (hs : s_breaks n w kd pt sn sb sf ss sw p0 p1 = q)  : P_X8_breaks g m0 m1 m2 m3 m4 m5 m6 m7 m8 m9 m10 m11 m12 m13 m14 m15 m16 fl tr msrt len mc n w atp rt rwt hn kd pt far sn sb sf ss sw ways chain row best p0 p1 (some (.int q)) [(m0, .inr (7, [.int (nI fl), .int tr, .ref m1, .ref m2, .ref m3, .int (nI n), .ref m4, .int (nI atp), .int (nI rt), .ref m5, .int (nI hn), .ref m6, .ref m7, .ref m8, .int (nI sn), .ref m9, .ref m10, .ref m11, .ref m12, .ref m13, .ref m14, .ref m15, .ref m16])), (m1, .inl (gI g, 4, .inl msrt)), (m2, .inl (gI g, 4, .inl (fun z9 => nI (len z9)))), (m3, .inl (gI g, 160, .inl mc)), (m4, .inl (gI g, 8, .inl (fun z9 => nI (w z9)))), (m5, .inl (gI g, 8, .inl (fun z9 => nI (rwt z9)))), (m6, .inl (gI g, 6, .inl (fun z9 => nI (kd z9)))), (m7, .inl (gI g, 6, .inl (fun z9 => nI (pt z9)))), (m8, .inl (gI g, 8, .inl far)), (m9, .inl (gI g, 10, .inl (fun z9 => nI (sb z9)))), (m10, .inl (gI g, 10, .inl (fun z9 => nI (sf z9)))), (m11, .inl (gI g, 10, .inl (fun z9 => nI (ss z9)))), (m12, .inl (gI g, 10, .inl (fun z9 => nI (sw z9)))), (m13, .inl (gI g, 256, .inl (fun z9 => nI (ways z9)))), (m14, .inl (gI g, 8, .inl (fun z9 => nI (chain z9)))), (m15, .inl (gI g, 5, .inl (fun z9 => nI (row z9)))), (m16, .inl (gI g, 5, .inl (fun z9 => nI (best z9))))] := by subst hs; exact ⟨rfl, rfl⟩
set_option maxRecDepth 20000 in
set_option maxHeartbeats 4000000 in
theorem c_X8_breaks {g : vG} {m0 m1 m2 m3 m4 m5 m6 m7 m8 m9 m10 m11 m12 m13 m14 m15 m16 : Nat} {fl : Nat} {tr : Int32} {msrt : Nat → Int32} {len : Nat → Nat} {mc : Nat → Int32} {n : Nat} {w : Nat → Nat} {atp : Nat} {rt : Nat} {rwt : Nat → Nat} {hn : Nat} {kd : Nat → Nat} {pt : Nat → Nat} {far : Nat → Int32} {sn : Nat} {sb : Nat → Nat} {sf : Nat → Nat} {ss : Nat → Nat} {sw : Nat → Nat} {ways : Nat → Nat} {chain : Nat → Nat} {row : Nat → Nat} {best : Nat → Nat} {p0 : Int32} {p1 : Int32} (hT : wfT n w) (hH : wfH hn kd pt) (hs1 : sn ≤ 10) (hsb : ∀ j, j < sn → sb j < hn) (hsf : ∀ j, j < sn → sf j < n) (hss : ∀ j, j < sn → ss j < n) (hsw : ∀ j, sw j ≤ 1) : CtP g yX8_breaks cX8_breaks 8 (some .int) (rmOf 6 137) [(m0, .inr (7, [.int (nI fl), .int tr, .ref m1, .ref m2, .ref m3, .int (nI n), .ref m4, .int (nI atp), .int (nI rt), .ref m5, .int (nI hn), .ref m6, .ref m7, .ref m8, .int (nI sn), .ref m9, .ref m10, .ref m11, .ref m12, .ref m13, .ref m14, .ref m15, .ref m16])), (m1, .inl (gI g, 4, .inl msrt)), (m2, .inl (gI g, 4, .inl (fun z9 => nI (len z9)))), (m3, .inl (gI g, 160, .inl mc)), (m4, .inl (gI g, 8, .inl (fun z9 => nI (w z9)))), (m5, .inl (gI g, 8, .inl (fun z9 => nI (rwt z9)))), (m6, .inl (gI g, 6, .inl (fun z9 => nI (kd z9)))), (m7, .inl (gI g, 6, .inl (fun z9 => nI (pt z9)))), (m8, .inl (gI g, 8, .inl far)), (m9, .inl (gI g, 10, .inl (fun z9 => nI (sb z9)))), (m10, .inl (gI g, 10, .inl (fun z9 => nI (sf z9)))), (m11, .inl (gI g, 10, .inl (fun z9 => nI (ss z9)))), (m12, .inl (gI g, 10, .inl (fun z9 => nI (sw z9)))), (m13, .inl (gI g, 256, .inl (fun z9 => nI (ways z9)))), (m14, .inl (gI g, 8, .inl (fun z9 => nI (chain z9)))), (m15, .inl (gI g, 5, .inl (fun z9 => nI (row z9)))), (m16, .inl (gI g, 5, .inl (fun z9 => nI (best z9))))] [.ref m0, .int p0, .int p1] (P_X8_breaks g m0 m1 m2 m3 m4 m5 m6 m7 m8 m9 m10 m11 m12 m13 m14 m15 m16 fl tr msrt len mc n w atp rt rwt hn kd pt far sn sb sf ss sw ways chain row best p0 p1) := by
  refine CtP.ofV RX8 rfl (by decide +kernel) rfl rfl (Nat.le_of_ble_eq_true rfl) (List.forall_mem_cons.mpr ⟨rfl, (List.forall_mem_cons.mpr ⟨rfl, (List.forall_mem_cons.mpr ⟨rfl, (fun _ h9 => absurd h9 List.not_mem_nil)⟩)⟩)⟩) (fun x h hr => ?_)
  show vM x 0 [some (.ref m0), some (.int p0), some (.int p1), none, none, none, none, none] [] [(m0, .inr (7, [.int (nI fl), .int tr, .ref m1, .ref m2, .ref m3, .int (nI n), .ref m4, .int (nI atp), .int (nI rt), .ref m5, .int (nI hn), .ref m6, .ref m7, .ref m8, .int (nI sn), .ref m9, .ref m10, .ref m11, .ref m12, .ref m13, .ref m14, .ref m15, .ref m16])), (m1, .inl (gI g, 4, .inl msrt)), (m2, .inl (gI g, 4, .inl (fun z9 => nI (len z9)))), (m3, .inl (gI g, 160, .inl mc)), (m4, .inl (gI g, 8, .inl (fun z9 => nI (w z9)))), (m5, .inl (gI g, 8, .inl (fun z9 => nI (rwt z9)))), (m6, .inl (gI g, 6, .inl (fun z9 => nI (kd z9)))), (m7, .inl (gI g, 6, .inl (fun z9 => nI (pt z9)))), (m8, .inl (gI g, 8, .inl far)), (m9, .inl (gI g, 10, .inl (fun z9 => nI (sb z9)))), (m10, .inl (gI g, 10, .inl (fun z9 => nI (sf z9)))), (m11, .inl (gI g, 10, .inl (fun z9 => nI (ss z9)))), (m12, .inl (gI g, 10, .inl (fun z9 => nI (sw z9)))), (m13, .inl (gI g, 256, .inl (fun z9 => nI (ways z9)))), (m14, .inl (gI g, 8, .inl (fun z9 => nI (chain z9)))), (m15, .inl (gI g, 5, .inl (fun z9 => nI (row z9)))), (m16, .inl (gI g, 5, .inl (fun z9 => nI (best z9))))]
  have ht1 := hT.1; have ht2 := hT.2.1; have ht3 := hT.2.2; have hh1 := hH.1; have hh2 := hH.2.1; have hh3 := hH.2.2.1; have hh4 := hH.2.2.2
  refine v_aload_n0 h dX8_breaks_0 ?_
  refine v_iload_n1 h dX8_breaks_1 ?_
  refine cw_V_0_1_2_3_4_5_6_7_8_9_10_11_12_13_14_15_16_1_i (ci := 7) h (c_X8_isThing (g := g)) lk_X8_101 ⟨rfl, rfl, (Nat.le_of_ble_eq_true rfl), (Nat.le_of_ble_eq_true rfl)⟩ rfl rfl rfl (Nat.le_of_ble_eq_true rfl) dX8_breaks_2 ?_
  refine v_if_neB h dX8_breaks_5 (tgt := 10) (by decide) (fun c5 => ?_) (fun c5 => ?_)
  · obtain ⟨j0, hj0, rfl⟩ := inR_of c5 (by omega)
    have e5 := rN_N hj0 (by omega)
    refine v_iload_n2 h dX8_breaks_10 ?_
    refine v_iconst h (v := nI 0) dX8_breaks_11 (by decide) ?_
    refine v_iconst h (v := nI 1) dX8_breaks_12 (by decide) ?_
    refine cw_S_e_3_i h (c_X8_within (g := g)) lk_X8_64 ⟨rfl, rfl, (Nat.le_of_ble_eq_true rfl), (Nat.le_of_ble_eq_true rfl)⟩ (Nat.le_of_ble_eq_true rfl) dX8_breaks_13 ?_
    refine v_if_neB h dX8_breaks_16 (tgt := 22) (by decide) (fun c16 => ?_) (fun c16 => ?_)
    · obtain ⟨j1, hj1a, hj1, rfl⟩ := wi_of c16 (by decide) (by decide)
      have e16 := rW_N hj1a hj1 (by decide)
      refine v_aload_n0 h dX8_breaks_22 ?_
      refine v_get h mw_X8 0 rfl rfl 6 (by decide) mf_X8_19 rfl dX8_breaks_23 ?_
      refine v_iload_n1 h dX8_breaks_26 ?_
      refine v_ialdN h 4 rfl (by omega) (Nat.le_of_ble_eq_true rfl) dX8_breaks_27 ?_
      refine v_istore_n3 h (Nat.le_of_ble_eq_true rfl) dX8_breaks_28 ?_
      refine v_bipush h (v := nI 11) dX8_breaks_29 (by decide) ?_
      refine v_istore4 h (Nat.le_of_ble_eq_true rfl) dX8_breaks_31 ?_
      refine v_iconst h (v := nI 0) dX8_breaks_33 (by decide) ?_
      refine v_istore5 h (Nat.le_of_ble_eq_true rfl) dX8_breaks_34 ?_
      refine v_iconst h (v := nI 1) dX8_breaks_36 (by decide) ?_
      refine v_istore6 h (Nat.le_of_ble_eq_true rfl) dX8_breaks_37 ?_
      have L39 : ∀ (k39 : Nat) (k : Nat), 999 - k = k39 → (k ≤ 999) → vM x 39 [some (.ref m0), some (.int (nI j0)), some (.int (nI j1)), some (.int (nI (w j0))), some (.int (nI ((brK (fbw w kd pt sn sb sf ss sw j0) k).1))), some (.int (nI (if k = 0 then 0 else (brK (fbw w kd pt sn sb sf ss sw j0) k).2))), some (.int (nI (k + 1))), none] [] [(m0, .inr (7, [.int (nI fl), .int tr, .ref m1, .ref m2, .ref m3, .int (nI n), .ref m4, .int (nI atp), .int (nI rt), .ref m5, .int (nI hn), .ref m6, .ref m7, .ref m8, .int (nI sn), .ref m9, .ref m10, .ref m11, .ref m12, .ref m13, .ref m14, .ref m15, .ref m16])), (m1, .inl (gI g, 4, .inl msrt)), (m2, .inl (gI g, 4, .inl (fun z9 => nI (len z9)))), (m3, .inl (gI g, 160, .inl mc)), (m4, .inl (gI g, 8, .inl (fun z9 => nI ((upK w j0 k) z9)))), (m5, .inl (gI g, 8, .inl (fun z9 => nI (rwt z9)))), (m6, .inl (gI g, 6, .inl (fun z9 => nI (kd z9)))), (m7, .inl (gI g, 6, .inl (fun z9 => nI (pt z9)))), (m8, .inl (gI g, 8, .inl far)), (m9, .inl (gI g, 10, .inl (fun z9 => nI (sb z9)))), (m10, .inl (gI g, 10, .inl (fun z9 => nI (sf z9)))), (m11, .inl (gI g, 10, .inl (fun z9 => nI (ss z9)))), (m12, .inl (gI g, 10, .inl (fun z9 => nI (sw z9)))), (m13, .inl (gI g, 256, .inl (fun z9 => nI (ways z9)))), (m14, .inl (gI g, 8, .inl (fun z9 => nI (chain z9)))), (m15, .inl (gI g, 5, .inl (fun z9 => nI (row z9)))), (m16, .inl (gI g, 5, .inl (fun z9 => nI (best z9))))] := by
        intro k39
        induction k39 using Nat.strongRecOn with
        | _ k39 ih39 =>
          intro k hm39 hk
          refine v_iload6 h dX8_breaks_39 ?_
          refine v_sipush h (v := nI 999) dX8_breaks_41 (by decide) ?_
          refine v_icmp_gtN h dX8_breaks_44 (tgt := 83) (by decide) (by omega) (by omega) (fun c44 => ?_) (fun c44 => ?_)
          · have e37 : k = 999 := by omega
            subst e37
            refine v_aload_n0 h dX8_breaks_83 ?_
            refine v_get h mw_X8 0 rfl rfl 6 (by decide) mf_X8_19 rfl dX8_breaks_84 ?_
            refine v_iload_n1 h dX8_breaks_87 ?_
            refine v_iload_n3 h dX8_breaks_88 ?_
            refine v_iastN_at4 h (by omega) (Nat.le_of_ble_eq_true rfl) dX8_breaks_89 ?_
            rw [upK_back]
            refine v_iload_n2 h dX8_breaks_90 ?_
            refine v_if_neN h dX8_breaks_91 (tgt := 99) (by decide) (by omega) (fun c91 => ?_) (fun c91 => ?_)
            · refine v_iload5 h dX8_breaks_99 ?_
              exact v_iretP h hr dX8_breaks_101 (P_X8_breaks_mk (q := _) (by simp only [s_breaks, e5, e16, if_neg (show ¬ j1 = 0 by omega), if_neg (show ¬ (999 : Nat) = 0 by decide)]) ) rfl
            · refine v_iload4 h dX8_breaks_94 ?_
              refine v_goto h dX8_breaks_96 (tgt := 101) (by decide) ?_
              exact v_iretP h hr dX8_breaks_101 (P_X8_breaks_mk (q := _) (by simp only [s_breaks, e5, e16, if_pos c91, if_neg (show ¬ (999 : Nat) = 0 by decide)]) ) rfl
          · refine v_aload_n0 h dX8_breaks_47 ?_
            refine v_get h mw_X8 0 rfl rfl 6 (by decide) mf_X8_19 rfl dX8_breaks_48 ?_
            refine v_iload_n1 h dX8_breaks_51 ?_
            refine v_iload6 h dX8_breaks_52 ?_
            refine v_iastN_at4 h (by omega) (Nat.le_of_ble_eq_true rfl) dX8_breaks_54 ?_
            rw [upK_succ]
            refine v_aload_n0 h dX8_breaks_55 ?_
            refine v_iload_n1 h dX8_breaks_56 ?_
            refine cw_V_0_1_2_3_4_5_6_7_8_9_10_11_12_13_14_15_16_1_i (ci := 7) h (c_X8_falseOf (g := g) (by exact upK_1 (w := w) (x := j0) (k := k) ▸ wfT_up hT (by omega) (by omega)) (by first | assumption | omega) (by first | assumption | omega) (by first | assumption | omega) (by first | assumption | omega) (by first | assumption | omega) (by first | assumption | omega) (by first | assumption | omega)) lk_X8_140 ⟨rfl, rfl, (Nat.le_of_ble_eq_true rfl), (Nat.le_of_ble_eq_true rfl)⟩ rfl rfl rfl (Nat.le_of_ble_eq_true rfl) dX8_breaks_57 ?_
            rw [upK_1, flO_up, ← upK_1]
            refine v_istore7 h (Nat.le_of_ble_eq_true rfl) dX8_breaks_60 ?_
            refine v_iload7 h dX8_breaks_62 ?_
            refine v_iload4 h dX8_breaks_64 ?_
            refine v_icmp_geN h dX8_breaks_66 (tgt := 77) (by decide) (by first | exact Nat.lt_of_le_of_lt fbw_le (by omega) | exact Nat.lt_of_le_of_lt (brK_le k) (by decide)) (by first | exact Nat.lt_of_le_of_lt fbw_le (by omega) | exact Nat.lt_of_le_of_lt (brK_le k) (by decide)) (fun c66 => ?_) (fun c66 => ?_)
            · have hk0 : ¬ k = 0 := by
                intro z
                subst z
                have h9 := fbw_le (w := w) (kd := kd) (pt := pt) (sn := sn) (sb := sb) (sf := sf) (ss := ss) (sw := sw) (x := j0) (v := 0 + 1)
                have h8 : (brK (fbw w kd pt sn sb sf ss sw j0) 0).1 = 11 := rfl
                omega
              refine v_iincN6 h (Nat.le_of_ble_eq_true rfl) dX8_breaks_77 ?_
              refine v_goto h dX8_breaks_80 (tgt := 39) (by decide) ?_
              exact vM.fg (ih39 _ (by omega) (k + 1) rfl (by first | assumption | rfl | omega)) ⟨rfl, rfl, rfl, rfl, (by first | (rw [brK, if_pos c66]; done) | (rw [brK, if_neg (by omega)]; done)), (by rw [if_neg (show ¬ k + 1 = 0 by omega)]; first | (rw [brK, if_pos c66]; done) | (rw [if_neg hk0, brK, if_neg (by omega)]; done)), rfl, trivial⟩
            · refine v_iload7 h dX8_breaks_69 ?_
              refine v_istore4 h (Nat.le_of_ble_eq_true rfl) dX8_breaks_71 ?_
              refine v_iload6 h dX8_breaks_73 ?_
              refine v_istore5 h (Nat.le_of_ble_eq_true rfl) dX8_breaks_75 ?_
              refine v_iincN6 h (Nat.le_of_ble_eq_true rfl) dX8_breaks_77 ?_
              refine v_goto h dX8_breaks_80 (tgt := 39) (by decide) ?_
              exact vM.fg (ih39 _ (by omega) (k + 1) rfl (by first | assumption | rfl | omega)) ⟨rfl, rfl, rfl, rfl, (by first | (rw [brK, if_pos c66]; done) | (rw [brK, if_neg (by omega)]; done)), (by rw [if_neg (show ¬ k + 1 = 0 by omega)]; first | (rw [brK, if_pos c66]; done) | (rw [if_neg hk0, brK, if_neg (by omega)]; done)), rfl, trivial⟩
      exact vM.fg (L39 _ 0 rfl (by first | assumption | rfl | omega)) ⟨rfl, rfl, rfl, rfl, rfl, rfl, rfl, trivial⟩
    · have e16 := wi_no c16
      refine v_bipush h (v := -2) dX8_breaks_19 (by decide) ?_
      exact v_iretP h hr dX8_breaks_21 (P_X8_breaks_mk (q := _) (by simp only [s_breaks, e5, e16]) ) rfl
  · have e5 := rN_f c5
    refine v_iconst h (v := -1) dX8_breaks_8 (by decide) ?_
    exact v_iretP h hr dX8_breaks_9 (P_X8_breaks_mk (q := _) (by simp only [s_breaks, e5]) ) rfl
