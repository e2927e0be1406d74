theorem lk_X7_177 : LkV RX7 177 yX4_placeInFirstOrder cX4_placeInFirstOrder 5 (some .int) 1 := ⟨ml_X7_177, mn_X4_placeInFirstOrder, mv_X4_placeInFirstOrder, mi_X4, mc_X4_placeInFirstOrder, ⟨by decide, by decide, by decide +kernel⟩⟩
theorem cw_V_6_7_8_9_0_i {x : vX} {g : vG} {cc : ByteArray} {own : String} {rm : Room} {nL pc : Nat} {lv : List (Option Value)} {st : List Value} {w0 w1 w2 w3 w4 w5 : Nat × va_E} {wt : va_W} {c0 c1 c2 c3 d0 d1 d2 d3 : Nat × va_E} {idx : Nat} {y : MethodName} {bytes : ByteArray} {ml : Nat} {ret : Option FieldType} {rmc : Room} {r : Int32} {a ci : Nat} {q : vw_C} {fs : List Value} (h : Ok x g cc own rm nL) (hc : Ct g y bytes ml ret rmc [c0, c1, c2, c3] [.ref a] (some (.int r)) [d0, d1, d2, d3]) (lk : LkV own idx y bytes ml ret 0) (hrm : RmOk rmc rm ml) (hcl : vwCl[ci]? = some q) (hq : y.cls = q.1) (h0 : c0 = (a, .inr (ci, fs))) (hW : (st.map fun v => v.category).sum ≤ 8) (hd : decode cc pc = .ok (.invokevirtual idx, 3)) (k : vM x (pc + 3) lv (.int r :: st) (w0 :: w1 :: w2 :: w3 :: w4 :: w5 :: d0 :: d1 :: d2 :: d3 :: wt)) : vM x pc lv (.ref a :: st) (w0 :: w1 :: w2 :: w3 :: w4 :: w5 :: c0 :: c1 :: c2 :: c3 :: wt) := v_callV (As := []) (rest := st) h hc lk hrm hcl hq (by rw [h0]; rfl) rfl [6, 7, 8, 9] rfl (by decide) hW hd rfl k
theorem lk_X7_174 : LkV RX7 174 yX4_countOrders cX4_countOrders 5 (some .int) 0 := ⟨ml_X7_174, mn_X4_countOrders, mv_X4_countOrders, mi_X4, mc_X4_countOrders, ⟨by decide, by decide, by decide +kernel⟩⟩
theorem lk_X7_180 : LkV RX7 180 yX4_longestChain cX4_longestChain 4 (some .int) 0 := ⟨ml_X7_180, mn_X4_longestChain, mv_X4_longestChain, mi_X4, mc_X4_longestChain, ⟨by decide, by decide, by decide +kernel⟩⟩
theorem lk_X7_183 : LkV RX7 183 yX4_greatestCrowd cX4_greatestCrowd 3 (some .int) 0 := ⟨ml_X7_183, mn_X4_greatestCrowd, mv_X4_greatestCrowd, mi_X4, mc_X4_greatestCrowd, ⟨by decide, by decide, by decide +kernel⟩⟩
theorem lk_X7_186 : LkV RX7 186 yX4_othersAlikeTo cX4_othersAlikeTo 2 (some .int) 1 := ⟨ml_X7_186, mn_X4_othersAlikeTo, mv_X4_othersAlikeTo, mi_X4, mc_X4_othersAlikeTo, ⟨by decide, by decide, by decide +kernel⟩⟩
theorem lk_X7_212 : LkV RX7 212 yX6_weightTogether cX6_weightTogether 4 (some .int) 1 := ⟨ml_X7_212, mn_X6_weightTogether, mv_X6_weightTogether, mi_X6, mc_X6_weightTogether, ⟨by decide, by decide, by decide +kernel⟩⟩
theorem lk_X7_215 : LkS RX7 215 yJ6_bitCount_0f7a4 cJ6_bitCount_0f7a4 1 (some .int) 1 := ⟨ml_X7_215, ms_J6_bitCount_0f7a4, mi_J6, mc_J6_bitCount_0f7a4, ⟨by decide, by decide, by decide +kernel⟩⟩
theorem cw_V_3_4_5_3_i {x : vX} {g : vG} {cc : ByteArray} {own : String} {rm : Room} {nL pc : Nat} {lv : List (Option Value)} {st : List Value} {w0 w1 w2 : Nat × va_E} {wt : va_W} {c0 c1 c2 d0 d1 d2 : Nat × va_E} {idx : Nat} {y : MethodName} {bytes : ByteArray} {ml : Nat} {ret : Option FieldType} {rmc : Room} {r : Int32} {p0 p1 p2 : Value} {a ci : Nat} {q : vw_C} {fs : List Value} (h : Ok x g cc own rm nL) (hc : Ct g y bytes ml ret rmc [c0, c1, c2] [.ref a, p0, p1, p2] (some (.int r)) [d0, d1, d2]) (lk : LkV own idx y bytes ml ret 3) (hrm : RmOk rmc rm ml) (hcl : vwCl[ci]? = some q) (hq : y.cls = q.1) (h0 : c0 = (a, .inr (ci, fs))) (hW : (st.map fun v => v.category).sum ≤ 8) (hd : decode cc pc = .ok (.invokevirtual idx, 3)) (k : vM x (pc + 3) lv (.int r :: st) (w0 :: w1 :: w2 :: d0 :: d1 :: d2 :: wt)) : vM x pc lv (p2 :: p1 :: p0 :: .ref a :: st) (w0 :: w1 :: w2 :: c0 :: c1 :: c2 :: wt) := v_callV (As := [p0, p1, p2]) (rest := st) h hc lk hrm hcl hq (by rw [h0]; rfl) rfl [3, 4, 5] rfl (by decide) hW hd rfl k
theorem lk_X7_220 : LkV RX7 220 yX1_feelsAlike cX1_feelsAlike 4 (some .boolean) 3 := ⟨ml_X7_220, mn_X1_feelsAlike, mv_X1_feelsAlike, mi_X1, mc_X1_feelsAlike, ⟨by decide, by decide, by decide +kernel⟩⟩
theorem lk_X7_225 : LkV RX7 225 yX4_countTold cX4_countTold 3 (some .int) 0 := ⟨ml_X7_225, mn_X4_countTold, mv_X4_countTold, mi_X4, mc_X4_countTold, ⟨by decide, by decide, by decide +kernel⟩⟩
theorem lk_X7_228 : LkS RX7 228 yX7_commonDivisor cX7_commonDivisor 3 (some .int) 2 := ⟨ml_X7_228, ms_X7_commonDivisor, mi_X7, mc_X7_commonDivisor, ⟨by decide, by decide, by decide +kernel⟩⟩
theorem cw_V_0_1_v {x : vX} {g : vG} {cc : ByteArray} {own : String} {rm : Room} {nL pc : Nat} {lv : List (Option Value)} {st : List Value} {wt : va_W} {c0 d0 : Nat × va_E} {idx : Nat} {y : MethodName} {bytes : ByteArray} {ml : Nat} {ret : Option FieldType} {rmc : Room} {p0 : Value} {a ci : Nat} {q : vw_C} {fs : List Value} (h : Ok x g cc own rm nL) (hc : Ct g y bytes ml ret rmc [c0] [.ref a, p0] none [d0]) (lk : LkV own idx y bytes ml ret 1) (hrm : RmOk rmc rm ml) (hcl : vwCl[ci]? = some q) (hq : y.cls = q.1) (h0 : c0 = (a, .inr (ci, fs))) (hW : (st.map fun v => v.category).sum ≤ 8) (hd : decode cc pc = .ok (.invokevirtual idx, 3)) (k : vM x (pc + 3) lv (st) (d0 :: wt)) : vM x pc lv (p0 :: .ref a :: st) (c0 :: wt) := v_callV (As := [p0]) (rest := st) h hc lk hrm hcl hq (by rw [h0]; rfl) rfl [0] rfl (by decide) hW hd rfl k
theorem lk_X7_270 : LkV RX7 270 yX7_leaveTrace cX7_leaveTrace 2 none 1 := ⟨ml_X7_270, mn_X7_leaveTrace, mv_X7_leaveTrace, mi_X7, mc_X7_leaveTrace, ⟨by decide, by decide, by decide +kernel⟩⟩
theorem cw_V_0_1_i {x : vX} {g : vG} {cc : ByteArray} {own : String} {rm : Room} {nL pc : Nat} {lv : List (Option Value)} {st : List Value} {wt : va_W} {c0 d0 : Nat × va_E} {idx : Nat} {y : MethodName} {bytes : ByteArray} {ml : Nat} {ret : Option FieldType} {rmc : Room} {r : Int32} {p0 : Value} {a ci : Nat} {q : vw_C} {fs : List Value} (h : Ok x g cc own rm nL) (hc : Ct g y bytes ml ret rmc [c0] [.ref a, p0] (some (.int r)) [d0]) (lk : LkV own idx y bytes ml ret 1) (hrm : RmOk rmc rm ml) (hcl : vwCl[ci]? = some q) (hq : y.cls = q.1) (h0 : c0 = (a, .inr (ci, fs))) (hW : (st.map fun v => v.category).sum ≤ 8) (hd : decode cc pc = .ok (.invokevirtual idx, 3)) (k : vM x (pc + 3) lv (.int r :: st) (d0 :: wt)) : vM x pc lv (p0 :: .ref a :: st) (c0 :: wt) := v_callV (As := [p0]) (rest := st) h hc lk hrm hcl hq (by rw [h0]; rfl) rfl [0] rfl (by decide) hW hd rfl k
theorem lk_X7_260 : LkV RX7 260 yX7_handBody cX7_handBody 2 (some .int) 1 := ⟨ml_X7_260, mn_X7_handBody, mv_X7_handBody, mi_X7, mc_X7_handBody, ⟨by decide, by decide, by decide +kernel⟩⟩
theorem lk_X7_257 : LkV RX7 257 yX7_steadyBody cX7_steadyBody 2 (some .int) 1 := ⟨ml_X7_257, mn_X7_steadyBody, mv_X7_steadyBody, mi_X7, mc_X7_steadyBody, ⟨by decide, by decide, by decide +kernel⟩⟩
theorem lk_X7_254 : LkV RX7 254 yX7_smithBody cX7_smithBody 3 (some .int) 1 := ⟨ml_X7_254, mn_X7_smithBody, mv_X7_smithBody, mi_X7, mc_X7_smithBody, ⟨by decide, by decide, by decide +kernel⟩⟩
theorem lk_X7_266 : LkV RX7 266 yX7_lentBody cX7_lentBody 2 (some .int) 1 := ⟨ml_X7_266, mn_X7_lentBody, mv_X7_lentBody, mi_X7, mc_X7_lentBody, ⟨by decide, by decide, by decide +kernel⟩⟩
theorem cw_V_0_0_i {x : vX} {g : vG} {cc : ByteArray} {own : String} {rm : Room} {nL pc : Nat} {lv : List (Option Value)} {st : List Value} {wt : va_W} {c0 d0 : Nat × va_E} {idx : Nat} {y : MethodName} {bytes : ByteArray} {ml : Nat} {ret : Option FieldType} {rmc : Room} {r : Int32} {a ci : Nat} {q : vw_C} {fs : List Value} (h : Ok x g cc own rm nL) (hc : Ct g y bytes ml ret rmc [c0] [.ref a] (some (.int r)) [d0]) (lk : LkV own idx y bytes ml ret 0) (hrm : RmOk rmc rm ml) (hcl : vwCl[ci]? = some q) (hq : y.cls = q.1) (h0 : c0 = (a, .inr (ci, fs))) (hW : (st.map fun v => v.category).sum ≤ 8) (hd : decode cc pc = .ok (.invokevirtual idx, 3)) (k : vM x (pc + 3) lv (.int r :: st) (d0 :: wt)) : vM x pc lv (.ref a :: st) (c0 :: wt) := v_callV (As := []) (rest := st) h hc lk hrm hcl hq (by rw [h0]; rfl) rfl [0] rfl (by decide) hW hd rfl k
theorem lk_X7_263 : LkV RX7 263 yX7_smithsOwnBody cX7_smithsOwnBody 1 (some .int) 0 := ⟨ml_X7_263, mn_X7_smithsOwnBody, mv_X7_smithsOwnBody, mi_X7, mc_X7_smithsOwnBody, ⟨by decide, by decide, by decide +kernel⟩⟩
theorem lk_X7_74 : LkV RX7 74 yX7_faulty cX7_faulty 2 (some .int) 1 := ⟨ml_X7_74, mn_X7_faulty, mv_X7_faulty, mi_X7, mc_X7_faulty, ⟨by decide, by decide, by decide +kernel⟩⟩
theorem cw_V_3_4_5_0_i {x : vX} {g : vG} {cc : ByteArray} {own : String} {rm : Room} {nL pc : Nat} {lv : List (Option Value)} {st : List Value} {w0 w1 w2 : Nat × va_E} {wt : va_W} {c0 c1 c2 d0 d1 d2 : Nat × va_E} {idx : Nat} {y : MethodName} {bytes : ByteArray} {ml : Nat} {ret : Option FieldType} {rmc : Room} {r : Int32} {a ci : Nat} {q : vw_C} {fs : List Value} (h : Ok x g cc own rm nL) (hc : Ct g y bytes ml ret rmc [c0, c1, c2] [.ref a] (some (.int r)) [d0, d1, d2]) (lk : LkV own idx y bytes ml ret 0) (hrm : RmOk rmc rm ml) (hcl : vwCl[ci]? = some q) (hq : y.cls = q.1) (h0 : c0 = (a, .inr (ci, fs))) (hW : (st.map fun v => v.category).sum ≤ 8) (hd : decode cc pc = .ok (.invokevirtual idx, 3)) (k : vM x (pc + 3) lv (.int r :: st) (w0 :: w1 :: w2 :: d0 :: d1 :: d2 :: wt)) : vM x pc lv (.ref a :: st) (w0 :: w1 :: w2 :: c0 :: c1 :: c2 :: wt) := v_callV (As := []) (rest := st) h hc lk hrm hcl hq (by rw [h0]; rfl) rfl [3, 4, 5] rfl (by decide) hW hd rfl k
theorem lk_X7_269 : LkV RX7 269 yX1_count cX1_count 1 (some .int) 0 := ⟨ml_X7_269, mn_X1_count, mv_X1_count, mi_X1, mc_X1_count, ⟨by decide, by decide, by decide +kernel⟩⟩
theorem cw_V_1_2_3_4_5_6_7_8_9_1_i {x : vX} {g : vG} {cc : ByteArray} {own : String} {rm : Room} {nL pc : Nat} {lv : List (Option Value)} {st : List Value} {w0 : Nat × va_E} {wt : va_W} {c0 c1 c2 c3 c4 c5 c6 c7 c8 d0 d1 d2 d3 d4 d5 d6 d7 d8 : Nat × va_E} {idx : Nat} {y : MethodName} {bytes : ByteArray} {ml : Nat} {ret : Option FieldType} {rmc : Room} {r : Int32} {p0 : Value} {a ci : Nat} {q : vw_C} {fs : List Value} (h : Ok x g cc own rm nL) (hc : Ct g y bytes ml ret rmc [c0, c1, c2, c3, c4, c5, c6, c7, c8] [.ref a, p0] (some (.int r)) [d0, d1, d2, d3, d4, d5, d6, d7, d8]) (lk : LkV own idx y bytes ml ret 1) (hrm : RmOk rmc rm ml) (hcl : vwCl[ci]? = some q) (hq : y.cls = q.1) (h0 : c0 = (a, .inr (ci, fs))) (hW : (st.map fun v => v.category).sum ≤ 8) (hd : decode cc pc = .ok (.invokevirtual idx, 3)) (k : vM x (pc + 3) lv (.int r :: st) (w0 :: d0 :: d1 :: d2 :: d3 :: d4 :: d5 :: d6 :: d7 :: d8 :: wt)) : vM x pc lv (p0 :: .ref a :: st) (w0 :: c0 :: c1 :: c2 :: c3 :: c4 :: c5 :: c6 :: c7 :: c8 :: wt) := v_callV (As := [p0]) (rest := st) h hc lk hrm hcl hq (by rw [h0]; rfl) rfl [1, 2, 3, 4, 5, 6, 7, 8, 9] rfl (by decide) hW hd rfl k
theorem lk_X7_63 : LkV RX7 63 yX3_has cX3_has 2 (some .boolean) 1 := ⟨ml_X7_63, mn_X3_has, mv_X3_has, mi_X3, mc_X3_has, ⟨by decide, by decide, by decide +kernel⟩⟩
theorem lk_X7_67 : LkS RX7 67 yX7_isSort cX7_isSort 1 (some .boolean) 1 := ⟨ml_X7_67, ms_X7_isSort, mi_X7, mc_X7_isSort, ⟨by decide, by decide, by decide +kernel⟩⟩
theorem cw_V_1_2_3_4_5_6_7_8_9_3_v {x : vX} {g : vG} {cc : ByteArray} {own : String} {rm : Room} {nL pc : Nat} {lv : List (Option Value)} {st : List Value} {w0 : Nat × va_E} {wt : va_W} {c0 c1 c2 c3 c4 c5 c6 c7 c8 d0 d1 d2 d3 d4 d5 d6 d7 d8 : Nat × va_E} {idx : Nat} {y : MethodName} {bytes : ByteArray} {ml : Nat} {ret : Option FieldType} {rmc : Room} {p0 p1 p2 : Value} {a ci : Nat} {q : vw_C} {fs : List Value} (h : Ok x g cc own rm nL) (hc : Ct g y bytes ml ret rmc [c0, c1, c2, c3, c4, c5, c6, c7, c8] [.ref a, p0, p1, p2] none [d0, d1, d2, d3, d4, d5, d6, d7, d8]) (lk : LkV own idx y bytes ml ret 3) (hrm : RmOk rmc rm ml) (hcl : vwCl[ci]? = some q) (hq : y.cls = q.1) (h0 : c0 = (a, .inr (ci, fs))) (hW : (st.map fun v => v.category).sum ≤ 8) (hd : decode cc pc = .ok (.invokevirtual idx, 3)) (k : vM x (pc + 3) lv (st) (w0 :: d0 :: d1 :: d2 :: d3 :: d4 :: d5 :: d6 :: d7 :: d8 :: wt)) : vM x pc lv (p2 :: p1 :: p0 :: .ref a :: st) (w0 :: c0 :: c1 :: c2 :: c3 :: c4 :: c5 :: c6 :: c7 :: c8 :: wt) := v_callV (As := [p0, p1, p2]) (rest := st) h hc lk hrm hcl hq (by rw [h0]; rfl) rfl [1, 2, 3, 4, 5, 6, 7, 8, 9] rfl (by decide) hW hd rfl k
theorem lk_X7_231 : LkV RX7 231 yX3_renew cX3_renew 5 none 3 := ⟨ml_X7_231, mn_X3_renew, mv_X3_renew, mi_X3, mc_X3_renew, ⟨by decide, by decide, by decide +kernel⟩⟩
theorem lk_X7_235 : LkV RX7 235 yX3_empty cX3_empty 3 (some .boolean) 1 := ⟨ml_X7_235, mn_X3_empty, mv_X3_empty, mi_X3, mc_X3_empty, ⟨by decide, by decide, by decide +kernel⟩⟩
theorem lk_X7_238 : LkV RX7 238 yX3_hasRow cX3_hasRow 2 (some .boolean) 1 := ⟨ml_X7_238, mn_X3_hasRow, mv_X3_hasRow, mi_X3, mc_X3_hasRow, ⟨by decide, by decide, by decide +kernel⟩⟩
theorem cw_V_1_2_3_4_5_6_7_8_9_3_i {x : vX} {g : vG} {cc : ByteArray} {own : String} {rm : Room} {nL pc : Nat} {lv : List (Option Value)} {st : List Value} {w0 : Nat × va_E} {wt : va_W} {c0 c1 c2 c3 c4 c5 c6 c7 c8 d0 d1 d2 d3 d4 d5 d6 d7 d8 : Nat × va_E} {idx : Nat} {y : MethodName} {bytes : ByteArray} {ml : Nat} {ret : Option FieldType} {rmc : Room} {r : Int32} {p0 p1 p2 : Value} {a ci : Nat} {q : vw_C} {fs : List Value} (h : Ok x g cc own rm nL) (hc : Ct g y bytes ml ret rmc [c0, c1, c2, c3, c4, c5, c6, c7, c8] [.ref a, p0, p1, p2] (some (.int r)) [d0, d1, d2, d3, d4, d5, d6, d7, d8]) (lk : LkV own idx y bytes ml ret 3) (hrm : RmOk rmc rm ml) (hcl : vwCl[ci]? = some q) (hq : y.cls = q.1) (h0 : c0 = (a, .inr (ci, fs))) (hW : (st.map fun v => v.category).sum ≤ 8) (hd : decode cc pc = .ok (.invokevirtual idx, 3)) (k : vM x (pc + 3) lv (.int r :: st) (w0 :: d0 :: d1 :: d2 :: d3 :: d4 :: d5 :: d6 :: d7 :: d8 :: wt)) : vM x pc lv (p2 :: p1 :: p0 :: .ref a :: st) (w0 :: c0 :: c1 :: c2 :: c3 :: c4 :: c5 :: c6 :: c7 :: c8 :: wt) := v_callV (As := [p0, p1, p2]) (rest := st) h hc lk hrm hcl hq (by rw [h0]; rfl) rfl [1, 2, 3, 4, 5, 6, 7, 8, 9] rfl (by decide) hW hd rfl k
theorem lk_X7_241 : LkV RX7 241 yX3_hasCells cX3_hasCells 4 (some .boolean) 3 := ⟨ml_X7_241, mn_X3_hasCells, mv_X3_hasCells, mi_X3, mc_X3_hasCells, ⟨by decide, by decide, by decide +kernel⟩⟩
theorem lk_X7_244 : LkV RX7 244 yX3_setCell cX3_setCell 4 none 3 := ⟨ml_X7_244, mn_X3_setCell, mv_X3_setCell, mi_X3, mc_X3_setCell, ⟨by decide, by decide, by decide +kernel⟩⟩
theorem cw_V_1_2_3_4_5_6_7_8_9_4_i {x : vX} {g : vG} {cc : ByteArray} {own : String} {rm : Room} {nL pc : Nat} {lv : List (Option Value)} {st : List Value} {w0 : Nat × va_E} {wt : va_W} {c0 c1 c2 c3 c4 c5 c6 c7 c8 d0 d1 d2 d3 d4 d5 d6 d7 d8 : Nat × va_E} {idx : Nat} {y : MethodName} {bytes : ByteArray} {ml : Nat} {ret : Option FieldType} {rmc : Room} {r : Int32} {p0 p1 p2 p3 : Value} {a ci : Nat} {q : vw_C} {fs : List Value} (h : Ok x g cc own rm nL) (hc : Ct g y bytes ml ret rmc [c0, c1, c2, c3, c4, c5, c6, c7, c8] [.ref a, p0, p1, p2, p3] (some (.int r)) [d0, d1, d2, d3, d4, d5, d6, d7, d8]) (lk : LkV own idx y bytes ml ret 4) (hrm : RmOk rmc rm ml) (hcl : vwCl[ci]? = some q) (hq : y.cls = q.1) (h0 : c0 = (a, .inr (ci, fs))) (hW : (st.map fun v => v.category).sum ≤ 8) (hd : decode cc pc = .ok (.invokevirtual idx, 3)) (k : vM x (pc + 3) lv (.int r :: st) (w0 :: d0 :: d1 :: d2 :: d3 :: d4 :: d5 :: d6 :: d7 :: d8 :: wt)) : vM x pc lv (p3 :: p2 :: p1 :: p0 :: .ref a :: st) (w0 :: c0 :: c1 :: c2 :: c3 :: c4 :: c5 :: c6 :: c7 :: c8 :: wt) := v_callV (As := [p0, p1, p2, p3]) (rest := st) h hc lk hrm hcl hq (by rw [h0]; rfl) rfl [1, 2, 3, 4, 5, 6, 7, 8, 9] rfl (by decide) hW hd rfl k
theorem lk_X7_70 : LkV RX7 70 yX3_faultOfTaking cX3_faultOfTaking 5 (some .int) 4 := ⟨ml_X7_70, mn_X3_faultOfTaking, mv_X3_faultOfTaking, mi_X3, mc_X3_faultOfTaking, ⟨by decide, by decide, by decide +kernel⟩⟩
theorem cw_V_1_2_3_4_5_6_7_8_9_2_i {x : vX} {g : vG} {cc : ByteArray} {own : String} {rm : Room} {nL pc : Nat} {lv : List (Option Value)} {st : List Value} {w0 : Nat × va_E} {wt : va_W} {c0 c1 c2 c3 c4 c5 c6 c7 c8 d0 d1 d2 d3 d4 d5 d6 d7 d8 : Nat × va_E} {idx : Nat} {y : MethodName} {bytes : ByteArray} {ml : Nat} {ret : Option FieldType} {rmc : Room} {r : Int32} {p0 p1 : Value} {a ci : Nat} {q : vw_C} {fs : List Value} (h : Ok x g cc own rm nL) (hc : Ct g y bytes ml ret rmc [c0, c1, c2, c3, c4, c5, c6, c7, c8] [.ref a, p0, p1] (some (.int r)) [d0, d1, d2, d3, d4, d5, d6, d7, d8]) (lk : LkV own idx y bytes ml ret 2) (hrm : RmOk rmc rm ml) (hcl : vwCl[ci]? = some q) (hq : y.cls = q.1) (h0 : c0 = (a, .inr (ci, fs))) (hW : (st.map fun v => v.category).sum ≤ 8) (hd : decode cc pc = .ok (.invokevirtual idx, 3)) (k : vM x (pc + 3) lv (.int r :: st) (w0 :: d0 :: d1 :: d2 :: d3 :: d4 :: d5 :: d6 :: d7 :: d8 :: wt)) : vM x pc lv (p1 :: p0 :: .ref a :: st) (w0 :: c0 :: c1 :: c2 :: c3 :: c4 :: c5 :: c6 :: c7 :: c8 :: wt) := v_callV (As := [p0, p1]) (rest := st) h hc lk hrm hcl hq (by rw [h0]; rfl) rfl [1, 2, 3, 4, 5, 6, 7, 8, 9] rfl (by decide) hW hd rfl k
theorem lk_X7_206 : LkV RX7 206 yX3_cellOf cX3_cellOf 3 (some .int) 2 := ⟨ml_X7_206, mn_X3_cellOf, mv_X3_cellOf, mi_X3, mc_X3_cellOf, ⟨by decide, by decide, by decide +kernel⟩⟩
theorem lk_X7_247 : LkV RX7 247 yX3_sortOf cX3_sortOf 2 (some .int) 1 := ⟨ml_X7_247, mn_X3_sortOf, mv_X3_sortOf, mi_X3, mc_X3_sortOf, ⟨by decide, by decide, by decide +kernel⟩⟩
theorem cw_V_1_2_3_4_5_6_7_8_9_5_v {x : vX} {g : vG} {cc : ByteArray} {own : String} {rm : Room} {nL pc : Nat} {lv : List (Option Value)} {st : List Value} {w0 : Nat × va_E} {wt : va_W} {c0 c1 c2 c3 c4 c5 c6 c7 c8 d0 d1 d2 d3 d4 d5 d6 d7 d8 : Nat × va_E} {idx : Nat} {y : MethodName} {bytes : ByteArray} {ml : Nat} {ret : Option FieldType} {rmc : Room} {p0 p1 p2 p3 p4 : Value} {a ci : Nat} {q : vw_C} {fs : List Value} (h : Ok x g cc own rm nL) (hc : Ct g y bytes ml ret rmc [c0, c1, c2, c3, c4, c5, c6, c7, c8] [.ref a, p0, p1, p2, p3, p4] none [d0, d1, d2, d3, d4, d5, d6, d7, d8]) (lk : LkV own idx y bytes ml ret 5) (hrm : RmOk rmc rm ml) (hcl : vwCl[ci]? = some q) (hq : y.cls = q.1) (h0 : c0 = (a, .inr (ci, fs))) (hW : (st.map fun v => v.category).sum ≤ 8) (hd : decode cc pc = .ok (.invokevirtual idx, 3)) (k : vM x (pc + 3) lv (st) (w0 :: d0 :: d1 :: d2 :: d3 :: d4 :: d5 :: d6 :: d7 :: d8 :: wt)) : vM x pc lv (p4 :: p3 :: p2 :: p1 :: p0 :: .ref a :: st) (w0 :: c0 :: c1 :: c2 :: c3 :: c4 :: c5 :: c6 :: c7 :: c8 :: wt) := v_callV (As := [p0, p1, p2, p3, p4]) (rest := st) h hc lk hrm hcl hq (by rw [h0]; rfl) rfl [1, 2, 3, 4, 5, 6, 7, 8, 9] rfl (by decide) hW hd rfl k
theorem lk_X7_250 : LkV RX7 250 yX3_copyCells cX3_copyCells 6 none 5 := ⟨ml_X7_250, mn_X3_copyCells, mv_X3_copyCells, mi_X3, mc_X3_copyCells, ⟨by decide, by decide, by decide +kernel⟩⟩
def P_X7_rows (g : vG) (b0 y0 s0 o0 r0 t0 t1 h0 h1 h2 e0 e1 e2 e3 : Nat) (tr : Int32) (fl : Nat) (n : Nat) (w : Nat → Nat) (hn : Nat) (kd : Nat → Nat) (pt : Nat → Nat) (ec : Nat) (el : Nat → Nat) (ea : Nat → Nat) (eo : Nat → Nat) (p0 : Int32) (p1 : Int32) : Option Value → va_W → Prop := fun r wo => ∃ ec' : Nat, ∃ el' : Nat → Nat, ∃ ea' : Nat → Nat, ∃ eo' : Nat → Nat, (∀ z, el' z < 2 ^ 8) ∧ (∀ z, ea' z < 2 ^ 8) ∧ r = some (.int (s_rows n w hn kd pt p0 p1)) ∧ wo = [(b0, .inr (6, [.ref t0, .ref h0, .ref y0, .ref s0, .ref e0, .ref o0, .ref r0, .int tr, .int (nI fl)])), (t0, .inr (5, [.int (nI n), .ref t1])), (t1, .inl (gI g, 8, .inl (fun z9 => nI (w z9)))), (h0, .inr (1, [.int (nI hn), .ref h1, .ref h2])), (h1, .inl (gI g, 6, .inl (fun z9 => nI (kd z9)))), (h2, .inl (gI g, 6, .inl (fun z9 => nI (pt z9)))), (e0, .inr (4, [.int (nI ec'), .ref e1, .ref e2, .ref e3])), (e1, .inl (gI g, 8, .inl (fun z9 => nI (el' z9)))), (e2, .inl (gI g, 8, .inl (fun z9 => nI (ea' z9)))), (e3, .inl (gI g, 256, .inl (fun z9 => nI (eo' z9))))]
theorem P_X7_rows_mk {g : vG} {b0 y0 s0 o0 r0 t0 t1 h0 h1 h2 e0 e1 e2 e3 : Nat} {tr : Int32} {fl : Nat} {n : Nat} {w : Nat → Nat} {hn : Nat} {kd : Nat → Nat} {pt : Nat → Nat} {ec : Nat} {el : Nat → Nat} {ea : Nat → Nat} {eo : Nat → Nat} {p0 : Int32} {p1 : Int32} {ec' : Nat} {el' : Nat → Nat} {ea' : Nat → Nat} {eo' : Nat → Nat} {q : Int32} (hs : s_rows n w hn kd pt p0 p1 = q) (hb0 : ∀ z, el' z < 2 ^ 8) (hb1 : ∀ z, ea' z < 2 ^ 8) : P_X7_rows g b0 y0 s0 o0 r0 t0 t1 h0 h1 h2 e0 e1 e2 e3 tr fl n w hn kd pt ec el ea eo p0 p1 (some (.int q)) [(b0, .inr (6, [.ref t0, .ref h0, .ref y0, .ref s0, .ref e0, .ref o0, .ref r0, .int tr, .int (nI fl)])), (t0, .inr (5, [.int (nI n), .ref t1])), (t1, .inl (gI g, 8, .inl (fun z9 => nI (w z9)))), (h0, .inr (1, [.int (nI hn), .ref h1, .ref h2])), (h1, .inl (gI g, 6, .inl (fun z9 => nI (kd z9)))), (h2, .inl (gI g, 6, .inl (fun z9 => nI (pt z9)))), (e0, .inr (4, [.int (nI ec'), .ref e1, .ref e2, .ref e3])), (e1, .inl (gI g, 8, .inl (fun z9 => nI (el' z9)))), (e2, .inl (gI g, 8, .inl (fun z9 => nI (ea' z9)))), (e3, .inl (gI g, 256, .inl (fun z9 => nI (eo' z9))))] := by subst hs; exact ⟨_, _, _, _, hb0, hb1, rfl, rfl⟩
set_option maxRecDepth 20000 in
set_option maxHeartbeats 4000000 in
theorem c_X7_rows {g : vG} {b0 y0 s0 o0 r0 t0 t1 h0 h1 h2 e0 e1 e2 e3 : Nat} {tr : Int32} {fl : Nat} {n : Nat} {w : Nat → Nat} {hn : Nat} {kd : Nat → Nat} {pt : Nat → Nat} {ec : Nat} {el : Nat → Nat} {ea : Nat → Nat} {eo : Nat → Nat} {p0 : Int32} {p1 : Int32} (hT : wfT n w) (hH : wfH hn kd pt) (hn2 : hn = 0 ∨ 2 ≤ n) (hel : ∀ z, el z < 2 ^ 8) (hea : ∀ z, ea z < 2 ^ 8) : CtP g yX7_rows cX7_rows 3 (some .int) (rmOf 5 114) [(b0, .inr (6, [.ref t0, .ref h0, .ref y0, .ref s0, .ref e0, .ref o0, .ref r0, .int tr, .int (nI fl)])), (t0, .inr (5, [.int (nI n), .ref t1])), (t1, .inl (gI g, 8, .inl (fun z9 => nI (w z9)))), (h0, .inr (1, [.int (nI hn), .ref h1, .ref h2])), (h1, .inl (gI g, 6, .inl (fun z9 => nI (kd z9)))), (h2, .inl (gI g, 6, .inl (fun z9 => nI (pt z9)))), (e0, .inr (4, [.int (nI ec), .ref e1, .ref e2, .ref e3])), (e1, .inl (gI g, 8, .inl (fun z9 => nI (el z9)))), (e2, .inl (gI g, 8, .inl (fun z9 => nI (ea z9)))), (e3, .inl (gI g, 256, .inl (fun z9 => nI (eo z9))))] [.ref b0, .int p0, .int p1] (P_X7_rows g b0 y0 s0 o0 r0 t0 t1 h0 h1 h2 e0 e1 e2 e3 tr fl n w hn kd pt ec el ea eo p0 p1) := by
  refine CtP.ofV RX7 rfl (by decide +kernel) rfl rfl (Nat.le_of_ble_eq_true rfl) (List.forall_mem_cons.mpr ⟨rfl, (List.forall_mem_cons.mpr ⟨rfl, (List.forall_mem_cons.mpr ⟨rfl, (fun _ h9 => absurd h9 List.not_mem_nil)⟩)⟩)⟩) (fun x h hr => ?_)
  show vM x 0 [some (.ref b0), some (.int p0), some (.int p1)] [] [(b0, .inr (6, [.ref t0, .ref h0, .ref y0, .ref s0, .ref e0, .ref o0, .ref r0, .int tr, .int (nI fl)])), (t0, .inr (5, [.int (nI n), .ref t1])), (t1, .inl (gI g, 8, .inl (fun z9 => nI (w z9)))), (h0, .inr (1, [.int (nI hn), .ref h1, .ref h2])), (h1, .inl (gI g, 6, .inl (fun z9 => nI (kd z9)))), (h2, .inl (gI g, 6, .inl (fun z9 => nI (pt z9)))), (e0, .inr (4, [.int (nI ec), .ref e1, .ref e2, .ref e3])), (e1, .inl (gI g, 8, .inl (fun z9 => nI (el z9)))), (e2, .inl (gI g, 8, .inl (fun z9 => nI (ea z9)))), (e3, .inl (gI g, 256, .inl (fun z9 => nI (eo z9))))]
  have ht1 := hT.1; have ht2 := hT.2.1; have ht3 := hT.2.2; have hh1 := hH.1; have hh2 := hH.2.1; have hh3 := hH.2.2.1; have hh4 := hH.2.2.2
  refine v_aload_n0 h dX7_rows_0 ?_
  refine v_get h mw_X7 0 rfl rfl 1 (by decide) mf_X7_21 rfl dX7_rows_1 ?_
  refine v_iload_n1 h dX7_rows_4 ?_
  refine cw_V_3_4_5_1_i (ci := 1) h (c_X1_has (g := g) (by first | assumption | omega)) lk_X7_111 ⟨rfl, rfl, (Nat.le_of_ble_eq_true rfl), (Nat.le_of_ble_eq_true rfl)⟩ rfl rfl rfl (Nat.le_of_ble_eq_true rfl) dX7_rows_5 ?_
  refine v_if_eqB h dX7_rows_8 (tgt := 27) (by decide) (fun c8 => ?_) (fun c8 => ?_)
  · have e8 := rN_f c8
    refine v_iconst h (v := -1) dX7_rows_27 (by decide) ?_
    exact v_iretP h hr dX7_rows_28 (P_X7_rows_mk (q := _) (by simp only [s_rows, e8]) (by first | assumption | exact lay8l (by assumption) (by assumption) | exact lay8a (by assumption) (by assumption)) (by first | assumption | exact lay8l (by assumption) (by assumption) | exact lay8a (by assumption) (by assumption))) rfl
  · obtain ⟨j0, hj0, rfl⟩ := inR_of c8 (by omega)
    have e8 := rN_N hj0 (by omega)
    refine v_iload_n2 h dX7_rows_11 ?_
    refine v_iconst h (v := -1) dX7_rows_12 (by decide) ?_
    refine v_icmp_lt h dX7_rows_13 (tgt := 27) (by decide) (fun c13 => ?_) (fun c13 => ?_)
    · have e13 := rN_f (inR_f0 (n := n) (lt_m1_neg c13))
      refine v_iconst h (v := -1) dX7_rows_27 (by decide) ?_
      exact v_iretP h hr dX7_rows_28 (P_X7_rows_mk (q := _) (by simp only [s_rows, e8, if_neg (lt_m1_ne c13), e13]) (by first | assumption | exact lay8l (by assumption) (by assumption) | exact lay8a (by assumption) (by assumption)) (by first | assumption | exact lay8l (by assumption) (by assumption) | exact lay8a (by assumption) (by assumption))) rfl
    · refine v_iload_n2 h dX7_rows_16 ?_
      refine v_aload_n0 h dX7_rows_17 ?_
      refine v_get h mw_X7 0 rfl rfl 0 (by decide) mf_X7_14 rfl dX7_rows_18 ?_
      refine cw_V_1_2_0_i (ci := 5) h (c_X6_count (g := g)) lk_X7_92 ⟨rfl, rfl, (Nat.le_of_ble_eq_true rfl), (Nat.le_of_ble_eq_true rfl)⟩ rfl rfl rfl (Nat.le_of_ble_eq_true rfl) dX7_rows_21 ?_
      refine v_icmp_lt h dX7_rows_24 (tgt := 29) (by decide) (fun c24 => ?_) (fun c24 => ?_)
      · refine v_aload_n0 h dX7_rows_29 ?_
        refine v_get h mw_X7 0 rfl rfl 4 (by decide) mf_X7_42 rfl dX7_rows_30 ?_
        refine v_aload_n0 h dX7_rows_33 ?_
        refine v_get h mw_X7 0 rfl rfl 1 (by decide) mf_X7_21 rfl dX7_rows_34 ?_
        refine v_iload_n1 h dX7_rows_37 ?_
        refine v_aload_n0 h dX7_rows_38 ?_
        refine v_get h mw_X7 0 rfl rfl 0 (by decide) mf_X7_14 rfl dX7_rows_39 ?_
        refine cw_V_6_7_8_9_3_4_5_1_2_3_v (ci := 4) h (c_X4_lay (g := g) (by first | assumption | omega) (by first | assumption | omega) (by first | assumption | omega)) lk_X7_125 ⟨rfl, rfl, (Nat.le_of_ble_eq_true rfl), (Nat.le_of_ble_eq_true rfl)⟩ rfl rfl rfl (Nat.le_of_ble_eq_true rfl) dX7_rows_42 ?_
        refine v_iload_n2 h dX7_rows_45 ?_
        refine v_iconst h (v := -1) dX7_rows_46 (by decide) ?_
        refine v_icmp_ne h dX7_rows_47 (tgt := 60) (by decide) (fun c47 => ?_) (fun c47 => ?_)
        · obtain ⟨j1, hj1, rfl⟩ := inR_of (inR_t (ge_m1 c13 c47) (Int32.not_le.mpr c24)) (by omega)
          have e47 := rN_N hj1 (by omega)
          refine v_aload_n0 h dX7_rows_60 ?_
          refine v_get h mw_X7 0 rfl rfl 4 (by decide) mf_X7_42 rfl dX7_rows_61 ?_
          refine v_iload_n2 h dX7_rows_64 ?_
          refine cw_V_6_7_8_9_1_i (ci := 4) h (c_X4_placeInFirstOrder (g := g) (by first | assumption | omega) (by exact lay8l hel ht1) (by first | assumption | omega)) lk_X7_177 ⟨rfl, rfl, (Nat.le_of_ble_eq_true rfl), (Nat.le_of_ble_eq_true rfl)⟩ rfl rfl rfl (Nat.le_of_ble_eq_true rfl) dX7_rows_65 ?_
          exact v_iretP h hr dX7_rows_68 (P_X7_rows_mk (q := _) (by simp only [s_rows, e8, if_neg (nI_ne_m1 (show j1 < 2 ^ 31 by omega)), e47, ordN_lay, nxtK_lay]) (by first | assumption | exact lay8l (by assumption) (by assumption) | exact lay8a (by assumption) (by assumption)) (by first | assumption | exact lay8l (by assumption) (by assumption) | exact lay8a (by assumption) (by assumption))) rfl
        · refine v_aload_n0 h dX7_rows_50 ?_
          refine v_get h mw_X7 0 rfl rfl 4 (by decide) mf_X7_42 rfl dX7_rows_51 ?_
          refine cw_V_6_7_8_9_0_i (ci := 4) h (c_X4_countOrders (g := g) (by first | assumption | omega) (by exact lay8l hel ht1) (by omega)) lk_X7_174 ⟨rfl, rfl, (Nat.le_of_ble_eq_true rfl), (Nat.le_of_ble_eq_true rfl)⟩ rfl rfl rfl (Nat.le_of_ble_eq_true rfl) dX7_rows_54 ?_
          refine v_goto h dX7_rows_57 (tgt := 68) (by decide) ?_
          exact v_iretP h hr dX7_rows_68 (P_X7_rows_mk (q := _) (by simp only [s_rows, e8, if_pos c47, ordN_lay, nxtK_lay]) (by first | assumption | exact lay8l (by assumption) (by assumption) | exact lay8a (by assumption) (by assumption)) (by first | assumption | exact lay8l (by assumption) (by assumption) | exact lay8a (by assumption) (by assumption))) rfl
      · have e24 := rN_f (inR_f1 (n := n) (Int32.not_lt.mp c24))
        refine v_iconst h (v := -1) dX7_rows_27 (by decide) ?_
        exact v_iretP h hr dX7_rows_28 (P_X7_rows_mk (q := _) (by simp only [s_rows, e8, if_neg (ge_ne_m1 (by omega) (Int32.not_lt.mp c24)), e24]) (by first | assumption | exact lay8l (by assumption) (by assumption) | exact lay8a (by assumption) (by assumption)) (by first | assumption | exact lay8l (by assumption) (by assumption) | exact lay8a (by assumption) (by assumption))) rfl
def P_X7_longest (g : vG) (b0 y0 s0 o0 r0 t0 t1 h0 h1 h2 e0 e1 e2 e3 : Nat) (tr : Int32) (fl : Nat) (n : Nat) (w : Nat → Nat) (hn : Nat) (kd : Nat → Nat) (pt : Nat → Nat) (ec : Nat) (el : Nat → Nat) (ea : Nat → Nat) (eo : Nat → Nat) (p0 : Int32) : Option Value → va_W → Prop := fun r wo => ∃ ec' : Nat, ∃ el' : Nat → Nat, ∃ ea' : Nat → Nat, (∀ z, el' z < 2 ^ 8) ∧ (∀ z, ea' z < 2 ^ 8) ∧ r = some (.int (s_longest n w hn kd pt p0)) ∧ wo = [(b0, .inr (6, [.ref t0, .ref h0, .ref y0, .ref s0, .ref e0, .ref o0, .ref r0, .int tr, .int (nI fl)])), (t0, .inr (5, [.int (nI n), .ref t1])), (t1, .inl (gI g, 8, .inl (fun z9 => nI (w z9)))), (h0, .inr (1, [.int (nI hn), .ref h1, .ref h2])), (h1, .inl (gI g, 6, .inl (fun z9 => nI (kd z9)))), (h2, .inl (gI g, 6, .inl (fun z9 => nI (pt z9)))), (e0, .inr (4, [.int (nI ec'), .ref e1, .ref e2, .ref e3])), (e1, .inl (gI g, 8, .inl (fun z9 => nI (el' z9)))), (e2, .inl (gI g, 8, .inl (fun z9 => nI (ea' z9)))), (e3, .inl (gI g, 256, .inl (fun z9 => nI (eo z9))))]
theorem P_X7_longest_mk {g : vG} {b0 y0 s0 o0 r0 t0 t1 h0 h1 h2 e0 e1 e2 e3 : Nat} {tr : Int32} {fl : Nat} {n : Nat} {w : Nat → Nat} {hn : Nat} {kd : Nat → Nat} {pt : Nat → Nat} {ec : Nat} {el : Nat → Nat} {ea : Nat → Nat} {eo : Nat → Nat} {p0 : Int32} {ec' : Nat} {el' : Nat → Nat} {ea' : Nat → Nat} {q : Int32} (hs : s_longest n w hn kd pt p0 = q) (hb0 : ∀ z, el' z < 2 ^ 8) (hb1 : ∀ z, ea' z < 2 ^ 8) : P_X7_longest g b0 y0 s0 o0 r0 t0 t1 h0 h1 h2 e0 e1 e2 e3 tr fl n w hn kd pt ec el ea eo p0 (some (.int q)) [(b0, .inr (6, [.ref t0, .ref h0, .ref y0, .ref s0, .ref e0, .ref o0, .ref r0, .int tr, .int (nI fl)])), (t0, .inr (5, [.int (nI n), .ref t1])), (t1, .inl (gI g, 8, .inl (fun z9 => nI (w z9)))), (h0, .inr (1, [.int (nI hn), .ref h1, .ref h2])), (h1, .inl (gI g, 6, .inl (fun z9 => nI (kd z9)))), (h2, .inl (gI g, 6, .inl (fun z9 => nI (pt z9)))), (e0, .inr (4, [.int (nI ec'), .ref e1, .ref e2, .ref e3])), (e1, .inl (gI g, 8, .inl (fun z9 => nI (el' z9)))), (e2, .inl (gI g, 8, .inl (fun z9 => nI (ea' z9)))), (e3, .inl (gI g, 256, .inl (fun z9 => nI (eo z9))))] := by subst hs; exact ⟨_, _, _, hb0, hb1, rfl, rfl⟩
set_option maxRecDepth 20000 in
set_option maxHeartbeats 4000000 in
theorem c_X7_longest {g : vG} {b0 y0 s0 o0 r0 t0 t1 h0 h1 h2 e0 e1 e2 e3 : Nat} {tr : Int32} {fl : Nat} {n : Nat} {w : Nat → Nat} {hn : Nat} {kd : Nat → Nat} {pt : Nat → Nat} {ec : Nat} {el : Nat → Nat} {ea : Nat → Nat} {eo : Nat → Nat} {p0 : Int32} (hT : wfT n w) (hH : wfH hn kd pt) (hel : ∀ z, el z < 2 ^ 8) (hea : ∀ z, ea z < 2 ^ 8) : CtP g yX7_longest cX7_longest 2 (some .int) (rmOf 5 114) [(b0, .inr (6, [.ref t0, .ref h0, .ref y0, .ref s0, .ref e0, .ref o0, .ref r0, .int tr, .int (nI fl)])), (t0, .inr (5, [.int (nI n), .ref t1])), (t1, .inl (gI g, 8, .inl (fun z9 => nI (w z9)))), (h0, .inr (1, [.int (nI hn), .ref h1, .ref h2])), (h1, .inl (gI g, 6, .inl (fun z9 => nI (kd z9)))), (h2, .inl (gI g, 6, .inl (fun z9 => nI (pt z9)))), (e0, .inr (4, [.int (nI ec), .ref e1, .ref e2, .ref e3])), (e1, .inl (gI g, 8, .inl (fun z9 => nI (el z9)))), (e2, .inl (gI g, 8, .inl (fun z9 => nI (ea z9)))), (e3, .inl (gI g, 256, .inl (fun z9 => nI (eo z9))))] [.ref b0, .int p0] (P_X7_longest g b0 y0 s0 o0 r0 t0 t1 h0 h1 h2 e0 e1 e2 e3 tr fl n w hn kd pt ec el ea eo p0) := by
  refine CtP.ofV RX7 rfl (by decide +kernel) rfl rfl (Nat.le_of_ble_eq_true rfl) (List.forall_mem_cons.mpr ⟨rfl, (List.forall_mem_cons.mpr ⟨rfl, (fun _ h9 => absurd h9 List.not_mem_nil)⟩)⟩) (fun x h hr => ?_)
  show vM x 0 [some (.ref b0), some (.int p0)] [] [(b0, .inr (6, [.ref t0, .ref h0, .ref y0, .ref s0, .ref e0, .ref o0, .ref r0, .int tr, .int (nI fl)])), (t0, .inr (5, [.int (nI n), .ref t1])), (t1, .inl (gI g, 8, .inl (fun z9 => nI (w z9)))), (h0, .inr (1, [.int (nI hn), .ref h1, .ref h2])), (h1, .inl (gI g, 6, .inl (fun z9 => nI (kd z9)))), (h2, .inl (gI g, 6, .inl (fun z9 => nI (pt z9)))), (e0, .inr (4, [.int (nI ec), .ref e1, .ref e2, .ref e3])), (e1, .inl (gI g, 8, .inl (fun z9 => nI (el z9)))), (e2, .inl (gI g, 8, .inl (fun z9 => nI (ea z9)))), (e3, .inl (gI g, 256, .inl (fun z9 => nI (eo z9))))]
  have ht1 := hT.1; have ht2 := hT.2.1; have ht3 := hT.2.2; have hh1 := hH.1; have hh2 := hH.2.1; have hh3 := hH.2.2.1; have hh4 := hH.2.2.2
  refine v_aload_n0 h dX7_longest_0 ?_
  refine v_get h mw_X7 0 rfl rfl 1 (by decide) mf_X7_21 rfl dX7_longest_1 ?_
  refine v_iload_n1 h dX7_longest_4 ?_
  refine cw_V_3_4_5_1_i (ci := 1) h (c_X1_has (g := g) (by first | assumption | omega)) lk_X7_111 ⟨rfl, rfl, (Nat.le_of_ble_eq_true rfl), (Nat.le_of_ble_eq_true rfl)⟩ rfl rfl rfl (Nat.le_of_ble_eq_true rfl) dX7_longest_5 ?_
  refine v_if_neB h dX7_longest_8 (tgt := 13) (by decide) (fun c8 => ?_) (fun c8 => ?_)
  · obtain ⟨j0, hj0, rfl⟩ := inR_of c8 (by omega)
    have e8 := rN_N hj0 (by omega)
    refine v_aload_n0 h dX7_longest_13 ?_
    refine v_get h mw_X7 0 rfl rfl 4 (by decide) mf_X7_42 rfl dX7_longest_14 ?_
    refine v_aload_n0 h dX7_longest_17 ?_
    refine v_get h mw_X7 0 rfl rfl 1 (by decide) mf_X7_21 rfl dX7_longest_18 ?_
    refine v_iload_n1 h dX7_longest_21 ?_
    refine v_aload_n0 h dX7_longest_22 ?_
    refine v_get h mw_X7 0 rfl rfl 0 (by decide) mf_X7_14 rfl dX7_longest_23 ?_
    refine cw_V_6_7_8_9_3_4_5_1_2_3_v (ci := 4) h (c_X4_lay (g := g) (by first | assumption | omega) (by first | assumption | omega) (by first | assumption | omega)) lk_X7_125 ⟨rfl, rfl, (Nat.le_of_ble_eq_true rfl), (Nat.le_of_ble_eq_true rfl)⟩ rfl rfl rfl (Nat.le_of_ble_eq_true rfl) dX7_longest_26 ?_
    refine v_aload_n0 h dX7_longest_29 ?_
    refine v_get h mw_X7 0 rfl rfl 4 (by decide) mf_X7_42 rfl dX7_longest_30 ?_
    refine cw_V_6_7_8_9_0_i (ci := 4) h (c_X4_longestChain (g := g) (by first | assumption | omega) (by exact lay8l hel ht1)) lk_X7_180 ⟨rfl, rfl, (Nat.le_of_ble_eq_true rfl), (Nat.le_of_ble_eq_true rfl)⟩ rfl rfl rfl (Nat.le_of_ble_eq_true rfl) dX7_longest_33 ?_
    exact v_iretP h hr dX7_longest_36 (P_X7_longest_mk (q := _) (by simp only [s_longest, e8, chnN_lay]) (by first | assumption | exact lay8l (by assumption) (by assumption) | exact lay8a (by assumption) (by assumption)) (by first | assumption | exact lay8l (by assumption) (by assumption) | exact lay8a (by assumption) (by assumption))) rfl
  · have e8 := rN_f c8
    refine v_iconst h (v := -1) dX7_longest_11 (by decide) ?_
    exact v_iretP h hr dX7_longest_12 (P_X7_longest_mk (q := _) (by simp only [s_longest, e8]) (by first | assumption | exact lay8l (by assumption) (by assumption) | exact lay8a (by assumption) (by assumption)) (by first | assumption | exact lay8l (by assumption) (by assumption) | exact lay8a (by assumption) (by assumption))) rfl
def P_X7_crowd (g : vG) (b0 y0 s0 o0 r0 t0 t1 h0 h1 h2 e0 e1 e2 e3 : Nat) (tr : Int32) (fl : Nat) (n : Nat) (w : Nat → Nat) (hn : Nat) (kd : Nat → Nat) (pt : Nat → Nat) (ec : Nat) (el : Nat → Nat) (ea : Nat → Nat) (eo : Nat → Nat) (p0 : Int32) : Option Value → va_W → Prop := fun r wo => ∃ ec' : Nat, ∃ el' : Nat → Nat, ∃ ea' : Nat → Nat, (∀ z, el' z < 2 ^ 8) ∧ (∀ z, ea' z < 2 ^ 8) ∧ r = some (.int (s_crowd n w hn kd pt p0)) ∧ wo = [(b0, .inr (6, [.ref t0, .ref h0, .ref y0, .ref s0, .ref e0, .ref o0, .ref r0, .int tr, .int (nI fl)])), (t0, .inr (5, [.int (nI n), .ref t1])), (t1, .inl (gI g, 8, .inl (fun z9 => nI (w z9)))), (h0, .inr (1, [.int (nI hn), .ref h1, .ref h2])), (h1, .inl (gI g, 6, .inl (fun z9 => nI (kd z9)))), (h2, .inl (gI g, 6, .inl (fun z9 => nI (pt z9)))), (e0, .inr (4, [.int (nI ec'), .ref e1, .ref e2, .ref e3])), (e1, .inl (gI g, 8, .inl (fun z9 => nI (el' z9)))), (e2, .inl (gI g, 8, .inl (fun z9 => nI (ea' z9)))), (e3, .inl (gI g, 256, .inl (fun z9 => nI (eo z9))))]
theorem P_X7_crowd_mk {g : vG} {b0 y0 s0 o0 r0 t0 t1 h0 h1 h2 e0 e1 e2 e3 : Nat} {tr : Int32} {fl : Nat} {n : Nat} {w : Nat → Nat} {hn : Nat} {kd : Nat → Nat} {pt : Nat → Nat} {ec : Nat} {el : Nat → Nat} {ea : Nat → Nat} {eo : Nat → Nat} {p0 : Int32} {ec' : Nat} {el' : Nat → Nat} {ea' : Nat → Nat} {q : Int32} (hs : s_crowd n w hn kd pt p0 = q) (hb0 : ∀ z, el' z < 2 ^ 8) (hb1 : ∀ z, ea' z < 2 ^ 8) : P_X7_crowd g b0 y0 s0 o0 r0 t0 t1 h0 h1 h2 e0 e1 e2 e3 tr fl n w hn kd pt ec el ea eo p0 (some (.int q)) [(b0, .inr (6, [.ref t0, .ref h0, .ref y0, .ref s0, .ref e0, .ref o0, .ref r0, .int tr, .int (nI fl)])), (t0, .inr (5, [.int (nI n), .ref t1])), (t1, .inl (gI g, 8, .inl (fun z9 => nI (w z9)))), (h0, .inr (1, [.int (nI hn), .ref h1, .ref h2])), (h1, .inl (gI g, 6, .inl (fun z9 => nI (kd z9)))), (h2, .inl (gI g, 6, .inl (fun z9 => nI (pt z9)))), (e0, .inr (4, [.int (nI ec'), .ref e1, .ref e2, .ref e3])), (e1, .inl (gI g, 8, .inl (fun z9 => nI (el' z9)))), (e2, .inl (gI g, 8, .inl (fun z9 => nI (ea' z9)))), (e3, .inl (gI g, 256, .inl (fun z9 => nI (eo z9))))] := by subst hs; exact ⟨_, _, _, hb0, hb1, rfl, rfl⟩
set_option maxRecDepth 20000 in
set_option maxHeartbeats 4000000 in
theorem c_X7_crowd {g : vG} {b0 y0 s0 o0 r0 t0 t1 h0 h1 h2 e0 e1 e2 e3 : Nat} {tr : Int32} {fl : Nat} {n : Nat} {w : Nat → Nat} {hn : Nat} {kd : Nat → Nat} {pt : Nat → Nat} {ec : Nat} {el : Nat → Nat} {ea : Nat → Nat} {eo : Nat → Nat} {p0 : Int32} (hT : wfT n w) (hH : wfH hn kd pt) (hel : ∀ z, el z < 2 ^ 8) (hea : ∀ z, ea z < 2 ^ 8) : CtP g yX7_crowd cX7_crowd 2 (some .int) (rmOf 5 114) [(b0, .inr (6, [.ref t0, .ref h0, .ref y0, .ref s0, .ref e0, .ref o0, .ref r0, .int tr, .int (nI fl)])), (t0, .inr (5, [.int (nI n), .ref t1])), (t1, .inl (gI g, 8, .inl (fun z9 => nI (w z9)))), (h0, .inr (1, [.int (nI hn), .ref h1, .ref h2])), (h1, .inl (gI g, 6, .inl (fun z9 => nI (kd z9)))), (h2, .inl (gI g, 6, .inl (fun z9 => nI (pt z9)))), (e0, .inr (4, [.int (nI ec), .ref e1, .ref e2, .ref e3])), (e1, .inl (gI g, 8, .inl (fun z9 => nI (el z9)))), (e2, .inl (gI g, 8, .inl (fun z9 => nI (ea z9)))), (e3, .inl (gI g, 256, .inl (fun z9 => nI (eo z9))))] [.ref b0, .int p0] (P_X7_crowd g b0 y0 s0 o0 r0 t0 t1 h0 h1 h2 e0 e1 e2 e3 tr fl n w hn kd pt ec el ea eo p0) := by
  refine CtP.ofV RX7 rfl (by decide +kernel) rfl rfl (Nat.le_of_ble_eq_true rfl) (List.forall_mem_cons.mpr ⟨rfl, (List.forall_mem_cons.mpr ⟨rfl, (fun _ h9 => absurd h9 List.not_mem_nil)⟩)⟩) (fun x h hr => ?_)
  show vM x 0 [some (.ref b0), some (.int p0)] [] [(b0, .inr (6, [.ref t0, .ref h0, .ref y0, .ref s0, .ref e0, .ref o0, .ref r0, .int tr, .int (nI fl)])), (t0, .inr (5, [.int (nI n), .ref t1])), (t1, .inl (gI g, 8, .inl (fun z9 => nI (w z9)))), (h0, .inr (1, [.int (nI hn), .ref h1, .ref h2])), (h1, .inl (gI g, 6, .inl (fun z9 => nI (kd z9)))), (h2, .inl (gI g, 6, .inl (fun z9 => nI (pt z9)))), (e0, .inr (4, [.int (nI ec), .ref e1, .ref e2, .ref e3])), (e1, .inl (gI g, 8, .inl (fun z9 => nI (el z9)))), (e2, .inl (gI g, 8, .inl (fun z9 => nI (ea z9)))), (e3, .inl (gI g, 256, .inl (fun z9 => nI (eo z9))))]
  have ht1 := hT.1; have ht2 := hT.2.1; have ht3 := hT.2.2; have hh1 := hH.1; have hh2 := hH.2.1; have hh3 := hH.2.2.1; have hh4 := hH.2.2.2
  refine v_aload_n0 h dX7_crowd_0 ?_
  refine v_get h mw_X7 0 rfl rfl 1 (by decide) mf_X7_21 rfl dX7_crowd_1 ?_
  refine v_iload_n1 h dX7_crowd_4 ?_
  refine cw_V_3_4_5_1_i (ci := 1) h (c_X1_has (g := g) (by first | assumption | omega)) lk_X7_111 ⟨rfl, rfl, (Nat.le_of_ble_eq_true rfl), (Nat.le_of_ble_eq_true rfl)⟩ rfl rfl rfl (Nat.le_of_ble_eq_true rfl) dX7_crowd_5 ?_
  refine v_if_neB h dX7_crowd_8 (tgt := 13) (by decide) (fun c8 => ?_) (fun c8 => ?_)
  · obtain ⟨j0, hj0, rfl⟩ := inR_of c8 (by omega)
    have e8 := rN_N hj0 (by omega)
    refine v_aload_n0 h dX7_crowd_13 ?_
    refine v_get h mw_X7 0 rfl rfl 4 (by decide) mf_X7_42 rfl dX7_crowd_14 ?_
    refine v_aload_n0 h dX7_crowd_17 ?_
    refine v_get h mw_X7 0 rfl rfl 1 (by decide) mf_X7_21 rfl dX7_crowd_18 ?_
    refine v_iload_n1 h dX7_crowd_21 ?_
    refine v_aload_n0 h dX7_crowd_22 ?_
    refine v_get h mw_X7 0 rfl rfl 0 (by decide) mf_X7_14 rfl dX7_crowd_23 ?_
    refine cw_V_6_7_8_9_3_4_5_1_2_3_v (ci := 4) h (c_X4_lay (g := g) (by first | assumption | omega) (by first | assumption | omega) (by first | assumption | omega)) lk_X7_125 ⟨rfl, rfl, (Nat.le_of_ble_eq_true rfl), (Nat.le_of_ble_eq_true rfl)⟩ rfl rfl rfl (Nat.le_of_ble_eq_true rfl) dX7_crowd_26 ?_
    refine v_aload_n0 h dX7_crowd_29 ?_
    refine v_get h mw_X7 0 rfl rfl 4 (by decide) mf_X7_42 rfl dX7_crowd_30 ?_
    refine cw_V_6_7_8_9_0_i (ci := 4) h (c_X4_greatestCrowd (g := g) (by first | assumption | omega)) lk_X7_183 ⟨rfl, rfl, (Nat.le_of_ble_eq_true rfl), (Nat.le_of_ble_eq_true rfl)⟩ rfl rfl rfl (Nat.le_of_ble_eq_true rfl) dX7_crowd_33 ?_
    exact v_iretP h hr dX7_crowd_36 (P_X7_crowd_mk (q := _) (by simp only [s_crowd, e8, crwd_lay]) (by first | assumption | exact lay8l (by assumption) (by assumption) | exact lay8a (by assumption) (by assumption)) (by first | assumption | exact lay8l (by assumption) (by assumption) | exact lay8a (by assumption) (by assumption))) rfl
  · have e8 := rN_f c8
    refine v_iconst h (v := -1) dX7_crowd_11 (by decide) ?_
    exact v_iretP h hr dX7_crowd_12 (P_X7_crowd_mk (q := _) (by simp only [s_crowd, e8]) (by first | assumption | exact lay8l (by assumption) (by assumption) | exact lay8a (by assumption) (by assumption)) (by first | assumption | exact lay8l (by assumption) (by assumption) | exact lay8a (by assumption) (by assumption))) rfl
def P_X7_measure (g : vG) (b0 y0 s0 o0 r0 t0 t1 h0 h1 h2 e0 e1 e2 e3 : Nat) (tr : Int32) (fl : Nat) (n : Nat) (w : Nat → Nat) (hn : Nat) (kd : Nat → Nat) (pt : Nat → Nat) (ec : Nat) (el : Nat → Nat) (ea : Nat → Nat) (eo : Nat → Nat) (p0 : Int32) (p1 : Int32) : Option Value → va_W → Prop := fun r wo => ∃ ec' : Nat, ∃ el' : Nat → Nat, ∃ ea' : Nat → Nat, (∀ z, el' z < 2 ^ 8) ∧ (∀ z, ea' z < 2 ^ 8) ∧ r = some (.int (s_measure n w hn kd pt p0 p1)) ∧ wo = [(b0, .inr (6, [.ref t0, .ref h0, .ref y0, .ref s0, .ref e0, .ref o0, .ref r0, .int tr, .int (nI fl)])), (t0, .inr (5, [.int (nI n), .ref t1])), (t1, .inl (gI g, 8, .inl (fun z9 => nI (w z9)))), (h0, .inr (1, [.int (nI hn), .ref h1, .ref h2])), (h1, .inl (gI g, 6, .inl (fun z9 => nI (kd z9)))), (h2, .inl (gI g, 6, .inl (fun z9 => nI (pt z9)))), (e0, .inr (4, [.int (nI ec'), .ref e1, .ref e2, .ref e3])), (e1, .inl (gI g, 8, .inl (fun z9 => nI (el' z9)))), (e2, .inl (gI g, 8, .inl (fun z9 => nI (ea' z9)))), (e3, .inl (gI g, 256, .inl (fun z9 => nI (eo z9))))]
theorem P_X7_measure_mk {g : vG} {b0 y0 s0 o0 r0 t0 t1 h0 h1 h2 e0 e1 e2 e3 : Nat} {tr : Int32} {fl : Nat} {n : Nat} {w : Nat → Nat} {hn : Nat} {kd : Nat → Nat} {pt : Nat → Nat} {ec : Nat} {el : Nat → Nat} {ea : Nat → Nat} {eo : Nat → Nat} {p0 : Int32} {p1 : Int32} {ec' : Nat} {el' : Nat → Nat} {ea' : Nat → Nat} {q : Int32} (hs : s_measure n w hn kd pt p0 p1 = q) (hb0 : ∀ z, el' z < 2 ^ 8) (hb1 : ∀ z, ea' z < 2 ^ 8) : P_X7_measure g b0 y0 s0 o0 r0 t0 t1 h0 h1 h2 e0 e1 e2 e3 tr fl n w hn kd pt ec el ea eo p0 p1 (some (.int q)) [(b0, .inr (6, [.ref t0, .ref h0, .ref y0, .ref s0, .ref e0, .ref o0, .ref r0, .int tr, .int (nI fl)])), (t0, .inr (5, [.int (nI n), .ref t1])), (t1, .inl (gI g, 8, .inl (fun z9 => nI (w z9)))), (h0, .inr (1, [.int (nI hn), .ref h1, .ref h2])), (h1, .inl (gI g, 6, .inl (fun z9 => nI (kd z9)))), (h2, .inl (gI g, 6, .inl (fun z9 => nI (pt z9)))), (e0, .inr (4, [.int (nI ec'), .ref e1, .ref e2, .ref e3])), (e1, .inl (gI g, 8, .inl (fun z9 => nI (el' z9)))), (e2, .inl (gI g, 8, .inl (fun z9 => nI (ea' z9)))), (e3, .inl (gI g, 256, .inl (fun z9 => nI (eo z9))))] := by subst hs; exact ⟨_, _, _, hb0, hb1, rfl, rfl⟩
set_option maxRecDepth 20000 in
set_option maxHeartbeats 4000000 in
theorem c_X7_measure {g : vG} {b0 y0 s0 o0 r0 t0 t1 h0 h1 h2 e0 e1 e2 e3 : Nat} {tr : Int32} {fl : Nat} {n : Nat} {w : Nat → Nat} {hn : Nat} {kd : Nat → Nat} {pt : Nat → Nat} {ec : Nat} {el : Nat → Nat} {ea : Nat → Nat} {eo : Nat → Nat} {p0 : Int32} {p1 : Int32} (hT : wfT n w) (hH : wfH hn kd pt) (hn2 : hn = 0 ∨ 2 ≤ n) (hel : ∀ z, el z < 2 ^ 8) (hea : ∀ z, ea z < 2 ^ 8) : CtP g yX7_measure cX7_measure 5 (some .int) (rmOf 5 114) [(b0, .inr (6, [.ref t0, .ref h0, .ref y0, .ref s0, .ref e0, .ref o0, .ref r0, .int tr, .int (nI fl)])), (t0, .inr (5, [.int (nI n), .ref t1])), (t1, .inl (gI g, 8, .inl (fun z9 => nI (w z9)))), (h0, .inr (1, [.int (nI hn), .ref h1, .ref h2])), (h1, .inl (gI g, 6, .inl (fun z9 => nI (kd z9)))), (h2, .inl (gI g, 6, .inl (fun z9 => nI (pt z9)))), (e0, .inr (4, [.int (nI ec), .ref e1, .ref e2, .ref e3])), (e1, .inl (gI g, 8, .inl (fun z9 => nI (el z9)))), (e2, .inl (gI g, 8, .inl (fun z9 => nI (ea z9)))), (e3, .inl (gI g, 256, .inl (fun z9 => nI (eo z9))))] [.ref b0, .int p0, .int p1] (P_X7_measure g b0 y0 s0 o0 r0 t0 t1 h0 h1 h2 e0 e1 e2 e3 tr fl n w hn kd pt ec el ea eo p0 p1) := by
  refine CtP.ofV RX7 rfl (by decide +kernel) rfl rfl (Nat.le_of_ble_eq_true rfl) (List.forall_mem_cons.mpr ⟨rfl, (List.forall_mem_cons.mpr ⟨rfl, (List.forall_mem_cons.mpr ⟨rfl, (fun _ h9 => absurd h9 List.not_mem_nil)⟩)⟩)⟩) (fun x h hr => ?_)
  show vM x 0 [some (.ref b0), some (.int p0), some (.int p1), none, none] [] [(b0, .inr (6, [.ref t0, .ref h0, .ref y0, .ref s0, .ref e0, .ref o0, .ref r0, .int tr, .int (nI fl)])), (t0, .inr (5, [.int (nI n), .ref t1])), (t1, .inl (gI g, 8, .inl (fun z9 => nI (w z9)))), (h0, .inr (1, [.int (nI hn), .ref h1, .ref h2])), (h1, .inl (gI g, 6, .inl (fun z9 => nI (kd z9)))), (h2, .inl (gI g, 6, .inl (fun z9 => nI (pt z9)))), (e0, .inr (4, [.int (nI ec), .ref e1, .ref e2, .ref e3])), (e1, .inl (gI g, 8, .inl (fun z9 => nI (el z9)))), (e2, .inl (gI g, 8, .inl (fun z9 => nI (ea z9)))), (e3, .inl (gI g, 256, .inl (fun z9 => nI (eo z9))))]
  have ht1 := hT.1; have ht2 := hT.2.1; have ht3 := hT.2.2; have hh1 := hH.1; have hh2 := hH.2.1; have hh3 := hH.2.2.1; have hh4 := hH.2.2.2
  refine v_aload_n0 h dX7_measure_0 ?_
  refine v_get h mw_X7 0 rfl rfl 1 (by decide) mf_X7_21 rfl dX7_measure_1 ?_
  refine v_iload_n1 h dX7_measure_4 ?_
  refine cw_V_3_4_5_1_i (ci := 1) h (c_X1_has (g := g) (by first | assumption | omega)) lk_X7_111 ⟨rfl, rfl, (Nat.le_of_ble_eq_true rfl), (Nat.le_of_ble_eq_true rfl)⟩ rfl rfl rfl (Nat.le_of_ble_eq_true rfl) dX7_measure_5 ?_
  refine v_if_neB h dX7_measure_8 (tgt := 13) (by decide) (fun c8 => ?_) (fun c8 => ?_)
  · obtain ⟨j0, hj0, rfl⟩ := inR_of c8 (by omega)
    have e8 := rN_N hj0 (by omega)
    refine v_iload_n2 h dX7_measure_13 ?_
    refine cw_S_e_1_i h (c_X7_isFirstOrSecond (g := g)) lk_X7_112 ⟨rfl, rfl, (Nat.le_of_ble_eq_true rfl), (Nat.le_of_ble_eq_true rfl)⟩ (Nat.le_of_ble_eq_true rfl) dX7_measure_14 ?_
    refine v_if_neB h dX7_measure_17 (tgt := 23) (by decide) (fun c17 => ?_) (fun c17 => ?_)
    · obtain ⟨j1, hj1a, hj1, rfl⟩ := wi_of c17 (by decide) (by decide)
      have e17 := rW_N hj1a hj1 (by decide)
      refine v_aload_n0 h dX7_measure_23 ?_
      refine v_get h mw_X7 0 rfl rfl 4 (by decide) mf_X7_42 rfl dX7_measure_24 ?_
      refine v_aload_n0 h dX7_measure_27 ?_
      refine v_get h mw_X7 0 rfl rfl 1 (by decide) mf_X7_21 rfl dX7_measure_28 ?_
      refine v_iload_n1 h dX7_measure_31 ?_
      refine v_aload_n0 h dX7_measure_32 ?_
      refine v_get h mw_X7 0 rfl rfl 0 (by decide) mf_X7_14 rfl dX7_measure_33 ?_
      refine cw_V_6_7_8_9_3_4_5_1_2_3_v (ci := 4) h (c_X4_lay (g := g) (by first | assumption | omega) (by first | assumption | omega) (by first | assumption | omega)) lk_X7_125 ⟨rfl, rfl, (Nat.le_of_ble_eq_true rfl), (Nat.le_of_ble_eq_true rfl)⟩ rfl rfl rfl (Nat.le_of_ble_eq_true rfl) dX7_measure_36 ?_
      refine v_iconst h (v := nI 0) dX7_measure_39 (by decide) ?_
      refine v_istore_n3 h (Nat.le_of_ble_eq_true rfl) dX7_measure_40 ?_
      refine v_iconst h (v := nI 1) dX7_measure_41 (by decide) ?_
      refine v_istore4 h (Nat.le_of_ble_eq_true rfl) dX7_measure_42 ?_
      have L44 : ∀ (k44 : Nat) (k : Nat), n - k = k44 → (k + 1 ≤ n) → vM x 44 [some (.ref b0), some (.int (nI j0)), some (.int (nI j1)), some (.int (nI (msK (fun x => popN ((alkS (kd j0) (pt j0) w n) x) - 1) k))), some (.int (nI (k + 1)))] [] [(b0, .inr (6, [.ref t0, .ref h0, .ref y0, .ref s0, .ref e0, .ref o0, .ref r0, .int tr, .int (nI fl)])), (t0, .inr (5, [.int (nI n), .ref t1])), (t1, .inl (gI g, 8, .inl (fun z9 => nI (w z9)))), (h0, .inr (1, [.int (nI hn), .ref h1, .ref h2])), (h1, .inl (gI g, 6, .inl (fun z9 => nI (kd z9)))), (h2, .inl (gI g, 6, .inl (fun z9 => nI (pt z9)))), (e0, .inr (4, [.int (nI n), .ref e1, .ref e2, .ref e3])), (e1, .inl (gI g, 8, .inl (fun z9 => nI ((layF el n (ligS (kd j0) (pt j0) w n)) z9)))), (e2, .inl (gI g, 8, .inl (fun z9 => nI ((layF ea n (alkS (kd j0) (pt j0) w n)) z9)))), (e3, .inl (gI g, 256, .inl (fun z9 => nI (eo z9))))] := by
        intro k44
        induction k44 using Nat.strongRecOn with
        | _ k44 ih44 =>
          intro k hm44 hk
          refine v_iload4 h dX7_measure_44 ?_
          refine v_aload_n0 h dX7_measure_46 ?_
          refine v_get h mw_X7 0 rfl rfl 0 (by decide) mf_X7_14 rfl dX7_measure_47 ?_
          refine cw_V_1_2_0_i (ci := 5) h (c_X6_count (g := g)) lk_X7_92 ⟨rfl, rfl, (Nat.le_of_ble_eq_true rfl), (Nat.le_of_ble_eq_true rfl)⟩ rfl rfl rfl (Nat.le_of_ble_eq_true rfl) dX7_measure_50 ?_
          refine v_icmp_geN h dX7_measure_53 (tgt := 85) (by decide) (by omega) (by omega) (fun c53 => ?_) (fun c53 => ?_)
          · obtain rfl : k = n - 1 := by omega
            refine v_iload_n2 h dX7_measure_85 ?_
            refine v_if_neN h dX7_measure_86 (tgt := 93) (by decide) (by omega) (fun c86 => ?_) (fun c86 => ?_)
            · refine v_aload_n0 h dX7_measure_93 ?_
              refine v_get h mw_X7 0 rfl rfl 4 (by decide) mf_X7_42 rfl dX7_measure_94 ?_
              refine v_iload_n3 h dX7_measure_97 ?_
              refine cw_V_6_7_8_9_1_i (ci := 4) h (c_X4_othersAlikeTo (g := g) (by first | assumption | omega) (by exact Nat.lt_of_le_of_lt (msK_le _) (by omega)) (by exact lay8a hea ht1) (by rw [layF_in (show msK (fun x => popN ((alkS (kd j0) (pt j0) w n) x) - 1) (n - 1) < n from Nat.lt_of_le_of_lt (msK_le _) (by omega))]; exact popN_pos (i := msK (fun x => popN ((alkS (kd j0) (pt j0) w n) x) - 1) (n - 1)) (by have := msK_le (f := (fun x => popN ((alkS (kd j0) (pt j0) w n) x) - 1)) (n - 1); omega) (by rw [alkS_bit, decide_eq_true (show msK (fun x => popN ((alkS (kd j0) (pt j0) w n) x) - 1) (n - 1) < n from Nat.lt_of_le_of_lt (msK_le _) (by omega)), alk_self]; rfl))) lk_X7_186 ⟨rfl, rfl, (Nat.le_of_ble_eq_true rfl), (Nat.le_of_ble_eq_true rfl)⟩ rfl rfl rfl (Nat.le_of_ble_eq_true rfl) dX7_measure_98 ?_
              exact v_iretP h hr dX7_measure_101 (P_X7_measure_mk (q := _) (by simp only [s_measure, e8, e17, if_neg (show ¬ j1 = 0 by omega), layF_in (old := ea) (F := (alkS (kd j0) (pt j0) w n)) (show msK (fun x => popN ((alkS (kd j0) (pt j0) w n) x) - 1) (n - 1) < n from Nat.lt_of_le_of_lt (msK_le _) (by omega))]) (by first | assumption | exact lay8l (by assumption) (by assumption) | exact lay8a (by assumption) (by assumption)) (by first | assumption | exact lay8l (by assumption) (by assumption) | exact lay8a (by assumption) (by assumption))) rfl
            · refine v_iload_n3 h dX7_measure_89 ?_
              refine v_goto h dX7_measure_90 (tgt := 101) (by decide) ?_
              exact v_iretP h hr dX7_measure_101 (P_X7_measure_mk (q := _) (by simp only [s_measure, e8, e17, if_pos c86, layF_in (old := ea) (F := (alkS (kd j0) (pt j0) w n)) (show msK (fun x => popN ((alkS (kd j0) (pt j0) w n) x) - 1) (n - 1) < n from Nat.lt_of_le_of_lt (msK_le _) (by omega))]) (by first | assumption | exact lay8l (by assumption) (by assumption) | exact lay8a (by assumption) (by assumption)) (by first | assumption | exact lay8l (by assumption) (by assumption) | exact lay8a (by assumption) (by assumption))) rfl
          · refine v_aload_n0 h dX7_measure_56 ?_
            refine v_get h mw_X7 0 rfl rfl 4 (by decide) mf_X7_42 rfl dX7_measure_57 ?_
            refine v_iload4 h dX7_measure_60 ?_
            refine cw_V_6_7_8_9_1_i (ci := 4) h (c_X4_othersAlikeTo (g := g) (by first | assumption | omega) (by first | assumption | omega) (by exact lay8a hea ht1) (by rw [layF_in (show k + 1 < n by omega)]; exact popN_pos (i := k + 1) (by omega) (by rw [alkS_bit, decide_eq_true (show k + 1 < n by omega), alk_self]; rfl))) lk_X7_186 ⟨rfl, rfl, (Nat.le_of_ble_eq_true rfl), (Nat.le_of_ble_eq_true rfl)⟩ rfl rfl rfl (Nat.le_of_ble_eq_true rfl) dX7_measure_62 ?_
            rw [layF_in (show k + 1 < n by omega)]
            refine v_aload_n0 h dX7_measure_65 ?_
            refine v_get h mw_X7 0 rfl rfl 4 (by decide) mf_X7_42 rfl dX7_measure_66 ?_
            refine v_iload_n3 h dX7_measure_69 ?_
            refine cw_V_6_7_8_9_1_i (ci := 4) h (c_X4_othersAlikeTo (g := g) (by first | assumption | omega) (by exact Nat.lt_of_le_of_lt (msK_le k) (by omega)) (by exact lay8a hea ht1) (by rw [layF_in (Nat.lt_of_le_of_lt (msK_le k) (by omega))]; exact popN_pos (i := msK (fun x => popN ((alkS (kd j0) (pt j0) w n) x) - 1) k) (by have := msK_le (f := (fun x => popN ((alkS (kd j0) (pt j0) w n) x) - 1)) k; omega) (by rw [alkS_bit, decide_eq_true (Nat.lt_of_le_of_lt (msK_le k) (by omega)), alk_self]; rfl))) lk_X7_186 ⟨rfl, rfl, (Nat.le_of_ble_eq_true rfl), (Nat.le_of_ble_eq_true rfl)⟩ rfl rfl rfl (Nat.le_of_ble_eq_true rfl) dX7_measure_70 ?_
            rw [layF_in (Nat.lt_of_le_of_lt (msK_le k) (by omega))]
            refine v_icmp_leN h dX7_measure_73 (tgt := 79) (by decide) (by have := popN_le (alkS (kd j0) (pt j0) w n (k + 1)); have := popN_le (alkS (kd j0) (pt j0) w n (msK (fun x => popN ((alkS (kd j0) (pt j0) w n) x) - 1) k)); omega) (by have := popN_le (alkS (kd j0) (pt j0) w n (k + 1)); have := popN_le (alkS (kd j0) (pt j0) w n (msK (fun x => popN ((alkS (kd j0) (pt j0) w n) x) - 1) k)); omega) (fun c73 => ?_) (fun c73 => ?_)
            · refine v_iincN4 h (Nat.le_of_ble_eq_true rfl) dX7_measure_79 ?_
              refine v_goto h dX7_measure_82 (tgt := 44) (by decide) ?_
              exact vM.fg (ih44 _ (by omega) (k + 1) rfl (by first | assumption | rfl | omega)) ⟨rfl, rfl, rfl, (by first | (rw [msK, if_pos c73]; done) | (rw [msK, if_neg (by omega)]; done)), rfl, trivial⟩
            · refine v_iload4 h dX7_measure_76 ?_
              refine v_istore_n3 h (Nat.le_of_ble_eq_true rfl) dX7_measure_78 ?_
              refine v_iincN4 h (Nat.le_of_ble_eq_true rfl) dX7_measure_79 ?_
              refine v_goto h dX7_measure_82 (tgt := 44) (by decide) ?_
              exact vM.fg (ih44 _ (by omega) (k + 1) rfl (by first | assumption | rfl | omega)) ⟨rfl, rfl, rfl, (by first | (rw [msK, if_pos c73]; done) | (rw [msK, if_neg (by omega)]; done)), rfl, trivial⟩
      exact vM.fg (L44 _ 0 rfl (by first | assumption | rfl | omega)) ⟨rfl, rfl, rfl, rfl, rfl, trivial⟩
    · have e17 := wi_no c17
      refine v_bipush h (v := -2) dX7_measure_20 (by decide) ?_
      exact v_iretP h hr dX7_measure_22 (P_X7_measure_mk (q := _) (by simp only [s_measure, e8, e17]) (by first | assumption | exact lay8l (by assumption) (by assumption) | exact lay8a (by assumption) (by assumption)) (by first | assumption | exact lay8l (by assumption) (by assumption) | exact lay8a (by assumption) (by assumption))) rfl
  · have e8 := rN_f c8
    refine v_iconst h (v := -1) dX7_measure_11 (by decide) ?_
    exact v_iretP h hr dX7_measure_12 (P_X7_measure_mk (q := _) (by simp only [s_measure, e8]) (by first | assumption | exact lay8l (by assumption) (by assumption) | exact lay8a (by assumption) (by assumption)) (by first | assumption | exact lay8l (by assumption) (by assumption) | exact lay8a (by assumption) (by assumption))) rfl
def P_X7_even (g : vG) (b0 y0 s0 e0 o0 r0 t0 t1 h0 h1 h2 : Nat) (tr : Int32) (fl : Nat) (n : Nat) (w : Nat → Nat) (hn : Nat) (kd : Nat → Nat) (pt : Nat → Nat) (p0 : Int32) (p1 : Int32) : Option Value → va_W → Prop := fun r wo => r = some (.int (s_even n w hn kd pt p0 p1)) ∧ wo = [(b0, .inr (6, [.ref t0, .ref h0, .ref y0, .ref s0, .ref e0, .ref o0, .ref r0, .int tr, .int (nI fl)])), (t0, .inr (5, [.int (nI n), .ref t1])), (t1, .inl (gI g, 8, .inl (fun z9 => nI (w z9)))), (h0, .inr (1, [.int (nI hn), .ref h1, .ref h2])), (h1, .inl (gI g, 6, .inl (fun z9 => nI (kd z9)))), (h2, .inl (gI g, 6, .inl (fun z9 => nI (pt z9))))]
theorem P_X7_even_mk {g : vG} {b0 y0 s0 e0 o0 r0 t0 t1 h0 h1 h2 : Nat} {tr : Int32} {fl : Nat} {n : Nat} {w : Nat → Nat} {hn : Nat} {kd : Nat → Nat} {pt : Nat → Nat} {p0 : Int32} {p1 : Int32}  {q : Int32} (hs : s_even n w hn kd pt p0 p1 = q)  : P_X7_even g b0 y0 s0 e0 o0 r0 t0 t1 h0 h1 h2 tr fl n w hn kd pt p0 p1 (some (.int q)) [(b0, .inr (6, [.ref t0, .ref h0, .ref y0, .ref s0, .ref e0, .ref o0, .ref r0, .int tr, .int (nI fl)])), (t0, .inr (5, [.int (nI n), .ref t1])), (t1, .inl (gI g, 8, .inl (fun z9 => nI (w z9)))), (h0, .inr (1, [.int (nI hn), .ref h1, .ref h2])), (h1, .inl (gI g, 6, .inl (fun z9 => nI (kd z9)))), (h2, .inl (gI g, 6, .inl (fun z9 => nI (pt z9))))] := by subst hs; exact ⟨rfl, rfl⟩
set_option maxRecDepth 20000 in
set_option maxHeartbeats 4000000 in
theorem c_X7_even {g : vG} {b0 y0 s0 e0 o0 r0 t0 t1 h0 h1 h2 : Nat} {tr : Int32} {fl : Nat} {n : Nat} {w : Nat → Nat} {hn : Nat} {kd : Nat → Nat} {pt : Nat → Nat} {p0 : Int32} {p1 : Int32} (hT : wfT n w) (hH : wfH hn kd pt) (hn2 : hn = 0 ∨ 2 ≤ n) : CtP g yX7_even cX7_even 9 (some .int) (rmOf 4 89) [(b0, .inr (6, [.ref t0, .ref h0, .ref y0, .ref s0, .ref e0, .ref o0, .ref r0, .int tr, .int (nI fl)])), (t0, .inr (5, [.int (nI n), .ref t1])), (t1, .inl (gI g, 8, .inl (fun z9 => nI (w z9)))), (h0, .inr (1, [.int (nI hn), .ref h1, .ref h2])), (h1, .inl (gI g, 6, .inl (fun z9 => nI (kd z9)))), (h2, .inl (gI g, 6, .inl (fun z9 => nI (pt z9))))] [.ref b0, .int p0, .int p1] (P_X7_even g b0 y0 s0 e0 o0 r0 t0 t1 h0 h1 h2 tr fl n w hn kd pt p0 p1) := by
  refine CtP.ofV RX7 rfl (by decide +kernel) rfl rfl (Nat.le_of_ble_eq_true rfl) (List.forall_mem_cons.mpr ⟨rfl, (List.forall_mem_cons.mpr ⟨rfl, (List.forall_mem_cons.mpr ⟨rfl, (fun _ h9 => absurd h9 List.not_mem_nil)⟩)⟩)⟩) (fun x h hr => ?_)
  show vM x 0 [some (.ref b0), some (.int p0), some (.int p1), none, none, none, none, none, none] [] [(b0, .inr (6, [.ref t0, .ref h0, .ref y0, .ref s0, .ref e0, .ref o0, .ref r0, .int tr, .int (nI fl)])), (t0, .inr (5, [.int (nI n), .ref t1])), (t1, .inl (gI g, 8, .inl (fun z9 => nI (w z9)))), (h0, .inr (1, [.int (nI hn), .ref h1, .ref h2])), (h1, .inl (gI g, 6, .inl (fun z9 => nI (kd z9)))), (h2, .inl (gI g, 6, .inl (fun z9 => nI (pt z9))))]
  have ht1 := hT.1; have ht2 := hT.2.1; have ht3 := hT.2.2; have hh1 := hH.1; have hh2 := hH.2.1; have hh3 := hH.2.2.1; have hh4 := hH.2.2.2; have hp8 := pow8' ht1
  refine v_aload_n0 h dX7_even_0 ?_
  refine v_get h mw_X7 0 rfl rfl 1 (by decide) mf_X7_21 rfl dX7_even_1 ?_
  refine v_iload_n1 h dX7_even_4 ?_
  refine cw_V_3_4_5_1_i (ci := 1) h (c_X1_has (g := g) (by first | assumption | omega)) lk_X7_111 ⟨rfl, rfl, (Nat.le_of_ble_eq_true rfl), (Nat.le_of_ble_eq_true rfl)⟩ rfl rfl rfl (Nat.le_of_ble_eq_true rfl) dX7_even_5 ?_
  refine v_if_neB h dX7_even_8 (tgt := 13) (by decide) (fun c8 => ?_) (fun c8 => ?_)
  · obtain ⟨j0, hj0, rfl⟩ := inR_of c8 (by omega)
    have e8 := rN_N hj0 (by omega)
    refine v_iload_n2 h dX7_even_13 ?_
    refine cw_S_e_1_i h (c_X7_isFirstOrSecond (g := g)) lk_X7_112 ⟨rfl, rfl, (Nat.le_of_ble_eq_true rfl), (Nat.le_of_ble_eq_true rfl)⟩ (Nat.le_of_ble_eq_true rfl) dX7_even_14 ?_
    refine v_if_neB h dX7_even_17 (tgt := 23) (by decide) (fun c17 => ?_) (fun c17 => ?_)
    · obtain ⟨j1, hj1a, hj1, rfl⟩ := wi_of c17 (by decide) (by decide)
      have e17 := rW_N hj1a hj1 (by decide)
      refine v_bipush h (v := -9) dX7_even_23 (by decide) ?_
      refine v_istore_n3 h (Nat.le_of_ble_eq_true rfl) dX7_even_25 ?_
      refine v_bipush h (v := -9) dX7_even_26 (by decide) ?_
      refine v_istore4 h (Nat.le_of_ble_eq_true rfl) dX7_even_28 ?_
      refine v_iconst h (v := nI 0) dX7_even_30 (by decide) ?_
      refine v_istore5 h (Nat.le_of_ble_eq_true rfl) dX7_even_31 ?_
      refine v_iconst h (v := nI 1) dX7_even_33 (by decide) ?_
      refine v_istore6 h (Nat.le_of_ble_eq_true rfl) dX7_even_34 ?_
      have L36 : ∀ (k36 : Nat) (a : Nat), 2 ^ n - a = k36 → (a ≤ 2 ^ n - 1) → vM x 36 [some (.ref b0), some (.int (nI j0)), some (.int (nI j1)), some (.int ((evO w kd pt n j0 a).1)), some (.int ((evO w kd pt n j0 a).2.1)), some (.int (nI ((evO w kd pt n j0 a).2.2))), some (.int (nI (a + 1))), none, none] [] [(b0, .inr (6, [.ref t0, .ref h0, .ref y0, .ref s0, .ref e0, .ref o0, .ref r0, .int tr, .int (nI fl)])), (t0, .inr (5, [.int (nI n), .ref t1])), (t1, .inl (gI g, 8, .inl (fun z9 => nI (w z9)))), (h0, .inr (1, [.int (nI hn), .ref h1, .ref h2])), (h1, .inl (gI g, 6, .inl (fun z9 => nI (kd z9)))), (h2, .inl (gI g, 6, .inl (fun z9 => nI (pt z9))))] := by
        intro k36
        induction k36 using Nat.strongRecOn with
        | _ k36 ih36 =>
          intro a hm36 ha
          refine v_iload6 h dX7_even_36 ?_
          refine v_iconst h (v := nI 1) dX7_even_38 (by decide) ?_
          refine v_aload_n0 h dX7_even_39 ?_
          refine v_get h mw_X7 0 rfl rfl 0 (by decide) mf_X7_14 rfl dX7_even_40 ?_
          refine cw_V_1_2_0_i (ci := 5) h (c_X6_count (g := g)) lk_X7_92 ⟨rfl, rfl, (Nat.le_of_ble_eq_true rfl), (Nat.le_of_ble_eq_true rfl)⟩ rfl rfl rfl (Nat.le_of_ble_eq_true rfl) dX7_even_43 ?_
          refine v_ishlN h dX7_even_46 (by omega) ?_
          refine v_icmp_geN h dX7_even_47 (tgt := 153) (by decide) (by omega) (by omega) (fun c47 => ?_) (fun c47 => ?_)
          · have e47 : 2 ^ n - 1 = a := by have := pow_pos' n; omega
            refine v_iload_n2 h dX7_even_153 ?_
            refine v_if_neN h dX7_even_154 (tgt := 161) (by decide) (by omega) (fun c154 => ?_) (fun c154 => ?_)
            · refine v_iload4 h dX7_even_161 ?_
              exact v_iretP h hr dX7_even_163 (P_X7_even_mk (q := _) (by simp only [s_even, e8, e17, e47, if_neg (show ¬ j1 = 0 by omega)]) ) rfl
            · refine v_iload_n3 h dX7_even_157 ?_
              refine v_goto h dX7_even_158 (tgt := 163) (by decide) ?_
              exact v_iretP h hr dX7_even_163 (P_X7_even_mk (q := _) (by simp only [s_even, e8, e17, e47, if_pos c154]) ) rfl
          · refine v_aload_n0 h dX7_even_50 ?_
            refine v_get h mw_X7 0 rfl rfl 0 (by decide) mf_X7_14 rfl dX7_even_51 ?_
            refine v_iload6 h dX7_even_54 ?_
            refine cw_V_1_2_1_i (ci := 5) h (c_X6_weightTogether (g := g) (by first | assumption | omega) (by omega)) lk_X7_212 ⟨rfl, rfl, (Nat.le_of_ble_eq_true rfl), (Nat.le_of_ble_eq_true rfl)⟩ rfl rfl rfl (Nat.le_of_ble_eq_true rfl) dX7_even_56 ?_
            refine v_istore7 h (Nat.le_of_ble_eq_true rfl) dX7_even_59 ?_
            refine v_iload6 h dX7_even_61 ?_
            refine v_iconst h (v := nI 1) dX7_even_63 (by decide) ?_
            refine v_iaddN h dX7_even_64 ?_
            refine v_istore8 h (Nat.le_of_ble_eq_true rfl) dX7_even_65 ?_
            have L67 : ∀ (k67 : Nat) (b : Nat), 2 ^ n - b = k67 → (b ≤ 2 ^ n - 1 - (a + 1)) → vM x 67 [some (.ref b0), some (.int (nI j0)), some (.int (nI j1)), some (.int ((evI w kd pt n j0 (a + 1) (evO w kd pt n j0 a) b).1)), some (.int ((evI w kd pt n j0 (a + 1) (evO w kd pt n j0 a) b).2.1)), some (.int (nI ((evI w kd pt n j0 (a + 1) (evO w kd pt n j0 a) b).2.2))), some (.int (nI (a + 1))), some (.int (nI (sumTo (fun z => if (a + 1).testBit z then w z else 0) n))), some (.int (nI (a + 1 + 1 + b)))] [] [(b0, .inr (6, [.ref t0, .ref h0, .ref y0, .ref s0, .ref e0, .ref o0, .ref r0, .int tr, .int (nI fl)])), (t0, .inr (5, [.int (nI n), .ref t1])), (t1, .inl (gI g, 8, .inl (fun z9 => nI (w z9)))), (h0, .inr (1, [.int (nI hn), .ref h1, .ref h2])), (h1, .inl (gI g, 6, .inl (fun z9 => nI (kd z9)))), (h2, .inl (gI g, 6, .inl (fun z9 => nI (pt z9))))] := by
              intro k67
              induction k67 using Nat.strongRecOn with
              | _ k67 ih67 =>
                intro b hm67 hb
                refine v_iload8 h dX7_even_67 ?_
                refine v_iconst h (v := nI 1) dX7_even_69 (by decide) ?_
                refine v_aload_n0 h dX7_even_70 ?_
                refine v_get h mw_X7 0 rfl rfl 0 (by decide) mf_X7_14 rfl dX7_even_71 ?_
                refine cw_V_1_2_0_i (ci := 5) h (c_X6_count (g := g)) lk_X7_92 ⟨rfl, rfl, (Nat.le_of_ble_eq_true rfl), (Nat.le_of_ble_eq_true rfl)⟩ rfl rfl rfl (Nat.le_of_ble_eq_true rfl) dX7_even_74 ?_
                refine v_ishlN h dX7_even_77 (by omega) ?_
                refine v_icmp_geN h dX7_even_78 (tgt := 147) (by decide) (by omega) (by omega) (fun c78 => ?_) (fun c78 => ?_)
                · have e78 : 2 ^ n - 1 - (a + 1) = b := by omega
                  rw [show (evI w kd pt n j0 (a + 1) (evO w kd pt n j0 a) b) = evO w kd pt n j0 (a + 1) by rw [evO, e78]]
                  refine v_iincN6 h (Nat.le_of_ble_eq_true rfl) dX7_even_147 ?_
                  refine v_goto h dX7_even_150 (tgt := 36) (by decide) ?_
                  exact vM.fg (ih36 _ (by omega) (a + 1) rfl (by first | assumption | rfl | omega)) ⟨rfl, rfl, rfl, rfl, rfl, rfl, rfl, trivial⟩
                · refine v_iload6 h dX7_even_81 ?_
                  refine v_iload8 h dX7_even_83 ?_
                  refine v_iandN h dX7_even_85 ?_
                  refine v_if_neN h dX7_even_86 (tgt := 141) (by decide) (by exact Nat.lt_of_le_of_lt Nat.and_le_left (by omega)) (fun c86 => ?_) (fun c86 => ?_)
                  · have g9 : (evI w kd pt n j0 (a + 1) (evO w kd pt n j0 a) (b + 1)) = (evI w kd pt n j0 (a + 1) (evO w kd pt n j0 a) b) := if_neg (fun z => by have := z.1; omega)
                    refine v_iincN8 h (Nat.le_of_ble_eq_true rfl) dX7_even_141 ?_
                    refine v_goto h dX7_even_144 (tgt := 67) (by decide) ?_
                    exact vM.fg (ih67 _ (by omega) (b + 1) rfl (by first | assumption | rfl | omega)) ⟨rfl, rfl, rfl, (by exact congrArg (fun y => some (Value.int y)) (congrArg Prod.fst g9).symm), (by exact congrArg (fun y => some (Value.int y)) (congrArg (fun y => y.2.1) g9).symm), (by exact congrArg (fun y => some (Value.int (nI y))) (congrArg (fun y => y.2.2) g9).symm), rfl, rfl, rfl, trivial⟩
                  · refine v_iload6 h dX7_even_89 ?_
                    refine v_iload8 h dX7_even_91 ?_
                    refine v_iorN h dX7_even_93 ?_
                    refine cw_S_e_1_i h (c_J6_bitCount_0f7a4 (g := g) (by exact Nat.or_lt_two_pow (show a + 1 < 2 ^ 8 by omega) (show a + 1 + 1 + b < 2 ^ 8 by omega))) lk_X7_215 ⟨rfl, rfl, (Nat.le_of_ble_eq_true rfl), (Nat.le_of_ble_eq_true rfl)⟩ (Nat.le_of_ble_eq_true rfl) dX7_even_94 ?_
                    refine v_iload5 h dX7_even_97 ?_
                    refine v_icmp_leN h dX7_even_99 (tgt := 141) (by decide) (by first | exact Nat.lt_of_le_of_lt (popN_le _) (by decide) | exact Nat.lt_of_le_of_lt (evI_le (evO_le a) b) (by decide)) (by first | exact Nat.lt_of_le_of_lt (popN_le _) (by decide) | exact Nat.lt_of_le_of_lt (evI_le (evO_le a) b) (by decide)) (fun c99 => ?_) (fun c99 => ?_)
                    · have g9 : (evI w kd pt n j0 (a + 1) (evO w kd pt n j0 a) (b + 1)) = (evI w kd pt n j0 (a + 1) (evO w kd pt n j0 a) b) := if_neg (fun z => by have := z.2.1; omega)
                      refine v_iincN8 h (Nat.le_of_ble_eq_true rfl) dX7_even_141 ?_
                      refine v_goto h dX7_even_144 (tgt := 67) (by decide) ?_
                      exact vM.fg (ih67 _ (by omega) (b + 1) rfl (by first | assumption | rfl | omega)) ⟨rfl, rfl, rfl, (by exact congrArg (fun y => some (Value.int y)) (congrArg Prod.fst g9).symm), (by exact congrArg (fun y => some (Value.int y)) (congrArg (fun y => y.2.1) g9).symm), (by exact congrArg (fun y => some (Value.int (nI y))) (congrArg (fun y => y.2.2) g9).symm), rfl, rfl, rfl, trivial⟩
                    · refine v_aload_n0 h dX7_even_102 ?_
                      refine v_get h mw_X7 0 rfl rfl 1 (by decide) mf_X7_21 rfl dX7_even_103 ?_
                      refine v_iload_n1 h dX7_even_106 ?_
                      refine v_iload7 h dX7_even_107 ?_
                      refine v_aload_n0 h dX7_even_109 ?_
                      refine v_get h mw_X7 0 rfl rfl 0 (by decide) mf_X7_14 rfl dX7_even_110 ?_
                      refine v_iload8 h dX7_even_113 ?_
                      refine cw_V_1_2_1_i (ci := 5) h (c_X6_weightTogether (g := g) (by first | assumption | omega) (by omega)) lk_X7_212 ⟨rfl, rfl, (Nat.le_of_ble_eq_true rfl), (Nat.le_of_ble_eq_true rfl)⟩ rfl rfl rfl (Nat.le_of_ble_eq_true rfl) dX7_even_115 ?_
                      refine cw_V_3_4_5_3_i (ci := 1) h (c_X1_feelsAlike (g := g) (by first | assumption | omega) (by first | assumption | omega) (by exact sumW_le ht2 ht1) (by exact sumW_le ht2 ht1)) lk_X7_220 ⟨rfl, rfl, (Nat.le_of_ble_eq_true rfl), (Nat.le_of_ble_eq_true rfl)⟩ rfl rfl rfl (Nat.le_of_ble_eq_true rfl) dX7_even_118 ?_
                      refine v_if_eqB h dX7_even_121 (tgt := 141) (by decide) (fun c121 => ?_) (fun c121 => ?_)
                      · have g9 : (evI w kd pt n j0 (a + 1) (evO w kd pt n j0 a) (b + 1)) = (evI w kd pt n j0 (a + 1) (evO w kd pt n j0 a) b) := if_neg (fun z => by rw [c121] at z; cases z.2.2)
                        refine v_iincN8 h (Nat.le_of_ble_eq_true rfl) dX7_even_141 ?_
                        refine v_goto h dX7_even_144 (tgt := 67) (by decide) ?_
                        exact vM.fg (ih67 _ (by omega) (b + 1) rfl (by first | assumption | rfl | omega)) ⟨rfl, rfl, rfl, (by exact congrArg (fun y => some (Value.int y)) (congrArg Prod.fst g9).symm), (by exact congrArg (fun y => some (Value.int y)) (congrArg (fun y => y.2.1) g9).symm), (by exact congrArg (fun y => some (Value.int (nI y))) (congrArg (fun y => y.2.2) g9).symm), rfl, rfl, rfl, trivial⟩
                      · have g9 : (evI w kd pt n j0 (a + 1) (evO w kd pt n j0 a) (b + 1)) = (nI (a + 1), nI (a + 1 + 1 + b), popN ((a + 1) ||| (a + 1 + 1 + b))) := if_pos ⟨c86, c99, c121⟩
                        refine v_iload6 h dX7_even_124 ?_
                        refine v_istore_n3 h (Nat.le_of_ble_eq_true rfl) dX7_even_126 ?_
                        refine v_iload8 h dX7_even_127 ?_
                        refine v_istore4 h (Nat.le_of_ble_eq_true rfl) dX7_even_129 ?_
                        refine v_iload6 h dX7_even_131 ?_
                        refine v_iload8 h dX7_even_133 ?_
                        refine v_iorN h dX7_even_135 ?_
                        refine cw_S_e_1_i h (c_J6_bitCount_0f7a4 (g := g) (by exact Nat.or_lt_two_pow (show a + 1 < 2 ^ 8 by omega) (show a + 1 + 1 + b < 2 ^ 8 by omega))) lk_X7_215 ⟨rfl, rfl, (Nat.le_of_ble_eq_true rfl), (Nat.le_of_ble_eq_true rfl)⟩ (Nat.le_of_ble_eq_true rfl) dX7_even_136 ?_
                        refine v_istore5 h (Nat.le_of_ble_eq_true rfl) dX7_even_139 ?_
                        refine v_iincN8 h (Nat.le_of_ble_eq_true rfl) dX7_even_141 ?_
                        refine v_goto h dX7_even_144 (tgt := 67) (by decide) ?_
                        exact vM.fg (ih67 _ (by omega) (b + 1) rfl (by first | assumption | rfl | omega)) ⟨rfl, rfl, rfl, (by exact congrArg (fun y => some (Value.int y)) (congrArg Prod.fst g9).symm), (by exact congrArg (fun y => some (Value.int y)) (congrArg (fun y => y.2.1) g9).symm), (by exact congrArg (fun y => some (Value.int (nI y))) (congrArg (fun y => y.2.2) g9).symm), rfl, rfl, rfl, trivial⟩
            exact vM.fg (L67 _ 0 rfl (by first | assumption | rfl | omega)) ⟨rfl, rfl, rfl, rfl, rfl, rfl, rfl, rfl, rfl, trivial⟩
      exact vM.fg (L36 _ 0 rfl (by first | assumption | rfl | omega)) ⟨rfl, rfl, rfl, rfl, rfl, rfl, rfl, trivial⟩
    · have e17 := wi_no c17
      refine v_bipush h (v := -2) dX7_even_20 (by decide) ?_
      exact v_iretP h hr dX7_even_22 (P_X7_even_mk (q := _) (by simp only [s_even, e8, e17]) ) rfl
  · have e8 := rN_f c8
    refine v_iconst h (v := -1) dX7_even_11 (by decide) ?_
    exact v_iretP h hr dX7_even_12 (P_X7_even_mk (q := _) (by simp only [s_even, e8]) ) rfl
set_option maxRecDepth 20000 in
set_option maxHeartbeats 2000000 in
theorem c_X7_commonDivisor {g : vG} {a : Nat} {b : Nat} (ha : a < 2 ^ 31) (hb : b < 2 ^ 31) : Ct g yX7_commonDivisor cX7_commonDivisor 3 (some .int) (rmOf 0 0) [] [.int (nI a), .int (nI b)] (some (.int (nI (cmd a b b)))) [] := by
  refine Ct.ofV RX7 rfl (by decide +kernel) rfl rfl rfl (Nat.le_of_ble_eq_true rfl) (List.forall_mem_cons.mpr ⟨rfl, (List.forall_mem_cons.mpr ⟨rfl, (fun _ h9 => absurd h9 List.not_mem_nil)⟩)⟩) (fun x h hr => ?_)
  show vM x 0 [some (.int (nI a)), some (.int (nI b)), none] [] []
  refine v_iload_n1 h dX7_commonDivisor_0 ?_
  refine v_istore_n2 h (Nat.le_of_ble_eq_true rfl) dX7_commonDivisor_1 ?_
  have L2 : ∀ (k2 : Nat) (d : Nat), d = k2 → (d ≤ b) → (cmd a b b = cmd a b d) → vM x 2 [some (.int (nI a)), some (.int (nI b)), some (.int (nI d))] [] [] := by
    intro k2
    induction k2 using Nat.strongRecOn with
    | _ k2 ih2 =>
      intro d hm2 hd h1
      refine v_iload_n2 h dX7_commonDivisor_2 ?_
      refine v_iconst h (v := nI 1) dX7_commonDivisor_3 (by decide) ?_
      refine v_icmp_leN h dX7_commonDivisor_4 (tgt := 27) (by decide) (by omega) (by omega) (fun c4 => ?_) (fun c4 => ?_)
      · refine v_iconst h (v := nI 1) dX7_commonDivisor_27 (by decide) ?_
        exact v_iret h hr dX7_commonDivisor_28 (by rw [h1]; rcases (show d = 0 ∨ d = 1 by omega) with rfl | rfl <;> rfl) rfl
      · obtain ⟨d9, rfl⟩ : ∃ d9, d = d9 + 1 := ⟨d - 1, by omega⟩
        refine v_iload_n0 h dX7_commonDivisor_7 ?_
        refine v_iload_n2 h dX7_commonDivisor_8 ?_
        refine v_iremN h dX7_commonDivisor_9 (by omega) (by omega) (by omega) ?_
        refine v_if_neN h dX7_commonDivisor_10 (tgt := 21) (by decide) (by exact Nat.lt_of_le_of_lt (Nat.mod_le _ _) ha) (fun c10 => ?_) (fun c10 => ?_)
        · have g9 : ¬ (a % (d9 + 1) = 0 ∧ b % (d9 + 1) = 0) := fun z => by rw [z.1] at c10; exact Nat.lt_irrefl _ c10
          refine v_idecN2 h (Nat.le_of_ble_eq_true rfl) dX7_commonDivisor_21 ?_
          refine v_goto h dX7_commonDivisor_24 (tgt := 2) (by decide) ?_
          exact vM.fg (ih2 _ (by omega) d9 rfl (by first | assumption | rfl | omega) (by rw [h1, cmd, if_neg (by omega), if_neg g9])) ⟨rfl, rfl, rfl, trivial⟩
        · refine v_iload_n1 h dX7_commonDivisor_13 ?_
          refine v_iload_n2 h dX7_commonDivisor_14 ?_
          refine v_iremN h dX7_commonDivisor_15 (by omega) (by omega) (by omega) ?_
          refine v_if_neN h dX7_commonDivisor_16 (tgt := 21) (by decide) (by exact Nat.lt_of_le_of_lt (Nat.mod_le _ _) hb) (fun c16 => ?_) (fun c16 => ?_)
          · have g9 : ¬ (a % (d9 + 1) = 0 ∧ b % (d9 + 1) = 0) := fun z => by rw [z.2] at c16; exact Nat.lt_irrefl _ c16
            refine v_idecN2 h (Nat.le_of_ble_eq_true rfl) dX7_commonDivisor_21 ?_
            refine v_goto h dX7_commonDivisor_24 (tgt := 2) (by decide) ?_
            exact vM.fg (ih2 _ (by omega) d9 rfl (by first | assumption | rfl | omega) (by rw [h1, cmd, if_neg (by omega), if_neg g9])) ⟨rfl, rfl, rfl, trivial⟩
          · refine v_iload_n2 h dX7_commonDivisor_19 ?_
            exact v_iret h hr dX7_commonDivisor_20 (by rw [h1, cmd, if_neg (by omega), if_pos ⟨c10, c16⟩]) rfl
  exact vM.fg (L2 _ b rfl (by first | assumption | rfl | omega) (by rfl)) ⟨rfl, rfl, rfl, trivial⟩
def P_X7_odds (g : vG) (b0 y0 s0 o0 r0 t0 t1 h0 h1 h2 e0 e1 e2 e3 : Nat) (tr : Int32) (fl : Nat) (n : Nat) (w : Nat → Nat) (hn : Nat) (kd : Nat → Nat) (pt : Nat → Nat) (ec : Nat) (el : Nat → Nat) (ea : Nat → Nat) (eo : Nat → Nat) (p0 : Int32) (p1 : Int32) : Option Value → va_W → Prop := fun r wo => ∃ ec' : Nat, ∃ el' : Nat → Nat, ∃ ea' : Nat → Nat, (∀ z, el' z < 2 ^ 8) ∧ (∀ z, ea' z < 2 ^ 8) ∧ r = some (.long (s_odds n w hn kd pt p0 p1)) ∧ wo = [(b0, .inr (6, [.ref t0, .ref h0, .ref y0, .ref s0, .ref e0, .ref o0, .ref r0, .int tr, .int (nI fl)])), (t0, .inr (5, [.int (nI n), .ref t1])), (t1, .inl (gI g, 8, .inl (fun z9 => nI (w z9)))), (h0, .inr (1, [.int (nI hn), .ref h1, .ref h2])), (h1, .inl (gI g, 6, .inl (fun z9 => nI (kd z9)))), (h2, .inl (gI g, 6, .inl (fun z9 => nI (pt z9)))), (e0, .inr (4, [.int (nI ec'), .ref e1, .ref e2, .ref e3])), (e1, .inl (gI g, 8, .inl (fun z9 => nI (el' z9)))), (e2, .inl (gI g, 8, .inl (fun z9 => nI (ea' z9)))), (e3, .inl (gI g, 256, .inl (fun z9 => nI (eo z9))))]
theorem P_X7_odds_mk {g : vG} {b0 y0 s0 o0 r0 t0 t1 h0 h1 h2 e0 e1 e2 e3 : Nat} {tr : Int32} {fl : Nat} {n : Nat} {w : Nat → Nat} {hn : Nat} {kd : Nat → Nat} {pt : Nat → Nat} {ec : Nat} {el : Nat → Nat} {ea : Nat → Nat} {eo : Nat → Nat} {p0 : Int32} {p1 : Int32} {ec' : Nat} {el' : Nat → Nat} {ea' : Nat → Nat} {q : Int64} (hs : s_odds n w hn kd pt p0 p1 = q) (hb0 : ∀ z, el' z < 2 ^ 8) (hb1 : ∀ z, ea' z < 2 ^ 8) : P_X7_odds g b0 y0 s0 o0 r0 t0 t1 h0 h1 h2 e0 e1 e2 e3 tr fl n w hn kd pt ec el ea eo p0 p1 (some (.long q)) [(b0, .inr (6, [.ref t0, .ref h0, .ref y0, .ref s0, .ref e0, .ref o0, .ref r0, .int tr, .int (nI fl)])), (t0, .inr (5, [.int (nI n), .ref t1])), (t1, .inl (gI g, 8, .inl (fun z9 => nI (w z9)))), (h0, .inr (1, [.int (nI hn), .ref h1, .ref h2])), (h1, .inl (gI g, 6, .inl (fun z9 => nI (kd z9)))), (h2, .inl (gI g, 6, .inl (fun z9 => nI (pt z9)))), (e0, .inr (4, [.int (nI ec'), .ref e1, .ref e2, .ref e3])), (e1, .inl (gI g, 8, .inl (fun z9 => nI (el' z9)))), (e2, .inl (gI g, 8, .inl (fun z9 => nI (ea' z9)))), (e3, .inl (gI g, 256, .inl (fun z9 => nI (eo z9))))] := by subst hs; exact ⟨_, _, _, hb0, hb1, rfl, rfl⟩
set_option maxRecDepth 20000 in
set_option maxHeartbeats 4000000 in
theorem c_X7_odds {g : vG} {b0 y0 s0 o0 r0 t0 t1 h0 h1 h2 e0 e1 e2 e3 : Nat} {tr : Int32} {fl : Nat} {n : Nat} {w : Nat → Nat} {hn : Nat} {kd : Nat → Nat} {pt : Nat → Nat} {ec : Nat} {el : Nat → Nat} {ea : Nat → Nat} {eo : Nat → Nat} {p0 : Int32} {p1 : Int32} (hT : wfT n w) (hH : wfH hn kd pt) (hn2 : hn = 0 ∨ 2 ≤ n) (hel : ∀ z, el z < 2 ^ 8) (hea : ∀ z, ea z < 2 ^ 8) : CtP g yX7_odds cX7_odds 6 (some .long) (rmOf 5 114) [(b0, .inr (6, [.ref t0, .ref h0, .ref y0, .ref s0, .ref e0, .ref o0, .ref r0, .int tr, .int (nI fl)])), (t0, .inr (5, [.int (nI n), .ref t1])), (t1, .inl (gI g, 8, .inl (fun z9 => nI (w z9)))), (h0, .inr (1, [.int (nI hn), .ref h1, .ref h2])), (h1, .inl (gI g, 6, .inl (fun z9 => nI (kd z9)))), (h2, .inl (gI g, 6, .inl (fun z9 => nI (pt z9)))), (e0, .inr (4, [.int (nI ec), .ref e1, .ref e2, .ref e3])), (e1, .inl (gI g, 8, .inl (fun z9 => nI (el z9)))), (e2, .inl (gI g, 8, .inl (fun z9 => nI (ea z9)))), (e3, .inl (gI g, 256, .inl (fun z9 => nI (eo z9))))] [.ref b0, .int p0, .int p1] (P_X7_odds g b0 y0 s0 o0 r0 t0 t1 h0 h1 h2 e0 e1 e2 e3 tr fl n w hn kd pt ec el ea eo p0 p1) := by
  refine CtP.ofV RX7 rfl (by decide +kernel) rfl rfl (Nat.le_of_ble_eq_true rfl) (List.forall_mem_cons.mpr ⟨rfl, (List.forall_mem_cons.mpr ⟨rfl, (List.forall_mem_cons.mpr ⟨rfl, (fun _ h9 => absurd h9 List.not_mem_nil)⟩)⟩)⟩) (fun x h hr => ?_)
  show vM x 0 [some (.ref b0), some (.int p0), some (.int p1), none, none, none] [] [(b0, .inr (6, [.ref t0, .ref h0, .ref y0, .ref s0, .ref e0, .ref o0, .ref r0, .int tr, .int (nI fl)])), (t0, .inr (5, [.int (nI n), .ref t1])), (t1, .inl (gI g, 8, .inl (fun z9 => nI (w z9)))), (h0, .inr (1, [.int (nI hn), .ref h1, .ref h2])), (h1, .inl (gI g, 6, .inl (fun z9 => nI (kd z9)))), (h2, .inl (gI g, 6, .inl (fun z9 => nI (pt z9)))), (e0, .inr (4, [.int (nI ec), .ref e1, .ref e2, .ref e3])), (e1, .inl (gI g, 8, .inl (fun z9 => nI (el z9)))), (e2, .inl (gI g, 8, .inl (fun z9 => nI (ea z9)))), (e3, .inl (gI g, 256, .inl (fun z9 => nI (eo z9))))]
  have ht1 := hT.1; have ht2 := hT.2.1; have ht3 := hT.2.2; have hh1 := hH.1; have hh2 := hH.2.1; have hh3 := hH.2.2.1; have hh4 := hH.2.2.2
  refine v_aload_n0 h dX7_odds_0 ?_
  refine v_get h mw_X7 0 rfl rfl 1 (by decide) mf_X7_21 rfl dX7_odds_1 ?_
  refine v_iload_n1 h dX7_odds_4 ?_
  refine cw_V_3_4_5_1_i (ci := 1) h (c_X1_has (g := g) (by first | assumption | omega)) lk_X7_111 ⟨rfl, rfl, (Nat.le_of_ble_eq_true rfl), (Nat.le_of_ble_eq_true rfl)⟩ rfl rfl rfl (Nat.le_of_ble_eq_true rfl) dX7_odds_5 ?_
  refine v_if_eqB h dX7_odds_8 (tgt := 18) (by decide) (fun c8 => ?_) (fun c8 => ?_)
  · have e8 := rN_f c8
    refine v_ldc2 h mk2_X7_223 dX7_odds_18 ?_
    exact v_lretP h hr dX7_odds_21 (P_X7_odds_mk (q := _) (by simp only [s_odds, e8]) (by first | assumption | exact lay8l (by assumption) (by assumption) | exact lay8a (by assumption) (by assumption)) (by first | assumption | exact lay8l (by assumption) (by assumption) | exact lay8a (by assumption) (by assumption))) rfl
  · obtain ⟨j0, hj0, rfl⟩ := inR_of c8 (by omega)
    have e8 := rN_N hj0 (by omega)
    refine v_iload_n2 h dX7_odds_11 ?_
    refine cw_S_e_1_i h (c_X7_isFirstOrSecond (g := g)) lk_X7_112 ⟨rfl, rfl, (Nat.le_of_ble_eq_true rfl), (Nat.le_of_ble_eq_true rfl)⟩ (Nat.le_of_ble_eq_true rfl) dX7_odds_12 ?_
    refine v_if_neB h dX7_odds_15 (tgt := 22) (by decide) (fun c15 => ?_) (fun c15 => ?_)
    · obtain ⟨j1, hj1a, hj1, rfl⟩ := wi_of c15 (by decide) (by decide)
      have e15 := rW_N hj1a hj1 (by decide)
      refine v_aload_n0 h dX7_odds_22 ?_
      refine v_get h mw_X7 0 rfl rfl 4 (by decide) mf_X7_42 rfl dX7_odds_23 ?_
      refine v_aload_n0 h dX7_odds_26 ?_
      refine v_get h mw_X7 0 rfl rfl 1 (by decide) mf_X7_21 rfl dX7_odds_27 ?_
      refine v_iload_n1 h dX7_odds_30 ?_
      refine v_aload_n0 h dX7_odds_31 ?_
      refine v_get h mw_X7 0 rfl rfl 0 (by decide) mf_X7_14 rfl dX7_odds_32 ?_
      refine cw_V_6_7_8_9_3_4_5_1_2_3_v (ci := 4) h (c_X4_lay (g := g) (by first | assumption | omega) (by first | assumption | omega) (by first | assumption | omega)) lk_X7_125 ⟨rfl, rfl, (Nat.le_of_ble_eq_true rfl), (Nat.le_of_ble_eq_true rfl)⟩ rfl rfl rfl (Nat.le_of_ble_eq_true rfl) dX7_odds_35 ?_
      refine v_aload_n0 h dX7_odds_38 ?_
      refine v_get h mw_X7 0 rfl rfl 4 (by decide) mf_X7_42 rfl dX7_odds_39 ?_
      refine cw_V_6_7_8_9_0_i (ci := 4) h (c_X4_countTold (g := g) (by first | assumption | omega) (by exact lay8l hel ht1)) lk_X7_225 ⟨rfl, rfl, (Nat.le_of_ble_eq_true rfl), (Nat.le_of_ble_eq_true rfl)⟩ rfl rfl rfl (Nat.le_of_ble_eq_true rfl) dX7_odds_42 ?_
      rw [toldN_lay]
      refine v_istore_n3 h (Nat.le_of_ble_eq_true rfl) dX7_odds_45 ?_
      refine v_aload_n0 h dX7_odds_46 ?_
      refine v_get h mw_X7 0 rfl rfl 0 (by decide) mf_X7_14 rfl dX7_odds_47 ?_
      refine cw_V_1_2_0_i (ci := 5) h (c_X6_count (g := g)) lk_X7_92 ⟨rfl, rfl, (Nat.le_of_ble_eq_true rfl), (Nat.le_of_ble_eq_true rfl)⟩ rfl rfl rfl (Nat.le_of_ble_eq_true rfl) dX7_odds_50 ?_
      refine v_aload_n0 h dX7_odds_53 ?_
      refine v_get h mw_X7 0 rfl rfl 0 (by decide) mf_X7_14 rfl dX7_odds_54 ?_
      refine cw_V_1_2_0_i (ci := 5) h (c_X6_count (g := g)) lk_X7_92 ⟨rfl, rfl, (Nat.le_of_ble_eq_true rfl), (Nat.le_of_ble_eq_true rfl)⟩ rfl rfl rfl (Nat.le_of_ble_eq_true rfl) dX7_odds_57 ?_
      refine v_iconst h (v := nI 1) dX7_odds_60 (by decide) ?_
      refine v_isubN h dX7_odds_61 (by omega) ?_
      refine v_imulN h dX7_odds_62 ?_
      refine v_iconst h (v := nI 2) dX7_odds_63 (by decide) ?_
      refine v_idivN h dX7_odds_64 (by exact Nat.lt_of_le_of_lt (Nat.mul_le_mul ht1 (show n - 1 ≤ 7 by omega)) (by decide)) (by decide) (by decide) ?_
      refine v_istore4 h (Nat.le_of_ble_eq_true rfl) dX7_odds_65 ?_
      have hn9 : n * (n - 1) ≤ 8 * 7 := Nat.mul_le_mul ht1 (by omega)
      have ht9 := toldN_le (el := (ligS (kd j0) (pt j0) w n)) (n := n)
      have hc9 := cmd_le (a := (toldN (ligS (kd j0) (pt j0) w n) n)) (b := (n * (n - 1) / 2)) (n * (n - 1) / 2)
      have hc8 := cmd_pos (a := (toldN (ligS (kd j0) (pt j0) w n) n)) (b := (n * (n - 1) / 2)) (n * (n - 1) / 2)
      refine v_iload_n3 h dX7_odds_67 ?_
      refine v_iload4 h dX7_odds_68 ?_
      refine cw_S_e_2_i h (c_X7_commonDivisor (g := g) (by omega) (by omega)) lk_X7_228 ⟨rfl, rfl, (Nat.le_of_ble_eq_true rfl), (Nat.le_of_ble_eq_true rfl)⟩ (Nat.le_of_ble_eq_true rfl) dX7_odds_70 ?_
      refine v_istore5 h (Nat.le_of_ble_eq_true rfl) dX7_odds_73 ?_
      refine v_iload5 h dX7_odds_75 ?_
      refine v_iconst h (v := nI 1) dX7_odds_77 (by decide) ?_
      refine v_icmp_geN h dX7_odds_78 (tgt := 85) (by decide) (by omega) (by omega) (fun c78 => ?_) (fun c78 => ?_)
      · refine v_iload_n2 h dX7_odds_85 ?_
        refine v_if_neN h dX7_odds_86 (tgt := 97) (by decide) (by omega) (fun c86 => ?_) (fun c86 => ?_)
        · refine v_iload4 h dX7_odds_97 ?_
          refine v_iload5 h dX7_odds_99 ?_
          refine v_idivN h dX7_odds_101 (by omega) (by omega) (by omega) ?_
          refine v_i2l h dX7_odds_102 ?_
          exact v_lretP h hr dX7_odds_103 (P_X7_odds_mk (q := _) (by simp only [s_odds, e8, e15, if_neg (show ¬ j1 = 0 by omega)]) (by first | assumption | exact lay8l (by assumption) (by assumption) | exact lay8a (by assumption) (by assumption)) (by first | assumption | exact lay8l (by assumption) (by assumption) | exact lay8a (by assumption) (by assumption))) rfl
        · refine v_iload_n3 h dX7_odds_89 ?_
          refine v_iload5 h dX7_odds_90 ?_
          refine v_idivN h dX7_odds_92 (by omega) (by omega) (by omega) ?_
          refine v_i2l h dX7_odds_93 ?_
          refine v_goto h dX7_odds_94 (tgt := 103) (by decide) ?_
          exact v_lretP h hr dX7_odds_103 (P_X7_odds_mk (q := _) (by simp only [s_odds, e8, e15, if_pos c86]) (by first | assumption | exact lay8l (by assumption) (by assumption) | exact lay8a (by assumption) (by assumption)) (by first | assumption | exact lay8l (by assumption) (by assumption) | exact lay8a (by assumption) (by assumption))) rfl
      · omega
    · have e15 := wi_no c15
      refine v_ldc2 h mk2_X7_223 dX7_odds_18 ?_
      exact v_lretP h hr dX7_odds_21 (P_X7_odds_mk (q := _) (by simp only [s_odds, e8, e15]) (by first | assumption | exact lay8l (by assumption) (by assumption) | exact lay8a (by assumption) (by assumption)) (by first | assumption | exact lay8l (by assumption) (by assumption) | exact lay8a (by assumption) (by assumption))) rfl
set_option maxRecDepth 20000 in
set_option maxHeartbeats 2000000 in
theorem c_X7_handBody {g : vG} {b0 t0 h0 y0 s0 e0 o0 r0 : Nat} {tr : Int32} {fl : Nat} {k : Nat} : Ct g yX7_handBody cX7_handBody 2 (some .int) (rmOf 1 21) [(b0, .inr (6, [.ref t0, .ref h0, .ref y0, .ref s0, .ref e0, .ref o0, .ref r0, .int tr, .int (nI fl)]))] [.ref b0, .int (nI k)] (some (.int (nI k))) [(b0, .inr (6, [.ref t0, .ref h0, .ref y0, .ref s0, .ref e0, .ref o0, .ref r0, .int (tr1 tr 1), .int (nI fl)]))] := by
  refine Ct.ofV RX7 rfl (by decide +kernel) rfl rfl rfl (Nat.le_of_ble_eq_true rfl) (List.forall_mem_cons.mpr ⟨rfl, (List.forall_mem_cons.mpr ⟨rfl, (fun _ h9 => absurd h9 List.not_mem_nil)⟩)⟩) (fun x h hr => ?_)
  show vM x 0 [some (.ref b0), some (.int (nI k))] [] [(b0, .inr (6, [.ref t0, .ref h0, .ref y0, .ref s0, .ref e0, .ref o0, .ref r0, .int tr, .int (nI fl)]))]
  refine v_aload_n0 h dX7_handBody_0 ?_
  refine v_iconst h (v := nI 1) dX7_handBody_1 (by decide) ?_
  refine cw_V_0_1_v (ci := 6) h (c_X7_leaveTrace (g := g)) lk_X7_270 ⟨rfl, rfl, (Nat.le_of_ble_eq_true rfl), (Nat.le_of_ble_eq_true rfl)⟩ rfl rfl rfl (Nat.le_of_ble_eq_true rfl) dX7_handBody_2 ?_
  refine v_iload_n1 h dX7_handBody_5 ?_
  exact v_iret h hr dX7_handBody_6 rfl rfl
set_option maxRecDepth 20000 in
set_option maxHeartbeats 2000000 in
theorem c_X7_steadyBody {g : vG} {b0 t0 h0 y0 s0 e0 o0 r0 : Nat} {tr : Int32} {fl : Nat} {k : Nat} : Ct g yX7_steadyBody cX7_steadyBody 2 (some .int) (rmOf 2 42) [(b0, .inr (6, [.ref t0, .ref h0, .ref y0, .ref s0, .ref e0, .ref o0, .ref r0, .int tr, .int (nI fl)]))] [.ref b0, .int (nI k)] (some (.int (nI (k + 100)))) [(b0, .inr (6, [.ref t0, .ref h0, .ref y0, .ref s0, .ref e0, .ref o0, .ref r0, .int (tr1 (tr1 tr 2) 1), .int (nI fl)]))] := by
  refine Ct.ofV RX7 rfl (by decide +kernel) rfl rfl rfl (Nat.le_of_ble_eq_true rfl) (List.forall_mem_cons.mpr ⟨rfl, (List.forall_mem_cons.mpr ⟨rfl, (fun _ h9 => absurd h9 List.not_mem_nil)⟩)⟩) (fun x h hr => ?_)
  show vM x 0 [some (.ref b0), some (.int (nI k))] [] [(b0, .inr (6, [.ref t0, .ref h0, .ref y0, .ref s0, .ref e0, .ref o0, .ref r0, .int tr, .int (nI fl)]))]
  refine v_aload_n0 h dX7_steadyBody_0 ?_
  refine v_iconst h (v := nI 2) dX7_steadyBody_1 (by decide) ?_
  refine cw_V_0_1_v (ci := 6) h (c_X7_leaveTrace (g := g)) lk_X7_270 ⟨rfl, rfl, (Nat.le_of_ble_eq_true rfl), (Nat.le_of_ble_eq_true rfl)⟩ rfl rfl rfl (Nat.le_of_ble_eq_true rfl) dX7_steadyBody_2 ?_
  refine v_aload_n0 h dX7_steadyBody_5 ?_
  refine v_iload_n1 h dX7_steadyBody_6 ?_
  refine cw_V_0_1_i (ci := 6) h (c_X7_handBody (g := g)) lk_X7_260 ⟨rfl, rfl, (Nat.le_of_ble_eq_true rfl), (Nat.le_of_ble_eq_true rfl)⟩ rfl rfl rfl (Nat.le_of_ble_eq_true rfl) dX7_steadyBody_7 ?_
  refine v_bipush h (v := nI 100) dX7_steadyBody_10 (by decide) ?_
  refine v_iaddN h dX7_steadyBody_12 ?_
  exact v_iret h hr dX7_steadyBody_13 rfl rfl
set_option maxRecDepth 20000 in
set_option maxHeartbeats 2000000 in
theorem c_X7_smithBody {g : vG} {b0 t0 h0 y0 s0 e0 o0 r0 : Nat} {tr : Int32} {fl : Nat} {k : Nat} : Ct g yX7_smithBody cX7_smithBody 3 (some .int) (rmOf 3 63) [(b0, .inr (6, [.ref t0, .ref h0, .ref y0, .ref s0, .ref e0, .ref o0, .ref r0, .int tr, .int (nI fl)]))] [.ref b0, .int (nI k)] (some (.int (nI (k + 100 + k)))) [(b0, .inr (6, [.ref t0, .ref h0, .ref y0, .ref s0, .ref e0, .ref o0, .ref r0, .int (tr1 (tr1 (tr1 (tr1 tr 3) 2) 1) 1), .int (nI fl)]))] := by
  refine Ct.ofV RX7 rfl (by decide +kernel) rfl rfl rfl (Nat.le_of_ble_eq_true rfl) (List.forall_mem_cons.mpr ⟨rfl, (List.forall_mem_cons.mpr ⟨rfl, (fun _ h9 => absurd h9 List.not_mem_nil)⟩)⟩) (fun x h hr => ?_)
  show vM x 0 [some (.ref b0), some (.int (nI k)), none] [] [(b0, .inr (6, [.ref t0, .ref h0, .ref y0, .ref s0, .ref e0, .ref o0, .ref r0, .int tr, .int (nI fl)]))]
  refine v_aload_n0 h dX7_smithBody_0 ?_
  refine v_iconst h (v := nI 3) dX7_smithBody_1 (by decide) ?_
  refine cw_V_0_1_v (ci := 6) h (c_X7_leaveTrace (g := g)) lk_X7_270 ⟨rfl, rfl, (Nat.le_of_ble_eq_true rfl), (Nat.le_of_ble_eq_true rfl)⟩ rfl rfl rfl (Nat.le_of_ble_eq_true rfl) dX7_smithBody_2 ?_
  refine v_aload_n0 h dX7_smithBody_5 ?_
  refine v_iload_n1 h dX7_smithBody_6 ?_
  refine cw_V_0_1_i (ci := 6) h (c_X7_steadyBody (g := g)) lk_X7_257 ⟨rfl, rfl, (Nat.le_of_ble_eq_true rfl), (Nat.le_of_ble_eq_true rfl)⟩ rfl rfl rfl (Nat.le_of_ble_eq_true rfl) dX7_smithBody_7 ?_
  refine v_istore_n2 h (Nat.le_of_ble_eq_true rfl) dX7_smithBody_10 ?_
  refine v_iload_n2 h dX7_smithBody_11 ?_
  refine v_aload_n0 h dX7_smithBody_12 ?_
  refine v_iload_n1 h dX7_smithBody_13 ?_
  refine cw_V_0_1_i (ci := 6) h (c_X7_handBody (g := g)) lk_X7_260 ⟨rfl, rfl, (Nat.le_of_ble_eq_true rfl), (Nat.le_of_ble_eq_true rfl)⟩ rfl rfl rfl (Nat.le_of_ble_eq_true rfl) dX7_smithBody_14 ?_
  refine v_iaddN h dX7_smithBody_17 ?_
  exact v_iret h hr dX7_smithBody_18 rfl rfl
set_option maxRecDepth 20000 in
set_option maxHeartbeats 2000000 in
theorem c_X7_lentBody {g : vG} {b0 t0 h0 y0 s0 e0 o0 r0 : Nat} {tr : Int32} {fl : Nat} {k : Nat} : Ct g yX7_lentBody cX7_lentBody 2 (some .int) (rmOf 1 21) [(b0, .inr (6, [.ref t0, .ref h0, .ref y0, .ref s0, .ref e0, .ref o0, .ref r0, .int tr, .int (nI fl)]))] [.ref b0, .int (nI k)] (some (.int (nI k))) [(b0, .inr (6, [.ref t0, .ref h0, .ref y0, .ref s0, .ref e0, .ref o0, .ref r0, .int (tr1 tr 4), .int (nI fl)]))] := by
  refine Ct.ofV RX7 rfl (by decide +kernel) rfl rfl rfl (Nat.le_of_ble_eq_true rfl) (List.forall_mem_cons.mpr ⟨rfl, (List.forall_mem_cons.mpr ⟨rfl, (fun _ h9 => absurd h9 List.not_mem_nil)⟩)⟩) (fun x h hr => ?_)
  show vM x 0 [some (.ref b0), some (.int (nI k))] [] [(b0, .inr (6, [.ref t0, .ref h0, .ref y0, .ref s0, .ref e0, .ref o0, .ref r0, .int tr, .int (nI fl)]))]
  refine v_aload_n0 h dX7_lentBody_0 ?_
  refine v_iconst h (v := nI 4) dX7_lentBody_1 (by decide) ?_
  refine cw_V_0_1_v (ci := 6) h (c_X7_leaveTrace (g := g)) lk_X7_270 ⟨rfl, rfl, (Nat.le_of_ble_eq_true rfl), (Nat.le_of_ble_eq_true rfl)⟩ rfl rfl rfl (Nat.le_of_ble_eq_true rfl) dX7_lentBody_2 ?_
  refine v_iload_n1 h dX7_lentBody_5 ?_
  exact v_iret h hr dX7_lentBody_6 rfl rfl
set_option maxRecDepth 20000 in
set_option maxHeartbeats 2000000 in
theorem c_X7_smithsOwnBody {g : vG} {b0 t0 h0 y0 s0 e0 o0 r0 : Nat} {tr : Int32} {fl : Nat} : Ct g yX7_smithsOwnBody cX7_smithsOwnBody 1 (some .int) (rmOf 1 21) [(b0, .inr (6, [.ref t0, .ref h0, .ref y0, .ref s0, .ref e0, .ref o0, .ref r0, .int tr, .int (nI fl)]))] [.ref b0] (some (.int (nI 60))) [(b0, .inr (6, [.ref t0, .ref h0, .ref y0, .ref s0, .ref e0, .ref o0, .ref r0, .int (tr1 tr 5), .int (nI fl)]))] := by
  refine Ct.ofV RX7 rfl (by decide +kernel) rfl rfl rfl (Nat.le_of_ble_eq_true rfl) (List.forall_mem_cons.mpr ⟨rfl, (fun _ h9 => absurd h9 List.not_mem_nil)⟩) (fun x h hr => ?_)
  show vM x 0 [some (.ref b0)] [] [(b0, .inr (6, [.ref t0, .ref h0, .ref y0, .ref s0, .ref e0, .ref o0, .ref r0, .int tr, .int (nI fl)]))]
  refine v_aload_n0 h dX7_smithsOwnBody_0 ?_
  refine v_iconst h (v := nI 5) dX7_smithsOwnBody_1 (by decide) ?_
  refine cw_V_0_1_v (ci := 6) h (c_X7_leaveTrace (g := g)) lk_X7_270 ⟨rfl, rfl, (Nat.le_of_ble_eq_true rfl), (Nat.le_of_ble_eq_true rfl)⟩ rfl rfl rfl (Nat.le_of_ble_eq_true rfl) dX7_smithsOwnBody_2 ?_
  refine v_bipush h (v := nI 60) dX7_smithsOwnBody_5 (by decide) ?_
  exact v_iret h hr dX7_smithsOwnBody_7 rfl rfl
def P_X7_tell (g : vG) (b0 t0 y0 s0 e0 o0 r0 h0 h1 h2 : Nat) (tr : Int32) (fl : Nat) (hn : Nat) (kd : Nat → Nat) (pt : Nat → Nat) (p0 : Int32) : Option Value → va_W → Prop := fun r wo => r = some (.int (s_tell hn kd pt tr p0).1) ∧ wo = [(b0, .inr (6, [.ref t0, .ref h0, .ref y0, .ref s0, .ref e0, .ref o0, .ref r0, .int ((s_tell hn kd pt tr p0).2), .int (nI fl)])), (h0, .inr (1, [.int (nI hn), .ref h1, .ref h2])), (h1, .inl (gI g, 6, .inl (fun z9 => nI (kd z9)))), (h2, .inl (gI g, 6, .inl (fun z9 => nI (pt z9))))]
theorem P_X7_tell_mk {g : vG} {b0 t0 y0 s0 e0 o0 r0 h0 h1 h2 : Nat} {tr : Int32} {fl : Nat} {hn : Nat} {kd : Nat → Nat} {pt : Nat → Nat} {p0 : Int32}  {q : Int32 × (Int32)} (hs : s_tell hn kd pt tr p0 = q)  : P_X7_tell g b0 t0 y0 s0 e0 o0 r0 h0 h1 h2 tr fl hn kd pt p0 (some (.int q.1)) [(b0, .inr (6, [.ref t0, .ref h0, .ref y0, .ref s0, .ref e0, .ref o0, .ref r0, .int q.2, .int (nI fl)])), (h0, .inr (1, [.int (nI hn), .ref h1, .ref h2])), (h1, .inl (gI g, 6, .inl (fun z9 => nI (kd z9)))), (h2, .inl (gI g, 6, .inl (fun z9 => nI (pt z9))))] := by subst hs; exact ⟨rfl, rfl⟩
set_option maxRecDepth 20000 in
set_option maxHeartbeats 4000000 in
theorem c_X7_tell {g : vG} {b0 t0 y0 s0 e0 o0 r0 h0 h1 h2 : Nat} {tr : Int32} {fl : Nat} {hn : Nat} {kd : Nat → Nat} {pt : Nat → Nat} {p0 : Int32} (hH : wfH hn kd pt) : CtP g yX7_tell cX7_tell 3 (some .int) (rmOf 4 85) [(b0, .inr (6, [.ref t0, .ref h0, .ref y0, .ref s0, .ref e0, .ref o0, .ref r0, .int tr, .int (nI fl)])), (h0, .inr (1, [.int (nI hn), .ref h1, .ref h2])), (h1, .inl (gI g, 6, .inl (fun z9 => nI (kd z9)))), (h2, .inl (gI g, 6, .inl (fun z9 => nI (pt z9))))] [.ref b0, .int p0] (P_X7_tell g b0 t0 y0 s0 e0 o0 r0 h0 h1 h2 tr fl hn kd pt p0) := by
  refine CtP.ofV RX7 rfl (by decide +kernel) rfl rfl (Nat.le_of_ble_eq_true rfl) (List.forall_mem_cons.mpr ⟨rfl, (List.forall_mem_cons.mpr ⟨rfl, (fun _ h9 => absurd h9 List.not_mem_nil)⟩)⟩) (fun x h hr => ?_)
  show vM x 0 [some (.ref b0), some (.int p0), none] [] [(b0, .inr (6, [.ref t0, .ref h0, .ref y0, .ref s0, .ref e0, .ref o0, .ref r0, .int tr, .int (nI fl)])), (h0, .inr (1, [.int (nI hn), .ref h1, .ref h2])), (h1, .inl (gI g, 6, .inl (fun z9 => nI (kd z9)))), (h2, .inl (gI g, 6, .inl (fun z9 => nI (pt z9))))]
  have hh1 := hH.1; have hh2 := hH.2.1; have hh3 := hH.2.2.1; have hh4 := hH.2.2.2
  refine v_aload_n0 h dX7_tell_0 ?_
  refine v_get h mw_X7 0 rfl rfl 1 (by decide) mf_X7_21 rfl dX7_tell_1 ?_
  refine v_iload_n1 h dX7_tell_4 ?_
  refine cw_V_1_2_3_1_i (ci := 1) h (c_X1_has (g := g) (by first | assumption | omega)) lk_X7_111 ⟨rfl, rfl, (Nat.le_of_ble_eq_true rfl), (Nat.le_of_ble_eq_true rfl)⟩ rfl rfl rfl (Nat.le_of_ble_eq_true rfl) dX7_tell_5 ?_
  refine v_if_neB h dX7_tell_8 (tgt := 13) (by decide) (fun c8 => ?_) (fun c8 => ?_)
  · obtain ⟨j0, hj0, rfl⟩ := inR_of c8 (by omega)
    have e8 := rN_N hj0 (by omega)
    refine v_aload_n0 h dX7_tell_13 ?_
    refine v_get h mw_X7 0 rfl rfl 1 (by decide) mf_X7_21 rfl dX7_tell_14 ?_
    refine v_iload_n1 h dX7_tell_17 ?_
    refine cw_V_1_2_3_1_i (ci := 1) h (c_X1_partOf (g := g) (by first | assumption | omega) (by first | assumption | omega)) lk_X7_118 ⟨rfl, rfl, (Nat.le_of_ble_eq_true rfl), (Nat.le_of_ble_eq_true rfl)⟩ rfl rfl rfl (Nat.le_of_ble_eq_true rfl) dX7_tell_18 ?_
    refine v_istore_n2 h (Nat.le_of_ble_eq_true rfl) dX7_tell_21 ?_
    refine v_aload_n0 h dX7_tell_22 ?_
    refine v_get h mw_X7 0 rfl rfl 1 (by decide) mf_X7_21 rfl dX7_tell_23 ?_
    refine v_iload_n1 h dX7_tell_26 ?_
    refine cw_V_1_2_3_1_i (ci := 1) h (c_X1_kindOf (g := g) (by first | assumption | omega) (by first | assumption | omega)) lk_X7_115 ⟨rfl, rfl, (Nat.le_of_ble_eq_true rfl), (Nat.le_of_ble_eq_true rfl)⟩ rfl rfl rfl (Nat.le_of_ble_eq_true rfl) dX7_tell_27 ?_
    by_cases q2 : kd j0 = 2
    · rw [q2]; refine v_lookup h dX7_tell_30 (by decide) rfl (tgt := 56) (by decide) ?_
      refine v_aload_n0 h dX7_tell_56 ?_
      refine v_iload_n2 h dX7_tell_57 ?_
      refine cw_V_0_1_i (ci := 6) h (c_X7_smithBody (g := g)) lk_X7_254 ⟨rfl, rfl, (Nat.le_of_ble_eq_true rfl), (Nat.le_of_ble_eq_true rfl)⟩ rfl rfl rfl (Nat.le_of_ble_eq_true rfl) dX7_tell_58 ?_
      exact v_iretP h hr dX7_tell_61 (P_X7_tell_mk (q := (nI (pt j0 + 100 + pt j0), tr1 (tr1 (tr1 (tr1 tr 3) 2) 1) 1)) (by simp only [s_tell, e8, if_pos q2]) ) rfl
    · by_cases q1 : kd j0 = 1
      · rw [q1]; refine v_lookup h dX7_tell_30 (by decide) rfl (tgt := 62) (by decide) ?_
        refine v_aload_n0 h dX7_tell_62 ?_
        refine v_iload_n2 h dX7_tell_63 ?_
        refine cw_V_0_1_i (ci := 6) h (c_X7_steadyBody (g := g)) lk_X7_257 ⟨rfl, rfl, (Nat.le_of_ble_eq_true rfl), (Nat.le_of_ble_eq_true rfl)⟩ rfl rfl rfl (Nat.le_of_ble_eq_true rfl) dX7_tell_64 ?_
        exact v_iretP h hr dX7_tell_67 (P_X7_tell_mk (q := (nI (pt j0 + 100), tr1 (tr1 tr 2) 1)) (by simp only [s_tell, e8, if_neg q2, if_pos q1]) ) rfl
      · have q0 : kd j0 = 0 := by have := hh2 j0; omega
        rw [q0]; refine v_lookup h dX7_tell_30 (by decide) rfl (tgt := 68) (by decide) ?_
        refine v_aload_n0 h dX7_tell_68 ?_
        refine v_iload_n2 h dX7_tell_69 ?_
        refine cw_V_0_1_i (ci := 6) h (c_X7_handBody (g := g)) lk_X7_260 ⟨rfl, rfl, (Nat.le_of_ble_eq_true rfl), (Nat.le_of_ble_eq_true rfl)⟩ rfl rfl rfl (Nat.le_of_ble_eq_true rfl) dX7_tell_70 ?_
        exact v_iretP h hr dX7_tell_73 (P_X7_tell_mk (q := (nI (pt j0), tr1 tr 1)) (by simp only [s_tell, e8, if_neg q2, if_neg q1]) ) rfl
  · have e8 := rN_f c8
    refine v_iconst h (v := -1) dX7_tell_11 (by decide) ?_
    exact v_iretP h hr dX7_tell_12 (P_X7_tell_mk (q := (_, tr)) (by simp only [s_tell, e8]) ) rfl
def P_X7_shake (g : vG) (b0 t0 y0 s0 e0 o0 r0 h0 h1 h2 : Nat) (tr : Int32) (fl : Nat) (hn : Nat) (kd : Nat → Nat) (pt : Nat → Nat) (p0 : Int32) : Option Value → va_W → Prop := fun r wo => r = some (.int (s_shake hn kd tr p0).1) ∧ wo = [(b0, .inr (6, [.ref t0, .ref h0, .ref y0, .ref s0, .ref e0, .ref o0, .ref r0, .int ((s_shake hn kd tr p0).2), .int (nI fl)])), (h0, .inr (1, [.int (nI hn), .ref h1, .ref h2])), (h1, .inl (gI g, 6, .inl (fun z9 => nI (kd z9)))), (h2, .inl (gI g, 6, .inl (fun z9 => nI (pt z9))))]
theorem P_X7_shake_mk {g : vG} {b0 t0 y0 s0 e0 o0 r0 h0 h1 h2 : Nat} {tr : Int32} {fl : Nat} {hn : Nat} {kd : Nat → Nat} {pt : Nat → Nat} {p0 : Int32}  {q : Int32 × (Int32)} (hs : s_shake hn kd tr p0 = q)  : P_X7_shake g b0 t0 y0 s0 e0 o0 r0 h0 h1 h2 tr fl hn kd pt p0 (some (.int q.1)) [(b0, .inr (6, [.ref t0, .ref h0, .ref y0, .ref s0, .ref e0, .ref o0, .ref r0, .int q.2, .int (nI fl)])), (h0, .inr (1, [.int (nI hn), .ref h1, .ref h2])), (h1, .inl (gI g, 6, .inl (fun z9 => nI (kd z9)))), (h2, .inl (gI g, 6, .inl (fun z9 => nI (pt z9))))] := by subst hs; exact ⟨rfl, rfl⟩
set_option maxRecDepth 20000 in
set_option maxHeartbeats 4000000 in
theorem c_X7_shake {g : vG} {b0 t0 y0 s0 e0 o0 r0 h0 h1 h2 : Nat} {tr : Int32} {fl : Nat} {hn : Nat} {kd : Nat → Nat} {pt : Nat → Nat} {p0 : Int32} (hH : wfH hn kd pt) : CtP g yX7_shake cX7_shake 2 (some .int) (rmOf 2 42) [(b0, .inr (6, [.ref t0, .ref h0, .ref y0, .ref s0, .ref e0, .ref o0, .ref r0, .int tr, .int (nI fl)])), (h0, .inr (1, [.int (nI hn), .ref h1, .ref h2])), (h1, .inl (gI g, 6, .inl (fun z9 => nI (kd z9)))), (h2, .inl (gI g, 6, .inl (fun z9 => nI (pt z9))))] [.ref b0, .int p0] (P_X7_shake g b0 t0 y0 s0 e0 o0 r0 h0 h1 h2 tr fl hn kd pt p0) := by
  refine CtP.ofV RX7 rfl (by decide +kernel) rfl rfl (Nat.le_of_ble_eq_true rfl) (List.forall_mem_cons.mpr ⟨rfl, (List.forall_mem_cons.mpr ⟨rfl, (fun _ h9 => absurd h9 List.not_mem_nil)⟩)⟩) (fun x h hr => ?_)
  show vM x 0 [some (.ref b0), some (.int p0)] [] [(b0, .inr (6, [.ref t0, .ref h0, .ref y0, .ref s0, .ref e0, .ref o0, .ref r0, .int tr, .int (nI fl)])), (h0, .inr (1, [.int (nI hn), .ref h1, .ref h2])), (h1, .inl (gI g, 6, .inl (fun z9 => nI (kd z9)))), (h2, .inl (gI g, 6, .inl (fun z9 => nI (pt z9))))]
  have hh1 := hH.1; have hh2 := hH.2.1; have hh3 := hH.2.2.1; have hh4 := hH.2.2.2
  refine v_aload_n0 h dX7_shake_0 ?_
  refine v_get h mw_X7 0 rfl rfl 1 (by decide) mf_X7_21 rfl dX7_shake_1 ?_
  refine v_iload_n1 h dX7_shake_4 ?_
  refine cw_V_1_2_3_1_i (ci := 1) h (c_X1_has (g := g) (by first | assumption | omega)) lk_X7_111 ⟨rfl, rfl, (Nat.le_of_ble_eq_true rfl), (Nat.le_of_ble_eq_true rfl)⟩ rfl rfl rfl (Nat.le_of_ble_eq_true rfl) dX7_shake_5 ?_
  refine v_if_neB h dX7_shake_8 (tgt := 13) (by decide) (fun c8 => ?_) (fun c8 => ?_)
  · obtain ⟨j0, hj0, rfl⟩ := inR_of c8 (by omega)
    have e8 := rN_N hj0 (by omega)
    refine v_aload_n0 h dX7_shake_13 ?_
    refine v_get h mw_X7 0 rfl rfl 1 (by decide) mf_X7_21 rfl dX7_shake_14 ?_
    refine v_iload_n1 h dX7_shake_17 ?_
    refine cw_V_1_2_3_1_i (ci := 1) h (c_X1_kindOf (g := g) (by first | assumption | omega) (by first | assumption | omega)) lk_X7_115 ⟨rfl, rfl, (Nat.le_of_ble_eq_true rfl), (Nat.le_of_ble_eq_true rfl)⟩ rfl rfl rfl (Nat.le_of_ble_eq_true rfl) dX7_shake_18 ?_
    refine v_iconst h (v := nI 2) dX7_shake_21 (by decide) ?_
    refine v_icmp_neN h dX7_shake_22 (tgt := 32) (by decide) (by have := hh2 j0; omega) (by have := hh2 j0; omega) (fun c22 => ?_) (fun c22 => ?_)
    · refine v_aload_n0 h dX7_shake_32 ?_
      refine v_iload_n1 h dX7_shake_33 ?_
      refine cw_V_0_1_i (ci := 6) h (c_X7_lentBody (g := g)) lk_X7_266 ⟨rfl, rfl, (Nat.le_of_ble_eq_true rfl), (Nat.le_of_ble_eq_true rfl)⟩ rfl rfl rfl (Nat.le_of_ble_eq_true rfl) dX7_shake_34 ?_
      exact v_iretP h hr dX7_shake_37 (P_X7_shake_mk (q := (nI j0, tr1 tr 4)) (by simp only [s_shake, e8, if_neg c22]) ) rfl
    · refine v_aload_n0 h dX7_shake_25 ?_
      refine cw_V_0_0_i (ci := 6) h (c_X7_smithsOwnBody (g := g)) lk_X7_263 ⟨rfl, rfl, (Nat.le_of_ble_eq_true rfl), (Nat.le_of_ble_eq_true rfl)⟩ rfl rfl rfl (Nat.le_of_ble_eq_true rfl) dX7_shake_26 ?_
      refine v_goto h dX7_shake_29 (tgt := 37) (by decide) ?_
      exact v_iretP h hr dX7_shake_37 (P_X7_shake_mk (q := (nI 60, tr1 tr 5)) (by simp only [s_shake, e8, if_pos c22]) ) rfl
  · have e8 := rN_f c8
    refine v_iconst h (v := -1) dX7_shake_11 (by decide) ?_
    exact v_iretP h hr dX7_shake_12 (P_X7_shake_mk (q := (_, tr)) (by simp only [s_shake, e8]) ) rfl
def P_X7_as (g : vG) (b0 t0 y0 s0 e0 o0 r0 h0 h1 h2 : Nat) (tr : Int32) (fl : Nat) (hn : Nat) (kd : Nat → Nat) (pt : Nat → Nat) (p0 : Int32) (p1 : Int32) : Option Value → va_W → Prop := fun r wo => r = some (.int (s_as hn kd p0 p1).1) ∧ wo = [(b0, .inr (6, [.ref t0, .ref h0, .ref y0, .ref s0, .ref e0, .ref o0, .ref r0, .int tr, .int (nI ((s_as hn kd p0 p1).2))])), (h0, .inr (1, [.int (nI hn), .ref h1, .ref h2])), (h1, .inl (gI g, 6, .inl (fun z9 => nI (kd z9)))), (h2, .inl (gI g, 6, .inl (fun z9 => nI (pt z9))))]
theorem P_X7_as_mk {g : vG} {b0 t0 y0 s0 e0 o0 r0 h0 h1 h2 : Nat} {tr : Int32} {fl : Nat} {hn : Nat} {kd : Nat → Nat} {pt : Nat → Nat} {p0 : Int32} {p1 : Int32}  {q : Int32 × (Nat)} (hs : s_as hn kd p0 p1 = q)  : P_X7_as g b0 t0 y0 s0 e0 o0 r0 h0 h1 h2 tr fl hn kd pt p0 p1 (some (.int q.1)) [(b0, .inr (6, [.ref t0, .ref h0, .ref y0, .ref s0, .ref e0, .ref o0, .ref r0, .int tr, .int (nI q.2)])), (h0, .inr (1, [.int (nI hn), .ref h1, .ref h2])), (h1, .inl (gI g, 6, .inl (fun z9 => nI (kd z9)))), (h2, .inl (gI g, 6, .inl (fun z9 => nI (pt z9))))] := by subst hs; exact ⟨rfl, rfl⟩
set_option maxRecDepth 20000 in
set_option maxHeartbeats 4000000 in
theorem c_X7_as {g : vG} {b0 t0 y0 s0 e0 o0 r0 h0 h1 h2 : Nat} {tr : Int32} {fl : Nat} {hn : Nat} {kd : Nat → Nat} {pt : Nat → Nat} {p0 : Int32} {p1 : Int32} (hH : wfH hn kd pt) : CtP g yX7_as cX7_as 3 (some .int) (rmOf 2 42) [(b0, .inr (6, [.ref t0, .ref h0, .ref y0, .ref s0, .ref e0, .ref o0, .ref r0, .int tr, .int (nI fl)])), (h0, .inr (1, [.int (nI hn), .ref h1, .ref h2])), (h1, .inl (gI g, 6, .inl (fun z9 => nI (kd z9)))), (h2, .inl (gI g, 6, .inl (fun z9 => nI (pt z9))))] [.ref b0, .int p0, .int p1] (P_X7_as g b0 t0 y0 s0 e0 o0 r0 h0 h1 h2 tr fl hn kd pt p0 p1) := by
  refine CtP.ofV RX7 rfl (by decide +kernel) rfl rfl (Nat.le_of_ble_eq_true rfl) (List.forall_mem_cons.mpr ⟨rfl, (List.forall_mem_cons.mpr ⟨rfl, (List.forall_mem_cons.mpr ⟨rfl, (fun _ h9 => absurd h9 List.not_mem_nil)⟩)⟩)⟩) (fun x h hr => ?_)
  show vM x 0 [some (.ref b0), some (.int p0), some (.int p1)] [] [(b0, .inr (6, [.ref t0, .ref h0, .ref y0, .ref s0, .ref e0, .ref o0, .ref r0, .int tr, .int (nI fl)])), (h0, .inr (1, [.int (nI hn), .ref h1, .ref h2])), (h1, .inl (gI g, 6, .inl (fun z9 => nI (kd z9)))), (h2, .inl (gI g, 6, .inl (fun z9 => nI (pt z9))))]
  have hh1 := hH.1; have hh2 := hH.2.1; have hh3 := hH.2.2.1; have hh4 := hH.2.2.2
  refine v_aload_n0 h dX7_as_0 ?_
  refine v_iconst h (v := nI 0) dX7_as_1 (by decide) ?_
  refine pf_X7_60_at0 h dX7_as_2 ?_
  refine v_aload_n0 h dX7_as_5 ?_
  refine v_get h mw_X7 0 rfl rfl 1 (by decide) mf_X7_21 rfl dX7_as_6 ?_
  refine v_iload_n1 h dX7_as_9 ?_
  refine cw_V_1_2_3_1_i (ci := 1) h (c_X1_has (g := g) (by first | assumption | omega)) lk_X7_111 ⟨rfl, rfl, (Nat.le_of_ble_eq_true rfl), (Nat.le_of_ble_eq_true rfl)⟩ rfl rfl rfl (Nat.le_of_ble_eq_true rfl) dX7_as_10 ?_
  refine v_if_neB h dX7_as_13 (tgt := 18) (by decide) (fun c13 => ?_) (fun c13 => ?_)
  · obtain ⟨j0, hj0, rfl⟩ := inR_of c13 (by omega)
    have e13 := rN_N hj0 (by omega)
    refine v_iload_n2 h dX7_as_18 ?_
    refine cw_S_e_1_i h (c_X7_isKind (g := g)) lk_X7_104 ⟨rfl, rfl, (Nat.le_of_ble_eq_true rfl), (Nat.le_of_ble_eq_true rfl)⟩ (Nat.le_of_ble_eq_true rfl) dX7_as_19 ?_
    refine v_if_neB h dX7_as_22 (tgt := 28) (by decide) (fun c22 => ?_) (fun c22 => ?_)
    · obtain ⟨j1, hj1a, hj1, rfl⟩ := wi_of c22 (by decide) (by decide)
      have e22 := rW_N hj1a hj1 (by decide)
      refine v_iload_n2 h dX7_as_28 ?_
      refine v_aload_n0 h dX7_as_29 ?_
      refine v_get h mw_X7 0 rfl rfl 1 (by decide) mf_X7_21 rfl dX7_as_30 ?_
      refine v_iload_n1 h dX7_as_33 ?_
      refine cw_V_1_2_3_1_i (ci := 1) h (c_X1_kindOf (g := g) (by first | assumption | omega) (by first | assumption | omega)) lk_X7_115 ⟨rfl, rfl, (Nat.le_of_ble_eq_true rfl), (Nat.le_of_ble_eq_true rfl)⟩ rfl rfl rfl (Nat.le_of_ble_eq_true rfl) dX7_as_34 ?_
      refine v_icmp_gtN h dX7_as_37 (tgt := 44) (by decide) (by have := hh2 j0; omega) (by have := hh2 j0; omega) (fun c37 => ?_) (fun c37 => ?_)
      · refine v_aload_n0 h dX7_as_44 ?_
        refine v_iconst h (v := nI 2) dX7_as_45 (by decide) ?_
        refine cw_V_0_1_i (ci := 6) h (c_X7_faulty (g := g)) lk_X7_74 ⟨rfl, rfl, (Nat.le_of_ble_eq_true rfl), (Nat.le_of_ble_eq_true rfl)⟩ rfl rfl rfl (Nat.le_of_ble_eq_true rfl) dX7_as_46 ?_
        exact v_iretP h hr dX7_as_49 (P_X7_as_mk (q := (-10 - nI 2, 2)) (by simp only [s_as, e13, e22, if_neg (Nat.not_le.mpr c37)]) ) rfl
      · refine v_iconst h (v := nI 1) dX7_as_40 (by decide) ?_
        refine v_goto h dX7_as_41 (tgt := 49) (by decide) ?_
        exact v_iretP h hr dX7_as_49 (P_X7_as_mk (q := (nI 1, 0)) (by simp only [s_as, e13, e22, if_pos c37]) ) rfl
    · have e22 := wi_no c22
      refine v_bipush h (v := -2) dX7_as_25 (by decide) ?_
      exact v_iretP h hr dX7_as_27 (P_X7_as_mk (q := (-2, 0)) (by simp only [s_as, e13, e22]) ) rfl
  · have e13 := rN_f c13
    refine v_iconst h (v := -1) dX7_as_16 (by decide) ?_
    exact v_iretP h hr dX7_as_17 (P_X7_as_mk (q := (-1, 0)) (by simp only [s_as, e13]) ) rfl
def P_X7_trace (g : vG) (b0 t0 h0 y0 s0 e0 o0 r0 : Nat) (tr : Int32) (fl : Nat) : Option Value → va_W → Prop := fun r wo => r = some (.int (id tr)) ∧ wo = [(b0, .inr (6, [.ref t0, .ref h0, .ref y0, .ref s0, .ref e0, .ref o0, .ref r0, .int tr, .int (nI fl)]))]
theorem P_X7_trace_mk {g : vG} {b0 t0 h0 y0 s0 e0 o0 r0 : Nat} {tr : Int32} {fl : Nat}  {q : Int32} (hs : id tr = q)  : P_X7_trace g b0 t0 h0 y0 s0 e0 o0 r0 tr fl (some (.int q)) [(b0, .inr (6, [.ref t0, .ref h0, .ref y0, .ref s0, .ref e0, .ref o0, .ref r0, .int tr, .int (nI fl)]))] := by subst hs; exact ⟨rfl, rfl⟩
set_option maxRecDepth 20000 in
set_option maxHeartbeats 4000000 in
theorem c_X7_trace {g : vG} {b0 t0 h0 y0 s0 e0 o0 r0 : Nat} {tr : Int32} {fl : Nat} : CtP g yX7_trace cX7_trace 1 (some .int) (rmOf 0 0) [(b0, .inr (6, [.ref t0, .ref h0, .ref y0, .ref s0, .ref e0, .ref o0, .ref r0, .int tr, .int (nI fl)]))] [.ref b0] (P_X7_trace g b0 t0 h0 y0 s0 e0 o0 r0 tr fl) := by
  refine CtP.ofV RX7 rfl (by decide +kernel) rfl rfl (Nat.le_of_ble_eq_true rfl) (List.forall_mem_cons.mpr ⟨rfl, (fun _ h9 => absurd h9 List.not_mem_nil)⟩) (fun x h hr => ?_)
  show vM x 0 [some (.ref b0)] [] [(b0, .inr (6, [.ref t0, .ref h0, .ref y0, .ref s0, .ref e0, .ref o0, .ref r0, .int tr, .int (nI fl)]))]
  refine v_aload_n0 h dX7_trace_0 ?_
  refine v_get h mw_X7 0 rfl rfl 7 (by decide) mf_X7_56 rfl dX7_trace_1 ?_
  exact v_iretP h hr dX7_trace_4 (P_X7_trace_mk (q := _) (by rfl) ) rfl
def P_X7_fault (g : vG) (b0 t0 h0 y0 s0 e0 o0 r0 : Nat) (tr : Int32) (fl : Nat) : Option Value → va_W → Prop := fun r wo => r = some (.int (nI fl)) ∧ wo = [(b0, .inr (6, [.ref t0, .ref h0, .ref y0, .ref s0, .ref e0, .ref o0, .ref r0, .int tr, .int (nI fl)]))]
theorem P_X7_fault_mk {g : vG} {b0 t0 h0 y0 s0 e0 o0 r0 : Nat} {tr : Int32} {fl : Nat}  {q : Int32} (hs : nI fl = q)  : P_X7_fault g b0 t0 h0 y0 s0 e0 o0 r0 tr fl (some (.int q)) [(b0, .inr (6, [.ref t0, .ref h0, .ref y0, .ref s0, .ref e0, .ref o0, .ref r0, .int tr, .int (nI fl)]))] := by subst hs; exact ⟨rfl, rfl⟩
set_option maxRecDepth 20000 in
set_option maxHeartbeats 4000000 in
theorem c_X7_fault {g : vG} {b0 t0 h0 y0 s0 e0 o0 r0 : Nat} {tr : Int32} {fl : Nat} : CtP g yX7_fault cX7_fault 1 (some .int) (rmOf 0 0) [(b0, .inr (6, [.ref t0, .ref h0, .ref y0, .ref s0, .ref e0, .ref o0, .ref r0, .int tr, .int (nI fl)]))] [.ref b0] (P_X7_fault g b0 t0 h0 y0 s0 e0 o0 r0 tr fl) := by
  refine CtP.ofV RX7 rfl (by decide +kernel) rfl rfl (Nat.le_of_ble_eq_true rfl) (List.forall_mem_cons.mpr ⟨rfl, (fun _ h9 => absurd h9 List.not_mem_nil)⟩) (fun x h hr => ?_)
  show vM x 0 [some (.ref b0)] [] [(b0, .inr (6, [.ref t0, .ref h0, .ref y0, .ref s0, .ref e0, .ref o0, .ref r0, .int tr, .int (nI fl)]))]
  refine v_aload_n0 h dX7_fault_0 ?_
  refine v_get h mw_X7 0 rfl rfl 8 (by decide) mf_X7_60 rfl dX7_fault_1 ?_
  exact v_iretP h hr dX7_fault_4 (P_X7_fault_mk (q := _) (by rfl) ) rfl
def P_X7_many (g : vG) (b0 s0 e0 o0 r0 t0 t1 h0 h1 h2 y0 y1 y2 y3 y4 : Nat) (tr : Int32) (fl : Nat) (n : Nat) (w : Nat → Nat) (hn : Nat) (kd : Nat → Nat) (pt : Nat → Nat) (sn : Nat) (sb : Nat → Nat) (sf : Nat → Nat) (ss : Nat → Nat) (sw : Nat → Nat) (p0 : Int32) : Option Value → va_W → Prop := fun r wo => r = some (.int (s_many n hn sn p0)) ∧ wo = [(b0, .inr (6, [.ref t0, .ref h0, .ref y0, .ref s0, .ref e0, .ref o0, .ref r0, .int tr, .int (nI fl)])), (t0, .inr (5, [.int (nI n), .ref t1])), (t1, .inl (gI g, 8, .inl (fun z9 => nI (w z9)))), (h0, .inr (1, [.int (nI hn), .ref h1, .ref h2])), (h1, .inl (gI g, 6, .inl (fun z9 => nI (kd z9)))), (h2, .inl (gI g, 6, .inl (fun z9 => nI (pt z9)))), (y0, .inr (2, [.int (nI sn), .ref y1, .ref y2, .ref y3, .ref y4])), (y1, .inl (gI g, 10, .inl (fun z9 => nI (sb z9)))), (y2, .inl (gI g, 10, .inl (fun z9 => nI (sf z9)))), (y3, .inl (gI g, 10, .inl (fun z9 => nI (ss z9)))), (y4, .inl (gI g, 10, .inl (fun z9 => nI (sw z9))))]
theorem P_X7_many_mk {g : vG} {b0 s0 e0 o0 r0 t0 t1 h0 h1 h2 y0 y1 y2 y3 y4 : Nat} {tr : Int32} {fl : Nat} {n : Nat} {w : Nat → Nat} {hn : Nat} {kd : Nat → Nat} {pt : Nat → Nat} {sn : Nat} {sb : Nat → Nat} {sf : Nat → Nat} {ss : Nat → Nat} {sw : Nat → Nat} {p0 : Int32}  {q : Int32} (hs : s_many n hn sn p0 = q)  : P_X7_many g b0 s0 e0 o0 r0 t0 t1 h0 h1 h2 y0 y1 y2 y3 y4 tr fl n w hn kd pt sn sb sf ss sw p0 (some (.int q)) [(b0, .inr (6, [.ref t0, .ref h0, .ref y0, .ref s0, .ref e0, .ref o0, .ref r0, .int tr, .int (nI fl)])), (t0, .inr (5, [.int (nI n), .ref t1])), (t1, .inl (gI g, 8, .inl (fun z9 => nI (w z9)))), (h0, .inr (1, [.int (nI hn), .ref h1, .ref h2])), (h1, .inl (gI g, 6, .inl (fun z9 => nI (kd z9)))), (h2, .inl (gI g, 6, .inl (fun z9 => nI (pt z9)))), (y0, .inr (2, [.int (nI sn), .ref y1, .ref y2, .ref y3, .ref y4])), (y1, .inl (gI g, 10, .inl (fun z9 => nI (sb z9)))), (y2, .inl (gI g, 10, .inl (fun z9 => nI (sf z9)))), (y3, .inl (gI g, 10, .inl (fun z9 => nI (ss z9)))), (y4, .inl (gI g, 10, .inl (fun z9 => nI (sw z9))))] := by subst hs; exact ⟨rfl, rfl⟩
set_option maxRecDepth 20000 in
set_option maxHeartbeats 4000000 in
theorem c_X7_many {g : vG} {b0 s0 e0 o0 r0 t0 t1 h0 h1 h2 y0 y1 y2 y3 y4 : Nat} {tr : Int32} {fl : Nat} {n : Nat} {w : Nat → Nat} {hn : Nat} {kd : Nat → Nat} {pt : Nat → Nat} {sn : Nat} {sb : Nat → Nat} {sf : Nat → Nat} {ss : Nat → Nat} {sw : Nat → Nat} {p0 : Int32} : CtP g yX7_many cX7_many 2 (some .int) (rmOf 1 20) [(b0, .inr (6, [.ref t0, .ref h0, .ref y0, .ref s0, .ref e0, .ref o0, .ref r0, .int tr, .int (nI fl)])), (t0, .inr (5, [.int (nI n), .ref t1])), (t1, .inl (gI g, 8, .inl (fun z9 => nI (w z9)))), (h0, .inr (1, [.int (nI hn), .ref h1, .ref h2])), (h1, .inl (gI g, 6, .inl (fun z9 => nI (kd z9)))), (h2, .inl (gI g, 6, .inl (fun z9 => nI (pt z9)))), (y0, .inr (2, [.int (nI sn), .ref y1, .ref y2, .ref y3, .ref y4])), (y1, .inl (gI g, 10, .inl (fun z9 => nI (sb z9)))), (y2, .inl (gI g, 10, .inl (fun z9 => nI (sf z9)))), (y3, .inl (gI g, 10, .inl (fun z9 => nI (ss z9)))), (y4, .inl (gI g, 10, .inl (fun z9 => nI (sw z9))))] [.ref b0, .int p0] (P_X7_many g b0 s0 e0 o0 r0 t0 t1 h0 h1 h2 y0 y1 y2 y3 y4 tr fl n w hn kd pt sn sb sf ss sw p0) := by
  refine CtP.ofV RX7 rfl (by decide +kernel) rfl rfl (Nat.le_of_ble_eq_true rfl) (List.forall_mem_cons.mpr ⟨rfl, (List.forall_mem_cons.mpr ⟨rfl, (fun _ h9 => absurd h9 List.not_mem_nil)⟩)⟩) (fun x h hr => ?_)
  show vM x 0 [some (.ref b0), some (.int p0)] [] [(b0, .inr (6, [.ref t0, .ref h0, .ref y0, .ref s0, .ref e0, .ref o0, .ref r0, .int tr, .int (nI fl)])), (t0, .inr (5, [.int (nI n), .ref t1])), (t1, .inl (gI g, 8, .inl (fun z9 => nI (w z9)))), (h0, .inr (1, [.int (nI hn), .ref h1, .ref h2])), (h1, .inl (gI g, 6, .inl (fun z9 => nI (kd z9)))), (h2, .inl (gI g, 6, .inl (fun z9 => nI (pt z9)))), (y0, .inr (2, [.int (nI sn), .ref y1, .ref y2, .ref y3, .ref y4])), (y1, .inl (gI g, 10, .inl (fun z9 => nI (sb z9)))), (y2, .inl (gI g, 10, .inl (fun z9 => nI (sf z9)))), (y3, .inl (gI g, 10, .inl (fun z9 => nI (ss z9)))), (y4, .inl (gI g, 10, .inl (fun z9 => nI (sw z9))))]
  refine v_iload_n1 h dX7_many_0 ?_
  by_cases q0 : p0 = 0
  · subst q0; refine v_tableIn h dX7_many_1 (by decide) (by decide) rfl (tgt := 28) (by decide) ?_
    refine v_aload_n0 h dX7_many_28 ?_
    refine v_get h mw_X7 0 rfl rfl 0 (by decide) mf_X7_14 rfl dX7_many_29 ?_
    refine cw_V_1_2_0_i (ci := 5) h (c_X6_count (g := g)) lk_X7_92 ⟨rfl, rfl, (Nat.le_of_ble_eq_true rfl), (Nat.le_of_ble_eq_true rfl)⟩ rfl rfl rfl (Nat.le_of_ble_eq_true rfl) dX7_many_32 ?_
    exact v_iretP h hr dX7_many_35 (P_X7_many_mk (q := _) (by simp only [s_many, if_false, (by decide : (nI 1 = 0) = False), (by decide : (nI 2 = 0) = False), (by decide : (nI 2 = nI 1) = False), ↓reduceIte]) ) rfl
  · skip
    by_cases q1 : p0 = nI 1
    · subst q1; refine v_tableIn h dX7_many_1 (by decide) (by decide) rfl (tgt := 36) (by decide) ?_
      refine v_aload_n0 h dX7_many_36 ?_
      refine v_get h mw_X7 0 rfl rfl 1 (by decide) mf_X7_21 rfl dX7_many_37 ?_
      refine cw_V_3_4_5_0_i (ci := 1) h (c_X1_count (g := g)) lk_X7_269 ⟨rfl, rfl, (Nat.le_of_ble_eq_true rfl), (Nat.le_of_ble_eq_true rfl)⟩ rfl rfl rfl (Nat.le_of_ble_eq_true rfl) dX7_many_40 ?_
      exact v_iretP h hr dX7_many_43 (P_X7_many_mk (q := _) (by simp only [s_many, if_false, (by decide : (nI 1 = 0) = False), (by decide : (nI 2 = 0) = False), (by decide : (nI 2 = nI 1) = False), ↓reduceIte]) ) rfl
    · skip
      by_cases q2 : p0 = nI 2
      · subst q2; refine v_tableIn h dX7_many_1 (by decide) (by decide) rfl (tgt := 44) (by decide) ?_
        refine v_aload_n0 h dX7_many_44 ?_
        refine v_get h mw_X7 0 rfl rfl 2 (by decide) mf_X7_28 rfl dX7_many_45 ?_
        refine cw_V_6_7_8_9_10_0_i (ci := 2) h (c_X2_count (g := g)) lk_X7_157 ⟨rfl, rfl, (Nat.le_of_ble_eq_true rfl), (Nat.le_of_ble_eq_true rfl)⟩ rfl rfl rfl (Nat.le_of_ble_eq_true rfl) dX7_many_48 ?_
        exact v_iretP h hr dX7_many_51 (P_X7_many_mk (q := _) (by simp only [s_many, if_false, (by decide : (nI 1 = 0) = False), (by decide : (nI 2 = 0) = False), (by decide : (nI 2 = nI 1) = False), ↓reduceIte]) ) rfl
      · skip
        refine v_tableOut h dX7_many_1 (tri q0 q1 q2) (tgt := 52) (by decide) ?_
        refine v_bipush h (v := -2) dX7_many_52 (by decide) ?_
        exact v_iretP h hr dX7_many_54 (P_X7_many_mk (q := _) (by simp only [s_many, if_neg q0, if_neg q1, if_neg q2]) ) rfl
def P_X7_sheet (g : vG) (b0 t0 h0 y0 e0 o0 r0 s0 s1 s2 s3 s4 : Nat) (rr : Nat → Nat) (tr : Int32) (fl : Nat) (fil : Nat → Bool) (srt : Nat → Nat) (len : Nat → Nat) (cc : Nat → Nat → Int32) (p0 : Int32) (p1 : Int32) (p2 : Int32) : Option Value → va_W → Prop := fun r wo => r = some (.int (s_sheet fil srt len cc p0 p1 p2).1) ∧ wo = [(b0, .inr (6, [.ref t0, .ref h0, .ref y0, .ref s0, .ref e0, .ref o0, .ref r0, .int tr, .int (nI ((s_sheet fil srt len cc p0 p1 p2).2.1))])), (s0, .inr (3, [.ref s1, .ref s2, .ref s3, .ref s4])), (s1, .inl (gZ g, 4, .inl (fun z9 => nI (bN (((s_sheet fil srt len cc p0 p1 p2).2.2.1) z9))))), (s2, .inl (gI g, 4, .inl (fun z9 => nI (((s_sheet fil srt len cc p0 p1 p2).2.2.2.1) z9)))), (s3, .inl (gI g, 4, .inl (fun z9 => nI (((s_sheet fil srt len cc p0 p1 p2).2.2.2.2.1) z9)))), (s4, .inl (gA g, 4, .inr (.inr (.inr (.inr (fun i => if i < 4 then some (rr i) else none)))))), (rr 0, .inl (gI g, 40, .inl (((s_sheet fil srt len cc p0 p1 p2).2.2.2.2.2) 0))), (rr 1, .inl (gI g, 40, .inl (((s_sheet fil srt len cc p0 p1 p2).2.2.2.2.2) 1))), (rr 2, .inl (gI g, 40, .inl (((s_sheet fil srt len cc p0 p1 p2).2.2.2.2.2) 2))), (rr 3, .inl (gI g, 40, .inl (((s_sheet fil srt len cc p0 p1 p2).2.2.2.2.2) 3)))]
theorem P_X7_sheet_mk {g : vG} {b0 t0 h0 y0 e0 o0 r0 s0 s1 s2 s3 s4 : Nat} {rr : Nat → Nat} {tr : Int32} {fl : Nat} {fil : Nat → Bool} {srt : Nat → Nat} {len : Nat → Nat} {cc : Nat → Nat → Int32} {p0 : Int32} {p1 : Int32} {p2 : Int32}  {q : Int32 × (Nat) × (Nat → Bool) × (Nat → Nat) × (Nat → Nat) × (Nat → Nat → Int32)} (hs : s_sheet fil srt len cc p0 p1 p2 = q)  : P_X7_sheet g b0 t0 h0 y0 e0 o0 r0 s0 s1 s2 s3 s4 rr tr fl fil srt len cc p0 p1 p2 (some (.int q.1)) [(b0, .inr (6, [.ref t0, .ref h0, .ref y0, .ref s0, .ref e0, .ref o0, .ref r0, .int tr, .int (nI q.2.1)])), (s0, .inr (3, [.ref s1, .ref s2, .ref s3, .ref s4])), (s1, .inl (gZ g, 4, .inl (fun z9 => nI (bN (q.2.2.1 z9))))), (s2, .inl (gI g, 4, .inl (fun z9 => nI (q.2.2.2.1 z9)))), (s3, .inl (gI g, 4, .inl (fun z9 => nI (q.2.2.2.2.1 z9)))), (s4, .inl (gA g, 4, .inr (.inr (.inr (.inr (fun i => if i < 4 then some (rr i) else none)))))), (rr 0, .inl (gI g, 40, .inl (q.2.2.2.2.2 0))), (rr 1, .inl (gI g, 40, .inl (q.2.2.2.2.2 1))), (rr 2, .inl (gI g, 40, .inl (q.2.2.2.2.2 2))), (rr 3, .inl (gI g, 40, .inl (q.2.2.2.2.2 3)))] := by subst hs; exact ⟨rfl, rfl⟩
set_option maxRecDepth 20000 in
set_option maxHeartbeats 4000000 in
theorem c_X7_sheet {g : vG} {b0 t0 h0 y0 e0 o0 r0 s0 s1 s2 s3 s4 : Nat} {rr : Nat → Nat} {tr : Int32} {fl : Nat} {fil : Nat → Bool} {srt : Nat → Nat} {len : Nat → Nat} {cc : Nat → Nat → Int32} {p0 : Int32} {p1 : Int32} {p2 : Int32} (hsr : ∀ k, srt k ≤ 2) (hln : ∀ k, len k ≤ 40) : CtP g yX7_sheet cX7_sheet 4 (some .int) (rmOf 2 45) [(b0, .inr (6, [.ref t0, .ref h0, .ref y0, .ref s0, .ref e0, .ref o0, .ref r0, .int tr, .int (nI fl)])), (s0, .inr (3, [.ref s1, .ref s2, .ref s3, .ref s4])), (s1, .inl (gZ g, 4, .inl (fun z9 => nI (bN (fil z9))))), (s2, .inl (gI g, 4, .inl (fun z9 => nI (srt z9)))), (s3, .inl (gI g, 4, .inl (fun z9 => nI (len z9)))), (s4, .inl (gA g, 4, .inr (.inr (.inr (.inr (fun i => if i < 4 then some (rr i) else none)))))), (rr 0, .inl (gI g, 40, .inl (cc 0))), (rr 1, .inl (gI g, 40, .inl (cc 1))), (rr 2, .inl (gI g, 40, .inl (cc 2))), (rr 3, .inl (gI g, 40, .inl (cc 3)))] [.ref b0, .int p0, .int p1, .int p2] (P_X7_sheet g b0 t0 h0 y0 e0 o0 r0 s0 s1 s2 s3 s4 rr tr fl fil srt len cc p0 p1 p2) := by
  refine CtP.ofV RX7 rfl (by decide +kernel) rfl rfl (Nat.le_of_ble_eq_true rfl) (List.forall_mem_cons.mpr ⟨rfl, (List.forall_mem_cons.mpr ⟨rfl, (List.forall_mem_cons.mpr ⟨rfl, (List.forall_mem_cons.mpr ⟨rfl, (fun _ h9 => absurd h9 List.not_mem_nil)⟩)⟩)⟩)⟩) (fun x h hr => ?_)
  show vM x 0 [some (.ref b0), some (.int p0), some (.int p1), some (.int p2)] [] [(b0, .inr (6, [.ref t0, .ref h0, .ref y0, .ref s0, .ref e0, .ref o0, .ref r0, .int tr, .int (nI fl)])), (s0, .inr (3, [.ref s1, .ref s2, .ref s3, .ref s4])), (s1, .inl (gZ g, 4, .inl (fun z9 => nI (bN (fil z9))))), (s2, .inl (gI g, 4, .inl (fun z9 => nI (srt z9)))), (s3, .inl (gI g, 4, .inl (fun z9 => nI (len z9)))), (s4, .inl (gA g, 4, .inr (.inr (.inr (.inr (fun i => if i < 4 then some (rr i) else none)))))), (rr 0, .inl (gI g, 40, .inl (cc 0))), (rr 1, .inl (gI g, 40, .inl (cc 1))), (rr 2, .inl (gI g, 40, .inl (cc 2))), (rr 3, .inl (gI g, 40, .inl (cc 3)))]
  refine v_aload_n0 h dX7_sheet_0 ?_
  refine v_iconst h (v := nI 0) dX7_sheet_1 (by decide) ?_
  refine pf_X7_60_at0 h dX7_sheet_2 ?_
  refine v_aload_n0 h dX7_sheet_5 ?_
  refine v_get h mw_X7 0 rfl rfl 3 (by decide) mf_X7_35 rfl dX7_sheet_6 ?_
  refine v_iload_n1 h dX7_sheet_9 ?_
  refine cw_V_1_2_3_4_5_6_7_8_9_1_i (ci := 3) h (c_X3_has (g := g)) lk_X7_63 ⟨rfl, rfl, (Nat.le_of_ble_eq_true rfl), (Nat.le_of_ble_eq_true rfl)⟩ rfl rfl rfl (Nat.le_of_ble_eq_true rfl) dX7_sheet_10 ?_
  refine v_if_neB h dX7_sheet_13 (tgt := 18) (by decide) (fun c13 => ?_) (fun c13 => ?_)
  · obtain ⟨j0, hj0, rfl⟩ := inR_of c13 (by omega)
    have e13 := rN_N hj0 (by omega)
    refine v_iload_n2 h dX7_sheet_18 ?_
    refine cw_S_e_1_i h (c_X7_isSort (g := g)) lk_X7_67 ⟨rfl, rfl, (Nat.le_of_ble_eq_true rfl), (Nat.le_of_ble_eq_true rfl)⟩ (Nat.le_of_ble_eq_true rfl) dX7_sheet_19 ?_
    refine v_if_eqB h dX7_sheet_22 (tgt := 31) (by decide) (fun c22 => ?_) (fun c22 => ?_)
    · have e22 := wi_no c22
      refine v_bipush h (v := -2) dX7_sheet_31 (by decide) ?_
      exact v_iretP h hr dX7_sheet_33 (P_X7_sheet_mk (q := (-2, 0, fil, srt, len, cc)) (by simp only [s_sheet, e13, e22]) ) rfl
    · obtain ⟨j1, hj1a, hj1, rfl⟩ := wi_of c22 (by decide) (by decide)
      have e22 := rW_N hj1a hj1 (by decide)
      refine v_iload_n3 h dX7_sheet_25 ?_
      refine v_bipush h (v := nI 40) dX7_sheet_26 (by decide) ?_
      refine v_icmp_le h dX7_sheet_28 (tgt := 34) (by decide) (fun c28 => ?_) (fun c28 => ?_)
      · refine v_iload_n3 h dX7_sheet_34 ?_
        refine v_if_ge h dX7_sheet_35 (tgt := 44) (by decide) (fun c35 => ?_) (fun c35 => ?_)
        · obtain ⟨j2, -, hj2, rfl⟩ := rW_of (a := 0) (b := 40) c35 c28 (by decide) (by decide)
          refine v_aload_n0 h dX7_sheet_44 ?_
          refine v_get h mw_X7 0 rfl rfl 3 (by decide) mf_X7_35 rfl dX7_sheet_45 ?_
          refine v_iload_n1 h dX7_sheet_48 ?_
          refine v_iload_n2 h dX7_sheet_49 ?_
          refine v_iload_n3 h dX7_sheet_50 ?_
          refine cw_V_1_2_3_4_5_6_7_8_9_3_v (ci := 3) h (c_X3_renew (g := g) (by first | assumption | omega) (by first | assumption | omega)) lk_X7_231 ⟨rfl, rfl, (Nat.le_of_ble_eq_true rfl), (Nat.le_of_ble_eq_true rfl)⟩ rfl rfl rfl (Nat.le_of_ble_eq_true rfl) dX7_sheet_51 ?_
          refine v_iconst h (v := nI 1) dX7_sheet_54 (by decide) ?_
          exact v_iretP h hr dX7_sheet_55 (P_X7_sheet_mk (q := (nI 1, 0, upB fil j0 true, up srt j0 j1, up len j0 j2, rnw cc j0 j2)) (by simp only [s_sheet, e13, e22, if_neg (Int32.not_lt.mpr c28), if_neg (nI_pos (show j2 < 2 ^ 31 by omega)), tn_N (show j2 < 2 ^ 31 by omega)]) ) rfl
        · refine v_aload_n0 h dX7_sheet_38 ?_
          refine v_iconst h (v := nI 4) dX7_sheet_39 (by decide) ?_
          refine cw_V_0_1_i (ci := 6) h (c_X7_faulty (g := g)) lk_X7_74 ⟨rfl, rfl, (Nat.le_of_ble_eq_true rfl), (Nat.le_of_ble_eq_true rfl)⟩ rfl rfl rfl (Nat.le_of_ble_eq_true rfl) dX7_sheet_40 ?_
          exact v_iretP h hr dX7_sheet_43 (P_X7_sheet_mk (q := (-10 - nI 4, 4, fil, srt, len, cc)) (by simp only [s_sheet, e13, e22, if_neg (Int32.not_lt.mpr c28), if_pos (Int32.not_le.mp c35)]) ) rfl
      · refine v_bipush h (v := -2) dX7_sheet_31 (by decide) ?_
        exact v_iretP h hr dX7_sheet_33 (P_X7_sheet_mk (q := (-2, 0, fil, srt, len, cc)) (by simp only [s_sheet, e13, e22, if_pos (Int32.not_le.mp c28)]) ) rfl
  · have e13 := rN_f c13
    refine v_iconst h (v := -1) dX7_sheet_16 (by decide) ?_
    exact v_iretP h hr dX7_sheet_17 (P_X7_sheet_mk (q := (-1, 0, fil, srt, len, cc)) (by simp only [s_sheet, e13]) ) rfl
def P_X7_lose (g : vG) (b0 t0 h0 y0 e0 o0 r0 s0 s1 s2 s3 s4 : Nat) (rr : Nat → Nat) (tr : Int32) (fl : Nat) (fil : Nat → Bool) (srt : Nat → Nat) (len : Nat → Nat) (cc : Nat → Nat → Int32) (p0 : Int32) : Option Value → va_W → Prop := fun r wo => r = some (.int (s_lose fil p0).1) ∧ wo = [(b0, .inr (6, [.ref t0, .ref h0, .ref y0, .ref s0, .ref e0, .ref o0, .ref r0, .int tr, .int (nI fl)])), (s0, .inr (3, [.ref s1, .ref s2, .ref s3, .ref s4])), (s1, .inl (gZ g, 4, .inl (fun z9 => nI (bN (((s_lose fil p0).2) z9))))), (s2, .inl (gI g, 4, .inl (fun z9 => nI (srt z9)))), (s3, .inl (gI g, 4, .inl (fun z9 => nI (len z9)))), (s4, .inl (gA g, 4, .inr (.inr (.inr (.inr (fun i => if i < 4 then some (rr i) else none)))))), (rr 0, .inl (gI g, 40, .inl (cc 0))), (rr 1, .inl (gI g, 40, .inl (cc 1))), (rr 2, .inl (gI g, 40, .inl (cc 2))), (rr 3, .inl (gI g, 40, .inl (cc 3)))]
theorem P_X7_lose_mk {g : vG} {b0 t0 h0 y0 e0 o0 r0 s0 s1 s2 s3 s4 : Nat} {rr : Nat → Nat} {tr : Int32} {fl : Nat} {fil : Nat → Bool} {srt : Nat → Nat} {len : Nat → Nat} {cc : Nat → Nat → Int32} {p0 : Int32}  {q : Int32 × (Nat → Bool)} (hs : s_lose fil p0 = q)  : P_X7_lose g b0 t0 h0 y0 e0 o0 r0 s0 s1 s2 s3 s4 rr tr fl fil srt len cc p0 (some (.int q.1)) [(b0, .inr (6, [.ref t0, .ref h0, .ref y0, .ref s0, .ref e0, .ref o0, .ref r0, .int tr, .int (nI fl)])), (s0, .inr (3, [.ref s1, .ref s2, .ref s3, .ref s4])), (s1, .inl (gZ g, 4, .inl (fun z9 => nI (bN (q.2 z9))))), (s2, .inl (gI g, 4, .inl (fun z9 => nI (srt z9)))), (s3, .inl (gI g, 4, .inl (fun z9 => nI (len z9)))), (s4, .inl (gA g, 4, .inr (.inr (.inr (.inr (fun i => if i < 4 then some (rr i) else none)))))), (rr 0, .inl (gI g, 40, .inl (cc 0))), (rr 1, .inl (gI g, 40, .inl (cc 1))), (rr 2, .inl (gI g, 40, .inl (cc 2))), (rr 3, .inl (gI g, 40, .inl (cc 3)))] := by subst hs; exact ⟨rfl, rfl⟩
set_option maxRecDepth 20000 in
set_option maxHeartbeats 4000000 in
theorem c_X7_lose {g : vG} {b0 t0 h0 y0 e0 o0 r0 s0 s1 s2 s3 s4 : Nat} {rr : Nat → Nat} {tr : Int32} {fl : Nat} {fil : Nat → Bool} {srt : Nat → Nat} {len : Nat → Nat} {cc : Nat → Nat → Int32} {p0 : Int32} : CtP g yX7_lose cX7_lose 2 (some .int) (rmOf 3 64) [(b0, .inr (6, [.ref t0, .ref h0, .ref y0, .ref s0, .ref e0, .ref o0, .ref r0, .int tr, .int (nI fl)])), (s0, .inr (3, [.ref s1, .ref s2, .ref s3, .ref s4])), (s1, .inl (gZ g, 4, .inl (fun z9 => nI (bN (fil z9))))), (s2, .inl (gI g, 4, .inl (fun z9 => nI (srt z9)))), (s3, .inl (gI g, 4, .inl (fun z9 => nI (len z9)))), (s4, .inl (gA g, 4, .inr (.inr (.inr (.inr (fun i => if i < 4 then some (rr i) else none)))))), (rr 0, .inl (gI g, 40, .inl (cc 0))), (rr 1, .inl (gI g, 40, .inl (cc 1))), (rr 2, .inl (gI g, 40, .inl (cc 2))), (rr 3, .inl (gI g, 40, .inl (cc 3)))] [.ref b0, .int p0] (P_X7_lose g b0 t0 h0 y0 e0 o0 r0 s0 s1 s2 s3 s4 rr tr fl fil srt len cc p0) := by
  refine CtP.ofV RX7 rfl (by decide +kernel) rfl rfl (Nat.le_of_ble_eq_true rfl) (List.forall_mem_cons.mpr ⟨rfl, (List.forall_mem_cons.mpr ⟨rfl, (fun _ h9 => absurd h9 List.not_mem_nil)⟩)⟩) (fun x h hr => ?_)
  show vM x 0 [some (.ref b0), some (.int p0)] [] [(b0, .inr (6, [.ref t0, .ref h0, .ref y0, .ref s0, .ref e0, .ref o0, .ref r0, .int tr, .int (nI fl)])), (s0, .inr (3, [.ref s1, .ref s2, .ref s3, .ref s4])), (s1, .inl (gZ g, 4, .inl (fun z9 => nI (bN (fil z9))))), (s2, .inl (gI g, 4, .inl (fun z9 => nI (srt z9)))), (s3, .inl (gI g, 4, .inl (fun z9 => nI (len z9)))), (s4, .inl (gA g, 4, .inr (.inr (.inr (.inr (fun i => if i < 4 then some (rr i) else none)))))), (rr 0, .inl (gI g, 40, .inl (cc 0))), (rr 1, .inl (gI g, 40, .inl (cc 1))), (rr 2, .inl (gI g, 40, .inl (cc 2))), (rr 3, .inl (gI g, 40, .inl (cc 3)))]
  refine v_aload_n0 h dX7_lose_0 ?_
  refine v_get h mw_X7 0 rfl rfl 3 (by decide) mf_X7_35 rfl dX7_lose_1 ?_
  refine v_iload_n1 h dX7_lose_4 ?_
  refine cw_V_1_2_3_4_5_6_7_8_9_1_i (ci := 3) h (c_X3_has (g := g)) lk_X7_63 ⟨rfl, rfl, (Nat.le_of_ble_eq_true rfl), (Nat.le_of_ble_eq_true rfl)⟩ rfl rfl rfl (Nat.le_of_ble_eq_true rfl) dX7_lose_5 ?_
  refine v_if_neB h dX7_lose_8 (tgt := 13) (by decide) (fun c8 => ?_) (fun c8 => ?_)
  · obtain ⟨j0, hj0, rfl⟩ := inR_of c8 (by omega)
    have e8 := rN_N hj0 (by omega)
    refine v_aload_n0 h dX7_lose_13 ?_
    refine v_get h mw_X7 0 rfl rfl 3 (by decide) mf_X7_35 rfl dX7_lose_14 ?_
    refine v_iload_n1 h dX7_lose_17 ?_
    refine cw_V_1_2_3_4_5_6_7_8_9_1_i (ci := 3) h (c_X3_empty (g := g) (by first | assumption | omega)) lk_X7_235 ⟨rfl, rfl, (Nat.le_of_ble_eq_true rfl), (Nat.le_of_ble_eq_true rfl)⟩ rfl rfl rfl (Nat.le_of_ble_eq_true rfl) dX7_lose_18 ?_
    refine v_if_eqB h dX7_lose_21 (tgt := 28) (by decide) (fun c21 => ?_) (fun c21 => ?_)
    · refine v_iconst h (v := nI 0) dX7_lose_28 (by decide) ?_
      exact v_iretP h hr dX7_lose_29 (P_X7_lose_mk (q := (nI 0, upB fil j0 false)) (by simp only [s_lose, e8, c21, bN, if_true, Bool.false_eq_true, if_false]) ) rfl
    · refine v_iconst h (v := nI 1) dX7_lose_24 (by decide) ?_
      refine v_goto h dX7_lose_25 (tgt := 29) (by decide) ?_
      exact v_iretP h hr dX7_lose_29 (P_X7_lose_mk (q := (nI 1, upB fil j0 false)) (by simp only [s_lose, e8, c21, bN, if_true, Bool.false_eq_true, if_false]) ) rfl
  · have e8 := rN_f c8
    refine v_iconst h (v := -1) dX7_lose_11 (by decide) ?_
    exact v_iretP h hr dX7_lose_12 (P_X7_lose_mk (q := (_, fil)) (by simp only [s_lose, e8]) ) rfl
def P_X7_put (g : vG) (b0 t0 h0 y0 e0 o0 r0 s0 s1 s2 s3 s4 : Nat) (rr : Nat → Nat) (tr : Int32) (fl : Nat) (fil : Nat → Bool) (srt : Nat → Nat) (len : Nat → Nat) (cc : Nat → Nat → Int32) (p0 : Int32) (p1 : Int32) (p2 : Int32) : Option Value → va_W → Prop := fun r wo => r = some (.int (s_put fil srt len cc p0 p1 p2).1) ∧ wo = [(b0, .inr (6, [.ref t0, .ref h0, .ref y0, .ref s0, .ref e0, .ref o0, .ref r0, .int tr, .int (nI ((s_put fil srt len cc p0 p1 p2).2.1))])), (s0, .inr (3, [.ref s1, .ref s2, .ref s3, .ref s4])), (s1, .inl (gZ g, 4, .inl (fun z9 => nI (bN (fil z9))))), (s2, .inl (gI g, 4, .inl (fun z9 => nI (srt z9)))), (s3, .inl (gI g, 4, .inl (fun z9 => nI (len z9)))), (s4, .inl (gA g, 4, .inr (.inr (.inr (.inr (fun i => if i < 4 then some (rr i) else none)))))), (rr 0, .inl (gI g, 40, .inl (((s_put fil srt len cc p0 p1 p2).2.2) 0))), (rr 1, .inl (gI g, 40, .inl (((s_put fil srt len cc p0 p1 p2).2.2) 1))), (rr 2, .inl (gI g, 40, .inl (((s_put fil srt len cc p0 p1 p2).2.2) 2))), (rr 3, .inl (gI g, 40, .inl (((s_put fil srt len cc p0 p1 p2).2.2) 3)))]
theorem P_X7_put_mk {g : vG} {b0 t0 h0 y0 e0 o0 r0 s0 s1 s2 s3 s4 : Nat} {rr : Nat → Nat} {tr : Int32} {fl : Nat} {fil : Nat → Bool} {srt : Nat → Nat} {len : Nat → Nat} {cc : Nat → Nat → Int32} {p0 : Int32} {p1 : Int32} {p2 : Int32}  {q : Int32 × (Nat) × (Nat → Nat → Int32)} (hs : s_put fil srt len cc p0 p1 p2 = q)  : P_X7_put g b0 t0 h0 y0 e0 o0 r0 s0 s1 s2 s3 s4 rr tr fl fil srt len cc p0 p1 p2 (some (.int q.1)) [(b0, .inr (6, [.ref t0, .ref h0, .ref y0, .ref s0, .ref e0, .ref o0, .ref r0, .int tr, .int (nI q.2.1)])), (s0, .inr (3, [.ref s1, .ref s2, .ref s3, .ref s4])), (s1, .inl (gZ g, 4, .inl (fun z9 => nI (bN (fil z9))))), (s2, .inl (gI g, 4, .inl (fun z9 => nI (srt z9)))), (s3, .inl (gI g, 4, .inl (fun z9 => nI (len z9)))), (s4, .inl (gA g, 4, .inr (.inr (.inr (.inr (fun i => if i < 4 then some (rr i) else none)))))), (rr 0, .inl (gI g, 40, .inl (q.2.2 0))), (rr 1, .inl (gI g, 40, .inl (q.2.2 1))), (rr 2, .inl (gI g, 40, .inl (q.2.2 2))), (rr 3, .inl (gI g, 40, .inl (q.2.2 3)))] := by subst hs; exact ⟨rfl, rfl⟩
set_option maxRecDepth 20000 in
set_option maxHeartbeats 4000000 in
theorem c_X7_put {g : vG} {b0 t0 h0 y0 e0 o0 r0 s0 s1 s2 s3 s4 : Nat} {rr : Nat → Nat} {tr : Int32} {fl : Nat} {fil : Nat → Bool} {srt : Nat → Nat} {len : Nat → Nat} {cc : Nat → Nat → Int32} {p0 : Int32} {p1 : Int32} {p2 : Int32} (hsr : ∀ k, srt k ≤ 2) (hln : ∀ k, len k ≤ 40) : CtP g yX7_put cX7_put 4 (some .int) (rmOf 3 67) [(b0, .inr (6, [.ref t0, .ref h0, .ref y0, .ref s0, .ref e0, .ref o0, .ref r0, .int tr, .int (nI fl)])), (s0, .inr (3, [.ref s1, .ref s2, .ref s3, .ref s4])), (s1, .inl (gZ g, 4, .inl (fun z9 => nI (bN (fil z9))))), (s2, .inl (gI g, 4, .inl (fun z9 => nI (srt z9)))), (s3, .inl (gI g, 4, .inl (fun z9 => nI (len z9)))), (s4, .inl (gA g, 4, .inr (.inr (.inr (.inr (fun i => if i < 4 then some (rr i) else none)))))), (rr 0, .inl (gI g, 40, .inl (cc 0))), (rr 1, .inl (gI g, 40, .inl (cc 1))), (rr 2, .inl (gI g, 40, .inl (cc 2))), (rr 3, .inl (gI g, 40, .inl (cc 3)))] [.ref b0, .int p0, .int p1, .int p2] (P_X7_put g b0 t0 h0 y0 e0 o0 r0 s0 s1 s2 s3 s4 rr tr fl fil srt len cc p0 p1 p2) := by
  refine CtP.ofV RX7 rfl (by decide +kernel) rfl rfl (Nat.le_of_ble_eq_true rfl) (List.forall_mem_cons.mpr ⟨rfl, (List.forall_mem_cons.mpr ⟨rfl, (List.forall_mem_cons.mpr ⟨rfl, (List.forall_mem_cons.mpr ⟨rfl, (fun _ h9 => absurd h9 List.not_mem_nil)⟩)⟩)⟩)⟩) (fun x h hr => ?_)
  show vM x 0 [some (.ref b0), some (.int p0), some (.int p1), some (.int p2)] [] [(b0, .inr (6, [.ref t0, .ref h0, .ref y0, .ref s0, .ref e0, .ref o0, .ref r0, .int tr, .int (nI fl)])), (s0, .inr (3, [.ref s1, .ref s2, .ref s3, .ref s4])), (s1, .inl (gZ g, 4, .inl (fun z9 => nI (bN (fil z9))))), (s2, .inl (gI g, 4, .inl (fun z9 => nI (srt z9)))), (s3, .inl (gI g, 4, .inl (fun z9 => nI (len z9)))), (s4, .inl (gA g, 4, .inr (.inr (.inr (.inr (fun i => if i < 4 then some (rr i) else none)))))), (rr 0, .inl (gI g, 40, .inl (cc 0))), (rr 1, .inl (gI g, 40, .inl (cc 1))), (rr 2, .inl (gI g, 40, .inl (cc 2))), (rr 3, .inl (gI g, 40, .inl (cc 3)))]
  refine v_aload_n0 h dX7_put_0 ?_
  refine v_iconst h (v := nI 0) dX7_put_1 (by decide) ?_
  refine pf_X7_60_at0 h dX7_put_2 ?_
  refine v_aload_n0 h dX7_put_5 ?_
  refine v_get h mw_X7 0 rfl rfl 3 (by decide) mf_X7_35 rfl dX7_put_6 ?_
  refine v_iload_n1 h dX7_put_9 ?_
  refine cw_V_1_2_3_4_5_6_7_8_9_1_i (ci := 3) h (c_X3_has (g := g)) lk_X7_63 ⟨rfl, rfl, (Nat.le_of_ble_eq_true rfl), (Nat.le_of_ble_eq_true rfl)⟩ rfl rfl rfl (Nat.le_of_ble_eq_true rfl) dX7_put_10 ?_
  refine v_if_neB h dX7_put_13 (tgt := 18) (by decide) (fun c13 => ?_) (fun c13 => ?_)
  · obtain ⟨j0, hj0, rfl⟩ := inR_of c13 (by omega)
    have e13 := rN_N hj0 (by omega)
    refine v_aload_n0 h dX7_put_18 ?_
    refine v_get h mw_X7 0 rfl rfl 3 (by decide) mf_X7_35 rfl dX7_put_19 ?_
    refine v_iload_n1 h dX7_put_22 ?_
    refine cw_V_1_2_3_4_5_6_7_8_9_1_i (ci := 3) h (c_X3_hasRow (g := g) (by first | assumption | omega)) lk_X7_238 ⟨rfl, rfl, (Nat.le_of_ble_eq_true rfl), (Nat.le_of_ble_eq_true rfl)⟩ rfl rfl rfl (Nat.le_of_ble_eq_true rfl) dX7_put_23 ?_
    refine v_if_neB h dX7_put_26 (tgt := 35) (by decide) (fun c26 => ?_) (fun c26 => ?_)
    · refine v_aload_n0 h dX7_put_35 ?_
      refine v_get h mw_X7 0 rfl rfl 3 (by decide) mf_X7_35 rfl dX7_put_36 ?_
      refine v_iload_n1 h dX7_put_39 ?_
      refine v_iload_n2 h dX7_put_40 ?_
      refine v_iconst h (v := nI 1) dX7_put_41 (by decide) ?_
      refine cw_V_1_2_3_4_5_6_7_8_9_3_i (ci := 3) h (c_X3_hasCells (g := g) (by first | assumption | omega)) lk_X7_241 ⟨rfl, rfl, (Nat.le_of_ble_eq_true rfl), (Nat.le_of_ble_eq_true rfl)⟩ rfl rfl rfl (Nat.le_of_ble_eq_true rfl) dX7_put_42 ?_
      refine v_if_neB h dX7_put_45 (tgt := 54) (by decide) (fun c45 => ?_) (fun c45 => ?_)
      · rw [c26] at c45
        obtain ⟨j1, hj1, rfl⟩ := hcB_1 (hln j0) c45
        have hl9 := hln j0
        have e45 := rN_N hj1 (by omega)
        refine v_aload_n0 h dX7_put_54 ?_
        refine v_get h mw_X7 0 rfl rfl 3 (by decide) mf_X7_35 rfl dX7_put_55 ?_
        refine v_iload_n1 h dX7_put_58 ?_
        refine v_iload_n2 h dX7_put_59 ?_
        refine v_iload_n3 h dX7_put_60 ?_
        refine cw_V_1_2_3_4_5_6_7_8_9_3_v (ci := 3) h (c_X3_setCell (g := g) (by first | assumption | omega) (by first | assumption | omega) (by exact hln j0) (by first | assumption | omega) (by exact hsr j0)) lk_X7_244 ⟨rfl, rfl, (Nat.le_of_ble_eq_true rfl), (Nat.le_of_ble_eq_true rfl)⟩ rfl rfl rfl (Nat.le_of_ble_eq_true rfl) dX7_put_61 ?_
        refine v_iconst h (v := nI 1) dX7_put_64 (by decide) ?_
        exact v_iretP h hr dX7_put_65 (P_X7_put_mk (q := (nI 1, 0, upr cc j0 (upd (cc j0) j1 (cutV (srt j0) p2)))) (by simp only [s_put, e13, if_neg (show ¬ fil j0 = false by rw [c26]; decide), e45]) ) rfl
      · rw [c26] at c45
        have e45 := hcB_0 (hln j0) c45
        refine v_aload_n0 h dX7_put_48 ?_
        refine v_iconst h (v := nI 3) dX7_put_49 (by decide) ?_
        refine cw_V_0_1_i (ci := 6) h (c_X7_faulty (g := g)) lk_X7_74 ⟨rfl, rfl, (Nat.le_of_ble_eq_true rfl), (Nat.le_of_ble_eq_true rfl)⟩ rfl rfl rfl (Nat.le_of_ble_eq_true rfl) dX7_put_50 ?_
        exact v_iretP h hr dX7_put_53 (P_X7_put_mk (q := (-10 - nI 3, 3, cc)) (by simp only [s_put, e13, if_neg (show ¬ fil j0 = false by rw [c26]; decide), e45]) ) rfl
    · refine v_aload_n0 h dX7_put_29 ?_
      refine v_iconst h (v := nI 1) dX7_put_30 (by decide) ?_
      refine cw_V_0_1_i (ci := 6) h (c_X7_faulty (g := g)) lk_X7_74 ⟨rfl, rfl, (Nat.le_of_ble_eq_true rfl), (Nat.le_of_ble_eq_true rfl)⟩ rfl rfl rfl (Nat.le_of_ble_eq_true rfl) dX7_put_31 ?_
      exact v_iretP h hr dX7_put_34 (P_X7_put_mk (q := (-10 - nI 1, 1, cc)) (by simp only [s_put, e13, if_pos c26]) ) rfl
  · have e13 := rN_f c13
    refine v_iconst h (v := -1) dX7_put_16 (by decide) ?_
    exact v_iretP h hr dX7_put_17 (P_X7_put_mk (q := (-1, 0, cc)) (by simp only [s_put, e13]) ) rfl
def P_X7_cell (g : vG) (b0 t0 h0 y0 e0 o0 r0 s0 s1 s2 s3 s4 : Nat) (rr : Nat → Nat) (tr : Int32) (fl : Nat) (fil : Nat → Bool) (srt : Nat → Nat) (len : Nat → Nat) (cc : Nat → Nat → Int32) (p0 : Int32) (p1 : Int32) (p2 : Int32) : Option Value → va_W → Prop := fun r wo => r = some (.long (s_cell fil srt len cc p0 p1 p2).1) ∧ wo = [(b0, .inr (6, [.ref t0, .ref h0, .ref y0, .ref s0, .ref e0, .ref o0, .ref r0, .int tr, .int (nI ((s_cell fil srt len cc p0 p1 p2).2))])), (s0, .inr (3, [.ref s1, .ref s2, .ref s3, .ref s4])), (s1, .inl (gZ g, 4, .inl (fun z9 => nI (bN (fil z9))))), (s2, .inl (gI g, 4, .inl (fun z9 => nI (srt z9)))), (s3, .inl (gI g, 4, .inl (fun z9 => nI (len z9)))), (s4, .inl (gA g, 4, .inr (.inr (.inr (.inr (fun i => if i < 4 then some (rr i) else none)))))), (rr 0, .inl (gI g, 40, .inl (cc 0))), (rr 1, .inl (gI g, 40, .inl (cc 1))), (rr 2, .inl (gI g, 40, .inl (cc 2))), (rr 3, .inl (gI g, 40, .inl (cc 3)))]
theorem P_X7_cell_mk {g : vG} {b0 t0 h0 y0 e0 o0 r0 s0 s1 s2 s3 s4 : Nat} {rr : Nat → Nat} {tr : Int32} {fl : Nat} {fil : Nat → Bool} {srt : Nat → Nat} {len : Nat → Nat} {cc : Nat → Nat → Int32} {p0 : Int32} {p1 : Int32} {p2 : Int32}  {q : Int64 × (Nat)} (hs : s_cell fil srt len cc p0 p1 p2 = q)  : P_X7_cell g b0 t0 h0 y0 e0 o0 r0 s0 s1 s2 s3 s4 rr tr fl fil srt len cc p0 p1 p2 (some (.long q.1)) [(b0, .inr (6, [.ref t0, .ref h0, .ref y0, .ref s0, .ref e0, .ref o0, .ref r0, .int tr, .int (nI q.2)])), (s0, .inr (3, [.ref s1, .ref s2, .ref s3, .ref s4])), (s1, .inl (gZ g, 4, .inl (fun z9 => nI (bN (fil z9))))), (s2, .inl (gI g, 4, .inl (fun z9 => nI (srt z9)))), (s3, .inl (gI g, 4, .inl (fun z9 => nI (len z9)))), (s4, .inl (gA g, 4, .inr (.inr (.inr (.inr (fun i => if i < 4 then some (rr i) else none)))))), (rr 0, .inl (gI g, 40, .inl (cc 0))), (rr 1, .inl (gI g, 40, .inl (cc 1))), (rr 2, .inl (gI g, 40, .inl (cc 2))), (rr 3, .inl (gI g, 40, .inl (cc 3)))] := by subst hs; exact ⟨rfl, rfl⟩
set_option maxRecDepth 20000 in
set_option maxHeartbeats 4000000 in
theorem c_X7_cell {g : vG} {b0 t0 h0 y0 e0 o0 r0 s0 s1 s2 s3 s4 : Nat} {rr : Nat → Nat} {tr : Int32} {fl : Nat} {fil : Nat → Bool} {srt : Nat → Nat} {len : Nat → Nat} {cc : Nat → Nat → Int32} {p0 : Int32} {p1 : Int32} {p2 : Int32} (hsr : ∀ k, srt k ≤ 2) (hln : ∀ k, len k ≤ 40) : CtP g yX7_cell cX7_cell 4 (some .long) (rmOf 3 68) [(b0, .inr (6, [.ref t0, .ref h0, .ref y0, .ref s0, .ref e0, .ref o0, .ref r0, .int tr, .int (nI fl)])), (s0, .inr (3, [.ref s1, .ref s2, .ref s3, .ref s4])), (s1, .inl (gZ g, 4, .inl (fun z9 => nI (bN (fil z9))))), (s2, .inl (gI g, 4, .inl (fun z9 => nI (srt z9)))), (s3, .inl (gI g, 4, .inl (fun z9 => nI (len z9)))), (s4, .inl (gA g, 4, .inr (.inr (.inr (.inr (fun i => if i < 4 then some (rr i) else none)))))), (rr 0, .inl (gI g, 40, .inl (cc 0))), (rr 1, .inl (gI g, 40, .inl (cc 1))), (rr 2, .inl (gI g, 40, .inl (cc 2))), (rr 3, .inl (gI g, 40, .inl (cc 3)))] [.ref b0, .int p0, .int p1, .int p2] (P_X7_cell g b0 t0 h0 y0 e0 o0 r0 s0 s1 s2 s3 s4 rr tr fl fil srt len cc p0 p1 p2) := by
  refine CtP.ofV RX7 rfl (by decide +kernel) rfl rfl (Nat.le_of_ble_eq_true rfl) (List.forall_mem_cons.mpr ⟨rfl, (List.forall_mem_cons.mpr ⟨rfl, (List.forall_mem_cons.mpr ⟨rfl, (List.forall_mem_cons.mpr ⟨rfl, (fun _ h9 => absurd h9 List.not_mem_nil)⟩)⟩)⟩)⟩) (fun x h hr => ?_)
  show vM x 0 [some (.ref b0), some (.int p0), some (.int p1), some (.int p2)] [] [(b0, .inr (6, [.ref t0, .ref h0, .ref y0, .ref s0, .ref e0, .ref o0, .ref r0, .int tr, .int (nI fl)])), (s0, .inr (3, [.ref s1, .ref s2, .ref s3, .ref s4])), (s1, .inl (gZ g, 4, .inl (fun z9 => nI (bN (fil z9))))), (s2, .inl (gI g, 4, .inl (fun z9 => nI (srt z9)))), (s3, .inl (gI g, 4, .inl (fun z9 => nI (len z9)))), (s4, .inl (gA g, 4, .inr (.inr (.inr (.inr (fun i => if i < 4 then some (rr i) else none)))))), (rr 0, .inl (gI g, 40, .inl (cc 0))), (rr 1, .inl (gI g, 40, .inl (cc 1))), (rr 2, .inl (gI g, 40, .inl (cc 2))), (rr 3, .inl (gI g, 40, .inl (cc 3)))]
  refine v_aload_n0 h dX7_cell_0 ?_
  refine v_iconst h (v := nI 0) dX7_cell_1 (by decide) ?_
  refine pf_X7_60_at0 h dX7_cell_2 ?_
  refine v_aload_n0 h dX7_cell_5 ?_
  refine v_get h mw_X7 0 rfl rfl 3 (by decide) mf_X7_35 rfl dX7_cell_6 ?_
  refine v_iload_n1 h dX7_cell_9 ?_
  refine cw_V_1_2_3_4_5_6_7_8_9_1_i (ci := 3) h (c_X3_has (g := g)) lk_X7_63 ⟨rfl, rfl, (Nat.le_of_ble_eq_true rfl), (Nat.le_of_ble_eq_true rfl)⟩ rfl rfl rfl (Nat.le_of_ble_eq_true rfl) dX7_cell_10 ?_
  refine v_if_eqB h dX7_cell_13 (tgt := 23) (by decide) (fun c13 => ?_) (fun c13 => ?_)
  · have e13 := rN_f c13
    refine v_ldc2 h mk2_X7_223 dX7_cell_23 ?_
    exact v_lretP h hr dX7_cell_26 (P_X7_cell_mk (q := (-9223372036854775808, 0)) (by simp only [s_cell, e13]) ) rfl
  · obtain ⟨j0, hj0, rfl⟩ := inR_of c13 (by omega)
    have e13 := rN_N hj0 (by omega)
    refine v_iload_n3 h dX7_cell_16 ?_
    refine cw_S_e_1_i h (c_X7_isSort (g := g)) lk_X7_67 ⟨rfl, rfl, (Nat.le_of_ble_eq_true rfl), (Nat.le_of_ble_eq_true rfl)⟩ (Nat.le_of_ble_eq_true rfl) dX7_cell_17 ?_
    refine v_if_neB h dX7_cell_20 (tgt := 27) (by decide) (fun c20 => ?_) (fun c20 => ?_)
    · obtain ⟨j1, hj1a, hj1, rfl⟩ := wi_of c20 (by decide) (by decide)
      have e20 := rW_N hj1a hj1 (by decide)
      refine v_aload_n0 h dX7_cell_27 ?_
      refine v_aload_n0 h dX7_cell_28 ?_
      refine v_get h mw_X7 0 rfl rfl 3 (by decide) mf_X7_35 rfl dX7_cell_29 ?_
      refine v_iload_n1 h dX7_cell_32 ?_
      refine v_iload_n3 h dX7_cell_33 ?_
      refine v_iload_n2 h dX7_cell_34 ?_
      refine v_iconst h (v := nI 1) dX7_cell_35 (by decide) ?_
      refine cw_V_1_2_3_4_5_6_7_8_9_4_i (ci := 3) h (c_X3_faultOfTaking (g := g) (by first | assumption | omega)) lk_X7_70 ⟨rfl, rfl, (Nat.le_of_ble_eq_true rfl), (Nat.le_of_ble_eq_true rfl)⟩ rfl rfl rfl (Nat.le_of_ble_eq_true rfl) dX7_cell_36 ?_
      refine pf_X7_60_at0 h dX7_cell_39 ?_
      refine v_aload_n0 h dX7_cell_42 ?_
      refine v_get h mw_X7 0 rfl rfl 8 (by decide) mf_X7_60 rfl dX7_cell_43 ?_
      refine v_if_neN h dX7_cell_46 (tgt := 62) (by decide) (by exact Nat.lt_of_le_of_lt ftk_le (by decide)) (fun c46 => ?_) (fun c46 => ?_)
      · obtain ⟨f9, hf9⟩ : ∃ f9, (ftk (fil j0) (srt j0) (len j0) (nI j1) p1 (nI 1)) = f9 + 1 := ⟨(ftk (fil j0) (srt j0) (len j0) (nI j1) p1 (nI 1)) - 1, by omega⟩
        rw [hf9]
        refine v_ldc2 h mk2_X7_223 dX7_cell_62 ?_
        exact v_lretP h hr dX7_cell_65 (P_X7_cell_mk (q := (-9223372036854775808, f9 + 1)) (by simp only [s_cell, e13, e20, hf9]) ) rfl
      · obtain ⟨h91, h92, i9, m9, rfl, h93, h94⟩ := ftk_0 c46 (hln j0)
        have hl9 := hln j0
        have h95 : m9 = 1 := by
          have h96 := h93.symm
          rcases Nat.lt_or_ge m9 (2 ^ 31) with q | q
          · exact (nI_eq q (by decide)).mp h96
          · omega
        subst h95
        rw [c46]
        refine v_aload_n0 h dX7_cell_49 ?_
        refine v_get h mw_X7 0 rfl rfl 3 (by decide) mf_X7_35 rfl dX7_cell_50 ?_
        refine v_iload_n1 h dX7_cell_53 ?_
        refine v_iload_n2 h dX7_cell_54 ?_
        refine cw_V_1_2_3_4_5_6_7_8_9_2_i (ci := 3) h (c_X3_cellOf (g := g) (by first | assumption | omega) (by first | assumption | omega) (by exact hln j0) (by omega)) lk_X7_206 ⟨rfl, rfl, (Nat.le_of_ble_eq_true rfl), (Nat.le_of_ble_eq_true rfl)⟩ rfl rfl rfl (Nat.le_of_ble_eq_true rfl) dX7_cell_55 ?_
        refine v_i2l h dX7_cell_58 ?_
        refine v_goto h dX7_cell_59 (tgt := 65) (by decide) ?_
        exact v_lretP h hr dX7_cell_65 (P_X7_cell_mk (q := ((cc j0 i9).toInt64, 0)) (by simp only [s_cell, e13, e20, c46, tn_N (show i9 < 2 ^ 31 by omega)]) ) rfl
    · have e20 := wi_no c20
      refine v_ldc2 h mk2_X7_223 dX7_cell_23 ?_
      exact v_lretP h hr dX7_cell_26 (P_X7_cell_mk (q := (-9223372036854775808, 0)) (by simp only [s_cell, e13, e20]) ) rfl
def P_X7_copy (g : vG) (b0 t0 h0 y0 e0 o0 r0 s0 s1 s2 s3 s4 : Nat) (rr : Nat → Nat) (tr : Int32) (fl : Nat) (fil : Nat → Bool) (srt : Nat → Nat) (len : Nat → Nat) (cc : Nat → Nat → Int32) (p0 : Int32) (p1 : Int32) (p2 : Int32) (p3 : Int32) (p4 : Int32) : Option Value → va_W → Prop := fun r wo => r = some (.int (s_copy fil srt len cc p0 p1 p2 p3 p4).1) ∧ wo = [(b0, .inr (6, [.ref t0, .ref h0, .ref y0, .ref s0, .ref e0, .ref o0, .ref r0, .int tr, .int (nI ((s_copy fil srt len cc p0 p1 p2 p3 p4).2.1))])), (s0, .inr (3, [.ref s1, .ref s2, .ref s3, .ref s4])), (s1, .inl (gZ g, 4, .inl (fun z9 => nI (bN (fil z9))))), (s2, .inl (gI g, 4, .inl (fun z9 => nI (srt z9)))), (s3, .inl (gI g, 4, .inl (fun z9 => nI (len z9)))), (s4, .inl (gA g, 4, .inr (.inr (.inr (.inr (fun i => if i < 4 then some (rr i) else none)))))), (rr 0, .inl (gI g, 40, .inl (((s_copy fil srt len cc p0 p1 p2 p3 p4).2.2) 0))), (rr 1, .inl (gI g, 40, .inl (((s_copy fil srt len cc p0 p1 p2 p3 p4).2.2) 1))), (rr 2, .inl (gI g, 40, .inl (((s_copy fil srt len cc p0 p1 p2 p3 p4).2.2) 2))), (rr 3, .inl (gI g, 40, .inl (((s_copy fil srt len cc p0 p1 p2 p3 p4).2.2) 3)))]
theorem P_X7_copy_mk {g : vG} {b0 t0 h0 y0 e0 o0 r0 s0 s1 s2 s3 s4 : Nat} {rr : Nat → Nat} {tr : Int32} {fl : Nat} {fil : Nat → Bool} {srt : Nat → Nat} {len : Nat → Nat} {cc : Nat → Nat → Int32} {p0 : Int32} {p1 : Int32} {p2 : Int32} {p3 : Int32} {p4 : Int32}  {q : Int32 × (Nat) × (Nat → Nat → Int32)} (hs : s_copy fil srt len cc p0 p1 p2 p3 p4 = q)  : P_X7_copy g b0 t0 h0 y0 e0 o0 r0 s0 s1 s2 s3 s4 rr tr fl fil srt len cc p0 p1 p2 p3 p4 (some (.int q.1)) [(b0, .inr (6, [.ref t0, .ref h0, .ref y0, .ref s0, .ref e0, .ref o0, .ref r0, .int tr, .int (nI q.2.1)])), (s0, .inr (3, [.ref s1, .ref s2, .ref s3, .ref s4])), (s1, .inl (gZ g, 4, .inl (fun z9 => nI (bN (fil z9))))), (s2, .inl (gI g, 4, .inl (fun z9 => nI (srt z9)))), (s3, .inl (gI g, 4, .inl (fun z9 => nI (len z9)))), (s4, .inl (gA g, 4, .inr (.inr (.inr (.inr (fun i => if i < 4 then some (rr i) else none)))))), (rr 0, .inl (gI g, 40, .inl (q.2.2 0))), (rr 1, .inl (gI g, 40, .inl (q.2.2 1))), (rr 2, .inl (gI g, 40, .inl (q.2.2 2))), (rr 3, .inl (gI g, 40, .inl (q.2.2 3)))] := by subst hs; exact ⟨rfl, rfl⟩
set_option maxRecDepth 20000 in
set_option maxHeartbeats 4000000 in
theorem c_X7_copy {g : vG} {b0 t0 h0 y0 e0 o0 r0 s0 s1 s2 s3 s4 : Nat} {rr : Nat → Nat} {tr : Int32} {fl : Nat} {fil : Nat → Bool} {srt : Nat → Nat} {len : Nat → Nat} {cc : Nat → Nat → Int32} {p0 : Int32} {p1 : Int32} {p2 : Int32} {p3 : Int32} {p4 : Int32} (hsr : ∀ k, srt k ≤ 2) (hln : ∀ k, len k ≤ 40) : CtP g yX7_copy cX7_copy 6 (some .int) (rmOf 3 85) [(b0, .inr (6, [.ref t0, .ref h0, .ref y0, .ref s0, .ref e0, .ref o0, .ref r0, .int tr, .int (nI fl)])), (s0, .inr (3, [.ref s1, .ref s2, .ref s3, .ref s4])), (s1, .inl (gZ g, 4, .inl (fun z9 => nI (bN (fil z9))))), (s2, .inl (gI g, 4, .inl (fun z9 => nI (srt z9)))), (s3, .inl (gI g, 4, .inl (fun z9 => nI (len z9)))), (s4, .inl (gA g, 4, .inr (.inr (.inr (.inr (fun i => if i < 4 then some (rr i) else none)))))), (rr 0, .inl (gI g, 40, .inl (cc 0))), (rr 1, .inl (gI g, 40, .inl (cc 1))), (rr 2, .inl (gI g, 40, .inl (cc 2))), (rr 3, .inl (gI g, 40, .inl (cc 3)))] [.ref b0, .int p0, .int p1, .int p2, .int p3, .int p4] (P_X7_copy g b0 t0 h0 y0 e0 o0 r0 s0 s1 s2 s3 s4 rr tr fl fil srt len cc p0 p1 p2 p3 p4) := by
  refine CtP.ofV RX7 rfl (by decide +kernel) rfl rfl (Nat.le_of_ble_eq_true rfl) (List.forall_mem_cons.mpr ⟨rfl, (List.forall_mem_cons.mpr ⟨rfl, (List.forall_mem_cons.mpr ⟨rfl, (List.forall_mem_cons.mpr ⟨rfl, (List.forall_mem_cons.mpr ⟨rfl, (List.forall_mem_cons.mpr ⟨rfl, (fun _ h9 => absurd h9 List.not_mem_nil)⟩)⟩)⟩)⟩)⟩)⟩) (fun x h hr => ?_)
  show vM x 0 [some (.ref b0), some (.int p0), some (.int p1), some (.int p2), some (.int p3), some (.int p4)] [] [(b0, .inr (6, [.ref t0, .ref h0, .ref y0, .ref s0, .ref e0, .ref o0, .ref r0, .int tr, .int (nI fl)])), (s0, .inr (3, [.ref s1, .ref s2, .ref s3, .ref s4])), (s1, .inl (gZ g, 4, .inl (fun z9 => nI (bN (fil z9))))), (s2, .inl (gI g, 4, .inl (fun z9 => nI (srt z9)))), (s3, .inl (gI g, 4, .inl (fun z9 => nI (len z9)))), (s4, .inl (gA g, 4, .inr (.inr (.inr (.inr (fun i => if i < 4 then some (rr i) else none)))))), (rr 0, .inl (gI g, 40, .inl (cc 0))), (rr 1, .inl (gI g, 40, .inl (cc 1))), (rr 2, .inl (gI g, 40, .inl (cc 2))), (rr 3, .inl (gI g, 40, .inl (cc 3)))]
  refine v_aload_n0 h dX7_copy_0 ?_
  refine v_iconst h (v := nI 0) dX7_copy_1 (by decide) ?_
  refine pf_X7_60_at0 h dX7_copy_2 ?_
  refine v_aload_n0 h dX7_copy_5 ?_
  refine v_get h mw_X7 0 rfl rfl 3 (by decide) mf_X7_35 rfl dX7_copy_6 ?_
  refine v_iload_n1 h dX7_copy_9 ?_
  refine cw_V_1_2_3_4_5_6_7_8_9_1_i (ci := 3) h (c_X3_has (g := g)) lk_X7_63 ⟨rfl, rfl, (Nat.le_of_ble_eq_true rfl), (Nat.le_of_ble_eq_true rfl)⟩ rfl rfl rfl (Nat.le_of_ble_eq_true rfl) dX7_copy_10 ?_
  refine v_if_eqB h dX7_copy_13 (tgt := 27) (by decide) (fun c13 => ?_) (fun c13 => ?_)
  · have e13 := rN_f c13
    refine v_iconst h (v := -1) dX7_copy_27 (by decide) ?_
    exact v_iretP h hr dX7_copy_28 (P_X7_copy_mk (q := (-1, 0, cc)) (by simp only [s_copy, e13]) ) rfl
  · obtain ⟨j0, hj0, rfl⟩ := inR_of c13 (by omega)
    have e13 := rN_N hj0 (by omega)
    refine v_aload_n0 h dX7_copy_16 ?_
    refine v_get h mw_X7 0 rfl rfl 3 (by decide) mf_X7_35 rfl dX7_copy_17 ?_
    refine v_iload_n3 h dX7_copy_20 ?_
    refine cw_V_1_2_3_4_5_6_7_8_9_1_i (ci := 3) h (c_X3_has (g := g)) lk_X7_63 ⟨rfl, rfl, (Nat.le_of_ble_eq_true rfl), (Nat.le_of_ble_eq_true rfl)⟩ rfl rfl rfl (Nat.le_of_ble_eq_true rfl) dX7_copy_21 ?_
    refine v_if_neB h dX7_copy_24 (tgt := 29) (by decide) (fun c24 => ?_) (fun c24 => ?_)
    · obtain ⟨j1, hj1, rfl⟩ := inR_of c24 (by omega)
      have e24 := rN_N hj1 (by omega)
      refine v_aload_n0 h dX7_copy_29 ?_
      refine v_get h mw_X7 0 rfl rfl 3 (by decide) mf_X7_35 rfl dX7_copy_30 ?_
      refine v_iload_n1 h dX7_copy_33 ?_
      refine cw_V_1_2_3_4_5_6_7_8_9_1_i (ci := 3) h (c_X3_hasRow (g := g) (by first | assumption | omega)) lk_X7_238 ⟨rfl, rfl, (Nat.le_of_ble_eq_true rfl), (Nat.le_of_ble_eq_true rfl)⟩ rfl rfl rfl (Nat.le_of_ble_eq_true rfl) dX7_copy_34 ?_
      refine v_if_eqB h dX7_copy_37 (tgt := 51) (by decide) (fun c37 => ?_) (fun c37 => ?_)
      · refine v_aload_n0 h dX7_copy_51 ?_
        refine v_iconst h (v := nI 1) dX7_copy_52 (by decide) ?_
        refine cw_V_0_1_i (ci := 6) h (c_X7_faulty (g := g)) lk_X7_74 ⟨rfl, rfl, (Nat.le_of_ble_eq_true rfl), (Nat.le_of_ble_eq_true rfl)⟩ rfl rfl rfl (Nat.le_of_ble_eq_true rfl) dX7_copy_53 ?_
        exact v_iretP h hr dX7_copy_56 (P_X7_copy_mk (q := (-10 - nI 1, 1, cc)) (by simp only [s_copy, e13, e24, if_pos c37]) ) rfl
      · refine v_aload_n0 h dX7_copy_40 ?_
        refine v_get h mw_X7 0 rfl rfl 3 (by decide) mf_X7_35 rfl dX7_copy_41 ?_
        refine v_iload_n3 h dX7_copy_44 ?_
        refine cw_V_1_2_3_4_5_6_7_8_9_1_i (ci := 3) h (c_X3_hasRow (g := g) (by first | assumption | omega)) lk_X7_238 ⟨rfl, rfl, (Nat.le_of_ble_eq_true rfl), (Nat.le_of_ble_eq_true rfl)⟩ rfl rfl rfl (Nat.le_of_ble_eq_true rfl) dX7_copy_45 ?_
        refine v_if_neB h dX7_copy_48 (tgt := 57) (by decide) (fun c48 => ?_) (fun c48 => ?_)
        · refine v_aload_n0 h dX7_copy_57 ?_
          refine v_get h mw_X7 0 rfl rfl 3 (by decide) mf_X7_35 rfl dX7_copy_58 ?_
          refine v_iload_n1 h dX7_copy_61 ?_
          refine cw_V_1_2_3_4_5_6_7_8_9_1_i (ci := 3) h (c_X3_sortOf (g := g) (by first | assumption | omega)) lk_X7_247 ⟨rfl, rfl, (Nat.le_of_ble_eq_true rfl), (Nat.le_of_ble_eq_true rfl)⟩ rfl rfl rfl (Nat.le_of_ble_eq_true rfl) dX7_copy_62 ?_
          refine v_aload_n0 h dX7_copy_65 ?_
          refine v_get h mw_X7 0 rfl rfl 3 (by decide) mf_X7_35 rfl dX7_copy_66 ?_
          refine v_iload_n3 h dX7_copy_69 ?_
          refine cw_V_1_2_3_4_5_6_7_8_9_1_i (ci := 3) h (c_X3_sortOf (g := g) (by first | assumption | omega)) lk_X7_247 ⟨rfl, rfl, (Nat.le_of_ble_eq_true rfl), (Nat.le_of_ble_eq_true rfl)⟩ rfl rfl rfl (Nat.le_of_ble_eq_true rfl) dX7_copy_70 ?_
          refine v_icmp_eqN h dX7_copy_73 (tgt := 82) (by decide) (by first | (have := hsr j0; omega) | (have := hsr j1; omega)) (by first | (have := hsr j0; omega) | (have := hsr j1; omega)) (fun c73 => ?_) (fun c73 => ?_)
          · refine v_aload_n0 h dX7_copy_82 ?_
            refine v_get h mw_X7 0 rfl rfl 3 (by decide) mf_X7_35 rfl dX7_copy_83 ?_
            refine v_iload_n1 h dX7_copy_86 ?_
            refine v_iload_n2 h dX7_copy_87 ?_
            refine v_iload5 h dX7_copy_88 ?_
            refine cw_V_1_2_3_4_5_6_7_8_9_3_i (ci := 3) h (c_X3_hasCells (g := g) (by first | assumption | omega)) lk_X7_241 ⟨rfl, rfl, (Nat.le_of_ble_eq_true rfl), (Nat.le_of_ble_eq_true rfl)⟩ rfl rfl rfl (Nat.le_of_ble_eq_true rfl) dX7_copy_90 ?_
            refine v_if_eqB h dX7_copy_93 (tgt := 111) (by decide) (fun c93 => ?_) (fun c93 => ?_)
            · refine v_aload_n0 h dX7_copy_111 ?_
              refine v_iconst h (v := nI 3) dX7_copy_112 (by decide) ?_
              refine cw_V_0_1_i (ci := 6) h (c_X7_faulty (g := g)) lk_X7_74 ⟨rfl, rfl, (Nat.le_of_ble_eq_true rfl), (Nat.le_of_ble_eq_true rfl)⟩ rfl rfl rfl (Nat.le_of_ble_eq_true rfl) dX7_copy_113 ?_
              exact v_iretP h hr dX7_copy_116 (P_X7_copy_mk (q := (-10 - nI 3, 3, cc)) (by simp only [s_copy, e13, e24, if_neg (show ¬ fil j0 = false by rw [c37]; decide), if_neg (show ¬ fil j1 = false by rw [c48]; decide), if_pos c73, if_neg (show ¬ hcB (fil j0) (len j0) p1 p4 = true by rw [c93]; decide)]) ) rfl
            · refine v_aload_n0 h dX7_copy_96 ?_
              refine v_get h mw_X7 0 rfl rfl 3 (by decide) mf_X7_35 rfl dX7_copy_97 ?_
              refine v_iload_n3 h dX7_copy_100 ?_
              refine v_iload4 h dX7_copy_101 ?_
              refine v_iload5 h dX7_copy_103 ?_
              refine cw_V_1_2_3_4_5_6_7_8_9_3_i (ci := 3) h (c_X3_hasCells (g := g) (by first | assumption | omega)) lk_X7_241 ⟨rfl, rfl, (Nat.le_of_ble_eq_true rfl), (Nat.le_of_ble_eq_true rfl)⟩ rfl rfl rfl (Nat.le_of_ble_eq_true rfl) dX7_copy_105 ?_
              refine v_if_neB h dX7_copy_108 (tgt := 117) (by decide) (fun c108 => ?_) (fun c108 => ?_)
              · have c93q := c93
                have c108q := c108
                obtain ⟨h91, i9, n9, rfl, rfl, h92⟩ := hcB_of (hln j0) c93q
                obtain ⟨h93, j9, n8, rfl, h98, h94⟩ := hcB_of (hln j1) c108q
                have hl9 := hln j0
                have hl8 := hln j1
                have h95 : n9 = n8 := by
                  rcases Nat.lt_or_ge n8 (2 ^ 31) with q | q
                  · exact (nI_eq (by omega) q).mp h98
                  · omega
                subst h95
                refine v_aload_n0 h dX7_copy_117 ?_
                refine v_get h mw_X7 0 rfl rfl 3 (by decide) mf_X7_35 rfl dX7_copy_118 ?_
                refine v_iload_n1 h dX7_copy_121 ?_
                refine v_iload_n2 h dX7_copy_122 ?_
                refine v_iload_n3 h dX7_copy_123 ?_
                refine v_iload4 h dX7_copy_124 ?_
                refine v_iload5 h dX7_copy_126 ?_
                refine cw_V_1_2_3_4_5_6_7_8_9_5_v (ci := 3) h (c_X3_copyCells (g := g) (by first | assumption | omega) (by first | assumption | omega) (by first | assumption | omega) (by exact hln j0) (by first | assumption | omega) (by exact hln j1) (by first | assumption | omega) (by first | assumption | omega)) lk_X7_250 ⟨rfl, rfl, (Nat.le_of_ble_eq_true rfl), (Nat.le_of_ble_eq_true rfl)⟩ rfl rfl rfl (Nat.le_of_ble_eq_true rfl) dX7_copy_128 ?_
                refine v_iload5 h dX7_copy_131 ?_
                exact v_iretP h hr dX7_copy_133 (P_X7_copy_mk (q := (nI n9, 0, upr cc j1 (va_cpy (cc j0) (cc j1) i9 j9 n9))) (by simp only [s_copy, e13, e24, if_neg (show ¬ fil j0 = false by rw [c37]; decide), if_neg (show ¬ fil j1 = false by rw [c48]; decide), if_pos c73, if_pos c93, if_pos c108, tn_N (show i9 < 2 ^ 31 by omega), tn_N (show j9 < 2 ^ 31 by omega), tn_N (show n9 < 2 ^ 31 by omega)]) ) rfl
              · refine v_aload_n0 h dX7_copy_111 ?_
                refine v_iconst h (v := nI 3) dX7_copy_112 (by decide) ?_
                refine cw_V_0_1_i (ci := 6) h (c_X7_faulty (g := g)) lk_X7_74 ⟨rfl, rfl, (Nat.le_of_ble_eq_true rfl), (Nat.le_of_ble_eq_true rfl)⟩ rfl rfl rfl (Nat.le_of_ble_eq_true rfl) dX7_copy_113 ?_
                exact v_iretP h hr dX7_copy_116 (P_X7_copy_mk (q := (-10 - nI 3, 3, cc)) (by simp only [s_copy, e13, e24, if_neg (show ¬ fil j0 = false by rw [c37]; decide), if_neg (show ¬ fil j1 = false by rw [c48]; decide), if_pos c73, if_pos c93, if_neg (show ¬ hcB (fil j1) (len j1) p3 p4 = true by rw [c108]; decide)]) ) rfl
          · refine v_aload_n0 h dX7_copy_76 ?_
            refine v_iconst h (v := nI 2) dX7_copy_77 (by decide) ?_
            refine cw_V_0_1_i (ci := 6) h (c_X7_faulty (g := g)) lk_X7_74 ⟨rfl, rfl, (Nat.le_of_ble_eq_true rfl), (Nat.le_of_ble_eq_true rfl)⟩ rfl rfl rfl (Nat.le_of_ble_eq_true rfl) dX7_copy_78 ?_
            exact v_iretP h hr dX7_copy_81 (P_X7_copy_mk (q := (-10 - nI 2, 2, cc)) (by simp only [s_copy, e13, e24, if_neg (show ¬ fil j0 = false by rw [c37]; decide), if_neg (show ¬ fil j1 = false by rw [c48]; decide), if_neg c73]) ) rfl
        · refine v_aload_n0 h dX7_copy_51 ?_
          refine v_iconst h (v := nI 1) dX7_copy_52 (by decide) ?_
          refine cw_V_0_1_i (ci := 6) h (c_X7_faulty (g := g)) lk_X7_74 ⟨rfl, rfl, (Nat.le_of_ble_eq_true rfl), (Nat.le_of_ble_eq_true rfl)⟩ rfl rfl rfl (Nat.le_of_ble_eq_true rfl) dX7_copy_53 ?_
          exact v_iretP h hr dX7_copy_56 (P_X7_copy_mk (q := (-10 - nI 1, 1, cc)) (by simp only [s_copy, e13, e24, if_neg (show ¬ fil j0 = false by rw [c37]; decide), if_pos c48]) ) rfl
    · have e24 := rN_f c24
      refine v_iconst h (v := -1) dX7_copy_27 (by decide) ?_
      exact v_iretP h hr dX7_copy_28 (P_X7_copy_mk (q := (-1, 0, cc)) (by simp only [s_copy, e13, e24]) ) rfl
