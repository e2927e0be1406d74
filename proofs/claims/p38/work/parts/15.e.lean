theorem pf_X7_60_at0 {x : vX} {g : vG} {cc : ByteArray} {rm : Room} {nL pc : Nat} {lv : List (Option Value)} {st : List Value} {wt : va_W} {a : Nat} {f0 f1 f2 f3 f4 f5 f6 f7 f8 : Value} {v : Int32} (h : Ok x g cc RX7 rm nL) (hd : decode cc pc = .ok (.putfield 60, 3)) (k : vM x (pc + 3) lv st ((a, .inr (6, [f0, f1, f2, f3, f4, f5, f6, f7, .int v])) :: wt)) : vM x pc lv (.int v :: .ref a :: st) ((a, .inr (6, [f0, f1, f2, f3, f4, f5, f6, f7, f8])) :: wt) := v_put h mw_X7 tyX7 tyX7_ok nmX7 0 rfl rfl 8 (by decide) mf_X7_60 rfl (ty := .int) (by decide +kernel) rfl rfl (Nat.le_of_ble_eq_true rfl) hd rfl k
theorem cw_V_1_2_1_i {x : vX} {g : vG} {cc : ByteArray} {own : String} {rm : Room} {nL pc : Nat} {lv : List (Option Value)} {st : List Value} {w0 : Nat × va_E} {wt : va_W} {c0 c1 d0 d1 : Nat × va_E} {idx : Nat} {y : MethodName} {bytes : ByteArray} {ml : Nat} {ret : Option FieldType} {rmc : Room} {r : Int32} {p0 : Value} {a ci : Nat} {q : vw_C} {fs : List Value} (h : Ok x g cc own rm nL) (hc : Ct g y bytes ml ret rmc [c0, c1] [.ref a, p0] (some (.int r)) [d0, d1]) (lk : LkV own idx y bytes ml ret 1) (hrm : RmOk rmc rm ml) (hcl : vwCl[ci]? = some q) (hq : y.cls = q.1) (h0 : c0 = (a, .inr (ci, fs))) (hW : (st.map fun v => v.category).sum ≤ 8) (hd : decode cc pc = .ok (.invokevirtual idx, 3)) (k : vM x (pc + 3) lv (.int r :: st) (w0 :: d0 :: d1 :: wt)) : vM x pc lv (p0 :: .ref a :: st) (w0 :: c0 :: c1 :: wt) := v_callV (As := [p0]) (rest := st) h hc lk hrm hcl hq (by rw [h0]; rfl) rfl [1, 2] rfl (by decide) hW hd rfl k
theorem lk_X7_96 : LkV RX7 96 yX6_has cX6_has 2 (some .boolean) 1 := ⟨ml_X7_96, mn_X6_has, mv_X6_has, mi_X6, mc_X6_has, ⟨by decide, by decide, by decide +kernel⟩⟩
theorem lk_X7_97 : LkV RX7 97 yX6_weightOf cX6_weightOf 2 (some .int) 1 := ⟨ml_X7_97, mn_X6_weightOf, mv_X6_weightOf, mi_X6, mc_X6_weightOf, ⟨by decide, by decide, by decide +kernel⟩⟩
theorem cw_V_1_2_2_v {x : vX} {g : vG} {cc : ByteArray} {own : String} {rm : Room} {nL pc : Nat} {lv : List (Option Value)} {st : List Value} {w0 : Nat × va_E} {wt : va_W} {c0 c1 d0 d1 : Nat × va_E} {idx : Nat} {y : MethodName} {bytes : ByteArray} {ml : Nat} {ret : Option FieldType} {rmc : Room} {p0 p1 : Value} {a ci : Nat} {q : vw_C} {fs : List Value} (h : Ok x g cc own rm nL) (hc : Ct g y bytes ml ret rmc [c0, c1] [.ref a, p0, p1] none [d0, d1]) (lk : LkV own idx y bytes ml ret 2) (hrm : RmOk rmc rm ml) (hcl : vwCl[ci]? = some q) (hq : y.cls = q.1) (h0 : c0 = (a, .inr (ci, fs))) (hW : (st.map fun v => v.category).sum ≤ 8) (hd : decode cc pc = .ok (.invokevirtual idx, 3)) (k : vM x (pc + 3) lv (st) (w0 :: d0 :: d1 :: wt)) : vM x pc lv (p1 :: p0 :: .ref a :: st) (w0 :: c0 :: c1 :: wt) := v_callV (As := [p0, p1]) (rest := st) h hc lk hrm hcl hq (by rw [h0]; rfl) rfl [1, 2] rfl (by decide) hW hd rfl k
theorem lk_X7_100 : LkV RX7 100 yX6_setWeight cX6_setWeight 3 none 2 := ⟨ml_X7_100, mn_X6_setWeight, mv_X6_setWeight, mi_X6, mc_X6_setWeight, ⟨by decide, by decide, by decide +kernel⟩⟩
theorem lk_X7_104 : LkS RX7 104 yX7_isKind cX7_isKind 1 (some .boolean) 1 := ⟨ml_X7_104, ms_X7_isKind, mi_X7, mc_X7_isKind, ⟨by decide, by decide, by decide +kernel⟩⟩
theorem cw_V_1_2_0_i {x : vX} {g : vG} {cc : ByteArray} {own : String} {rm : Room} {nL pc : Nat} {lv : List (Option Value)} {st : List Value} {w0 : Nat × va_E} {wt : va_W} {c0 c1 d0 d1 : Nat × va_E} {idx : Nat} {y : MethodName} {bytes : ByteArray} {ml : Nat} {ret : Option FieldType} {rmc : Room} {r : Int32} {a ci : Nat} {q : vw_C} {fs : List Value} (h : Ok x g cc own rm nL) (hc : Ct g y bytes ml ret rmc [c0, c1] [.ref a] (some (.int r)) [d0, d1]) (lk : LkV own idx y bytes ml ret 0) (hrm : RmOk rmc rm ml) (hcl : vwCl[ci]? = some q) (hq : y.cls = q.1) (h0 : c0 = (a, .inr (ci, fs))) (hW : (st.map fun v => v.category).sum ≤ 8) (hd : decode cc pc = .ok (.invokevirtual idx, 3)) (k : vM x (pc + 3) lv (.int r :: st) (w0 :: d0 :: d1 :: wt)) : vM x pc lv (.ref a :: st) (w0 :: c0 :: c1 :: wt) := v_callV (As := []) (rest := st) h hc lk hrm hcl hq (by rw [h0]; rfl) rfl [1, 2] rfl (by decide) hW hd rfl k
theorem lk_X7_92 : LkV RX7 92 yX6_count cX6_count 1 (some .int) 0 := ⟨ml_X7_92, mn_X6_count, mv_X6_count, mi_X6, mc_X6_count, ⟨by decide, by decide, by decide +kernel⟩⟩
theorem cw_V_3_4_5_2_i {x : vX} {g : vG} {cc : ByteArray} {own : String} {rm : Room} {nL pc : Nat} {lv : List (Option Value)} {st : List Value} {w0 w1 w2 : Nat × va_E} {wt : va_W} {c0 c1 c2 d0 d1 d2 : Nat × va_E} {idx : Nat} {y : MethodName} {bytes : ByteArray} {ml : Nat} {ret : Option FieldType} {rmc : Room} {r : Int32} {p0 p1 : Value} {a ci : Nat} {q : vw_C} {fs : List Value} (h : Ok x g cc own rm nL) (hc : Ct g y bytes ml ret rmc [c0, c1, c2] [.ref a, p0, p1] (some (.int r)) [d0, d1, d2]) (lk : LkV own idx y bytes ml ret 2) (hrm : RmOk rmc rm ml) (hcl : vwCl[ci]? = some q) (hq : y.cls = q.1) (h0 : c0 = (a, .inr (ci, fs))) (hW : (st.map fun v => v.category).sum ≤ 8) (hd : decode cc pc = .ok (.invokevirtual idx, 3)) (k : vM x (pc + 3) lv (.int r :: st) (w0 :: w1 :: w2 :: d0 :: d1 :: d2 :: wt)) : vM x pc lv (p1 :: p0 :: .ref a :: st) (w0 :: w1 :: w2 :: c0 :: c1 :: c2 :: wt) := v_callV (As := [p0, p1]) (rest := st) h hc lk hrm hcl hq (by rw [h0]; rfl) rfl [3, 4, 5] rfl (by decide) hW hd rfl k
theorem lk_X7_107 : LkV RX7 107 yX1_add cX1_add 3 (some .int) 2 := ⟨ml_X7_107, mn_X1_add, mv_X1_add, mi_X1, mc_X1_add, ⟨by decide, by decide, by decide +kernel⟩⟩
theorem cw_V_1_2_3_1_i {x : vX} {g : vG} {cc : ByteArray} {own : String} {rm : Room} {nL pc : Nat} {lv : List (Option Value)} {st : List Value} {w0 : Nat × va_E} {wt : va_W} {c0 c1 c2 d0 d1 d2 : Nat × va_E} {idx : Nat} {y : MethodName} {bytes : ByteArray} {ml : Nat} {ret : Option FieldType} {rmc : Room} {r : Int32} {p0 : Value} {a ci : Nat} {q : vw_C} {fs : List Value} (h : Ok x g cc own rm nL) (hc : Ct g y bytes ml ret rmc [c0, c1, c2] [.ref a, p0] (some (.int r)) [d0, d1, d2]) (lk : LkV own idx y bytes ml ret 1) (hrm : RmOk rmc rm ml) (hcl : vwCl[ci]? = some q) (hq : y.cls = q.1) (h0 : c0 = (a, .inr (ci, fs))) (hW : (st.map fun v => v.category).sum ≤ 8) (hd : decode cc pc = .ok (.invokevirtual idx, 3)) (k : vM x (pc + 3) lv (.int r :: st) (w0 :: d0 :: d1 :: d2 :: wt)) : vM x pc lv (p0 :: .ref a :: st) (w0 :: c0 :: c1 :: c2 :: wt) := v_callV (As := [p0]) (rest := st) h hc lk hrm hcl hq (by rw [h0]; rfl) rfl [1, 2, 3] rfl (by decide) hW hd rfl k
theorem lk_X7_111 : LkV RX7 111 yX1_has cX1_has 2 (some .boolean) 1 := ⟨ml_X7_111, mn_X1_has, mv_X1_has, mi_X1, mc_X1_has, ⟨by decide, by decide, by decide +kernel⟩⟩
theorem cw_V_1_2_3_3_i {x : vX} {g : vG} {cc : ByteArray} {own : String} {rm : Room} {nL pc : Nat} {lv : List (Option Value)} {st : List Value} {w0 : Nat × va_E} {wt : va_W} {c0 c1 c2 d0 d1 d2 : Nat × va_E} {idx : Nat} {y : MethodName} {bytes : ByteArray} {ml : Nat} {ret : Option FieldType} {rmc : Room} {r : Int32} {p0 p1 p2 : Value} {a ci : Nat} {q : vw_C} {fs : List Value} (h : Ok x g cc own rm nL) (hc : Ct g y bytes ml ret rmc [c0, c1, c2] [.ref a, p0, p1, p2] (some (.int r)) [d0, d1, d2]) (lk : LkV own idx y bytes ml ret 3) (hrm : RmOk rmc rm ml) (hcl : vwCl[ci]? = some q) (hq : y.cls = q.1) (h0 : c0 = (a, .inr (ci, fs))) (hW : (st.map fun v => v.category).sum ≤ 8) (hd : decode cc pc = .ok (.invokevirtual idx, 3)) (k : vM x (pc + 3) lv (.int r :: st) (w0 :: d0 :: d1 :: d2 :: wt)) : vM x pc lv (p2 :: p1 :: p0 :: .ref a :: st) (w0 :: c0 :: c1 :: c2 :: wt) := v_callV (As := [p0, p1, p2]) (rest := st) h hc lk hrm hcl hq (by rw [h0]; rfl) rfl [1, 2, 3] rfl (by decide) hW hd rfl k
theorem lk_X7_121 : LkV RX7 121 yX1_feelsHeavier cX1_feelsHeavier 5 (some .boolean) 3 := ⟨ml_X7_121, mn_X1_feelsHeavier, mv_X1_feelsHeavier, mi_X1, mc_X1_feelsHeavier, ⟨by decide, by decide, by decide +kernel⟩⟩
theorem cw_V_3_4_5_1_i {x : vX} {g : vG} {cc : ByteArray} {own : String} {rm : Room} {nL pc : Nat} {lv : List (Option Value)} {st : List Value} {w0 w1 w2 : Nat × va_E} {wt : va_W} {c0 c1 c2 d0 d1 d2 : Nat × va_E} {idx : Nat} {y : MethodName} {bytes : ByteArray} {ml : Nat} {ret : Option FieldType} {rmc : Room} {r : Int32} {p0 : Value} {a ci : Nat} {q : vw_C} {fs : List Value} (h : Ok x g cc own rm nL) (hc : Ct g y bytes ml ret rmc [c0, c1, c2] [.ref a, p0] (some (.int r)) [d0, d1, d2]) (lk : LkV own idx y bytes ml ret 1) (hrm : RmOk rmc rm ml) (hcl : vwCl[ci]? = some q) (hq : y.cls = q.1) (h0 : c0 = (a, .inr (ci, fs))) (hW : (st.map fun v => v.category).sum ≤ 8) (hd : decode cc pc = .ok (.invokevirtual idx, 3)) (k : vM x (pc + 3) lv (.int r :: st) (w0 :: w1 :: w2 :: d0 :: d1 :: d2 :: wt)) : vM x pc lv (p0 :: .ref a :: st) (w0 :: w1 :: w2 :: c0 :: c1 :: c2 :: wt) := v_callV (As := [p0]) (rest := st) h hc lk hrm hcl hq (by rw [h0]; rfl) rfl [3, 4, 5] rfl (by decide) hW hd rfl k
theorem cw_V_6_7_8_9_3_4_5_1_2_3_v {x : vX} {g : vG} {cc : ByteArray} {own : String} {rm : Room} {nL pc : Nat} {lv : List (Option Value)} {st : List Value} {w0 : Nat × va_E} {wt : va_W} {c0 c1 c2 c3 c4 c5 c6 c7 c8 d0 d1 d2 d3 d4 d5 d6 d7 d8 : Nat × va_E} {idx : Nat} {y : MethodName} {bytes : ByteArray} {ml : Nat} {ret : Option FieldType} {rmc : Room} {p0 p1 p2 : Value} {a ci : Nat} {q : vw_C} {fs : List Value} (h : Ok x g cc own rm nL) (hc : Ct g y bytes ml ret rmc [c0, c1, c2, c3, c4, c5, c6, c7, c8] [.ref a, p0, p1, p2] none [d0, d1, d2, d3, d4, d5, d6, d7, d8]) (lk : LkV own idx y bytes ml ret 3) (hrm : RmOk rmc rm ml) (hcl : vwCl[ci]? = some q) (hq : y.cls = q.1) (h0 : c0 = (a, .inr (ci, fs))) (hW : (st.map fun v => v.category).sum ≤ 8) (hd : decode cc pc = .ok (.invokevirtual idx, 3)) (k : vM x (pc + 3) lv (st) (w0 :: d7 :: d8 :: d4 :: d5 :: d6 :: d0 :: d1 :: d2 :: d3 :: wt)) : vM x pc lv (p2 :: p1 :: p0 :: .ref a :: st) (w0 :: c7 :: c8 :: c4 :: c5 :: c6 :: c0 :: c1 :: c2 :: c3 :: wt) := v_callV (As := [p0, p1, p2]) (rest := st) h hc lk hrm hcl hq (by rw [h0]; rfl) rfl [6, 7, 8, 9, 3, 4, 5, 1, 2] rfl (by decide) hW hd rfl k
theorem lk_X7_125 : LkV RX7 125 yX4_lay cX4_lay 6 none 3 := ⟨ml_X7_125, mn_X4_lay, mv_X4_lay, mi_X4, mc_X4_lay, ⟨by decide, by decide, by decide +kernel⟩⟩
theorem cw_V_6_7_8_9_1_i {x : vX} {g : vG} {cc : ByteArray} {own : String} {rm : Room} {nL pc : Nat} {lv : List (Option Value)} {st : List Value} {w0 w1 w2 w3 w4 w5 : Nat × va_E} {wt : va_W} {c0 c1 c2 c3 d0 d1 d2 d3 : Nat × va_E} {idx : Nat} {y : MethodName} {bytes : ByteArray} {ml : Nat} {ret : Option FieldType} {rmc : Room} {r : Int32} {p0 : Value} {a ci : Nat} {q : vw_C} {fs : List Value} (h : Ok x g cc own rm nL) (hc : Ct g y bytes ml ret rmc [c0, c1, c2, c3] [.ref a, p0] (some (.int r)) [d0, d1, d2, d3]) (lk : LkV own idx y bytes ml ret 1) (hrm : RmOk rmc rm ml) (hcl : vwCl[ci]? = some q) (hq : y.cls = q.1) (h0 : c0 = (a, .inr (ci, fs))) (hW : (st.map fun v => v.category).sum ≤ 8) (hd : decode cc pc = .ok (.invokevirtual idx, 3)) (k : vM x (pc + 3) lv (.int r :: st) (w0 :: w1 :: w2 :: w3 :: w4 :: w5 :: d0 :: d1 :: d2 :: d3 :: wt)) : vM x pc lv (p0 :: .ref a :: st) (w0 :: w1 :: w2 :: w3 :: w4 :: w5 :: c0 :: c1 :: c2 :: c3 :: wt) := v_callV (As := [p0]) (rest := st) h hc lk hrm hcl hq (by rw [h0]; rfl) rfl [6, 7, 8, 9] rfl (by decide) hW hd rfl k
theorem lk_X7_129 : LkV RX7 129 yX4_alikeTo cX4_alikeTo 2 (some .int) 1 := ⟨ml_X7_129, mn_X4_alikeTo, mv_X4_alikeTo, mi_X4, mc_X4_alikeTo, ⟨by decide, by decide, by decide +kernel⟩⟩
theorem cw_V_10_11_12_13_3_4_5_1_2_3_v {x : vX} {g : vG} {cc : ByteArray} {own : String} {rm : Room} {nL pc : Nat} {lv : List (Option Value)} {st : List Value} {w0 w6 w7 w8 w9 : Nat × va_E} {wt : va_W} {c0 c1 c2 c3 c4 c5 c6 c7 c8 d0 d1 d2 d3 d4 d5 d6 d7 d8 : Nat × va_E} {idx : Nat} {y : MethodName} {bytes : ByteArray} {ml : Nat} {ret : Option FieldType} {rmc : Room} {p0 p1 p2 : Value} {a ci : Nat} {q : vw_C} {fs : List Value} (h : Ok x g cc own rm nL) (hc : Ct g y bytes ml ret rmc [c0, c1, c2, c3, c4, c5, c6, c7, c8] [.ref a, p0, p1, p2] none [d0, d1, d2, d3, d4, d5, d6, d7, d8]) (lk : LkV own idx y bytes ml ret 3) (hrm : RmOk rmc rm ml) (hcl : vwCl[ci]? = some q) (hq : y.cls = q.1) (h0 : c0 = (a, .inr (ci, fs))) (hW : (st.map fun v => v.category).sum ≤ 8) (hd : decode cc pc = .ok (.invokevirtual idx, 3)) (k : vM x (pc + 3) lv (st) (w0 :: d7 :: d8 :: d4 :: d5 :: d6 :: w6 :: w7 :: w8 :: w9 :: d0 :: d1 :: d2 :: d3 :: wt)) : vM x pc lv (p2 :: p1 :: p0 :: .ref a :: st) (w0 :: c7 :: c8 :: c4 :: c5 :: c6 :: w6 :: w7 :: w8 :: w9 :: c0 :: c1 :: c2 :: c3 :: wt) := v_callV (As := [p0, p1, p2]) (rest := st) h hc lk hrm hcl hq (by rw [h0]; rfl) rfl [10, 11, 12, 13, 3, 4, 5, 1, 2] rfl (by decide) hW hd rfl k
theorem cw_V_6_7_8_9_10_11_12_13_1_i {x : vX} {g : vG} {cc : ByteArray} {own : String} {rm : Room} {nL pc : Nat} {lv : List (Option Value)} {st : List Value} {w0 w1 w2 w3 w4 w5 : Nat × va_E} {wt : va_W} {c0 c1 c2 c3 c4 c5 c6 c7 d0 d1 d2 d3 d4 d5 d6 d7 : Nat × va_E} {idx : Nat} {y : MethodName} {bytes : ByteArray} {ml : Nat} {ret : Option FieldType} {rmc : Room} {r : Int32} {p0 : Value} {a ci : Nat} {q : vw_C} {fs : List Value} (h : Ok x g cc own rm nL) (hc : Ct g y bytes ml ret rmc [c0, c1, c2, c3, c4, c5, c6, c7] [.ref a, p0] (some (.int r)) [d0, d1, d2, d3, d4, d5, d6, d7]) (lk : LkV own idx y bytes ml ret 1) (hrm : RmOk rmc rm ml) (hcl : vwCl[ci]? = some q) (hq : y.cls = q.1) (h0 : c0 = (a, .inr (ci, fs))) (hW : (st.map fun v => v.category).sum ≤ 8) (hd : decode cc pc = .ok (.invokevirtual idx, 3)) (k : vM x (pc + 3) lv (.int r :: st) (w0 :: w1 :: w2 :: w3 :: w4 :: w5 :: d0 :: d1 :: d2 :: d3 :: d4 :: d5 :: d6 :: d7 :: wt)) : vM x pc lv (p0 :: .ref a :: st) (w0 :: w1 :: w2 :: w3 :: w4 :: w5 :: c0 :: c1 :: c2 :: c3 :: c4 :: c5 :: c6 :: c7 :: wt) := v_callV (As := [p0]) (rest := st) h hc lk hrm hcl hq (by rw [h0]; rfl) rfl [6, 7, 8, 9, 10, 11, 12, 13] rfl (by decide) hW hd rfl k
theorem lk_X7_132 : LkV RX7 132 yX4_isFinerThan cX4_isFinerThan 4 (some .boolean) 1 := ⟨ml_X7_132, mn_X4_isFinerThan, mv_X4_isFinerThan, mi_X4, mc_X4_isFinerThan, ⟨by decide, by decide, by decide +kernel⟩⟩
theorem cw_V_6_7_8_9_3_i {x : vX} {g : vG} {cc : ByteArray} {own : String} {rm : Room} {nL pc : Nat} {lv : List (Option Value)} {st : List Value} {w0 w1 w2 w3 w4 w5 : Nat × va_E} {wt : va_W} {c0 c1 c2 c3 d0 d1 d2 d3 : Nat × va_E} {idx : Nat} {y : MethodName} {bytes : ByteArray} {ml : Nat} {ret : Option FieldType} {rmc : Room} {r : Int32} {p0 p1 p2 : Value} {a ci : Nat} {q : vw_C} {fs : List Value} (h : Ok x g cc own rm nL) (hc : Ct g y bytes ml ret rmc [c0, c1, c2, c3] [.ref a, p0, p1, p2] (some (.int r)) [d0, d1, d2, d3]) (lk : LkV own idx y bytes ml ret 3) (hrm : RmOk rmc rm ml) (hcl : vwCl[ci]? = some q) (hq : y.cls = q.1) (h0 : c0 = (a, .inr (ci, fs))) (hW : (st.map fun v => v.category).sum ≤ 8) (hd : decode cc pc = .ok (.invokevirtual idx, 3)) (k : vM x (pc + 3) lv (.int r :: st) (w0 :: w1 :: w2 :: w3 :: w4 :: w5 :: d0 :: d1 :: d2 :: d3 :: wt)) : vM x pc lv (p2 :: p1 :: p0 :: .ref a :: st) (w0 :: w1 :: w2 :: w3 :: w4 :: w5 :: c0 :: c1 :: c2 :: c3 :: wt) := v_callV (As := [p0, p1, p2]) (rest := st) h hc lk hrm hcl hq (by rw [h0]; rfl) rfl [6, 7, 8, 9] rfl (by decide) hW hd rfl k
theorem lk_X7_139 : LkV RX7 139 yX4_behindSwaps cX4_behindSwaps 7 (some .int) 3 := ⟨ml_X7_139, mn_X4_behindSwaps, mv_X4_behindSwaps, mi_X4, mc_X4_behindSwaps, ⟨by decide, by decide, by decide +kernel⟩⟩
theorem cw_V_6_7_8_9_2_i {x : vX} {g : vG} {cc : ByteArray} {own : String} {rm : Room} {nL pc : Nat} {lv : List (Option Value)} {st : List Value} {w0 w1 w2 w3 w4 w5 : Nat × va_E} {wt : va_W} {c0 c1 c2 c3 d0 d1 d2 d3 : Nat × va_E} {idx : Nat} {y : MethodName} {bytes : ByteArray} {ml : Nat} {ret : Option FieldType} {rmc : Room} {r : Int32} {p0 p1 : Value} {a ci : Nat} {q : vw_C} {fs : List Value} (h : Ok x g cc own rm nL) (hc : Ct g y bytes ml ret rmc [c0, c1, c2, c3] [.ref a, p0, p1] (some (.int r)) [d0, d1, d2, d3]) (lk : LkV own idx y bytes ml ret 2) (hrm : RmOk rmc rm ml) (hcl : vwCl[ci]? = some q) (hq : y.cls = q.1) (h0 : c0 = (a, .inr (ci, fs))) (hW : (st.map fun v => v.category).sum ≤ 8) (hd : decode cc pc = .ok (.invokevirtual idx, 3)) (k : vM x (pc + 3) lv (.int r :: st) (w0 :: w1 :: w2 :: w3 :: w4 :: w5 :: d0 :: d1 :: d2 :: d3 :: wt)) : vM x pc lv (p1 :: p0 :: .ref a :: st) (w0 :: w1 :: w2 :: w3 :: w4 :: w5 :: c0 :: c1 :: c2 :: c3 :: wt) := v_callV (As := [p0, p1]) (rest := st) h hc lk hrm hcl hq (by rw [h0]; rfl) rfl [6, 7, 8, 9] rfl (by decide) hW hd rfl k
theorem lk_X7_136 : LkV RX7 136 yX4_fewestSwaps cX4_fewestSwaps 4 (some .int) 2 := ⟨ml_X7_136, mn_X4_fewestSwaps, mv_X4_fewestSwaps, mi_X4, mc_X4_fewestSwaps, ⟨by decide, by decide, by decide +kernel⟩⟩
theorem lk_X7_143 : LkV RX7 143 yX4_within cX4_within 5 (some .int) 2 := ⟨ml_X7_143, mn_X4_within, mv_X4_within, mi_X4, mc_X4_within, ⟨by decide, by decide, by decide +kernel⟩⟩
theorem cw_V_3_4_5_6_1_i {x : vX} {g : vG} {cc : ByteArray} {own : String} {rm : Room} {nL pc : Nat} {lv : List (Option Value)} {st : List Value} {w0 w1 w2 : Nat × va_E} {wt : va_W} {c0 c1 c2 c3 d0 d1 d2 d3 : Nat × va_E} {idx : Nat} {y : MethodName} {bytes : ByteArray} {ml : Nat} {ret : Option FieldType} {rmc : Room} {r : Int32} {p0 : Value} {a ci : Nat} {q : vw_C} {fs : List Value} (h : Ok x g cc own rm nL) (hc : Ct g y bytes ml ret rmc [c0, c1, c2, c3] [.ref a, p0] (some (.int r)) [d0, d1, d2, d3]) (lk : LkV own idx y bytes ml ret 1) (hrm : RmOk rmc rm ml) (hcl : vwCl[ci]? = some q) (hq : y.cls = q.1) (h0 : c0 = (a, .inr (ci, fs))) (hW : (st.map fun v => v.category).sum ≤ 8) (hd : decode cc pc = .ok (.invokevirtual idx, 3)) (k : vM x (pc + 3) lv (.int r :: st) (w0 :: w1 :: w2 :: d0 :: d1 :: d2 :: d3 :: wt)) : vM x pc lv (p0 :: .ref a :: st) (w0 :: w1 :: w2 :: c0 :: c1 :: c2 :: c3 :: wt) := v_callV (As := [p0]) (rest := st) h hc lk hrm hcl hq (by rw [h0]; rfl) rfl [3, 4, 5, 6] rfl (by decide) hW hd rfl k
theorem cw_V_7_8_9_10_1_i {x : vX} {g : vG} {cc : ByteArray} {own : String} {rm : Room} {nL pc : Nat} {lv : List (Option Value)} {st : List Value} {w0 w1 w2 w3 w4 w5 w6 : Nat × va_E} {wt : va_W} {c0 c1 c2 c3 d0 d1 d2 d3 : Nat × va_E} {idx : Nat} {y : MethodName} {bytes : ByteArray} {ml : Nat} {ret : Option FieldType} {rmc : Room} {r : Int32} {p0 : Value} {a ci : Nat} {q : vw_C} {fs : List Value} (h : Ok x g cc own rm nL) (hc : Ct g y bytes ml ret rmc [c0, c1, c2, c3] [.ref a, p0] (some (.int r)) [d0, d1, d2, d3]) (lk : LkV own idx y bytes ml ret 1) (hrm : RmOk rmc rm ml) (hcl : vwCl[ci]? = some q) (hq : y.cls = q.1) (h0 : c0 = (a, .inr (ci, fs))) (hW : (st.map fun v => v.category).sum ≤ 8) (hd : decode cc pc = .ok (.invokevirtual idx, 3)) (k : vM x (pc + 3) lv (.int r :: st) (w0 :: w1 :: w2 :: w3 :: w4 :: w5 :: w6 :: d0 :: d1 :: d2 :: d3 :: wt)) : vM x pc lv (p0 :: .ref a :: st) (w0 :: w1 :: w2 :: w3 :: w4 :: w5 :: w6 :: c0 :: c1 :: c2 :: c3 :: wt) := v_callV (As := [p0]) (rest := st) h hc lk hrm hcl hq (by rw [h0]; rfl) rfl [7, 8, 9, 10] rfl (by decide) hW hd rfl k
theorem lk_X7_152 : LkV RX7 152 yX4_lighterThan cX4_lighterThan 2 (some .int) 1 := ⟨ml_X7_152, mn_X4_lighterThan, mv_X4_lighterThan, mi_X4, mc_X4_lighterThan, ⟨by decide, by decide, by decide +kernel⟩⟩
theorem lk_X7_112 : LkS RX7 112 yX7_isFirstOrSecond cX7_isFirstOrSecond 1 (some .boolean) 1 := ⟨ml_X7_112, ms_X7_isFirstOrSecond, mi_X7, mc_X7_isFirstOrSecond, ⟨by decide, by decide, by decide +kernel⟩⟩
theorem cw_V_0_1_2_6_7_8_9_10_11_12_13_1_i {x : vX} {g : vG} {cc : ByteArray} {own : String} {rm : Room} {nL pc : Nat} {lv : List (Option Value)} {st : List Value} {w3 w4 w5 : Nat × va_E} {wt : va_W} {c0 c1 c2 c3 c4 c5 c6 c7 c8 c9 c10 d0 d1 d2 d3 d4 d5 d6 d7 d8 d9 d10 : Nat × va_E} {idx : Nat} {y : MethodName} {bytes : ByteArray} {ml : Nat} {ret : Option FieldType} {rmc : Room} {r : Int32} {p0 : Value} {a ci : Nat} {q : vw_C} {fs : List Value} (h : Ok x g cc own rm nL) (hc : Ct g y bytes ml ret rmc [c0, c1, c2, c3, c4, c5, c6, c7, c8, c9, c10] [.ref a, p0] (some (.int r)) [d0, d1, d2, d3, d4, d5, d6, d7, d8, d9, d10]) (lk : LkV own idx y bytes ml ret 1) (hrm : RmOk rmc rm ml) (hcl : vwCl[ci]? = some q) (hq : y.cls = q.1) (h0 : c0 = (a, .inr (ci, fs))) (hW : (st.map fun v => v.category).sum ≤ 8) (hd : decode cc pc = .ok (.invokevirtual idx, 3)) (k : vM x (pc + 3) lv (.int r :: st) (d0 :: d1 :: d2 :: w3 :: w4 :: w5 :: d3 :: d4 :: d5 :: d6 :: d7 :: d8 :: d9 :: d10 :: wt)) : vM x pc lv (p0 :: .ref a :: st) (c0 :: c1 :: c2 :: w3 :: w4 :: w5 :: c3 :: c4 :: c5 :: c6 :: c7 :: c8 :: c9 :: c10 :: wt) := v_callV (As := [p0]) (rest := st) h hc lk hrm hcl hq (by rw [h0]; rfl) rfl [0, 1, 2, 6, 7, 8, 9, 10, 11, 12, 13] rfl (by decide) hW hd rfl k
theorem lk_X7_146 : LkV RX7 146 yX7_swappedUp cX7_swappedUp 4 (some .int) 1 := ⟨ml_X7_146, mn_X7_swappedUp, mv_X7_swappedUp, mi_X7, mc_X7_swappedUp, ⟨by decide, by decide, by decide +kernel⟩⟩
theorem lk_X7_149 : LkV RX7 149 yX6_greatestOf cX6_greatestOf 4 (some .int) 1 := ⟨ml_X7_149, mn_X6_greatestOf, mv_X6_greatestOf, mi_X6, mc_X6_greatestOf, ⟨by decide, by decide, by decide +kernel⟩⟩
set_option maxRecDepth 20000 in
set_option maxHeartbeats 2000000 in
theorem c_X7_isSort {g : vG} {p : Int32} : Ct g yX7_isSort cX7_isSort 1 (some .boolean) (rmOf 0 0) [] [.int p] (some (.int (nI (bN (wi p 0 2))))) [] := by
  refine Ct.ofV RX7 rfl (by decide +kernel) rfl rfl rfl (Nat.le_of_ble_eq_true rfl) (List.forall_mem_cons.mpr ⟨rfl, (fun _ h9 => absurd h9 List.not_mem_nil)⟩) (fun x h hr => ?_)
  show vM x 0 [some (.int p)] [] []
  refine v_iload_n0 h dX7_isSort_0 ?_
  refine v_if_lt h dX7_isSort_1 (tgt := 13) (by decide) (fun c1 => ?_) (fun c1 => ?_)
  · refine v_iconst h (v := nI 0) dX7_isSort_13 (by decide) ?_
    exact v_zret (v := false) h hr dX7_isSort_14 (by first | exact (wi_f1 (a := 0) c1).symm | exact (wi_f2 (b := 2) c6).symm | exact (wi_t (a := 0) (b := 2) (Int32.not_lt.mp c1) (Int32.not_lt.mp c6)).symm) rfl
  · refine v_iload_n0 h dX7_isSort_4 ?_
    refine v_iconst h (v := nI 2) dX7_isSort_5 (by decide) ?_
    refine v_icmp_gt h dX7_isSort_6 (tgt := 13) (by decide) (fun c6 => ?_) (fun c6 => ?_)
    · refine v_iconst h (v := nI 0) dX7_isSort_13 (by decide) ?_
      exact v_zret (v := false) h hr dX7_isSort_14 (by first | exact (wi_f1 (a := 0) c1).symm | exact (wi_f2 (b := 2) c6).symm | exact (wi_t (a := 0) (b := 2) (Int32.not_lt.mp c1) (Int32.not_lt.mp c6)).symm) rfl
    · refine v_iconst h (v := nI 1) dX7_isSort_9 (by decide) ?_
      refine v_goto h dX7_isSort_10 (tgt := 14) (by decide) ?_
      exact v_zret (v := true) h hr dX7_isSort_14 (by first | exact (wi_f1 (a := 0) c1).symm | exact (wi_f2 (b := 2) c6).symm | exact (wi_t (a := 0) (b := 2) (Int32.not_lt.mp c1) (Int32.not_lt.mp c6)).symm) rfl
set_option maxRecDepth 20000 in
set_option maxHeartbeats 2000000 in
theorem c_X7_isKind {g : vG} {p : Int32} : Ct g yX7_isKind cX7_isKind 1 (some .boolean) (rmOf 0 0) [] [.int p] (some (.int (nI (bN (wi p 0 2))))) [] := by
  refine Ct.ofV RX7 rfl (by decide +kernel) rfl rfl rfl (Nat.le_of_ble_eq_true rfl) (List.forall_mem_cons.mpr ⟨rfl, (fun _ h9 => absurd h9 List.not_mem_nil)⟩) (fun x h hr => ?_)
  show vM x 0 [some (.int p)] [] []
  refine v_iload_n0 h dX7_isKind_0 ?_
  refine v_if_lt h dX7_isKind_1 (tgt := 13) (by decide) (fun c1 => ?_) (fun c1 => ?_)
  · refine v_iconst h (v := nI 0) dX7_isKind_13 (by decide) ?_
    exact v_zret (v := false) h hr dX7_isKind_14 (by first | exact (wi_f1 (a := 0) c1).symm | exact (wi_f2 (b := 2) c6).symm | exact (wi_t (a := 0) (b := 2) (Int32.not_lt.mp c1) (Int32.not_lt.mp c6)).symm) rfl
  · refine v_iload_n0 h dX7_isKind_4 ?_
    refine v_iconst h (v := nI 2) dX7_isKind_5 (by decide) ?_
    refine v_icmp_gt h dX7_isKind_6 (tgt := 13) (by decide) (fun c6 => ?_) (fun c6 => ?_)
    · refine v_iconst h (v := nI 0) dX7_isKind_13 (by decide) ?_
      exact v_zret (v := false) h hr dX7_isKind_14 (by first | exact (wi_f1 (a := 0) c1).symm | exact (wi_f2 (b := 2) c6).symm | exact (wi_t (a := 0) (b := 2) (Int32.not_lt.mp c1) (Int32.not_lt.mp c6)).symm) rfl
    · refine v_iconst h (v := nI 1) dX7_isKind_9 (by decide) ?_
      refine v_goto h dX7_isKind_10 (tgt := 14) (by decide) ?_
      exact v_zret (v := true) h hr dX7_isKind_14 (by first | exact (wi_f1 (a := 0) c1).symm | exact (wi_f2 (b := 2) c6).symm | exact (wi_t (a := 0) (b := 2) (Int32.not_lt.mp c1) (Int32.not_lt.mp c6)).symm) rfl
set_option maxRecDepth 20000 in
set_option maxHeartbeats 2000000 in
theorem c_X7_isFirstOrSecond {g : vG} {p : Int32} : Ct g yX7_isFirstOrSecond cX7_isFirstOrSecond 1 (some .boolean) (rmOf 0 0) [] [.int p] (some (.int (nI (bN (wi p 0 1))))) [] := by
  refine Ct.ofV RX7 rfl (by decide +kernel) rfl rfl rfl (Nat.le_of_ble_eq_true rfl) (List.forall_mem_cons.mpr ⟨rfl, (fun _ h9 => absurd h9 List.not_mem_nil)⟩) (fun x h hr => ?_)
  show vM x 0 [some (.int p)] [] []
  refine v_iload_n0 h dX7_isFirstOrSecond_0 ?_
  refine v_if_eq h dX7_isFirstOrSecond_1 (tgt := 9) (by decide) (fun c1 => ?_) (fun c1 => ?_)
  · refine v_iconst h (v := nI 1) dX7_isFirstOrSecond_9 (by decide) ?_
    refine v_goto h dX7_isFirstOrSecond_10 (tgt := 14) (by decide) ?_
    exact v_zret (v := true) h hr dX7_isFirstOrSecond_14 (by first | (rw [c1]; decide) | (rw [c6]; decide) | exact (wi01 c1 c6).symm) rfl
  · refine v_iload_n0 h dX7_isFirstOrSecond_4 ?_
    refine v_iconst h (v := nI 1) dX7_isFirstOrSecond_5 (by decide) ?_
    refine v_icmp_ne h dX7_isFirstOrSecond_6 (tgt := 13) (by decide) (fun c6 => ?_) (fun c6 => ?_)
    · refine v_iconst h (v := nI 0) dX7_isFirstOrSecond_13 (by decide) ?_
      exact v_zret (v := false) h hr dX7_isFirstOrSecond_14 (by first | (rw [c1]; decide) | (rw [c6]; decide) | exact (wi01 c1 c6).symm) rfl
    · refine v_iconst h (v := nI 1) dX7_isFirstOrSecond_9 (by decide) ?_
      refine v_goto h dX7_isFirstOrSecond_10 (tgt := 14) (by decide) ?_
      exact v_zret (v := true) h hr dX7_isFirstOrSecond_14 (by first | (rw [c1]; decide) | (rw [c6]; decide) | exact (wi01 c1 c6).symm) rfl
set_option maxRecDepth 20000 in
set_option maxHeartbeats 2000000 in
theorem c_X7_faulty {g : vG} {b0 t0 h0 y0 s0 e0 o0 r0 : Nat} {tr : Int32} {fl : Nat} {k : Nat} : Ct g yX7_faulty cX7_faulty 2 (some .int) (rmOf 0 0) [(b0, .inr (6, [.ref t0, .ref h0, .ref y0, .ref s0, .ref e0, .ref o0, .ref r0, .int tr, .int (nI fl)]))] [.ref b0, .int (nI k)] (some (.int (-10 - nI k))) [(b0, .inr (6, [.ref t0, .ref h0, .ref y0, .ref s0, .ref e0, .ref o0, .ref r0, .int tr, .int (nI k)]))] := by
  refine Ct.ofV RX7 rfl (by decide +kernel) rfl rfl rfl (Nat.le_of_ble_eq_true rfl) (List.forall_mem_cons.mpr ⟨rfl, (List.forall_mem_cons.mpr ⟨rfl, (fun _ h9 => absurd h9 List.not_mem_nil)⟩)⟩) (fun x h hr => ?_)
  show vM x 0 [some (.ref b0), some (.int (nI k))] [] [(b0, .inr (6, [.ref t0, .ref h0, .ref y0, .ref s0, .ref e0, .ref o0, .ref r0, .int tr, .int (nI fl)]))]
  refine v_aload_n0 h dX7_faulty_0 ?_
  refine v_iload_n1 h dX7_faulty_1 ?_
  refine pf_X7_60_at0 h dX7_faulty_2 ?_
  refine v_bipush h (v := -10) dX7_faulty_5 (by decide) ?_
  refine v_iload_n1 h dX7_faulty_7 ?_
  refine v_isub h dX7_faulty_8 ?_
  exact v_iret h hr dX7_faulty_9 rfl rfl
def P_X7_weight (g : vG) (b0 h0 y0 s0 e0 o0 r0 t0 t1 : Nat) (tr : Int32) (fl : Nat) (n : Nat) (w : Nat → Nat) (p0 : Int32) : Option Value → va_W → Prop := fun r wo => r = some (.int (s_weight n w p0)) ∧ wo = [(b0, .inr (6, [.ref t0, .ref h0, .ref y0, .ref s0, .ref e0, .ref o0, .ref r0, .int tr, .int (nI fl)])), (t0, .inr (5, [.int (nI n), .ref t1])), (t1, .inl (gI g, 8, .inl (fun z9 => nI (w z9))))]
theorem P_X7_weight_mk {g : vG} {b0 h0 y0 s0 e0 o0 r0 t0 t1 : Nat} {tr : Int32} {fl : Nat} {n : Nat} {w : Nat → Nat} {p0 : Int32}  {q : Int32} (hs : s_weight n w p0 = q)  : P_X7_weight g b0 h0 y0 s0 e0 o0 r0 t0 t1 tr fl n w p0 (some (.int q)) [(b0, .inr (6, [.ref t0, .ref h0, .ref y0, .ref s0, .ref e0, .ref o0, .ref r0, .int tr, .int (nI fl)])), (t0, .inr (5, [.int (nI n), .ref t1])), (t1, .inl (gI g, 8, .inl (fun z9 => nI (w z9))))] := by subst hs; exact ⟨rfl, rfl⟩
set_option maxRecDepth 20000 in
set_option maxHeartbeats 4000000 in
theorem c_X7_weight {g : vG} {b0 h0 y0 s0 e0 o0 r0 t0 t1 : Nat} {tr : Int32} {fl : Nat} {n : Nat} {w : Nat → Nat} {p0 : Int32} (hT : wfT n w) : CtP g yX7_weight cX7_weight 2 (some .int) (rmOf 2 42) [(b0, .inr (6, [.ref t0, .ref h0, .ref y0, .ref s0, .ref e0, .ref o0, .ref r0, .int tr, .int (nI fl)])), (t0, .inr (5, [.int (nI n), .ref t1])), (t1, .inl (gI g, 8, .inl (fun z9 => nI (w z9))))] [.ref b0, .int p0] (P_X7_weight g b0 h0 y0 s0 e0 o0 r0 t0 t1 tr fl n w p0) := by
  refine CtP.ofV RX7 rfl (by decide +kernel) rfl rfl (Nat.le_of_ble_eq_true rfl) (List.forall_mem_cons.mpr ⟨rfl, (List.forall_mem_cons.mpr ⟨rfl, (fun _ h9 => absurd h9 List.not_mem_nil)⟩)⟩) (fun x h hr => ?_)
  show vM x 0 [some (.ref b0), some (.int p0)] [] [(b0, .inr (6, [.ref t0, .ref h0, .ref y0, .ref s0, .ref e0, .ref o0, .ref r0, .int tr, .int (nI fl)])), (t0, .inr (5, [.int (nI n), .ref t1])), (t1, .inl (gI g, 8, .inl (fun z9 => nI (w z9))))]
  have ht1 := hT.1; have ht2 := hT.2.1; have ht3 := hT.2.2
  refine v_aload_n0 h dX7_weight_0 ?_
  refine v_get h mw_X7 0 rfl rfl 0 (by decide) mf_X7_14 rfl dX7_weight_1 ?_
  refine v_iload_n1 h dX7_weight_4 ?_
  refine cw_V_1_2_1_i (ci := 5) h (c_X6_has (g := g) (by first | assumption | omega)) lk_X7_96 ⟨rfl, rfl, (Nat.le_of_ble_eq_true rfl), (Nat.le_of_ble_eq_true rfl)⟩ rfl rfl rfl (Nat.le_of_ble_eq_true rfl) dX7_weight_5 ?_
  refine v_if_eqB h dX7_weight_8 (tgt := 22) (by decide) (fun c8 => ?_) (fun c8 => ?_)
  · have e8 := rN_f c8
    refine v_iconst h (v := -1) dX7_weight_22 (by decide) ?_
    exact v_iretP h hr dX7_weight_23 (P_X7_weight_mk (q := _) (by simp only [s_weight, e8]) ) rfl
  · obtain ⟨j0, hj0, rfl⟩ := inR_of c8 (by omega)
    have e8 := rN_N hj0 (by omega)
    refine v_aload_n0 h dX7_weight_11 ?_
    refine v_get h mw_X7 0 rfl rfl 0 (by decide) mf_X7_14 rfl dX7_weight_12 ?_
    refine v_iload_n1 h dX7_weight_15 ?_
    refine cw_V_1_2_1_i (ci := 5) h (c_X6_weightOf (g := g) (by first | assumption | omega) (by first | assumption | omega)) lk_X7_97 ⟨rfl, rfl, (Nat.le_of_ble_eq_true rfl), (Nat.le_of_ble_eq_true rfl)⟩ rfl rfl rfl (Nat.le_of_ble_eq_true rfl) dX7_weight_16 ?_
    refine v_goto h dX7_weight_19 (tgt := 23) (by decide) ?_
    exact v_iretP h hr dX7_weight_23 (P_X7_weight_mk (q := _) (by simp only [s_weight, e8]) ) rfl
def P_X7_weigh (g : vG) (b0 h0 y0 s0 e0 o0 r0 t0 t1 : Nat) (tr : Int32) (fl : Nat) (n : Nat) (w : Nat → Nat) (p0 : Int32) (p1 : Int32) : Option Value → va_W → Prop := fun r wo => r = some (.int (s_weigh n w p0 p1).1) ∧ wo = [(b0, .inr (6, [.ref t0, .ref h0, .ref y0, .ref s0, .ref e0, .ref o0, .ref r0, .int tr, .int (nI fl)])), (t0, .inr (5, [.int (nI n), .ref t1])), (t1, .inl (gI g, 8, .inl (fun z9 => nI (((s_weigh n w p0 p1).2) z9))))]
theorem P_X7_weigh_mk {g : vG} {b0 h0 y0 s0 e0 o0 r0 t0 t1 : Nat} {tr : Int32} {fl : Nat} {n : Nat} {w : Nat → Nat} {p0 : Int32} {p1 : Int32}  {q : Int32 × (Nat → Nat)} (hs : s_weigh n w p0 p1 = q)  : P_X7_weigh g b0 h0 y0 s0 e0 o0 r0 t0 t1 tr fl n w p0 p1 (some (.int q.1)) [(b0, .inr (6, [.ref t0, .ref h0, .ref y0, .ref s0, .ref e0, .ref o0, .ref r0, .int tr, .int (nI fl)])), (t0, .inr (5, [.int (nI n), .ref t1])), (t1, .inl (gI g, 8, .inl (fun z9 => nI (q.2 z9))))] := by subst hs; exact ⟨rfl, rfl⟩
set_option maxRecDepth 20000 in
set_option maxHeartbeats 4000000 in
theorem c_X7_weigh {g : vG} {b0 h0 y0 s0 e0 o0 r0 t0 t1 : Nat} {tr : Int32} {fl : Nat} {n : Nat} {w : Nat → Nat} {p0 : Int32} {p1 : Int32} (hT : wfT n w) : CtP g yX7_weigh cX7_weigh 4 (some .int) (rmOf 2 43) [(b0, .inr (6, [.ref t0, .ref h0, .ref y0, .ref s0, .ref e0, .ref o0, .ref r0, .int tr, .int (nI fl)])), (t0, .inr (5, [.int (nI n), .ref t1])), (t1, .inl (gI g, 8, .inl (fun z9 => nI (w z9))))] [.ref b0, .int p0, .int p1] (P_X7_weigh g b0 h0 y0 s0 e0 o0 r0 t0 t1 tr fl n w p0 p1) := by
  refine CtP.ofV RX7 rfl (by decide +kernel) rfl rfl (Nat.le_of_ble_eq_true rfl) (List.forall_mem_cons.mpr ⟨rfl, (List.forall_mem_cons.mpr ⟨rfl, (List.forall_mem_cons.mpr ⟨rfl, (fun _ h9 => absurd h9 List.not_mem_nil)⟩)⟩)⟩) (fun x h hr => ?_)
  show vM x 0 [some (.ref b0), some (.int p0), some (.int p1), none] [] [(b0, .inr (6, [.ref t0, .ref h0, .ref y0, .ref s0, .ref e0, .ref o0, .ref r0, .int tr, .int (nI fl)])), (t0, .inr (5, [.int (nI n), .ref t1])), (t1, .inl (gI g, 8, .inl (fun z9 => nI (w z9))))]
  have ht1 := hT.1; have ht2 := hT.2.1; have ht3 := hT.2.2
  refine v_aload_n0 h dX7_weigh_0 ?_
  refine v_get h mw_X7 0 rfl rfl 0 (by decide) mf_X7_14 rfl dX7_weigh_1 ?_
  refine v_iload_n1 h dX7_weigh_4 ?_
  refine cw_V_1_2_1_i (ci := 5) h (c_X6_has (g := g) (by first | assumption | omega)) lk_X7_96 ⟨rfl, rfl, (Nat.le_of_ble_eq_true rfl), (Nat.le_of_ble_eq_true rfl)⟩ rfl rfl rfl (Nat.le_of_ble_eq_true rfl) dX7_weigh_5 ?_
  refine v_if_neB h dX7_weigh_8 (tgt := 13) (by decide) (fun c8 => ?_) (fun c8 => ?_)
  · obtain ⟨j0, hj0, rfl⟩ := inR_of c8 (by omega)
    have e8 := rN_N hj0 (by omega)
    refine v_iload_n2 h dX7_weigh_13 ?_
    refine v_iconst h (v := nI 1) dX7_weigh_14 (by decide) ?_
    refine v_icmp_lt h dX7_weigh_15 (tgt := 25) (by decide) (fun c15 => ?_) (fun c15 => ?_)
    · have e15 := rW_f1 (b := 999) (a := 1) c15
      refine v_bipush h (v := -2) dX7_weigh_25 (by decide) ?_
      exact v_iretP h hr dX7_weigh_27 (P_X7_weigh_mk (q := (_, w)) (by simp only [s_weigh, e8, e15]) ) rfl
    · refine v_iload_n2 h dX7_weigh_18 ?_
      refine v_sipush h (v := nI 999) dX7_weigh_19 (by decide) ?_
      refine v_icmp_le h dX7_weigh_22 (tgt := 28) (by decide) (fun c22 => ?_) (fun c22 => ?_)
      · obtain ⟨j1, hj1a, hj1, rfl⟩ := rW_of (a := 1) (b := 999) (Int32.not_lt.mp c15) c22 (by omega) (by omega)
        have e22 := rW_N hj1a hj1 (by omega)
        refine v_aload_n0 h dX7_weigh_28 ?_
        refine v_get h mw_X7 0 rfl rfl 0 (by decide) mf_X7_14 rfl dX7_weigh_29 ?_
        refine v_iload_n1 h dX7_weigh_32 ?_
        refine cw_V_1_2_1_i (ci := 5) h (c_X6_weightOf (g := g) (by first | assumption | omega) (by first | assumption | omega)) lk_X7_97 ⟨rfl, rfl, (Nat.le_of_ble_eq_true rfl), (Nat.le_of_ble_eq_true rfl)⟩ rfl rfl rfl (Nat.le_of_ble_eq_true rfl) dX7_weigh_33 ?_
        refine v_istore_n3 h (Nat.le_of_ble_eq_true rfl) dX7_weigh_36 ?_
        refine v_aload_n0 h dX7_weigh_37 ?_
        refine v_get h mw_X7 0 rfl rfl 0 (by decide) mf_X7_14 rfl dX7_weigh_38 ?_
        refine v_iload_n1 h dX7_weigh_41 ?_
        refine v_iload_n2 h dX7_weigh_42 ?_
        refine cw_V_1_2_2_v (ci := 5) h (c_X6_setWeight (g := g) (by first | assumption | omega) (by first | assumption | omega)) lk_X7_100 ⟨rfl, rfl, (Nat.le_of_ble_eq_true rfl), (Nat.le_of_ble_eq_true rfl)⟩ rfl rfl rfl (Nat.le_of_ble_eq_true rfl) dX7_weigh_43 ?_
        refine v_iload_n3 h dX7_weigh_46 ?_
        exact v_iretP h hr dX7_weigh_47 (P_X7_weigh_mk (q := (nI (w j0), up w j0 j1)) (by simp only [s_weigh, e8, e22]) ) rfl
      · have e22 := rW_f2 (a := 1) (b := 999) (Int32.not_le.mp c22)
        refine v_bipush h (v := -2) dX7_weigh_25 (by decide) ?_
        exact v_iretP h hr dX7_weigh_27 (P_X7_weigh_mk (q := (_, w)) (by simp only [s_weigh, e8, e22]) ) rfl
  · have e8 := rN_f c8
    refine v_iconst h (v := -1) dX7_weigh_11 (by decide) ?_
    exact v_iretP h hr dX7_weigh_12 (P_X7_weigh_mk (q := (_, w)) (by simp only [s_weigh, e8]) ) rfl
def P_X7_hand (g : vG) (b0 y0 s0 e0 o0 r0 t0 t1 h0 h1 h2 : Nat) (tr : Int32) (fl : Nat) (n : Nat) (w : Nat → Nat) (hn : Nat) (kd : Nat → Nat) (pt : Nat → Nat) (p0 : Int32) (p1 : Int32) : Option Value → va_W → Prop := fun r wo => r = some (.int (s_hand n hn kd pt p0 p1).1) ∧ wo = [(b0, .inr (6, [.ref t0, .ref h0, .ref y0, .ref s0, .ref e0, .ref o0, .ref r0, .int tr, .int (nI fl)])), (t0, .inr (5, [.int (nI n), .ref t1])), (t1, .inl (gI g, 8, .inl (fun z9 => nI (w z9)))), (h0, .inr (1, [.int (nI ((s_hand n hn kd pt p0 p1).2.1)), .ref h1, .ref h2])), (h1, .inl (gI g, 6, .inl (fun z9 => nI (((s_hand n hn kd pt p0 p1).2.2.1) z9)))), (h2, .inl (gI g, 6, .inl (fun z9 => nI (((s_hand n hn kd pt p0 p1).2.2.2) z9))))]
theorem P_X7_hand_mk {g : vG} {b0 y0 s0 e0 o0 r0 t0 t1 h0 h1 h2 : Nat} {tr : Int32} {fl : Nat} {n : Nat} {w : Nat → Nat} {hn : Nat} {kd : Nat → Nat} {pt : Nat → Nat} {p0 : Int32} {p1 : Int32}  {q : Int32 × (Nat) × (Nat → Nat) × (Nat → Nat)} (hs : s_hand n hn kd pt p0 p1 = q)  : P_X7_hand g b0 y0 s0 e0 o0 r0 t0 t1 h0 h1 h2 tr fl n w hn kd pt p0 p1 (some (.int q.1)) [(b0, .inr (6, [.ref t0, .ref h0, .ref y0, .ref s0, .ref e0, .ref o0, .ref r0, .int tr, .int (nI fl)])), (t0, .inr (5, [.int (nI n), .ref t1])), (t1, .inl (gI g, 8, .inl (fun z9 => nI (w z9)))), (h0, .inr (1, [.int (nI q.2.1), .ref h1, .ref h2])), (h1, .inl (gI g, 6, .inl (fun z9 => nI (q.2.2.1 z9)))), (h2, .inl (gI g, 6, .inl (fun z9 => nI (q.2.2.2 z9))))] := by subst hs; exact ⟨rfl, rfl⟩
set_option maxRecDepth 20000 in
set_option maxHeartbeats 4000000 in
theorem c_X7_hand {g : vG} {b0 y0 s0 e0 o0 r0 t0 t1 h0 h1 h2 : Nat} {tr : Int32} {fl : Nat} {n : Nat} {w : Nat → Nat} {hn : Nat} {kd : Nat → Nat} {pt : Nat → Nat} {p0 : Int32} {p1 : Int32} (hT : wfT n w) (hH : wfH hn kd pt) : CtP g yX7_hand cX7_hand 3 (some .int) (rmOf 1 22) [(b0, .inr (6, [.ref t0, .ref h0, .ref y0, .ref s0, .ref e0, .ref o0, .ref r0, .int tr, .int (nI fl)])), (t0, .inr (5, [.int (nI n), .ref t1])), (t1, .inl (gI g, 8, .inl (fun z9 => nI (w z9)))), (h0, .inr (1, [.int (nI hn), .ref h1, .ref h2])), (h1, .inl (gI g, 6, .inl (fun z9 => nI (kd z9)))), (h2, .inl (gI g, 6, .inl (fun z9 => nI (pt z9))))] [.ref b0, .int p0, .int p1] (P_X7_hand g b0 y0 s0 e0 o0 r0 t0 t1 h0 h1 h2 tr fl n w hn kd pt p0 p1) := by
  refine CtP.ofV RX7 rfl (by decide +kernel) rfl rfl (Nat.le_of_ble_eq_true rfl) (List.forall_mem_cons.mpr ⟨rfl, (List.forall_mem_cons.mpr ⟨rfl, (List.forall_mem_cons.mpr ⟨rfl, (fun _ h9 => absurd h9 List.not_mem_nil)⟩)⟩)⟩) (fun x h hr => ?_)
  show vM x 0 [some (.ref b0), some (.int p0), some (.int p1)] [] [(b0, .inr (6, [.ref t0, .ref h0, .ref y0, .ref s0, .ref e0, .ref o0, .ref r0, .int tr, .int (nI fl)])), (t0, .inr (5, [.int (nI n), .ref t1])), (t1, .inl (gI g, 8, .inl (fun z9 => nI (w z9)))), (h0, .inr (1, [.int (nI hn), .ref h1, .ref h2])), (h1, .inl (gI g, 6, .inl (fun z9 => nI (kd z9)))), (h2, .inl (gI g, 6, .inl (fun z9 => nI (pt z9))))]
  have ht1 := hT.1; have ht2 := hT.2.1; have ht3 := hT.2.2; have hh1 := hH.1; have hh2 := hH.2.1; have hh3 := hH.2.2.1; have hh4 := hH.2.2.2
  refine v_iload_n1 h dX7_hand_0 ?_
  refine cw_S_e_1_i h (c_X7_isKind (g := g)) lk_X7_104 ⟨rfl, rfl, (Nat.le_of_ble_eq_true rfl), (Nat.le_of_ble_eq_true rfl)⟩ (Nat.le_of_ble_eq_true rfl) dX7_hand_1 ?_
  refine v_if_eqB h dX7_hand_4 (tgt := 18) (by decide) (fun c4 => ?_) (fun c4 => ?_)
  · have e4 := wi_no c4
    refine v_bipush h (v := -2) dX7_hand_18 (by decide) ?_
    exact v_iretP h hr dX7_hand_20 (P_X7_hand_mk (q := (_, hn, kd, pt)) (by simp only [s_hand, e4]) ) rfl
  · obtain ⟨j0, hj0a, hj0, rfl⟩ := wi_of c4 (by decide) (by decide)
    have e4 := rW_N hj0a hj0 (by decide)
    refine v_iload_n2 h dX7_hand_7 ?_
    refine v_iconst h (v := nI 1) dX7_hand_8 (by decide) ?_
    refine v_icmp_lt h dX7_hand_9 (tgt := 18) (by decide) (fun c9 => ?_) (fun c9 => ?_)
    · have e9 := rW_f1 (b := 20) (a := 1) c9
      refine v_bipush h (v := -2) dX7_hand_18 (by decide) ?_
      exact v_iretP h hr dX7_hand_20 (P_X7_hand_mk (q := (_, hn, kd, pt)) (by simp only [s_hand, e4, e9]) ) rfl
    · refine v_iload_n2 h dX7_hand_12 ?_
      refine v_bipush h (v := nI 20) dX7_hand_13 (by decide) ?_
      refine v_icmp_le h dX7_hand_15 (tgt := 21) (by decide) (fun c15 => ?_) (fun c15 => ?_)
      · obtain ⟨j1, hj1a, hj1, rfl⟩ := rW_of (a := 1) (b := 20) (Int32.not_lt.mp c9) c15 (by omega) (by omega)
        have e15 := rW_N hj1a hj1 (by omega)
        refine v_aload_n0 h dX7_hand_21 ?_
        refine v_get h mw_X7 0 rfl rfl 0 (by decide) mf_X7_14 rfl dX7_hand_22 ?_
        refine cw_V_1_2_0_i (ci := 5) h (c_X6_count (g := g)) lk_X7_92 ⟨rfl, rfl, (Nat.le_of_ble_eq_true rfl), (Nat.le_of_ble_eq_true rfl)⟩ rfl rfl rfl (Nat.le_of_ble_eq_true rfl) dX7_hand_25 ?_
        refine v_if_neN h dX7_hand_28 (tgt := 34) (by decide) (by omega) (fun c28 => ?_) (fun c28 => ?_)
        · refine v_aload_n0 h dX7_hand_34 ?_
          refine v_get h mw_X7 0 rfl rfl 1 (by decide) mf_X7_21 rfl dX7_hand_35 ?_
          refine v_iload_n1 h dX7_hand_38 ?_
          refine v_iload_n2 h dX7_hand_39 ?_
          refine cw_V_3_4_5_2_i (ci := 1) h (c_X1_add (g := g) (by first | assumption | omega)) lk_X7_107 ⟨rfl, rfl, (Nat.le_of_ble_eq_true rfl), (Nat.le_of_ble_eq_true rfl)⟩ rfl rfl rfl (Nat.le_of_ble_eq_true rfl) dX7_hand_40 ?_
          exact v_iretP h hr dX7_hand_43 (P_X7_hand_mk (q := ((if hn < 6 then nI hn else -4), (if hn < 6 then hn + 1 else hn), (if hn < 6 then up kd hn j0 else kd), (if hn < 6 then up pt hn j1 else pt))) (by simp only [s_hand, e4, e15, if_neg (show ¬ n = 0 by omega)]; by_cases c99 : hn < 6 <;> simp [c99]) ) rfl
        · refine v_bipush h (v := -3) dX7_hand_31 (by decide) ?_
          exact v_iretP h hr dX7_hand_33 (P_X7_hand_mk (q := (_, hn, kd, pt)) (by simp only [s_hand, e4, e15, if_pos c28]) ) rfl
      · have e15 := rW_f2 (a := 1) (b := 20) (Int32.not_le.mp c15)
        refine v_bipush h (v := -2) dX7_hand_18 (by decide) ?_
        exact v_iretP h hr dX7_hand_20 (P_X7_hand_mk (q := (_, hn, kd, pt)) (by simp only [s_hand, e4, e15]) ) rfl
def P_X7_tells (g : vG) (b0 t0 y0 s0 e0 o0 r0 h0 h1 h2 : Nat) (tr : Int32) (fl : Nat) (hn : Nat) (kd : Nat → Nat) (pt : Nat → Nat) (p0 : Int32) (p1 : Int32) (p2 : Int32) : Option Value → va_W → Prop := fun r wo => r = some (.int (s_tells hn kd pt p0 p1 p2)) ∧ wo = [(b0, .inr (6, [.ref t0, .ref h0, .ref y0, .ref s0, .ref e0, .ref o0, .ref r0, .int tr, .int (nI fl)])), (h0, .inr (1, [.int (nI hn), .ref h1, .ref h2])), (h1, .inl (gI g, 6, .inl (fun z9 => nI (kd z9)))), (h2, .inl (gI g, 6, .inl (fun z9 => nI (pt z9))))]
theorem P_X7_tells_mk {g : vG} {b0 t0 y0 s0 e0 o0 r0 h0 h1 h2 : Nat} {tr : Int32} {fl : Nat} {hn : Nat} {kd : Nat → Nat} {pt : Nat → Nat} {p0 : Int32} {p1 : Int32} {p2 : Int32}  {q : Int32} (hs : s_tells hn kd pt p0 p1 p2 = q)  : P_X7_tells g b0 t0 y0 s0 e0 o0 r0 h0 h1 h2 tr fl hn kd pt p0 p1 p2 (some (.int q)) [(b0, .inr (6, [.ref t0, .ref h0, .ref y0, .ref s0, .ref e0, .ref o0, .ref r0, .int tr, .int (nI fl)])), (h0, .inr (1, [.int (nI hn), .ref h1, .ref h2])), (h1, .inl (gI g, 6, .inl (fun z9 => nI (kd z9)))), (h2, .inl (gI g, 6, .inl (fun z9 => nI (pt z9))))] := by subst hs; exact ⟨rfl, rfl⟩
set_option maxRecDepth 20000 in
set_option maxHeartbeats 4000000 in
theorem c_X7_tells {g : vG} {b0 t0 y0 s0 e0 o0 r0 h0 h1 h2 : Nat} {tr : Int32} {fl : Nat} {hn : Nat} {kd : Nat → Nat} {pt : Nat → Nat} {p0 : Int32} {p1 : Int32} {p2 : Int32} (hH : wfH hn kd pt) : CtP g yX7_tells cX7_tells 4 (some .int) (rmOf 3 66) [(b0, .inr (6, [.ref t0, .ref h0, .ref y0, .ref s0, .ref e0, .ref o0, .ref r0, .int tr, .int (nI fl)])), (h0, .inr (1, [.int (nI hn), .ref h1, .ref h2])), (h1, .inl (gI g, 6, .inl (fun z9 => nI (kd z9)))), (h2, .inl (gI g, 6, .inl (fun z9 => nI (pt z9))))] [.ref b0, .int p0, .int p1, .int p2] (P_X7_tells g b0 t0 y0 s0 e0 o0 r0 h0 h1 h2 tr fl hn kd pt p0 p1 p2) := by
  refine CtP.ofV RX7 rfl (by decide +kernel) rfl rfl (Nat.le_of_ble_eq_true rfl) (List.forall_mem_cons.mpr ⟨rfl, (List.forall_mem_cons.mpr ⟨rfl, (List.forall_mem_cons.mpr ⟨rfl, (List.forall_mem_cons.mpr ⟨rfl, (fun _ h9 => absurd h9 List.not_mem_nil)⟩)⟩)⟩)⟩) (fun x h hr => ?_)
  show vM x 0 [some (.ref b0), some (.int p0), some (.int p1), some (.int p2)] [] [(b0, .inr (6, [.ref t0, .ref h0, .ref y0, .ref s0, .ref e0, .ref o0, .ref r0, .int tr, .int (nI fl)])), (h0, .inr (1, [.int (nI hn), .ref h1, .ref h2])), (h1, .inl (gI g, 6, .inl (fun z9 => nI (kd z9)))), (h2, .inl (gI g, 6, .inl (fun z9 => nI (pt z9))))]
  have hh1 := hH.1; have hh2 := hH.2.1; have hh3 := hH.2.2.1; have hh4 := hH.2.2.2
  refine v_aload_n0 h dX7_tells_0 ?_
  refine v_get h mw_X7 0 rfl rfl 1 (by decide) mf_X7_21 rfl dX7_tells_1 ?_
  refine v_iload_n1 h dX7_tells_4 ?_
  refine cw_V_1_2_3_1_i (ci := 1) h (c_X1_has (g := g) (by first | assumption | omega)) lk_X7_111 ⟨rfl, rfl, (Nat.le_of_ble_eq_true rfl), (Nat.le_of_ble_eq_true rfl)⟩ rfl rfl rfl (Nat.le_of_ble_eq_true rfl) dX7_tells_5 ?_
  refine v_if_neB h dX7_tells_8 (tgt := 13) (by decide) (fun c8 => ?_) (fun c8 => ?_)
  · obtain ⟨j0, hj0, rfl⟩ := inR_of c8 (by omega)
    have e8 := rN_N hj0 (by omega)
    refine v_iload_n2 h dX7_tells_13 ?_
    refine v_iconst h (v := nI 1) dX7_tells_14 (by decide) ?_
    refine v_icmp_lt h dX7_tells_15 (tgt := 37) (by decide) (fun c15 => ?_) (fun c15 => ?_)
    · have e15 := rW_f1 (b := 9999) (a := 1) c15
      refine v_bipush h (v := -2) dX7_tells_37 (by decide) ?_
      exact v_iretP h hr dX7_tells_39 (P_X7_tells_mk (q := _) (by simp only [s_tells, e8, e15]) ) rfl
    · refine v_iload_n2 h dX7_tells_18 ?_
      refine v_sipush h (v := nI 9999) dX7_tells_19 (by decide) ?_
      refine v_icmp_gt h dX7_tells_22 (tgt := 37) (by decide) (fun c22 => ?_) (fun c22 => ?_)
      · have e22 := rW_f2 (a := 1) (b := 9999) c22
        refine v_bipush h (v := -2) dX7_tells_37 (by decide) ?_
        exact v_iretP h hr dX7_tells_39 (P_X7_tells_mk (q := _) (by simp only [s_tells, e8, e22]) ) rfl
      · obtain ⟨j1, hj1a, hj1, rfl⟩ := rW_of (a := 1) (b := 9999) (Int32.not_lt.mp c15) (Int32.not_lt.mp c22) (by omega) (by omega)
        have e22 := rW_N hj1a hj1 (by omega)
        refine v_iload_n3 h dX7_tells_25 ?_
        refine v_iconst h (v := nI 1) dX7_tells_26 (by decide) ?_
        refine v_icmp_lt h dX7_tells_27 (tgt := 37) (by decide) (fun c27 => ?_) (fun c27 => ?_)
        · have e27 := rW_f1 (b := 9999) (a := 1) c27
          refine v_bipush h (v := -2) dX7_tells_37 (by decide) ?_
          exact v_iretP h hr dX7_tells_39 (P_X7_tells_mk (q := _) (by simp only [s_tells, e8, e22, e27]) ) rfl
        · refine v_iload_n3 h dX7_tells_30 ?_
          refine v_sipush h (v := nI 9999) dX7_tells_31 (by decide) ?_
          refine v_icmp_le h dX7_tells_34 (tgt := 40) (by decide) (fun c34 => ?_) (fun c34 => ?_)
          · obtain ⟨j2, hj2a, hj2, rfl⟩ := rW_of (a := 1) (b := 9999) (Int32.not_lt.mp c27) c34 (by omega) (by omega)
            have e34 := rW_N hj2a hj2 (by omega)
            refine v_aload_n0 h dX7_tells_40 ?_
            refine v_get h mw_X7 0 rfl rfl 1 (by decide) mf_X7_21 rfl dX7_tells_41 ?_
            refine v_iload_n1 h dX7_tells_44 ?_
            refine v_iload_n2 h dX7_tells_45 ?_
            refine v_iload_n3 h dX7_tells_46 ?_
            refine cw_V_1_2_3_3_i (ci := 1) h (c_X1_feelsHeavier (g := g) (by first | assumption | omega) (by first | assumption | omega) (by first | assumption | omega) (by first | assumption | omega)) lk_X7_121 ⟨rfl, rfl, (Nat.le_of_ble_eq_true rfl), (Nat.le_of_ble_eq_true rfl)⟩ rfl rfl rfl (Nat.le_of_ble_eq_true rfl) dX7_tells_47 ?_
            refine v_if_eqB h dX7_tells_50 (tgt := 57) (by decide) (fun c50 => ?_) (fun c50 => ?_)
            · refine v_iconst h (v := nI 0) dX7_tells_57 (by decide) ?_
              exact v_iretP h hr dX7_tells_58 (P_X7_tells_mk (q := _) (by simp only [s_tells, e8, e22, e34, c50, bN, if_true, Bool.false_eq_true, if_false]) ) rfl
            · refine v_iconst h (v := nI 1) dX7_tells_53 (by decide) ?_
              refine v_goto h dX7_tells_54 (tgt := 58) (by decide) ?_
              exact v_iretP h hr dX7_tells_58 (P_X7_tells_mk (q := _) (by simp only [s_tells, e8, e22, e34, c50, bN, if_true, Bool.false_eq_true, if_false]) ) rfl
          · have e34 := rW_f2 (a := 1) (b := 9999) (Int32.not_le.mp c34)
            refine v_bipush h (v := -2) dX7_tells_37 (by decide) ?_
            exact v_iretP h hr dX7_tells_39 (P_X7_tells_mk (q := _) (by simp only [s_tells, e8, e22, e34]) ) rfl
  · have e8 := rN_f c8
    refine v_iconst h (v := -1) dX7_tells_11 (by decide) ?_
    exact v_iretP h hr dX7_tells_12 (P_X7_tells_mk (q := _) (by simp only [s_tells, e8]) ) rfl
def P_X7_alike (g : vG) (b0 y0 s0 o0 r0 t0 t1 h0 h1 h2 e0 e1 e2 e3 : Nat) (tr : Int32) (fl : Nat) (n : Nat) (w : Nat → Nat) (hn : Nat) (kd : Nat → Nat) (pt : Nat → Nat) (ec : Nat) (el : Nat → Nat) (ea : Nat → Nat) (eo : Nat → Nat) (p0 : Int32) (p1 : Int32) : Option Value → va_W → Prop := fun r wo => ∃ ec' : Nat, ∃ el' : Nat → Nat, ∃ ea' : Nat → Nat, (∀ z, el' z < 2 ^ 8) ∧ (∀ z, ea' z < 2 ^ 8) ∧ r = some (.int (s_alike n w hn kd pt p0 p1)) ∧ wo = [(b0, .inr (6, [.ref t0, .ref h0, .ref y0, .ref s0, .ref e0, .ref o0, .ref r0, .int tr, .int (nI fl)])), (t0, .inr (5, [.int (nI n), .ref t1])), (t1, .inl (gI g, 8, .inl (fun z9 => nI (w z9)))), (h0, .inr (1, [.int (nI hn), .ref h1, .ref h2])), (h1, .inl (gI g, 6, .inl (fun z9 => nI (kd z9)))), (h2, .inl (gI g, 6, .inl (fun z9 => nI (pt z9)))), (e0, .inr (4, [.int (nI ec'), .ref e1, .ref e2, .ref e3])), (e1, .inl (gI g, 8, .inl (fun z9 => nI (el' z9)))), (e2, .inl (gI g, 8, .inl (fun z9 => nI (ea' z9)))), (e3, .inl (gI g, 256, .inl (fun z9 => nI (eo z9))))]
theorem P_X7_alike_mk {g : vG} {b0 y0 s0 o0 r0 t0 t1 h0 h1 h2 e0 e1 e2 e3 : Nat} {tr : Int32} {fl : Nat} {n : Nat} {w : Nat → Nat} {hn : Nat} {kd : Nat → Nat} {pt : Nat → Nat} {ec : Nat} {el : Nat → Nat} {ea : Nat → Nat} {eo : Nat → Nat} {p0 : Int32} {p1 : Int32} {ec' : Nat} {el' : Nat → Nat} {ea' : Nat → Nat} {q : Int32} (hs : s_alike n w hn kd pt p0 p1 = q) (hb0 : ∀ z, el' z < 2 ^ 8) (hb1 : ∀ z, ea' z < 2 ^ 8) : P_X7_alike g b0 y0 s0 o0 r0 t0 t1 h0 h1 h2 e0 e1 e2 e3 tr fl n w hn kd pt ec el ea eo p0 p1 (some (.int q)) [(b0, .inr (6, [.ref t0, .ref h0, .ref y0, .ref s0, .ref e0, .ref o0, .ref r0, .int tr, .int (nI fl)])), (t0, .inr (5, [.int (nI n), .ref t1])), (t1, .inl (gI g, 8, .inl (fun z9 => nI (w z9)))), (h0, .inr (1, [.int (nI hn), .ref h1, .ref h2])), (h1, .inl (gI g, 6, .inl (fun z9 => nI (kd z9)))), (h2, .inl (gI g, 6, .inl (fun z9 => nI (pt z9)))), (e0, .inr (4, [.int (nI ec'), .ref e1, .ref e2, .ref e3])), (e1, .inl (gI g, 8, .inl (fun z9 => nI (el' z9)))), (e2, .inl (gI g, 8, .inl (fun z9 => nI (ea' z9)))), (e3, .inl (gI g, 256, .inl (fun z9 => nI (eo z9))))] := by subst hs; exact ⟨_, _, _, hb0, hb1, rfl, rfl⟩
set_option maxRecDepth 20000 in
set_option maxHeartbeats 4000000 in
theorem c_X7_alike {g : vG} {b0 y0 s0 o0 r0 t0 t1 h0 h1 h2 e0 e1 e2 e3 : Nat} {tr : Int32} {fl : Nat} {n : Nat} {w : Nat → Nat} {hn : Nat} {kd : Nat → Nat} {pt : Nat → Nat} {ec : Nat} {el : Nat → Nat} {ea : Nat → Nat} {eo : Nat → Nat} {p0 : Int32} {p1 : Int32} (hT : wfT n w) (hH : wfH hn kd pt) (hel : ∀ z, el z < 2 ^ 8) (hea : ∀ z, ea z < 2 ^ 8) : CtP g yX7_alike cX7_alike 3 (some .int) (rmOf 5 114) [(b0, .inr (6, [.ref t0, .ref h0, .ref y0, .ref s0, .ref e0, .ref o0, .ref r0, .int tr, .int (nI fl)])), (t0, .inr (5, [.int (nI n), .ref t1])), (t1, .inl (gI g, 8, .inl (fun z9 => nI (w z9)))), (h0, .inr (1, [.int (nI hn), .ref h1, .ref h2])), (h1, .inl (gI g, 6, .inl (fun z9 => nI (kd z9)))), (h2, .inl (gI g, 6, .inl (fun z9 => nI (pt z9)))), (e0, .inr (4, [.int (nI ec), .ref e1, .ref e2, .ref e3])), (e1, .inl (gI g, 8, .inl (fun z9 => nI (el z9)))), (e2, .inl (gI g, 8, .inl (fun z9 => nI (ea z9)))), (e3, .inl (gI g, 256, .inl (fun z9 => nI (eo z9))))] [.ref b0, .int p0, .int p1] (P_X7_alike g b0 y0 s0 o0 r0 t0 t1 h0 h1 h2 e0 e1 e2 e3 tr fl n w hn kd pt ec el ea eo p0 p1) := by
  refine CtP.ofV RX7 rfl (by decide +kernel) rfl rfl (Nat.le_of_ble_eq_true rfl) (List.forall_mem_cons.mpr ⟨rfl, (List.forall_mem_cons.mpr ⟨rfl, (List.forall_mem_cons.mpr ⟨rfl, (fun _ h9 => absurd h9 List.not_mem_nil)⟩)⟩)⟩) (fun x h hr => ?_)
  show vM x 0 [some (.ref b0), some (.int p0), some (.int p1)] [] [(b0, .inr (6, [.ref t0, .ref h0, .ref y0, .ref s0, .ref e0, .ref o0, .ref r0, .int tr, .int (nI fl)])), (t0, .inr (5, [.int (nI n), .ref t1])), (t1, .inl (gI g, 8, .inl (fun z9 => nI (w z9)))), (h0, .inr (1, [.int (nI hn), .ref h1, .ref h2])), (h1, .inl (gI g, 6, .inl (fun z9 => nI (kd z9)))), (h2, .inl (gI g, 6, .inl (fun z9 => nI (pt z9)))), (e0, .inr (4, [.int (nI ec), .ref e1, .ref e2, .ref e3])), (e1, .inl (gI g, 8, .inl (fun z9 => nI (el z9)))), (e2, .inl (gI g, 8, .inl (fun z9 => nI (ea z9)))), (e3, .inl (gI g, 256, .inl (fun z9 => nI (eo z9))))]
  have ht1 := hT.1; have ht2 := hT.2.1; have ht3 := hT.2.2; have hh1 := hH.1; have hh2 := hH.2.1; have hh3 := hH.2.2.1; have hh4 := hH.2.2.2
  refine v_aload_n0 h dX7_alike_0 ?_
  refine v_get h mw_X7 0 rfl rfl 1 (by decide) mf_X7_21 rfl dX7_alike_1 ?_
  refine v_iload_n1 h dX7_alike_4 ?_
  refine cw_V_3_4_5_1_i (ci := 1) h (c_X1_has (g := g) (by first | assumption | omega)) lk_X7_111 ⟨rfl, rfl, (Nat.le_of_ble_eq_true rfl), (Nat.le_of_ble_eq_true rfl)⟩ rfl rfl rfl (Nat.le_of_ble_eq_true rfl) dX7_alike_5 ?_
  refine v_if_eqB h dX7_alike_8 (tgt := 22) (by decide) (fun c8 => ?_) (fun c8 => ?_)
  · have e8 := rN_f c8
    refine v_iconst h (v := -1) dX7_alike_22 (by decide) ?_
    exact v_iretP h hr dX7_alike_23 (P_X7_alike_mk (q := _) (by simp only [s_alike, e8]) (by first | assumption | exact lay8l (by assumption) (by assumption) | exact lay8a (by assumption) (by assumption)) (by first | assumption | exact lay8l (by assumption) (by assumption) | exact lay8a (by assumption) (by assumption))) rfl
  · obtain ⟨j0, hj0, rfl⟩ := inR_of c8 (by omega)
    have e8 := rN_N hj0 (by omega)
    refine v_aload_n0 h dX7_alike_11 ?_
    refine v_get h mw_X7 0 rfl rfl 0 (by decide) mf_X7_14 rfl dX7_alike_12 ?_
    refine v_iload_n2 h dX7_alike_15 ?_
    refine cw_V_1_2_1_i (ci := 5) h (c_X6_has (g := g) (by first | assumption | omega)) lk_X7_96 ⟨rfl, rfl, (Nat.le_of_ble_eq_true rfl), (Nat.le_of_ble_eq_true rfl)⟩ rfl rfl rfl (Nat.le_of_ble_eq_true rfl) dX7_alike_16 ?_
    refine v_if_neB h dX7_alike_19 (tgt := 24) (by decide) (fun c19 => ?_) (fun c19 => ?_)
    · obtain ⟨j1, hj1, rfl⟩ := inR_of c19 (by omega)
      have e19 := rN_N hj1 (by omega)
      refine v_aload_n0 h dX7_alike_24 ?_
      refine v_get h mw_X7 0 rfl rfl 4 (by decide) mf_X7_42 rfl dX7_alike_25 ?_
      refine v_aload_n0 h dX7_alike_28 ?_
      refine v_get h mw_X7 0 rfl rfl 1 (by decide) mf_X7_21 rfl dX7_alike_29 ?_
      refine v_iload_n1 h dX7_alike_32 ?_
      refine v_aload_n0 h dX7_alike_33 ?_
      refine v_get h mw_X7 0 rfl rfl 0 (by decide) mf_X7_14 rfl dX7_alike_34 ?_
      refine cw_V_6_7_8_9_3_4_5_1_2_3_v (ci := 4) h (c_X4_lay (g := g) (by first | assumption | omega) (by first | assumption | omega) (by first | assumption | omega)) lk_X7_125 ⟨rfl, rfl, (Nat.le_of_ble_eq_true rfl), (Nat.le_of_ble_eq_true rfl)⟩ rfl rfl rfl (Nat.le_of_ble_eq_true rfl) dX7_alike_37 ?_
      refine v_aload_n0 h dX7_alike_40 ?_
      refine v_get h mw_X7 0 rfl rfl 4 (by decide) mf_X7_42 rfl dX7_alike_41 ?_
      refine v_iload_n2 h dX7_alike_44 ?_
      refine cw_V_6_7_8_9_1_i (ci := 4) h (c_X4_alikeTo (g := g) (by first | assumption | omega) (by first | assumption | omega)) lk_X7_129 ⟨rfl, rfl, (Nat.le_of_ble_eq_true rfl), (Nat.le_of_ble_eq_true rfl)⟩ rfl rfl rfl (Nat.le_of_ble_eq_true rfl) dX7_alike_45 ?_
      exact v_iretP h hr dX7_alike_48 (P_X7_alike_mk (q := _) (by simp only [s_alike, e8, e19, layF_in hj1]) (by first | assumption | exact lay8l (by assumption) (by assumption) | exact lay8a (by assumption) (by assumption)) (by first | assumption | exact lay8l (by assumption) (by assumption) | exact lay8a (by assumption) (by assumption))) rfl
    · have e19 := rN_f c19
      refine v_iconst h (v := -1) dX7_alike_22 (by decide) ?_
      exact v_iretP h hr dX7_alike_23 (P_X7_alike_mk (q := _) (by simp only [s_alike, e8, e19]) (by first | assumption | exact lay8l (by assumption) (by assumption) | exact lay8a (by assumption) (by assumption)) (by first | assumption | exact lay8l (by assumption) (by assumption) | exact lay8a (by assumption) (by assumption))) rfl
def P_X7_finer (g : vG) (b0 y0 s0 r0 t0 t1 h0 h1 h2 e0 e1 e2 e3 o0 o1 o2 o3 : Nat) (tr : Int32) (fl : Nat) (n : Nat) (w : Nat → Nat) (hn : Nat) (kd : Nat → Nat) (pt : Nat → Nat) (ec : Nat) (el : Nat → Nat) (ea : Nat → Nat) (eo : Nat → Nat) (oc : Nat) (ol : Nat → Nat) (oa : Nat → Nat) (oo : Nat → Nat) (p0 : Int32) (p1 : Int32) : Option Value → va_W → Prop := fun r wo => ∃ ec' : Nat, ∃ el' : Nat → Nat, ∃ ea' : Nat → Nat, ∃ oc' : Nat, ∃ ol' : Nat → Nat, ∃ oa' : Nat → Nat, (∀ z, el' z < 2 ^ 8) ∧ (∀ z, ea' z < 2 ^ 8) ∧ (∀ z, ol' z < 2 ^ 8) ∧ (∀ z, oa' z < 2 ^ 8) ∧ r = some (.int (s_finer n w hn kd pt p0 p1)) ∧ wo = [(b0, .inr (6, [.ref t0, .ref h0, .ref y0, .ref s0, .ref e0, .ref o0, .ref r0, .int tr, .int (nI fl)])), (t0, .inr (5, [.int (nI n), .ref t1])), (t1, .inl (gI g, 8, .inl (fun z9 => nI (w z9)))), (h0, .inr (1, [.int (nI hn), .ref h1, .ref h2])), (h1, .inl (gI g, 6, .inl (fun z9 => nI (kd z9)))), (h2, .inl (gI g, 6, .inl (fun z9 => nI (pt z9)))), (e0, .inr (4, [.int (nI ec'), .ref e1, .ref e2, .ref e3])), (e1, .inl (gI g, 8, .inl (fun z9 => nI (el' z9)))), (e2, .inl (gI g, 8, .inl (fun z9 => nI (ea' z9)))), (e3, .inl (gI g, 256, .inl (fun z9 => nI (eo z9)))), (o0, .inr (4, [.int (nI oc'), .ref o1, .ref o2, .ref o3])), (o1, .inl (gI g, 8, .inl (fun z9 => nI (ol' z9)))), (o2, .inl (gI g, 8, .inl (fun z9 => nI (oa' z9)))), (o3, .inl (gI g, 256, .inl (fun z9 => nI (oo z9))))]
theorem P_X7_finer_mk {g : vG} {b0 y0 s0 r0 t0 t1 h0 h1 h2 e0 e1 e2 e3 o0 o1 o2 o3 : Nat} {tr : Int32} {fl : Nat} {n : Nat} {w : Nat → Nat} {hn : Nat} {kd : Nat → Nat} {pt : Nat → Nat} {ec : Nat} {el : Nat → Nat} {ea : Nat → Nat} {eo : Nat → Nat} {oc : Nat} {ol : Nat → Nat} {oa : Nat → Nat} {oo : Nat → Nat} {p0 : Int32} {p1 : Int32} {ec' : Nat} {el' : Nat → Nat} {ea' : Nat → Nat} {oc' : Nat} {ol' : Nat → Nat} {oa' : Nat → Nat} {q : Int32} (hs : s_finer n w hn kd pt p0 p1 = q) (hb0 : ∀ z, el' z < 2 ^ 8) (hb1 : ∀ z, ea' z < 2 ^ 8) (hb2 : ∀ z, ol' z < 2 ^ 8) (hb3 : ∀ z, oa' z < 2 ^ 8) : P_X7_finer g b0 y0 s0 r0 t0 t1 h0 h1 h2 e0 e1 e2 e3 o0 o1 o2 o3 tr fl n w hn kd pt ec el ea eo oc ol oa oo p0 p1 (some (.int q)) [(b0, .inr (6, [.ref t0, .ref h0, .ref y0, .ref s0, .ref e0, .ref o0, .ref r0, .int tr, .int (nI fl)])), (t0, .inr (5, [.int (nI n), .ref t1])), (t1, .inl (gI g, 8, .inl (fun z9 => nI (w z9)))), (h0, .inr (1, [.int (nI hn), .ref h1, .ref h2])), (h1, .inl (gI g, 6, .inl (fun z9 => nI (kd z9)))), (h2, .inl (gI g, 6, .inl (fun z9 => nI (pt z9)))), (e0, .inr (4, [.int (nI ec'), .ref e1, .ref e2, .ref e3])), (e1, .inl (gI g, 8, .inl (fun z9 => nI (el' z9)))), (e2, .inl (gI g, 8, .inl (fun z9 => nI (ea' z9)))), (e3, .inl (gI g, 256, .inl (fun z9 => nI (eo z9)))), (o0, .inr (4, [.int (nI oc'), .ref o1, .ref o2, .ref o3])), (o1, .inl (gI g, 8, .inl (fun z9 => nI (ol' z9)))), (o2, .inl (gI g, 8, .inl (fun z9 => nI (oa' z9)))), (o3, .inl (gI g, 256, .inl (fun z9 => nI (oo z9))))] := by subst hs; exact ⟨_, _, _, _, _, _, hb0, hb1, hb2, hb3, rfl, rfl⟩
set_option maxRecDepth 20000 in
set_option maxHeartbeats 4000000 in
theorem c_X7_finer {g : vG} {b0 y0 s0 r0 t0 t1 h0 h1 h2 e0 e1 e2 e3 o0 o1 o2 o3 : Nat} {tr : Int32} {fl : Nat} {n : Nat} {w : Nat → Nat} {hn : Nat} {kd : Nat → Nat} {pt : Nat → Nat} {ec : Nat} {el : Nat → Nat} {ea : Nat → Nat} {eo : Nat → Nat} {oc : Nat} {ol : Nat → Nat} {oa : Nat → Nat} {oo : Nat → Nat} {p0 : Int32} {p1 : Int32} (hT : wfT n w) (hH : wfH hn kd pt) (hel : ∀ z, el z < 2 ^ 8) (hea : ∀ z, ea z < 2 ^ 8) (hol : ∀ z, ol z < 2 ^ 8) (hoa : ∀ z, oa z < 2 ^ 8) : CtP g yX7_finer cX7_finer 3 (some .int) (rmOf 5 114) [(b0, .inr (6, [.ref t0, .ref h0, .ref y0, .ref s0, .ref e0, .ref o0, .ref r0, .int tr, .int (nI fl)])), (t0, .inr (5, [.int (nI n), .ref t1])), (t1, .inl (gI g, 8, .inl (fun z9 => nI (w z9)))), (h0, .inr (1, [.int (nI hn), .ref h1, .ref h2])), (h1, .inl (gI g, 6, .inl (fun z9 => nI (kd z9)))), (h2, .inl (gI g, 6, .inl (fun z9 => nI (pt z9)))), (e0, .inr (4, [.int (nI ec), .ref e1, .ref e2, .ref e3])), (e1, .inl (gI g, 8, .inl (fun z9 => nI (el z9)))), (e2, .inl (gI g, 8, .inl (fun z9 => nI (ea z9)))), (e3, .inl (gI g, 256, .inl (fun z9 => nI (eo z9)))), (o0, .inr (4, [.int (nI oc), .ref o1, .ref o2, .ref o3])), (o1, .inl (gI g, 8, .inl (fun z9 => nI (ol z9)))), (o2, .inl (gI g, 8, .inl (fun z9 => nI (oa z9)))), (o3, .inl (gI g, 256, .inl (fun z9 => nI (oo z9))))] [.ref b0, .int p0, .int p1] (P_X7_finer g b0 y0 s0 r0 t0 t1 h0 h1 h2 e0 e1 e2 e3 o0 o1 o2 o3 tr fl n w hn kd pt ec el ea eo oc ol oa oo p0 p1) := by
  refine CtP.ofV RX7 rfl (by decide +kernel) rfl rfl (Nat.le_of_ble_eq_true rfl) (List.forall_mem_cons.mpr ⟨rfl, (List.forall_mem_cons.mpr ⟨rfl, (List.forall_mem_cons.mpr ⟨rfl, (fun _ h9 => absurd h9 List.not_mem_nil)⟩)⟩)⟩) (fun x h hr => ?_)
  show vM x 0 [some (.ref b0), some (.int p0), some (.int p1)] [] [(b0, .inr (6, [.ref t0, .ref h0, .ref y0, .ref s0, .ref e0, .ref o0, .ref r0, .int tr, .int (nI fl)])), (t0, .inr (5, [.int (nI n), .ref t1])), (t1, .inl (gI g, 8, .inl (fun z9 => nI (w z9)))), (h0, .inr (1, [.int (nI hn), .ref h1, .ref h2])), (h1, .inl (gI g, 6, .inl (fun z9 => nI (kd z9)))), (h2, .inl (gI g, 6, .inl (fun z9 => nI (pt z9)))), (e0, .inr (4, [.int (nI ec), .ref e1, .ref e2, .ref e3])), (e1, .inl (gI g, 8, .inl (fun z9 => nI (el z9)))), (e2, .inl (gI g, 8, .inl (fun z9 => nI (ea z9)))), (e3, .inl (gI g, 256, .inl (fun z9 => nI (eo z9)))), (o0, .inr (4, [.int (nI oc), .ref o1, .ref o2, .ref o3])), (o1, .inl (gI g, 8, .inl (fun z9 => nI (ol z9)))), (o2, .inl (gI g, 8, .inl (fun z9 => nI (oa z9)))), (o3, .inl (gI g, 256, .inl (fun z9 => nI (oo z9))))]
  have ht1 := hT.1; have ht2 := hT.2.1; have ht3 := hT.2.2; have hh1 := hH.1; have hh2 := hH.2.1; have hh3 := hH.2.2.1; have hh4 := hH.2.2.2
  refine v_aload_n0 h dX7_finer_0 ?_
  refine v_get h mw_X7 0 rfl rfl 1 (by decide) mf_X7_21 rfl dX7_finer_1 ?_
  refine v_iload_n1 h dX7_finer_4 ?_
  refine cw_V_3_4_5_1_i (ci := 1) h (c_X1_has (g := g) (by first | assumption | omega)) lk_X7_111 ⟨rfl, rfl, (Nat.le_of_ble_eq_true rfl), (Nat.le_of_ble_eq_true rfl)⟩ rfl rfl rfl (Nat.le_of_ble_eq_true rfl) dX7_finer_5 ?_
  refine v_if_eqB h dX7_finer_8 (tgt := 22) (by decide) (fun c8 => ?_) (fun c8 => ?_)
  · have e8 := rN_f c8
    refine v_iconst h (v := -1) dX7_finer_22 (by decide) ?_
    exact v_iretP h hr dX7_finer_23 (P_X7_finer_mk (q := _) (by simp only [s_finer, e8]) (by first | assumption | exact lay8l (by assumption) (by assumption) | exact lay8a (by assumption) (by assumption)) (by first | assumption | exact lay8l (by assumption) (by assumption) | exact lay8a (by assumption) (by assumption)) (by first | assumption | exact lay8l (by assumption) (by assumption) | exact lay8a (by assumption) (by assumption)) (by first | assumption | exact lay8l (by assumption) (by assumption) | exact lay8a (by assumption) (by assumption))) rfl
  · obtain ⟨j0, hj0, rfl⟩ := inR_of c8 (by omega)
    have e8 := rN_N hj0 (by omega)
    refine v_aload_n0 h dX7_finer_11 ?_
    refine v_get h mw_X7 0 rfl rfl 1 (by decide) mf_X7_21 rfl dX7_finer_12 ?_
    refine v_iload_n2 h dX7_finer_15 ?_
    refine cw_V_3_4_5_1_i (ci := 1) h (c_X1_has (g := g) (by first | assumption | omega)) lk_X7_111 ⟨rfl, rfl, (Nat.le_of_ble_eq_true rfl), (Nat.le_of_ble_eq_true rfl)⟩ rfl rfl rfl (Nat.le_of_ble_eq_true rfl) dX7_finer_16 ?_
    refine v_if_neB h dX7_finer_19 (tgt := 24) (by decide) (fun c19 => ?_) (fun c19 => ?_)
    · obtain ⟨j1, hj1, rfl⟩ := inR_of c19 (by omega)
      have e19 := rN_N hj1 (by omega)
      refine v_aload_n0 h dX7_finer_24 ?_
      refine v_get h mw_X7 0 rfl rfl 4 (by decide) mf_X7_42 rfl dX7_finer_25 ?_
      refine v_aload_n0 h dX7_finer_28 ?_
      refine v_get h mw_X7 0 rfl rfl 1 (by decide) mf_X7_21 rfl dX7_finer_29 ?_
      refine v_iload_n1 h dX7_finer_32 ?_
      refine v_aload_n0 h dX7_finer_33 ?_
      refine v_get h mw_X7 0 rfl rfl 0 (by decide) mf_X7_14 rfl dX7_finer_34 ?_
      refine cw_V_6_7_8_9_3_4_5_1_2_3_v (ci := 4) h (c_X4_lay (g := g) (by first | assumption | omega) (by first | assumption | omega) (by first | assumption | omega)) lk_X7_125 ⟨rfl, rfl, (Nat.le_of_ble_eq_true rfl), (Nat.le_of_ble_eq_true rfl)⟩ rfl rfl rfl (Nat.le_of_ble_eq_true rfl) dX7_finer_37 ?_
      refine v_aload_n0 h dX7_finer_40 ?_
      refine v_get h mw_X7 0 rfl rfl 5 (by decide) mf_X7_46 rfl dX7_finer_41 ?_
      refine v_aload_n0 h dX7_finer_44 ?_
      refine v_get h mw_X7 0 rfl rfl 1 (by decide) mf_X7_21 rfl dX7_finer_45 ?_
      refine v_iload_n2 h dX7_finer_48 ?_
      refine v_aload_n0 h dX7_finer_49 ?_
      refine v_get h mw_X7 0 rfl rfl 0 (by decide) mf_X7_14 rfl dX7_finer_50 ?_
      refine cw_V_10_11_12_13_3_4_5_1_2_3_v (ci := 4) h (c_X4_lay (g := g) (by first | assumption | omega) (by first | assumption | omega) (by first | assumption | omega)) lk_X7_125 ⟨rfl, rfl, (Nat.le_of_ble_eq_true rfl), (Nat.le_of_ble_eq_true rfl)⟩ rfl rfl rfl (Nat.le_of_ble_eq_true rfl) dX7_finer_53 ?_
      refine v_aload_n0 h dX7_finer_56 ?_
      refine v_get h mw_X7 0 rfl rfl 4 (by decide) mf_X7_42 rfl dX7_finer_57 ?_
      refine v_aload_n0 h dX7_finer_60 ?_
      refine v_get h mw_X7 0 rfl rfl 5 (by decide) mf_X7_46 rfl dX7_finer_61 ?_
      refine cw_V_6_7_8_9_10_11_12_13_1_i (ci := 4) h (c_X4_isFinerThan (g := g) (by first | assumption | omega) (by first | assumption | omega) (by first | assumption | omega) (by exact lay8l hel ht1) (by exact lay8l hol ht1)) lk_X7_132 ⟨rfl, rfl, (Nat.le_of_ble_eq_true rfl), (Nat.le_of_ble_eq_true rfl)⟩ rfl rfl rfl (Nat.le_of_ble_eq_true rfl) dX7_finer_64 ?_
      rw [finM_lay]
      refine v_if_eqB h dX7_finer_67 (tgt := 74) (by decide) (fun c67 => ?_) (fun c67 => ?_)
      · refine v_iconst h (v := nI 0) dX7_finer_74 (by decide) ?_
        exact v_iretP h hr dX7_finer_75 (P_X7_finer_mk (q := _) (by simp only [s_finer, e8, e19, c67, bN, if_true, Bool.false_eq_true, if_false]) (by first | assumption | exact lay8l (by assumption) (by assumption) | exact lay8a (by assumption) (by assumption)) (by first | assumption | exact lay8l (by assumption) (by assumption) | exact lay8a (by assumption) (by assumption)) (by first | assumption | exact lay8l (by assumption) (by assumption) | exact lay8a (by assumption) (by assumption)) (by first | assumption | exact lay8l (by assumption) (by assumption) | exact lay8a (by assumption) (by assumption))) rfl
      · refine v_iconst h (v := nI 1) dX7_finer_70 (by decide) ?_
        refine v_goto h dX7_finer_71 (tgt := 75) (by decide) ?_
        exact v_iretP h hr dX7_finer_75 (P_X7_finer_mk (q := _) (by simp only [s_finer, e8, e19, c67, bN, if_true, Bool.false_eq_true, if_false]) (by first | assumption | exact lay8l (by assumption) (by assumption) | exact lay8a (by assumption) (by assumption)) (by first | assumption | exact lay8l (by assumption) (by assumption) | exact lay8a (by assumption) (by assumption)) (by first | assumption | exact lay8l (by assumption) (by assumption) | exact lay8a (by assumption) (by assumption)) (by first | assumption | exact lay8l (by assumption) (by assumption) | exact lay8a (by assumption) (by assumption))) rfl
    · have e19 := rN_f c19
      refine v_iconst h (v := -1) dX7_finer_22 (by decide) ?_
      exact v_iretP h hr dX7_finer_23 (P_X7_finer_mk (q := _) (by simp only [s_finer, e8, e19]) (by first | assumption | exact lay8l (by assumption) (by assumption) | exact lay8a (by assumption) (by assumption)) (by first | assumption | exact lay8l (by assumption) (by assumption) | exact lay8a (by assumption) (by assumption)) (by first | assumption | exact lay8l (by assumption) (by assumption) | exact lay8a (by assumption) (by assumption)) (by first | assumption | exact lay8l (by assumption) (by assumption) | exact lay8a (by assumption) (by assumption))) rfl
def P_X7_way (g : vG) (b0 y0 s0 o0 r0 t0 t1 h0 h1 h2 e0 e1 e2 e3 : Nat) (tr : Int32) (fl : Nat) (n : Nat) (w : Nat → Nat) (hn : Nat) (kd : Nat → Nat) (pt : Nat → Nat) (ec : Nat) (el : Nat → Nat) (ea : Nat → Nat) (eo : Nat → Nat) (p0 : Int32) (p1 : Int32) (p2 : Int32) (p3 : Int32) : Option Value → va_W → Prop := fun r wo => ∃ ec' : Nat, ∃ el' : Nat → Nat, ∃ ea' : Nat → Nat, (∀ z, el' z < 2 ^ 8) ∧ (∀ z, ea' z < 2 ^ 8) ∧ r = some (.int (s_way n w hn kd pt p0 p1 p2 p3)) ∧ wo = [(b0, .inr (6, [.ref t0, .ref h0, .ref y0, .ref s0, .ref e0, .ref o0, .ref r0, .int tr, .int (nI fl)])), (t0, .inr (5, [.int (nI n), .ref t1])), (t1, .inl (gI g, 8, .inl (fun z9 => nI (w z9)))), (h0, .inr (1, [.int (nI hn), .ref h1, .ref h2])), (h1, .inl (gI g, 6, .inl (fun z9 => nI (kd z9)))), (h2, .inl (gI g, 6, .inl (fun z9 => nI (pt z9)))), (e0, .inr (4, [.int (nI ec'), .ref e1, .ref e2, .ref e3])), (e1, .inl (gI g, 8, .inl (fun z9 => nI (el' z9)))), (e2, .inl (gI g, 8, .inl (fun z9 => nI (ea' z9)))), (e3, .inl (gI g, 256, .inl (fun z9 => nI (eo z9))))]
theorem P_X7_way_mk {g : vG} {b0 y0 s0 o0 r0 t0 t1 h0 h1 h2 e0 e1 e2 e3 : Nat} {tr : Int32} {fl : Nat} {n : Nat} {w : Nat → Nat} {hn : Nat} {kd : Nat → Nat} {pt : Nat → Nat} {ec : Nat} {el : Nat → Nat} {ea : Nat → Nat} {eo : Nat → Nat} {p0 : Int32} {p1 : Int32} {p2 : Int32} {p3 : Int32} {ec' : Nat} {el' : Nat → Nat} {ea' : Nat → Nat} {q : Int32} (hs : s_way n w hn kd pt p0 p1 p2 p3 = q) (hb0 : ∀ z, el' z < 2 ^ 8) (hb1 : ∀ z, ea' z < 2 ^ 8) : P_X7_way g b0 y0 s0 o0 r0 t0 t1 h0 h1 h2 e0 e1 e2 e3 tr fl n w hn kd pt ec el ea eo p0 p1 p2 p3 (some (.int q)) [(b0, .inr (6, [.ref t0, .ref h0, .ref y0, .ref s0, .ref e0, .ref o0, .ref r0, .int tr, .int (nI fl)])), (t0, .inr (5, [.int (nI n), .ref t1])), (t1, .inl (gI g, 8, .inl (fun z9 => nI (w z9)))), (h0, .inr (1, [.int (nI hn), .ref h1, .ref h2])), (h1, .inl (gI g, 6, .inl (fun z9 => nI (kd z9)))), (h2, .inl (gI g, 6, .inl (fun z9 => nI (pt z9)))), (e0, .inr (4, [.int (nI ec'), .ref e1, .ref e2, .ref e3])), (e1, .inl (gI g, 8, .inl (fun z9 => nI (el' z9)))), (e2, .inl (gI g, 8, .inl (fun z9 => nI (ea' z9)))), (e3, .inl (gI g, 256, .inl (fun z9 => nI (eo z9))))] := by subst hs; exact ⟨_, _, _, hb0, hb1, rfl, rfl⟩
set_option maxRecDepth 20000 in
set_option maxHeartbeats 4000000 in
theorem c_X7_way {g : vG} {b0 y0 s0 o0 r0 t0 t1 h0 h1 h2 e0 e1 e2 e3 : Nat} {tr : Int32} {fl : Nat} {n : Nat} {w : Nat → Nat} {hn : Nat} {kd : Nat → Nat} {pt : Nat → Nat} {ec : Nat} {el : Nat → Nat} {ea : Nat → Nat} {eo : Nat → Nat} {p0 : Int32} {p1 : Int32} {p2 : Int32} {p3 : Int32} (hT : wfT n w) (hH : wfH hn kd pt) (hel : ∀ z, el z < 2 ^ 8) (hea : ∀ z, ea z < 2 ^ 8) : CtP g yX7_way cX7_way 5 (some .int) (rmOf 6 138) [(b0, .inr (6, [.ref t0, .ref h0, .ref y0, .ref s0, .ref e0, .ref o0, .ref r0, .int tr, .int (nI fl)])), (t0, .inr (5, [.int (nI n), .ref t1])), (t1, .inl (gI g, 8, .inl (fun z9 => nI (w z9)))), (h0, .inr (1, [.int (nI hn), .ref h1, .ref h2])), (h1, .inl (gI g, 6, .inl (fun z9 => nI (kd z9)))), (h2, .inl (gI g, 6, .inl (fun z9 => nI (pt z9)))), (e0, .inr (4, [.int (nI ec), .ref e1, .ref e2, .ref e3])), (e1, .inl (gI g, 8, .inl (fun z9 => nI (el z9)))), (e2, .inl (gI g, 8, .inl (fun z9 => nI (ea z9)))), (e3, .inl (gI g, 256, .inl (fun z9 => nI (eo z9))))] [.ref b0, .int p0, .int p1, .int p2, .int p3] (P_X7_way g b0 y0 s0 o0 r0 t0 t1 h0 h1 h2 e0 e1 e2 e3 tr fl n w hn kd pt ec el ea eo p0 p1 p2 p3) := by
  refine CtP.ofV RX7 rfl (by decide +kernel) rfl rfl (Nat.le_of_ble_eq_true rfl) (List.forall_mem_cons.mpr ⟨rfl, (List.forall_mem_cons.mpr ⟨rfl, (List.forall_mem_cons.mpr ⟨rfl, (List.forall_mem_cons.mpr ⟨rfl, (List.forall_mem_cons.mpr ⟨rfl, (fun _ h9 => absurd h9 List.not_mem_nil)⟩)⟩)⟩)⟩)⟩) (fun x h hr => ?_)
  show vM x 0 [some (.ref b0), some (.int p0), some (.int p1), some (.int p2), some (.int p3)] [] [(b0, .inr (6, [.ref t0, .ref h0, .ref y0, .ref s0, .ref e0, .ref o0, .ref r0, .int tr, .int (nI fl)])), (t0, .inr (5, [.int (nI n), .ref t1])), (t1, .inl (gI g, 8, .inl (fun z9 => nI (w z9)))), (h0, .inr (1, [.int (nI hn), .ref h1, .ref h2])), (h1, .inl (gI g, 6, .inl (fun z9 => nI (kd z9)))), (h2, .inl (gI g, 6, .inl (fun z9 => nI (pt z9)))), (e0, .inr (4, [.int (nI ec), .ref e1, .ref e2, .ref e3])), (e1, .inl (gI g, 8, .inl (fun z9 => nI (el z9)))), (e2, .inl (gI g, 8, .inl (fun z9 => nI (ea z9)))), (e3, .inl (gI g, 256, .inl (fun z9 => nI (eo z9))))]
  have ht1 := hT.1; have ht2 := hT.2.1; have ht3 := hT.2.2; have hh1 := hH.1; have hh2 := hH.2.1; have hh3 := hH.2.2.1; have hh4 := hH.2.2.2
  refine v_aload_n0 h dX7_way_0 ?_
  refine v_get h mw_X7 0 rfl rfl 1 (by decide) mf_X7_21 rfl dX7_way_1 ?_
  refine v_iload_n1 h dX7_way_4 ?_
  refine cw_V_3_4_5_1_i (ci := 1) h (c_X1_has (g := g) (by first | assumption | omega)) lk_X7_111 ⟨rfl, rfl, (Nat.le_of_ble_eq_true rfl), (Nat.le_of_ble_eq_true rfl)⟩ rfl rfl rfl (Nat.le_of_ble_eq_true rfl) dX7_way_5 ?_
  refine v_if_eqB h dX7_way_8 (tgt := 39) (by decide) (fun c8 => ?_) (fun c8 => ?_)
  · have e8 := rN_f c8
    refine v_iconst h (v := -1) dX7_way_39 (by decide) ?_
    exact v_iretP h hr dX7_way_40 (P_X7_way_mk (q := _) (by simp only [s_way, e8]) (by first | assumption | exact lay8l (by assumption) (by assumption) | exact lay8a (by assumption) (by assumption)) (by first | assumption | exact lay8l (by assumption) (by assumption) | exact lay8a (by assumption) (by assumption))) rfl
  · obtain ⟨j0, hj0, rfl⟩ := inR_of c8 (by omega)
    have e8 := rN_N hj0 (by omega)
    refine v_aload_n0 h dX7_way_11 ?_
    refine v_get h mw_X7 0 rfl rfl 0 (by decide) mf_X7_14 rfl dX7_way_12 ?_
    refine v_iload_n2 h dX7_way_15 ?_
    refine cw_V_1_2_1_i (ci := 5) h (c_X6_has (g := g) (by first | assumption | omega)) lk_X7_96 ⟨rfl, rfl, (Nat.le_of_ble_eq_true rfl), (Nat.le_of_ble_eq_true rfl)⟩ rfl rfl rfl (Nat.le_of_ble_eq_true rfl) dX7_way_16 ?_
    refine v_if_eqB h dX7_way_19 (tgt := 39) (by decide) (fun c19 => ?_) (fun c19 => ?_)
    · have e19 := rN_f c19
      refine v_iconst h (v := -1) dX7_way_39 (by decide) ?_
      exact v_iretP h hr dX7_way_40 (P_X7_way_mk (q := _) (by simp only [s_way, e8, e19]) (by first | assumption | exact lay8l (by assumption) (by assumption) | exact lay8a (by assumption) (by assumption)) (by first | assumption | exact lay8l (by assumption) (by assumption) | exact lay8a (by assumption) (by assumption))) rfl
    · obtain ⟨j1, hj1, rfl⟩ := inR_of c19 (by omega)
      have e19 := rN_N hj1 (by omega)
      refine v_aload_n0 h dX7_way_22 ?_
      refine v_get h mw_X7 0 rfl rfl 0 (by decide) mf_X7_14 rfl dX7_way_23 ?_
      refine v_iload_n3 h dX7_way_26 ?_
      refine cw_V_1_2_1_i (ci := 5) h (c_X6_has (g := g) (by first | assumption | omega)) lk_X7_96 ⟨rfl, rfl, (Nat.le_of_ble_eq_true rfl), (Nat.le_of_ble_eq_true rfl)⟩ rfl rfl rfl (Nat.le_of_ble_eq_true rfl) dX7_way_27 ?_
      refine v_if_eqB h dX7_way_30 (tgt := 39) (by decide) (fun c30 => ?_) (fun c30 => ?_)
      · have e30 := rN_f c30
        refine v_iconst h (v := -1) dX7_way_39 (by decide) ?_
        exact v_iretP h hr dX7_way_40 (P_X7_way_mk (q := _) (by simp only [s_way, e8, e19, e30]) (by first | assumption | exact lay8l (by assumption) (by assumption) | exact lay8a (by assumption) (by assumption)) (by first | assumption | exact lay8l (by assumption) (by assumption) | exact lay8a (by assumption) (by assumption))) rfl
      · obtain ⟨j2, hj2, rfl⟩ := inR_of c30 (by omega)
        have e30 := rN_N hj2 (by omega)
        refine v_iload4 h dX7_way_33 ?_
        refine v_iconst h (v := -1) dX7_way_35 (by decide) ?_
        refine v_icmp_ge h dX7_way_36 (tgt := 41) (by decide) (fun c36 => ?_) (fun c36 => ?_)
        · have e36 : ¬ p3 < -1 := Int32.not_lt.mpr c36
          refine v_aload_n0 h dX7_way_41 ?_
          refine v_get h mw_X7 0 rfl rfl 4 (by decide) mf_X7_42 rfl dX7_way_42 ?_
          refine v_aload_n0 h dX7_way_45 ?_
          refine v_get h mw_X7 0 rfl rfl 1 (by decide) mf_X7_21 rfl dX7_way_46 ?_
          refine v_iload_n1 h dX7_way_49 ?_
          refine v_aload_n0 h dX7_way_50 ?_
          refine v_get h mw_X7 0 rfl rfl 0 (by decide) mf_X7_14 rfl dX7_way_51 ?_
          refine cw_V_6_7_8_9_3_4_5_1_2_3_v (ci := 4) h (c_X4_lay (g := g) (by first | assumption | omega) (by first | assumption | omega) (by first | assumption | omega)) lk_X7_125 ⟨rfl, rfl, (Nat.le_of_ble_eq_true rfl), (Nat.le_of_ble_eq_true rfl)⟩ rfl rfl rfl (Nat.le_of_ble_eq_true rfl) dX7_way_54 ?_
          refine v_iload4 h dX7_way_57 ?_
          refine v_iconst h (v := -1) dX7_way_59 (by decide) ?_
          refine v_icmp_ne h dX7_way_60 (tgt := 75) (by decide) (fun c60 => ?_) (fun c60 => ?_)
          · obtain ⟨j3, hj3, rfl⟩ := nI_of (ge_m1 e36 c60)
            refine v_aload_n0 h dX7_way_75 ?_
            refine v_get h mw_X7 0 rfl rfl 4 (by decide) mf_X7_42 rfl dX7_way_76 ?_
            refine v_iload_n2 h dX7_way_79 ?_
            refine v_iload_n3 h dX7_way_80 ?_
            refine v_iload4 h dX7_way_81 ?_
            refine cw_V_6_7_8_9_3_i (ci := 4) h (c_X4_behindSwaps (g := g) (by first | assumption | omega) (by first | assumption | omega) (by first | assumption | omega) (by first | assumption | omega) (by exact lay8a hea ht1) (by intro z hz; rw [layF_in hz, alkS_bit, decide_eq_true hz, alk_self]; rfl) (by intro z y hz hy; rw [layF_in hz, layF_in hy, alkS_bit, alkS_bit, decide_eq_true hz, decide_eq_true hy, alk_comm])) lk_X7_139 ⟨rfl, rfl, (Nat.le_of_ble_eq_true rfl), (Nat.le_of_ble_eq_true rfl)⟩ rfl rfl rfl (Nat.le_of_ble_eq_true rfl) dX7_way_83 ?_
            exact v_iretP h hr dX7_way_86 (P_X7_way_mk (q := _) (by simp only [s_way, e8, e19, e30, if_neg e36, if_neg c60, tn_N hj3, few_lay, wayS_lay hj1]) (by first | assumption | exact lay8l (by assumption) (by assumption) | exact lay8a (by assumption) (by assumption)) (by first | assumption | exact lay8l (by assumption) (by assumption) | exact lay8a (by assumption) (by assumption))) rfl
          · refine v_aload_n0 h dX7_way_63 ?_
            refine v_get h mw_X7 0 rfl rfl 4 (by decide) mf_X7_42 rfl dX7_way_64 ?_
            refine v_iload_n2 h dX7_way_67 ?_
            refine v_iload_n3 h dX7_way_68 ?_
            refine cw_V_6_7_8_9_2_i (ci := 4) h (c_X4_fewestSwaps (g := g) (by first | assumption | omega) (by first | assumption | omega) (by first | assumption | omega) (by exact lay8a hea ht1)) lk_X7_136 ⟨rfl, rfl, (Nat.le_of_ble_eq_true rfl), (Nat.le_of_ble_eq_true rfl)⟩ rfl rfl rfl (Nat.le_of_ble_eq_true rfl) dX7_way_69 ?_
            refine v_goto h dX7_way_72 (tgt := 86) (by decide) ?_
            exact v_iretP h hr dX7_way_86 (P_X7_way_mk (q := _) (by simp only [s_way, e8, e19, e30, if_neg e36, if_pos c60, few_lay, wayS_lay hj1]) (by first | assumption | exact lay8l (by assumption) (by assumption) | exact lay8a (by assumption) (by assumption)) (by first | assumption | exact lay8l (by assumption) (by assumption) | exact lay8a (by assumption) (by assumption))) rfl
        · refine v_iconst h (v := -1) dX7_way_39 (by decide) ?_
          exact v_iretP h hr dX7_way_40 (P_X7_way_mk (q := _) (by simp only [s_way, e8, e19, e30, if_pos (Int32.not_le.mp c36)]) (by first | assumption | exact lay8l (by assumption) (by assumption) | exact lay8a (by assumption) (by assumption)) (by first | assumption | exact lay8l (by assumption) (by assumption) | exact lay8a (by assumption) (by assumption))) rfl
def P_X7_noon (g : vG) (b0 y0 s0 o0 r0 t0 t1 h0 h1 h2 e0 e1 e2 e3 : Nat) (tr : Int32) (fl : Nat) (n : Nat) (w : Nat → Nat) (hn : Nat) (kd : Nat → Nat) (pt : Nat → Nat) (ec : Nat) (el : Nat → Nat) (ea : Nat → Nat) (eo : Nat → Nat) (p0 : Int32) (p1 : Int32) (p2 : Int32) : Option Value → va_W → Prop := fun r wo => ∃ ec' : Nat, ∃ el' : Nat → Nat, ∃ ea' : Nat → Nat, (∀ z, el' z < 2 ^ 8) ∧ (∀ z, ea' z < 2 ^ 8) ∧ r = some (.int (s_noon n w hn kd pt p0 p1 p2)) ∧ wo = [(b0, .inr (6, [.ref t0, .ref h0, .ref y0, .ref s0, .ref e0, .ref o0, .ref r0, .int tr, .int (nI fl)])), (t0, .inr (5, [.int (nI n), .ref t1])), (t1, .inl (gI g, 8, .inl (fun z9 => nI (w z9)))), (h0, .inr (1, [.int (nI hn), .ref h1, .ref h2])), (h1, .inl (gI g, 6, .inl (fun z9 => nI (kd z9)))), (h2, .inl (gI g, 6, .inl (fun z9 => nI (pt z9)))), (e0, .inr (4, [.int (nI ec'), .ref e1, .ref e2, .ref e3])), (e1, .inl (gI g, 8, .inl (fun z9 => nI (el' z9)))), (e2, .inl (gI g, 8, .inl (fun z9 => nI (ea' z9)))), (e3, .inl (gI g, 256, .inl (fun z9 => nI (eo z9))))]
theorem P_X7_noon_mk {g : vG} {b0 y0 s0 o0 r0 t0 t1 h0 h1 h2 e0 e1 e2 e3 : Nat} {tr : Int32} {fl : Nat} {n : Nat} {w : Nat → Nat} {hn : Nat} {kd : Nat → Nat} {pt : Nat → Nat} {ec : Nat} {el : Nat → Nat} {ea : Nat → Nat} {eo : Nat → Nat} {p0 : Int32} {p1 : Int32} {p2 : Int32} {ec' : Nat} {el' : Nat → Nat} {ea' : Nat → Nat} {q : Int32} (hs : s_noon n w hn kd pt p0 p1 p2 = q) (hb0 : ∀ z, el' z < 2 ^ 8) (hb1 : ∀ z, ea' z < 2 ^ 8) : P_X7_noon g b0 y0 s0 o0 r0 t0 t1 h0 h1 h2 e0 e1 e2 e3 tr fl n w hn kd pt ec el ea eo p0 p1 p2 (some (.int q)) [(b0, .inr (6, [.ref t0, .ref h0, .ref y0, .ref s0, .ref e0, .ref o0, .ref r0, .int tr, .int (nI fl)])), (t0, .inr (5, [.int (nI n), .ref t1])), (t1, .inl (gI g, 8, .inl (fun z9 => nI (w z9)))), (h0, .inr (1, [.int (nI hn), .ref h1, .ref h2])), (h1, .inl (gI g, 6, .inl (fun z9 => nI (kd z9)))), (h2, .inl (gI g, 6, .inl (fun z9 => nI (pt z9)))), (e0, .inr (4, [.int (nI ec'), .ref e1, .ref e2, .ref e3])), (e1, .inl (gI g, 8, .inl (fun z9 => nI (el' z9)))), (e2, .inl (gI g, 8, .inl (fun z9 => nI (ea' z9)))), (e3, .inl (gI g, 256, .inl (fun z9 => nI (eo z9))))] := by subst hs; exact ⟨_, _, _, hb0, hb1, rfl, rfl⟩
set_option maxRecDepth 20000 in
set_option maxHeartbeats 4000000 in
theorem c_X7_noon {g : vG} {b0 y0 s0 o0 r0 t0 t1 h0 h1 h2 e0 e1 e2 e3 : Nat} {tr : Int32} {fl : Nat} {n : Nat} {w : Nat → Nat} {hn : Nat} {kd : Nat → Nat} {pt : Nat → Nat} {ec : Nat} {el : Nat → Nat} {ea : Nat → Nat} {eo : Nat → Nat} {p0 : Int32} {p1 : Int32} {p2 : Int32} (hT : wfT n w) (hH : wfH hn kd pt) (hel : ∀ z, el z < 2 ^ 8) (hea : ∀ z, ea z < 2 ^ 8) : CtP g yX7_noon cX7_noon 4 (some .int) (rmOf 5 114) [(b0, .inr (6, [.ref t0, .ref h0, .ref y0, .ref s0, .ref e0, .ref o0, .ref r0, .int tr, .int (nI fl)])), (t0, .inr (5, [.int (nI n), .ref t1])), (t1, .inl (gI g, 8, .inl (fun z9 => nI (w z9)))), (h0, .inr (1, [.int (nI hn), .ref h1, .ref h2])), (h1, .inl (gI g, 6, .inl (fun z9 => nI (kd z9)))), (h2, .inl (gI g, 6, .inl (fun z9 => nI (pt z9)))), (e0, .inr (4, [.int (nI ec), .ref e1, .ref e2, .ref e3])), (e1, .inl (gI g, 8, .inl (fun z9 => nI (el z9)))), (e2, .inl (gI g, 8, .inl (fun z9 => nI (ea z9)))), (e3, .inl (gI g, 256, .inl (fun z9 => nI (eo z9))))] [.ref b0, .int p0, .int p1, .int p2] (P_X7_noon g b0 y0 s0 o0 r0 t0 t1 h0 h1 h2 e0 e1 e2 e3 tr fl n w hn kd pt ec el ea eo p0 p1 p2) := by
  refine CtP.ofV RX7 rfl (by decide +kernel) rfl rfl (Nat.le_of_ble_eq_true rfl) (List.forall_mem_cons.mpr ⟨rfl, (List.forall_mem_cons.mpr ⟨rfl, (List.forall_mem_cons.mpr ⟨rfl, (List.forall_mem_cons.mpr ⟨rfl, (fun _ h9 => absurd h9 List.not_mem_nil)⟩)⟩)⟩)⟩) (fun x h hr => ?_)
  show vM x 0 [some (.ref b0), some (.int p0), some (.int p1), some (.int p2)] [] [(b0, .inr (6, [.ref t0, .ref h0, .ref y0, .ref s0, .ref e0, .ref o0, .ref r0, .int tr, .int (nI fl)])), (t0, .inr (5, [.int (nI n), .ref t1])), (t1, .inl (gI g, 8, .inl (fun z9 => nI (w z9)))), (h0, .inr (1, [.int (nI hn), .ref h1, .ref h2])), (h1, .inl (gI g, 6, .inl (fun z9 => nI (kd z9)))), (h2, .inl (gI g, 6, .inl (fun z9 => nI (pt z9)))), (e0, .inr (4, [.int (nI ec), .ref e1, .ref e2, .ref e3])), (e1, .inl (gI g, 8, .inl (fun z9 => nI (el z9)))), (e2, .inl (gI g, 8, .inl (fun z9 => nI (ea z9)))), (e3, .inl (gI g, 256, .inl (fun z9 => nI (eo z9))))]
  have ht1 := hT.1; have ht2 := hT.2.1; have ht3 := hT.2.2; have hh1 := hH.1; have hh2 := hH.2.1; have hh3 := hH.2.2.1; have hh4 := hH.2.2.2
  refine v_aload_n0 h dX7_noon_0 ?_
  refine v_get h mw_X7 0 rfl rfl 1 (by decide) mf_X7_21 rfl dX7_noon_1 ?_
  refine v_iload_n1 h dX7_noon_4 ?_
  refine cw_V_3_4_5_1_i (ci := 1) h (c_X1_has (g := g) (by first | assumption | omega)) lk_X7_111 ⟨rfl, rfl, (Nat.le_of_ble_eq_true rfl), (Nat.le_of_ble_eq_true rfl)⟩ rfl rfl rfl (Nat.le_of_ble_eq_true rfl) dX7_noon_5 ?_
  refine v_if_eqB h dX7_noon_8 (tgt := 22) (by decide) (fun c8 => ?_) (fun c8 => ?_)
  · have e8 := rN_f c8
    refine v_iconst h (v := -1) dX7_noon_22 (by decide) ?_
    exact v_iretP h hr dX7_noon_23 (P_X7_noon_mk (q := _) (by simp only [s_noon, e8]) (by first | assumption | exact lay8l (by assumption) (by assumption) | exact lay8a (by assumption) (by assumption)) (by first | assumption | exact lay8l (by assumption) (by assumption) | exact lay8a (by assumption) (by assumption))) rfl
  · obtain ⟨j0, hj0, rfl⟩ := inR_of c8 (by omega)
    have e8 := rN_N hj0 (by omega)
    refine v_aload_n0 h dX7_noon_11 ?_
    refine v_get h mw_X7 0 rfl rfl 0 (by decide) mf_X7_14 rfl dX7_noon_12 ?_
    refine v_iload_n2 h dX7_noon_15 ?_
    refine cw_V_1_2_1_i (ci := 5) h (c_X6_has (g := g) (by first | assumption | omega)) lk_X7_96 ⟨rfl, rfl, (Nat.le_of_ble_eq_true rfl), (Nat.le_of_ble_eq_true rfl)⟩ rfl rfl rfl (Nat.le_of_ble_eq_true rfl) dX7_noon_16 ?_
    refine v_if_neB h dX7_noon_19 (tgt := 24) (by decide) (fun c19 => ?_) (fun c19 => ?_)
    · obtain ⟨j1, hj1, rfl⟩ := inR_of c19 (by omega)
      have e19 := rN_N hj1 (by omega)
      refine v_iload_n3 h dX7_noon_24 ?_
      refine v_if_lt h dX7_noon_25 (tgt := 34) (by decide) (fun c25 => ?_) (fun c25 => ?_)
      · have e25 := rW_f1 (b := 99) (a := 0) c25
        refine v_bipush h (v := -2) dX7_noon_34 (by decide) ?_
        exact v_iretP h hr dX7_noon_36 (P_X7_noon_mk (q := _) (by simp only [s_noon, e8, e19, e25]) (by first | assumption | exact lay8l (by assumption) (by assumption) | exact lay8a (by assumption) (by assumption)) (by first | assumption | exact lay8l (by assumption) (by assumption) | exact lay8a (by assumption) (by assumption))) rfl
      · refine v_iload_n3 h dX7_noon_28 ?_
        refine v_bipush h (v := nI 99) dX7_noon_29 (by decide) ?_
        refine v_icmp_le h dX7_noon_31 (tgt := 37) (by decide) (fun c31 => ?_) (fun c31 => ?_)
        · obtain ⟨j2, hj2a, hj2, rfl⟩ := rW_of (a := 0) (b := 99) (Int32.not_lt.mp c25) c31 (by omega) (by omega)
          have e31 := rW_N hj2a hj2 (by omega)
          refine v_aload_n0 h dX7_noon_37 ?_
          refine v_get h mw_X7 0 rfl rfl 4 (by decide) mf_X7_42 rfl dX7_noon_38 ?_
          refine v_aload_n0 h dX7_noon_41 ?_
          refine v_get h mw_X7 0 rfl rfl 1 (by decide) mf_X7_21 rfl dX7_noon_42 ?_
          refine v_iload_n1 h dX7_noon_45 ?_
          refine v_aload_n0 h dX7_noon_46 ?_
          refine v_get h mw_X7 0 rfl rfl 0 (by decide) mf_X7_14 rfl dX7_noon_47 ?_
          refine cw_V_6_7_8_9_3_4_5_1_2_3_v (ci := 4) h (c_X4_lay (g := g) (by first | assumption | omega) (by first | assumption | omega) (by first | assumption | omega)) lk_X7_125 ⟨rfl, rfl, (Nat.le_of_ble_eq_true rfl), (Nat.le_of_ble_eq_true rfl)⟩ rfl rfl rfl (Nat.le_of_ble_eq_true rfl) dX7_noon_50 ?_
          refine v_aload_n0 h dX7_noon_53 ?_
          refine v_get h mw_X7 0 rfl rfl 4 (by decide) mf_X7_42 rfl dX7_noon_54 ?_
          refine v_iload_n2 h dX7_noon_57 ?_
          refine v_iload_n3 h dX7_noon_58 ?_
          refine cw_V_6_7_8_9_2_i (ci := 4) h (c_X4_within (g := g) (by first | assumption | omega) (by first | assumption | omega) (by first | assumption | omega) (by exact lay8a hea ht1)) lk_X7_143 ⟨rfl, rfl, (Nat.le_of_ble_eq_true rfl), (Nat.le_of_ble_eq_true rfl)⟩ rfl rfl rfl (Nat.le_of_ble_eq_true rfl) dX7_noon_59 ?_
          exact v_iretP h hr dX7_noon_62 (P_X7_noon_mk (q := _) (by simp only [s_noon, e8, e19, e31, wth_lay]) (by first | assumption | exact lay8l (by assumption) (by assumption) | exact lay8a (by assumption) (by assumption)) (by first | assumption | exact lay8l (by assumption) (by assumption) | exact lay8a (by assumption) (by assumption))) rfl
        · have e31 := rW_f2 (a := 0) (b := 99) (Int32.not_le.mp c31)
          refine v_bipush h (v := -2) dX7_noon_34 (by decide) ?_
          exact v_iretP h hr dX7_noon_36 (P_X7_noon_mk (q := _) (by simp only [s_noon, e8, e19, e31]) (by first | assumption | exact lay8l (by assumption) (by assumption) | exact lay8a (by assumption) (by assumption)) (by first | assumption | exact lay8l (by assumption) (by assumption) | exact lay8a (by assumption) (by assumption))) rfl
    · have e19 := rN_f c19
      refine v_iconst h (v := -1) dX7_noon_22 (by decide) ?_
      exact v_iretP h hr dX7_noon_23 (P_X7_noon_mk (q := _) (by simp only [s_noon, e8, e19]) (by first | assumption | exact lay8l (by assumption) (by assumption) | exact lay8a (by assumption) (by assumption)) (by first | assumption | exact lay8l (by assumption) (by assumption) | exact lay8a (by assumption) (by assumption))) rfl
set_option maxRecDepth 20000 in
set_option maxHeartbeats 2000000 in
theorem c_X7_swappedUp {g : vG} {b0 h0 y0 s0 r0 t0 t1 e0 e1 e2 e3 o0 o1 o2 o3 : Nat} {tr : Int32} {fl : Nat} {n : Nat} {w : Nat → Nat} {ec : Nat} {el : Nat → Nat} {ea : Nat → Nat} {eo : Nat → Nat} {oc : Nat} {ol : Nat → Nat} {oa : Nat → Nat} {oo : Nat → Nat} {a : Nat} (hn8 : n ≤ 8) (hec : n ≤ ec) (hec8 : ec ≤ 8) (hoc : n ≤ oc) (hoc8 : oc ≤ 8) (hol : ∀ z, ol z < 2 ^ 8) : Ct g yX7_swappedUp cX7_swappedUp 4 (some .int) (rmOf 2 42) [(b0, .inr (6, [.ref t0, .ref h0, .ref y0, .ref s0, .ref e0, .ref o0, .ref r0, .int tr, .int (nI fl)])), (t0, .inr (5, [.int (nI n), .ref t1])), (t1, .inl (gI g, 8, .inl (fun z9 => nI (w z9)))), (e0, .inr (4, [.int (nI ec), .ref e1, .ref e2, .ref e3])), (e1, .inl (gI g, 8, .inl (fun z9 => nI (el z9)))), (e2, .inl (gI g, 8, .inl (fun z9 => nI (ea z9)))), (e3, .inl (gI g, 256, .inl (fun z9 => nI (eo z9)))), (o0, .inr (4, [.int (nI oc), .ref o1, .ref o2, .ref o3])), (o1, .inl (gI g, 8, .inl (fun z9 => nI (ol z9)))), (o2, .inl (gI g, 8, .inl (fun z9 => nI (oa z9)))), (o3, .inl (gI g, 256, .inl (fun z9 => nI (oo z9))))] [.ref b0, .int (nI a)] (some (.int (nI (swpS ea ol n a)))) [(b0, .inr (6, [.ref t0, .ref h0, .ref y0, .ref s0, .ref e0, .ref o0, .ref r0, .int tr, .int (nI fl)])), (t0, .inr (5, [.int (nI n), .ref t1])), (t1, .inl (gI g, 8, .inl (fun z9 => nI (w z9)))), (e0, .inr (4, [.int (nI ec), .ref e1, .ref e2, .ref e3])), (e1, .inl (gI g, 8, .inl (fun z9 => nI (el z9)))), (e2, .inl (gI g, 8, .inl (fun z9 => nI (ea z9)))), (e3, .inl (gI g, 256, .inl (fun z9 => nI (eo z9)))), (o0, .inr (4, [.int (nI oc), .ref o1, .ref o2, .ref o3])), (o1, .inl (gI g, 8, .inl (fun z9 => nI (ol z9)))), (o2, .inl (gI g, 8, .inl (fun z9 => nI (oa z9)))), (o3, .inl (gI g, 256, .inl (fun z9 => nI (oo z9))))] := by
  refine Ct.ofV RX7 rfl (by decide +kernel) rfl rfl rfl (Nat.le_of_ble_eq_true rfl) (List.forall_mem_cons.mpr ⟨rfl, (List.forall_mem_cons.mpr ⟨rfl, (fun _ h9 => absurd h9 List.not_mem_nil)⟩)⟩) (fun x h hr => ?_)
  show vM x 0 [some (.ref b0), some (.int (nI a)), none, none] [] [(b0, .inr (6, [.ref t0, .ref h0, .ref y0, .ref s0, .ref e0, .ref o0, .ref r0, .int tr, .int (nI fl)])), (t0, .inr (5, [.int (nI n), .ref t1])), (t1, .inl (gI g, 8, .inl (fun z9 => nI (w z9)))), (e0, .inr (4, [.int (nI ec), .ref e1, .ref e2, .ref e3])), (e1, .inl (gI g, 8, .inl (fun z9 => nI (el z9)))), (e2, .inl (gI g, 8, .inl (fun z9 => nI (ea z9)))), (e3, .inl (gI g, 256, .inl (fun z9 => nI (eo z9)))), (o0, .inr (4, [.int (nI oc), .ref o1, .ref o2, .ref o3])), (o1, .inl (gI g, 8, .inl (fun z9 => nI (ol z9)))), (o2, .inl (gI g, 8, .inl (fun z9 => nI (oa z9)))), (o3, .inl (gI g, 256, .inl (fun z9 => nI (oo z9))))]
  refine v_iconst h (v := nI 0) dX7_swappedUp_0 (by decide) ?_
  refine v_istore_n2 h (Nat.le_of_ble_eq_true rfl) dX7_swappedUp_1 ?_
  refine v_iconst h (v := nI 0) dX7_swappedUp_2 (by decide) ?_
  refine v_istore_n3 h (Nat.le_of_ble_eq_true rfl) dX7_swappedUp_3 ?_
  have L4 : ∀ (k4 : Nat) (i : Nat), n - i = k4 → (i ≤ n) → vM x 4 [some (.ref b0), some (.int (nI a)), some (.int (nI (orTo (fun y => if a &&& ea y &&& ol y = 0 then 0 else 2 ^ y) i))), some (.int (nI i))] [] [(b0, .inr (6, [.ref t0, .ref h0, .ref y0, .ref s0, .ref e0, .ref o0, .ref r0, .int tr, .int (nI fl)])), (t0, .inr (5, [.int (nI n), .ref t1])), (t1, .inl (gI g, 8, .inl (fun z9 => nI (w z9)))), (e0, .inr (4, [.int (nI ec), .ref e1, .ref e2, .ref e3])), (e1, .inl (gI g, 8, .inl (fun z9 => nI (el z9)))), (e2, .inl (gI g, 8, .inl (fun z9 => nI (ea z9)))), (e3, .inl (gI g, 256, .inl (fun z9 => nI (eo z9)))), (o0, .inr (4, [.int (nI oc), .ref o1, .ref o2, .ref o3])), (o1, .inl (gI g, 8, .inl (fun z9 => nI (ol z9)))), (o2, .inl (gI g, 8, .inl (fun z9 => nI (oa z9)))), (o3, .inl (gI g, 256, .inl (fun z9 => nI (oo z9))))] := by
    intro k4
    induction k4 using Nat.strongRecOn with
    | _ k4 ih4 =>
      intro i hm4 hi
      refine v_iload_n3 h dX7_swappedUp_4 ?_
      refine v_aload_n0 h dX7_swappedUp_5 ?_
      refine v_get h mw_X7 0 rfl rfl 0 (by decide) mf_X7_14 rfl dX7_swappedUp_6 ?_
      refine cw_V_1_2_0_i (ci := 5) h (c_X6_count (g := g)) lk_X7_92 ⟨rfl, rfl, (Nat.le_of_ble_eq_true rfl), (Nat.le_of_ble_eq_true rfl)⟩ rfl rfl rfl (Nat.le_of_ble_eq_true rfl) dX7_swappedUp_9 ?_
      refine v_icmp_geN h dX7_swappedUp_12 (tgt := 49) (by decide) (by omega) (by omega) (fun c12 => ?_) (fun c12 => ?_)
      · refine v_iload_n2 h dX7_swappedUp_49 ?_
        exact v_iret h hr dX7_swappedUp_50 (by rw [show i = n by omega]; rfl) rfl
      · refine v_iload_n1 h dX7_swappedUp_15 ?_
        refine v_aload_n0 h dX7_swappedUp_16 ?_
        refine v_get h mw_X7 0 rfl rfl 4 (by decide) mf_X7_42 rfl dX7_swappedUp_17 ?_
        refine v_iload_n3 h dX7_swappedUp_20 ?_
        refine cw_V_3_4_5_6_1_i (ci := 4) h (c_X4_alikeTo (g := g) (by first | assumption | omega) (by first | assumption | omega)) lk_X7_129 ⟨rfl, rfl, (Nat.le_of_ble_eq_true rfl), (Nat.le_of_ble_eq_true rfl)⟩ rfl rfl rfl (Nat.le_of_ble_eq_true rfl) dX7_swappedUp_21 ?_
        refine v_iandN h dX7_swappedUp_24 ?_
        refine v_aload_n0 h dX7_swappedUp_25 ?_
        refine v_get h mw_X7 0 rfl rfl 5 (by decide) mf_X7_46 rfl dX7_swappedUp_26 ?_
        refine v_iload_n3 h dX7_swappedUp_29 ?_
        refine cw_V_7_8_9_10_1_i (ci := 4) h (c_X4_lighterThan (g := g) (by first | assumption | omega) (by first | assumption | omega)) lk_X7_152 ⟨rfl, rfl, (Nat.le_of_ble_eq_true rfl), (Nat.le_of_ble_eq_true rfl)⟩ rfl rfl rfl (Nat.le_of_ble_eq_true rfl) dX7_swappedUp_30 ?_
        refine v_iandN h dX7_swappedUp_33 ?_
        refine v_if_eqN h dX7_swappedUp_34 (tgt := 43) (by decide) (by exact b8 (Nat.lt_of_le_of_lt Nat.and_le_right (hol i))) (fun c34 => ?_) (fun c34 => ?_)
        · refine v_iincN3 h (Nat.le_of_ble_eq_true rfl) dX7_swappedUp_43 ?_
          refine v_goto h dX7_swappedUp_46 (tgt := 4) (by decide) ?_
          exact vM.fg (ih4 _ (by omega) (i + 1) rfl (by first | assumption | rfl | omega)) ⟨rfl, rfl, (by first | (rw [orTo, if_pos c34, Nat.or_zero]; done) | (rw [orTo, if_neg (by omega)]; done)), rfl, trivial⟩
        · refine v_iload_n2 h dX7_swappedUp_37 ?_
          refine v_iconst h (v := nI 1) dX7_swappedUp_38 (by decide) ?_
          refine v_iload_n3 h dX7_swappedUp_39 ?_
          refine v_ishlN h dX7_swappedUp_40 (by omega) ?_
          refine v_iorN h dX7_swappedUp_41 ?_
          refine v_istore_n2 h (Nat.le_of_ble_eq_true rfl) dX7_swappedUp_42 ?_
          refine v_iincN3 h (Nat.le_of_ble_eq_true rfl) dX7_swappedUp_43 ?_
          refine v_goto h dX7_swappedUp_46 (tgt := 4) (by decide) ?_
          exact vM.fg (ih4 _ (by omega) (i + 1) rfl (by first | assumption | rfl | omega)) ⟨rfl, rfl, (by first | (rw [orTo, if_pos c34, Nat.or_zero]; done) | (rw [orTo, if_neg (by omega)]; done)), rfl, trivial⟩
  exact vM.fg (L4 _ 0 rfl (by first | assumption | rfl | omega)) ⟨rfl, rfl, rfl, rfl, trivial⟩
def P_X7_gain (g : vG) (b0 y0 s0 r0 t0 t1 h0 h1 h2 e0 e1 e2 e3 o0 o1 o2 o3 : Nat) (tr : Int32) (fl : Nat) (n : Nat) (w : Nat → Nat) (hn : Nat) (kd : Nat → Nat) (pt : Nat → Nat) (ec : Nat) (el : Nat → Nat) (ea : Nat → Nat) (eo : Nat → Nat) (oc : Nat) (ol : Nat → Nat) (oa : Nat → Nat) (oo : Nat → Nat) (p0 : Int32) (p1 : Int32) (p2 : Int32) (p3 : Int32) (p4 : Int32) : Option Value → va_W → Prop := fun r wo => ∃ ec' : Nat, ∃ el' : Nat → Nat, ∃ ea' : Nat → Nat, ∃ oc' : Nat, ∃ ol' : Nat → Nat, ∃ oa' : Nat → Nat, (∀ z, el' z < 2 ^ 8) ∧ (∀ z, ea' z < 2 ^ 8) ∧ (∀ z, ol' z < 2 ^ 8) ∧ (∀ z, oa' z < 2 ^ 8) ∧ r = some (.int (s_gain n w hn kd pt p0 p1 p2 p3 p4)) ∧ wo = [(b0, .inr (6, [.ref t0, .ref h0, .ref y0, .ref s0, .ref e0, .ref o0, .ref r0, .int tr, .int (nI fl)])), (t0, .inr (5, [.int (nI n), .ref t1])), (t1, .inl (gI g, 8, .inl (fun z9 => nI (w z9)))), (h0, .inr (1, [.int (nI hn), .ref h1, .ref h2])), (h1, .inl (gI g, 6, .inl (fun z9 => nI (kd z9)))), (h2, .inl (gI g, 6, .inl (fun z9 => nI (pt z9)))), (e0, .inr (4, [.int (nI ec'), .ref e1, .ref e2, .ref e3])), (e1, .inl (gI g, 8, .inl (fun z9 => nI (el' z9)))), (e2, .inl (gI g, 8, .inl (fun z9 => nI (ea' z9)))), (e3, .inl (gI g, 256, .inl (fun z9 => nI (eo z9)))), (o0, .inr (4, [.int (nI oc'), .ref o1, .ref o2, .ref o3])), (o1, .inl (gI g, 8, .inl (fun z9 => nI (ol' z9)))), (o2, .inl (gI g, 8, .inl (fun z9 => nI (oa' z9)))), (o3, .inl (gI g, 256, .inl (fun z9 => nI (oo z9))))]
theorem P_X7_gain_mk {g : vG} {b0 y0 s0 r0 t0 t1 h0 h1 h2 e0 e1 e2 e3 o0 o1 o2 o3 : Nat} {tr : Int32} {fl : Nat} {n : Nat} {w : Nat → Nat} {hn : Nat} {kd : Nat → Nat} {pt : Nat → Nat} {ec : Nat} {el : Nat → Nat} {ea : Nat → Nat} {eo : Nat → Nat} {oc : Nat} {ol : Nat → Nat} {oa : Nat → Nat} {oo : Nat → Nat} {p0 : Int32} {p1 : Int32} {p2 : Int32} {p3 : Int32} {p4 : Int32} {ec' : Nat} {el' : Nat → Nat} {ea' : Nat → Nat} {oc' : Nat} {ol' : Nat → Nat} {oa' : Nat → Nat} {q : Int32} (hs : s_gain n w hn kd pt p0 p1 p2 p3 p4 = q) (hb0 : ∀ z, el' z < 2 ^ 8) (hb1 : ∀ z, ea' z < 2 ^ 8) (hb2 : ∀ z, ol' z < 2 ^ 8) (hb3 : ∀ z, oa' z < 2 ^ 8) : P_X7_gain g b0 y0 s0 r0 t0 t1 h0 h1 h2 e0 e1 e2 e3 o0 o1 o2 o3 tr fl n w hn kd pt ec el ea eo oc ol oa oo p0 p1 p2 p3 p4 (some (.int q)) [(b0, .inr (6, [.ref t0, .ref h0, .ref y0, .ref s0, .ref e0, .ref o0, .ref r0, .int tr, .int (nI fl)])), (t0, .inr (5, [.int (nI n), .ref t1])), (t1, .inl (gI g, 8, .inl (fun z9 => nI (w z9)))), (h0, .inr (1, [.int (nI hn), .ref h1, .ref h2])), (h1, .inl (gI g, 6, .inl (fun z9 => nI (kd z9)))), (h2, .inl (gI g, 6, .inl (fun z9 => nI (pt z9)))), (e0, .inr (4, [.int (nI ec'), .ref e1, .ref e2, .ref e3])), (e1, .inl (gI g, 8, .inl (fun z9 => nI (el' z9)))), (e2, .inl (gI g, 8, .inl (fun z9 => nI (ea' z9)))), (e3, .inl (gI g, 256, .inl (fun z9 => nI (eo z9)))), (o0, .inr (4, [.int (nI oc'), .ref o1, .ref o2, .ref o3])), (o1, .inl (gI g, 8, .inl (fun z9 => nI (ol' z9)))), (o2, .inl (gI g, 8, .inl (fun z9 => nI (oa' z9)))), (o3, .inl (gI g, 256, .inl (fun z9 => nI (oo z9))))] := by subst hs; exact ⟨_, _, _, _, _, _, hb0, hb1, hb2, hb3, rfl, rfl⟩
set_option maxRecDepth 20000 in
set_option maxHeartbeats 4000000 in
theorem c_X7_gain {g : vG} {b0 y0 s0 r0 t0 t1 h0 h1 h2 e0 e1 e2 e3 o0 o1 o2 o3 : Nat} {tr : Int32} {fl : Nat} {n : Nat} {w : Nat → Nat} {hn : Nat} {kd : Nat → Nat} {pt : Nat → Nat} {ec : Nat} {el : Nat → Nat} {ea : Nat → Nat} {eo : Nat → Nat} {oc : Nat} {ol : Nat → Nat} {oa : Nat → Nat} {oo : Nat → Nat} {p0 : Int32} {p1 : Int32} {p2 : Int32} {p3 : Int32} {p4 : Int32} (hT : wfT n w) (hH : wfH hn kd pt) (hel : ∀ z, el z < 2 ^ 8) (hea : ∀ z, ea z < 2 ^ 8) (hol : ∀ z, ol z < 2 ^ 8) (hoa : ∀ z, oa z < 2 ^ 8) : CtP g yX7_gain cX7_gain 11 (some .int) (rmOf 5 114) [(b0, .inr (6, [.ref t0, .ref h0, .ref y0, .ref s0, .ref e0, .ref o0, .ref r0, .int tr, .int (nI fl)])), (t0, .inr (5, [.int (nI n), .ref t1])), (t1, .inl (gI g, 8, .inl (fun z9 => nI (w z9)))), (h0, .inr (1, [.int (nI hn), .ref h1, .ref h2])), (h1, .inl (gI g, 6, .inl (fun z9 => nI (kd z9)))), (h2, .inl (gI g, 6, .inl (fun z9 => nI (pt z9)))), (e0, .inr (4, [.int (nI ec), .ref e1, .ref e2, .ref e3])), (e1, .inl (gI g, 8, .inl (fun z9 => nI (el z9)))), (e2, .inl (gI g, 8, .inl (fun z9 => nI (ea z9)))), (e3, .inl (gI g, 256, .inl (fun z9 => nI (eo z9)))), (o0, .inr (4, [.int (nI oc), .ref o1, .ref o2, .ref o3])), (o1, .inl (gI g, 8, .inl (fun z9 => nI (ol z9)))), (o2, .inl (gI g, 8, .inl (fun z9 => nI (oa z9)))), (o3, .inl (gI g, 256, .inl (fun z9 => nI (oo z9))))] [.ref b0, .int p0, .int p1, .int p2, .int p3, .int p4] (P_X7_gain g b0 y0 s0 r0 t0 t1 h0 h1 h2 e0 e1 e2 e3 o0 o1 o2 o3 tr fl n w hn kd pt ec el ea eo oc ol oa oo p0 p1 p2 p3 p4) := by
  refine CtP.ofV RX7 rfl (by decide +kernel) rfl rfl (Nat.le_of_ble_eq_true rfl) (List.forall_mem_cons.mpr ⟨rfl, (List.forall_mem_cons.mpr ⟨rfl, (List.forall_mem_cons.mpr ⟨rfl, (List.forall_mem_cons.mpr ⟨rfl, (List.forall_mem_cons.mpr ⟨rfl, (List.forall_mem_cons.mpr ⟨rfl, (fun _ h9 => absurd h9 List.not_mem_nil)⟩)⟩)⟩)⟩)⟩)⟩) (fun x h hr => ?_)
  show vM x 0 [some (.ref b0), some (.int p0), some (.int p1), some (.int p2), some (.int p3), some (.int p4), none, none, none, none, none] [] [(b0, .inr (6, [.ref t0, .ref h0, .ref y0, .ref s0, .ref e0, .ref o0, .ref r0, .int tr, .int (nI fl)])), (t0, .inr (5, [.int (nI n), .ref t1])), (t1, .inl (gI g, 8, .inl (fun z9 => nI (w z9)))), (h0, .inr (1, [.int (nI hn), .ref h1, .ref h2])), (h1, .inl (gI g, 6, .inl (fun z9 => nI (kd z9)))), (h2, .inl (gI g, 6, .inl (fun z9 => nI (pt z9)))), (e0, .inr (4, [.int (nI ec), .ref e1, .ref e2, .ref e3])), (e1, .inl (gI g, 8, .inl (fun z9 => nI (el z9)))), (e2, .inl (gI g, 8, .inl (fun z9 => nI (ea z9)))), (e3, .inl (gI g, 256, .inl (fun z9 => nI (eo z9)))), (o0, .inr (4, [.int (nI oc), .ref o1, .ref o2, .ref o3])), (o1, .inl (gI g, 8, .inl (fun z9 => nI (ol z9)))), (o2, .inl (gI g, 8, .inl (fun z9 => nI (oa z9)))), (o3, .inl (gI g, 256, .inl (fun z9 => nI (oo z9))))]
  have ht1 := hT.1; have ht2 := hT.2.1; have ht3 := hT.2.2; have hh1 := hH.1; have hh2 := hH.2.1; have hh3 := hH.2.2.1; have hh4 := hH.2.2.2
  refine v_aload_n0 h dX7_gain_0 ?_
  refine v_get h mw_X7 0 rfl rfl 1 (by decide) mf_X7_21 rfl dX7_gain_1 ?_
  refine v_iload_n1 h dX7_gain_4 ?_
  refine cw_V_3_4_5_1_i (ci := 1) h (c_X1_has (g := g) (by first | assumption | omega)) lk_X7_111 ⟨rfl, rfl, (Nat.le_of_ble_eq_true rfl), (Nat.le_of_ble_eq_true rfl)⟩ rfl rfl rfl (Nat.le_of_ble_eq_true rfl) dX7_gain_5 ?_
  refine v_if_eqB h dX7_gain_8 (tgt := 33) (by decide) (fun c8 => ?_) (fun c8 => ?_)
  · have e8 := rN_f c8
    refine v_iconst h (v := -1) dX7_gain_33 (by decide) ?_
    exact v_iretP h hr dX7_gain_34 (P_X7_gain_mk (q := _) (by simp only [s_gain, e8]) (by first | assumption | exact lay8l (by assumption) (by assumption) | exact lay8a (by assumption) (by assumption)) (by first | assumption | exact lay8l (by assumption) (by assumption) | exact lay8a (by assumption) (by assumption)) (by first | assumption | exact lay8l (by assumption) (by assumption) | exact lay8a (by assumption) (by assumption)) (by first | assumption | exact lay8l (by assumption) (by assumption) | exact lay8a (by assumption) (by assumption))) rfl
  · obtain ⟨j0, hj0, rfl⟩ := inR_of c8 (by omega)
    have e8 := rN_N hj0 (by omega)
    refine v_aload_n0 h dX7_gain_11 ?_
    refine v_get h mw_X7 0 rfl rfl 1 (by decide) mf_X7_21 rfl dX7_gain_12 ?_
    refine v_iload_n2 h dX7_gain_15 ?_
    refine cw_V_3_4_5_1_i (ci := 1) h (c_X1_has (g := g) (by first | assumption | omega)) lk_X7_111 ⟨rfl, rfl, (Nat.le_of_ble_eq_true rfl), (Nat.le_of_ble_eq_true rfl)⟩ rfl rfl rfl (Nat.le_of_ble_eq_true rfl) dX7_gain_16 ?_
    refine v_if_eqB h dX7_gain_19 (tgt := 33) (by decide) (fun c19 => ?_) (fun c19 => ?_)
    · have e19 := rN_f c19
      refine v_iconst h (v := -1) dX7_gain_33 (by decide) ?_
      exact v_iretP h hr dX7_gain_34 (P_X7_gain_mk (q := _) (by simp only [s_gain, e8, e19]) (by first | assumption | exact lay8l (by assumption) (by assumption) | exact lay8a (by assumption) (by assumption)) (by first | assumption | exact lay8l (by assumption) (by assumption) | exact lay8a (by assumption) (by assumption)) (by first | assumption | exact lay8l (by assumption) (by assumption) | exact lay8a (by assumption) (by assumption)) (by first | assumption | exact lay8l (by assumption) (by assumption) | exact lay8a (by assumption) (by assumption))) rfl
    · obtain ⟨j1, hj1, rfl⟩ := inR_of c19 (by omega)
      have e19 := rN_N hj1 (by omega)
      refine v_aload_n0 h dX7_gain_22 ?_
      refine v_get h mw_X7 0 rfl rfl 0 (by decide) mf_X7_14 rfl dX7_gain_23 ?_
      refine v_iload_n3 h dX7_gain_26 ?_
      refine cw_V_1_2_1_i (ci := 5) h (c_X6_has (g := g) (by first | assumption | omega)) lk_X7_96 ⟨rfl, rfl, (Nat.le_of_ble_eq_true rfl), (Nat.le_of_ble_eq_true rfl)⟩ rfl rfl rfl (Nat.le_of_ble_eq_true rfl) dX7_gain_27 ?_
      refine v_if_neB h dX7_gain_30 (tgt := 35) (by decide) (fun c30 => ?_) (fun c30 => ?_)
      · obtain ⟨j2, hj2, rfl⟩ := inR_of c30 (by omega)
        have e30 := rN_N hj2 (by omega)
        refine v_iload4 h dX7_gain_35 ?_
        refine v_if_lt h dX7_gain_37 (tgt := 55) (by decide) (fun c37 => ?_) (fun c37 => ?_)
        · have e37 := rW_f1 (b := 8) (a := 0) c37
          refine v_bipush h (v := -2) dX7_gain_55 (by decide) ?_
          exact v_iretP h hr dX7_gain_57 (P_X7_gain_mk (q := _) (by simp only [s_gain, e8, e19, e30, e37]) (by first | assumption | exact lay8l (by assumption) (by assumption) | exact lay8a (by assumption) (by assumption)) (by first | assumption | exact lay8l (by assumption) (by assumption) | exact lay8a (by assumption) (by assumption)) (by first | assumption | exact lay8l (by assumption) (by assumption) | exact lay8a (by assumption) (by assumption)) (by first | assumption | exact lay8l (by assumption) (by assumption) | exact lay8a (by assumption) (by assumption))) rfl
        · refine v_iload4 h dX7_gain_40 ?_
          refine v_bipush h (v := nI 8) dX7_gain_42 (by decide) ?_
          refine v_icmp_gt h dX7_gain_44 (tgt := 55) (by decide) (fun c44 => ?_) (fun c44 => ?_)
          · have e44 := rW_f2 (a := 0) (b := 8) c44
            refine v_bipush h (v := -2) dX7_gain_55 (by decide) ?_
            exact v_iretP h hr dX7_gain_57 (P_X7_gain_mk (q := _) (by simp only [s_gain, e8, e19, e30, e44]) (by first | assumption | exact lay8l (by assumption) (by assumption) | exact lay8a (by assumption) (by assumption)) (by first | assumption | exact lay8l (by assumption) (by assumption) | exact lay8a (by assumption) (by assumption)) (by first | assumption | exact lay8l (by assumption) (by assumption) | exact lay8a (by assumption) (by assumption)) (by first | assumption | exact lay8l (by assumption) (by assumption) | exact lay8a (by assumption) (by assumption))) rfl
          · obtain ⟨j3, hj3a, hj3, rfl⟩ := rW_of (a := 0) (b := 8) (Int32.not_lt.mp c37) (Int32.not_lt.mp c44) (by omega) (by omega)
            have e44 := rW_N hj3a hj3 (by omega)
            refine v_iload5 h dX7_gain_47 ?_
            refine cw_S_e_1_i h (c_X7_isFirstOrSecond (g := g)) lk_X7_112 ⟨rfl, rfl, (Nat.le_of_ble_eq_true rfl), (Nat.le_of_ble_eq_true rfl)⟩ (Nat.le_of_ble_eq_true rfl) dX7_gain_49 ?_
            refine v_if_neB h dX7_gain_52 (tgt := 58) (by decide) (fun c52 => ?_) (fun c52 => ?_)
            · obtain ⟨j4, hj4a, hj4, rfl⟩ := wi_of c52 (by decide) (by decide)
              have e52 := rW_N hj4a hj4 (by decide)
              refine v_aload_n0 h dX7_gain_58 ?_
              refine v_get h mw_X7 0 rfl rfl 4 (by decide) mf_X7_42 rfl dX7_gain_59 ?_
              refine v_aload_n0 h dX7_gain_62 ?_
              refine v_get h mw_X7 0 rfl rfl 1 (by decide) mf_X7_21 rfl dX7_gain_63 ?_
              refine v_iload_n1 h dX7_gain_66 ?_
              refine v_aload_n0 h dX7_gain_67 ?_
              refine v_get h mw_X7 0 rfl rfl 0 (by decide) mf_X7_14 rfl dX7_gain_68 ?_
              refine cw_V_6_7_8_9_3_4_5_1_2_3_v (ci := 4) h (c_X4_lay (g := g) (by first | assumption | omega) (by first | assumption | omega) (by first | assumption | omega)) lk_X7_125 ⟨rfl, rfl, (Nat.le_of_ble_eq_true rfl), (Nat.le_of_ble_eq_true rfl)⟩ rfl rfl rfl (Nat.le_of_ble_eq_true rfl) dX7_gain_71 ?_
              refine v_aload_n0 h dX7_gain_74 ?_
              refine v_get h mw_X7 0 rfl rfl 5 (by decide) mf_X7_46 rfl dX7_gain_75 ?_
              refine v_aload_n0 h dX7_gain_78 ?_
              refine v_get h mw_X7 0 rfl rfl 1 (by decide) mf_X7_21 rfl dX7_gain_79 ?_
              refine v_iload_n2 h dX7_gain_82 ?_
              refine v_aload_n0 h dX7_gain_83 ?_
              refine v_get h mw_X7 0 rfl rfl 0 (by decide) mf_X7_14 rfl dX7_gain_84 ?_
              refine cw_V_10_11_12_13_3_4_5_1_2_3_v (ci := 4) h (c_X4_lay (g := g) (by first | assumption | omega) (by first | assumption | omega) (by first | assumption | omega)) lk_X7_125 ⟨rfl, rfl, (Nat.le_of_ble_eq_true rfl), (Nat.le_of_ble_eq_true rfl)⟩ rfl rfl rfl (Nat.le_of_ble_eq_true rfl) dX7_gain_87 ?_
              refine v_iconst h (v := nI 1) dX7_gain_90 (by decide) ?_
              refine v_iload_n3 h dX7_gain_91 ?_
              refine v_ishlN h dX7_gain_92 (by omega) ?_
              refine v_istore6 h (Nat.le_of_ble_eq_true rfl) dX7_gain_93 ?_
              refine v_aload_n0 h dX7_gain_95 ?_
              refine v_get h mw_X7 0 rfl rfl 0 (by decide) mf_X7_14 rfl dX7_gain_96 ?_
              refine v_iload_n3 h dX7_gain_99 ?_
              refine cw_V_1_2_1_i (ci := 5) h (c_X6_weightOf (g := g) (by first | assumption | omega) (by first | assumption | omega)) lk_X7_97 ⟨rfl, rfl, (Nat.le_of_ble_eq_true rfl), (Nat.le_of_ble_eq_true rfl)⟩ rfl rfl rfl (Nat.le_of_ble_eq_true rfl) dX7_gain_100 ?_
              refine v_istore7 h (Nat.le_of_ble_eq_true rfl) dX7_gain_103 ?_
              refine v_iconst h (v := nI 0) dX7_gain_105 (by decide) ?_
              refine v_istore8 h (Nat.le_of_ble_eq_true rfl) dX7_gain_106 ?_
              refine v_iconst h (v := nI 1) dX7_gain_108 (by decide) ?_
              refine v_istore9 h (Nat.le_of_ble_eq_true rfl) dX7_gain_109 ?_
              have L111 : ∀ (k111 : Nat) (s : Nat), j3 - s = k111 → (s ≤ j3) → vM x 111 [some (.ref b0), some (.int (nI j0)), some (.int (nI j1)), some (.int (nI j2)), some (.int (nI j3)), some (.int (nI j4)), some (.int (nI (gnR (alkS (kd j0) (pt j0) w n) (ligS (kd j1) (pt j1) w n) n j2 s))), some (.int (nI ((gnB (alkS (kd j0) (pt j0) w n) (ligS (kd j1) (pt j1) w n) w n j2 s).1))), some (.int (nI ((gnB (alkS (kd j0) (pt j0) w n) (ligS (kd j1) (pt j1) w n) w n j2 s).2))), some (.int (nI (s + 1))), none] [] [(b0, .inr (6, [.ref t0, .ref h0, .ref y0, .ref s0, .ref e0, .ref o0, .ref r0, .int tr, .int (nI fl)])), (t0, .inr (5, [.int (nI n), .ref t1])), (t1, .inl (gI g, 8, .inl (fun z9 => nI (w z9)))), (h0, .inr (1, [.int (nI hn), .ref h1, .ref h2])), (h1, .inl (gI g, 6, .inl (fun z9 => nI (kd z9)))), (h2, .inl (gI g, 6, .inl (fun z9 => nI (pt z9)))), (e0, .inr (4, [.int (nI n), .ref e1, .ref e2, .ref e3])), (e1, .inl (gI g, 8, .inl (fun z9 => nI ((layF el n (ligS (kd j0) (pt j0) w n)) z9)))), (e2, .inl (gI g, 8, .inl (fun z9 => nI ((layF ea n (alkS (kd j0) (pt j0) w n)) z9)))), (e3, .inl (gI g, 256, .inl (fun z9 => nI (eo z9)))), (o0, .inr (4, [.int (nI n), .ref o1, .ref o2, .ref o3])), (o1, .inl (gI g, 8, .inl (fun z9 => nI ((layF ol n (ligS (kd j1) (pt j1) w n)) z9)))), (o2, .inl (gI g, 8, .inl (fun z9 => nI ((layF oa n (alkS (kd j1) (pt j1) w n)) z9)))), (o3, .inl (gI g, 256, .inl (fun z9 => nI (oo z9))))] := by
                intro k111
                induction k111 using Nat.strongRecOn with
                | _ k111 ih111 =>
                  intro s hm111 hs
                  refine v_iload9 h dX7_gain_111 ?_
                  refine v_iload4 h dX7_gain_113 ?_
                  refine v_icmp_gtN h dX7_gain_115 (tgt := 158) (by decide) (by omega) (by omega) (fun c115 => ?_) (fun c115 => ?_)
                  · have e115 : s = j3 := by omega
                    subst e115
                    refine v_iload5 h dX7_gain_158 ?_
                    refine v_if_neN h dX7_gain_160 (tgt := 168) (by decide) (by omega) (fun c160 => ?_) (fun c160 => ?_)
                    · refine v_iload8 h dX7_gain_168 ?_
                      exact v_iretP h hr dX7_gain_170 (P_X7_gain_mk (q := _) (by simp only [s_gain, e8, e19, e30, e44, e52, if_neg (show ¬ j4 = 0 by omega)]) (by first | assumption | exact lay8l (by assumption) (by assumption) | exact lay8a (by assumption) (by assumption)) (by first | assumption | exact lay8l (by assumption) (by assumption) | exact lay8a (by assumption) (by assumption)) (by first | assumption | exact lay8l (by assumption) (by assumption) | exact lay8a (by assumption) (by assumption)) (by first | assumption | exact lay8l (by assumption) (by assumption) | exact lay8a (by assumption) (by assumption))) rfl
                    · refine v_iload7 h dX7_gain_163 ?_
                      refine v_goto h dX7_gain_165 (tgt := 170) (by decide) ?_
                      exact v_iretP h hr dX7_gain_170 (P_X7_gain_mk (q := _) (by simp only [s_gain, e8, e19, e30, e44, e52, if_pos c160]) (by first | assumption | exact lay8l (by assumption) (by assumption) | exact lay8a (by assumption) (by assumption)) (by first | assumption | exact lay8l (by assumption) (by assumption) | exact lay8a (by assumption) (by assumption)) (by first | assumption | exact lay8l (by assumption) (by assumption) | exact lay8a (by assumption) (by assumption)) (by first | assumption | exact lay8l (by assumption) (by assumption) | exact lay8a (by assumption) (by assumption))) rfl
                  · refine v_aload_n0 h dX7_gain_118 ?_
                    refine v_iload6 h dX7_gain_119 ?_
                    refine cw_V_0_1_2_6_7_8_9_10_11_12_13_1_i (ci := 6) h (c_X7_swappedUp (g := g) (by first | assumption | omega) (by first | assumption | omega) (by first | assumption | omega) (by first | assumption | omega) (by first | assumption | omega) (by exact lay8l hol ht1)) lk_X7_146 ⟨rfl, rfl, (Nat.le_of_ble_eq_true rfl), (Nat.le_of_ble_eq_true rfl)⟩ rfl rfl rfl (Nat.le_of_ble_eq_true rfl) dX7_gain_121 ?_
                    rw [swpS_lay]
                    refine v_istore6 h (Nat.le_of_ble_eq_true rfl) dX7_gain_124 ?_
                    refine v_aload_n0 h dX7_gain_126 ?_
                    refine v_get h mw_X7 0 rfl rfl 0 (by decide) mf_X7_14 rfl dX7_gain_127 ?_
                    refine v_iload6 h dX7_gain_130 ?_
                    refine cw_V_1_2_1_i (ci := 5) h (c_X6_greatestOf (g := g) (by first | assumption | omega) (by exact b8 (swpS_lt ht1))) lk_X7_149 ⟨rfl, rfl, (Nat.le_of_ble_eq_true rfl), (Nat.le_of_ble_eq_true rfl)⟩ rfl rfl rfl (Nat.le_of_ble_eq_true rfl) dX7_gain_132 ?_
                    refine v_istore10 h (Nat.le_of_ble_eq_true rfl) dX7_gain_135 ?_
                    refine v_iload10 h dX7_gain_137 ?_
                    refine v_iload7 h dX7_gain_139 ?_
                    refine v_icmp_leN h dX7_gain_141 (tgt := 152) (by decide) (by first | exact Nat.lt_of_le_of_lt (gnB_le ht2 s) (by decide) | exact Nat.lt_of_le_of_lt (mxw_le ht2 n) (by decide)) (by first | exact Nat.lt_of_le_of_lt (gnB_le ht2 s) (by decide) | exact Nat.lt_of_le_of_lt (mxw_le ht2 n) (by decide)) (fun c141 => ?_) (fun c141 => ?_)
                    · have g9 : (gnB (alkS (kd j0) (pt j0) w n) (ligS (kd j1) (pt j1) w n) w n j2 (s + 1)) = (gnB (alkS (kd j0) (pt j0) w n) (ligS (kd j1) (pt j1) w n) w n j2 s) := if_neg (Nat.not_lt.mpr c141)
                      refine v_iincN9 h (Nat.le_of_ble_eq_true rfl) dX7_gain_152 ?_
                      refine v_goto h dX7_gain_155 (tgt := 111) (by decide) ?_
                      exact vM.fg (ih111 _ (by omega) (s + 1) rfl (by first | assumption | rfl | omega)) ⟨rfl, rfl, rfl, rfl, rfl, rfl, rfl, (by exact congrArg (fun y => some (Value.int (nI y))) (congrArg Prod.fst g9).symm), (by exact congrArg (fun y => some (Value.int (nI y))) (congrArg Prod.snd g9).symm), rfl, trivial⟩
                    · have g9 : (gnB (alkS (kd j0) (pt j0) w n) (ligS (kd j1) (pt j1) w n) w n j2 (s + 1)) = (maxTo (fun z => if ((gnR (alkS (kd j0) (pt j0) w n) (ligS (kd j1) (pt j1) w n) n j2 (s + 1))).testBit z then w z else 0) n, s + 1) := if_pos c141
                      refine v_iload10 h dX7_gain_144 ?_
                      refine v_istore7 h (Nat.le_of_ble_eq_true rfl) dX7_gain_146 ?_
                      refine v_iload9 h dX7_gain_148 ?_
                      refine v_istore8 h (Nat.le_of_ble_eq_true rfl) dX7_gain_150 ?_
                      refine v_iincN9 h (Nat.le_of_ble_eq_true rfl) dX7_gain_152 ?_
                      refine v_goto h dX7_gain_155 (tgt := 111) (by decide) ?_
                      exact vM.fg (ih111 _ (by omega) (s + 1) rfl (by first | assumption | rfl | omega)) ⟨rfl, rfl, rfl, rfl, rfl, rfl, rfl, (by exact congrArg (fun y => some (Value.int (nI y))) (congrArg Prod.fst g9).symm), (by exact congrArg (fun y => some (Value.int (nI y))) (congrArg Prod.snd g9).symm), rfl, trivial⟩
              exact vM.fg (L111 _ 0 rfl (by first | assumption | rfl | omega)) ⟨rfl, rfl, rfl, rfl, rfl, rfl, rfl, rfl, rfl, rfl, trivial⟩
            · have e52 := wi_no c52
              refine v_bipush h (v := -2) dX7_gain_55 (by decide) ?_
              exact v_iretP h hr dX7_gain_57 (P_X7_gain_mk (q := _) (by simp only [s_gain, e8, e19, e30, e44, e52]) (by first | assumption | exact lay8l (by assumption) (by assumption) | exact lay8a (by assumption) (by assumption)) (by first | assumption | exact lay8l (by assumption) (by assumption) | exact lay8a (by assumption) (by assumption)) (by first | assumption | exact lay8l (by assumption) (by assumption) | exact lay8a (by assumption) (by assumption)) (by first | assumption | exact lay8l (by assumption) (by assumption) | exact lay8a (by assumption) (by assumption))) rfl
      · have e30 := rN_f c30
        refine v_iconst h (v := -1) dX7_gain_33 (by decide) ?_
        exact v_iretP h hr dX7_gain_34 (P_X7_gain_mk (q := _) (by simp only [s_gain, e8, e19, e30]) (by first | assumption | exact lay8l (by assumption) (by assumption) | exact lay8a (by assumption) (by assumption)) (by first | assumption | exact lay8l (by assumption) (by assumption) | exact lay8a (by assumption) (by assumption)) (by first | assumption | exact lay8l (by assumption) (by assumption) | exact lay8a (by assumption) (by assumption)) (by first | assumption | exact lay8l (by assumption) (by assumption) | exact lay8a (by assumption) (by assumption))) rfl
