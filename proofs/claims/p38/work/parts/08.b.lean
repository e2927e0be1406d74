theorem pf_X2_9_at0 {x : vX} {g : vG} {cc : ByteArray} {rm : Room} {nL pc : Nat} {lv : List (Option Value)} {st : List Value} {wt : va_W} {a : Nat} {f0 f1 f2 f3 f4 : Value} {v : Int32} (h : Ok x g cc RX2 rm nL) (hd : decode cc pc = .ok (.putfield 9, 3)) (k : vM x (pc + 3) lv st ((a, .inr (2, [.int v, f1, f2, f3, f4])) :: wt)) : vM x pc lv (.int v :: .ref a :: st) ((a, .inr (2, [f0, f1, f2, f3, f4])) :: wt) := v_put h mw_X2 tyX2 tyX2_ok nmX2 0 rfl rfl 0 (by decide) mf_X2_9 rfl (ty := .int) (by decide +kernel) rfl rfl (Nat.le_of_ble_eq_true rfl) hd rfl k
theorem cw_V_0_1_2_3_1_i {x : vX} {g : vG} {cc : ByteArray} {own : String} {rm : Room} {nL pc : Nat} {lv : List (Option Value)} {st : List Value} {wt : va_W} {c0 c1 c2 c3 d0 d1 d2 d3 : Nat × va_E} {idx : Nat} {y : MethodName} {bytes : ByteArray} {ml : Nat} {ret : Option FieldType} {rmc : Room} {r : Int32} {p0 : Value} {a ci : Nat} {q : vw_C} {fs : List Value} (h : Ok x g cc own rm nL) (hc : Ct g y bytes ml ret rmc [c0, c1, c2, c3] [.ref a, p0] (some (.int r)) [d0, d1, d2, d3]) (lk : LkV own idx y bytes ml ret 1) (hrm : RmOk rmc rm ml) (hcl : vwCl[ci]? = some q) (hq : y.cls = q.1) (h0 : c0 = (a, .inr (ci, fs))) (hW : (st.map fun v => v.category).sum ≤ 8) (hd : decode cc pc = .ok (.invokevirtual idx, 3)) (k : vM x (pc + 3) lv (.int r :: st) (d0 :: d1 :: d2 :: d3 :: wt)) : vM x pc lv (p0 :: .ref a :: st) (c0 :: c1 :: c2 :: c3 :: wt) := v_callV (As := [p0]) (rest := st) h hc lk hrm hcl hq (by rw [h0]; rfl) rfl [0, 1, 2, 3] rfl (by decide) hW hd rfl k
theorem lk_X4_49 : LkV RX4 49 yX4_has cX4_has 2 (some .boolean) 1 := ⟨ml_X4_49, mn_X4_has, mv_X4_has, mi_X4, mc_X4_has, ⟨by decide, by decide, by decide +kernel⟩⟩
theorem cw_V_7_8_0_i {x : vX} {g : vG} {cc : ByteArray} {own : String} {rm : Room} {nL pc : Nat} {lv : List (Option Value)} {st : List Value} {w0 w1 w2 w3 w4 w5 w6 : Nat × va_E} {wt : va_W} {c0 c1 d0 d1 : Nat × va_E} {idx : Nat} {y : MethodName} {bytes : ByteArray} {ml : Nat} {ret : Option FieldType} {rmc : Room} {r : Int32} {a ci : Nat} {q : vw_C} {fs : List Value} (h : Ok x g cc own rm nL) (hc : Ct g y bytes ml ret rmc [c0, c1] [.ref a] (some (.int r)) [d0, d1]) (lk : LkV own idx y bytes ml ret 0) (hrm : RmOk rmc rm ml) (hcl : vwCl[ci]? = some q) (hq : y.cls = q.1) (h0 : c0 = (a, .inr (ci, fs))) (hW : (st.map fun v => v.category).sum ≤ 8) (hd : decode cc pc = .ok (.invokevirtual idx, 3)) (k : vM x (pc + 3) lv (.int r :: st) (w0 :: w1 :: w2 :: w3 :: w4 :: w5 :: w6 :: d0 :: d1 :: wt)) : vM x pc lv (.ref a :: st) (w0 :: w1 :: w2 :: w3 :: w4 :: w5 :: w6 :: c0 :: c1 :: wt) := v_callV (As := []) (rest := st) h hc lk hrm hcl hq (by rw [h0]; rfl) rfl [7, 8] rfl (by decide) hW hd rfl k
theorem lk_X4_25 : LkV RX4 25 yX6_count cX6_count 1 (some .int) 0 := ⟨ml_X4_25, mn_X6_count, mv_X6_count, mi_X6, mc_X6_count, ⟨by decide, by decide, by decide +kernel⟩⟩
theorem pf_X4_9_at0 {x : vX} {g : vG} {cc : ByteArray} {rm : Room} {nL pc : Nat} {lv : List (Option Value)} {st : List Value} {wt : va_W} {a : Nat} {f0 f1 f2 f3 : Value} {v : Int32} (h : Ok x g cc RX4 rm nL) (hd : decode cc pc = .ok (.putfield 9, 3)) (k : vM x (pc + 3) lv st ((a, .inr (4, [.int v, f1, f2, f3])) :: wt)) : vM x pc lv (.int v :: .ref a :: st) ((a, .inr (4, [f0, f1, f2, f3])) :: wt) := v_put h mw_X4 tyX4 tyX4_ok nmX4 0 rfl rfl 0 (by decide) mf_X4_9 rfl (ty := .int) (by decide +kernel) rfl rfl (Nat.le_of_ble_eq_true rfl) hd rfl k
theorem cw_V_7_8_1_i {x : vX} {g : vG} {cc : ByteArray} {own : String} {rm : Room} {nL pc : Nat} {lv : List (Option Value)} {st : List Value} {w0 w1 w2 w3 w4 w5 w6 : Nat × va_E} {wt : va_W} {c0 c1 d0 d1 : Nat × va_E} {idx : Nat} {y : MethodName} {bytes : ByteArray} {ml : Nat} {ret : Option FieldType} {rmc : Room} {r : Int32} {p0 : Value} {a ci : Nat} {q : vw_C} {fs : List Value} (h : Ok x g cc own rm nL) (hc : Ct g y bytes ml ret rmc [c0, c1] [.ref a, p0] (some (.int r)) [d0, d1]) (lk : LkV own idx y bytes ml ret 1) (hrm : RmOk rmc rm ml) (hcl : vwCl[ci]? = some q) (hq : y.cls = q.1) (h0 : c0 = (a, .inr (ci, fs))) (hW : (st.map fun v => v.category).sum ≤ 8) (hd : decode cc pc = .ok (.invokevirtual idx, 3)) (k : vM x (pc + 3) lv (.int r :: st) (w0 :: w1 :: w2 :: w3 :: w4 :: w5 :: w6 :: d0 :: d1 :: wt)) : vM x pc lv (p0 :: .ref a :: st) (w0 :: w1 :: w2 :: w3 :: w4 :: w5 :: w6 :: c0 :: c1 :: wt) := v_callV (As := [p0]) (rest := st) h hc lk hrm hcl hq (by rw [h0]; rfl) rfl [7, 8] rfl (by decide) hW hd rfl k
theorem lk_X4_36 : LkV RX4 36 yX6_weightOf cX6_weightOf 2 (some .int) 1 := ⟨ml_X4_36, mn_X6_weightOf, mv_X6_weightOf, mi_X6, mc_X6_weightOf, ⟨by decide, by decide, by decide +kernel⟩⟩
theorem cw_V_4_5_6_3_i {x : vX} {g : vG} {cc : ByteArray} {own : String} {rm : Room} {nL pc : Nat} {lv : List (Option Value)} {st : List Value} {w0 w1 w2 w3 : Nat × va_E} {wt : va_W} {c0 c1 c2 d0 d1 d2 : Nat × va_E} {idx : Nat} {y : MethodName} {bytes : ByteArray} {ml : Nat} {ret : Option FieldType} {rmc : Room} {r : Int32} {p0 p1 p2 : Value} {a ci : Nat} {q : vw_C} {fs : List Value} (h : Ok x g cc own rm nL) (hc : Ct g y bytes ml ret rmc [c0, c1, c2] [.ref a, p0, p1, p2] (some (.int r)) [d0, d1, d2]) (lk : LkV own idx y bytes ml ret 3) (hrm : RmOk rmc rm ml) (hcl : vwCl[ci]? = some q) (hq : y.cls = q.1) (h0 : c0 = (a, .inr (ci, fs))) (hW : (st.map fun v => v.category).sum ≤ 8) (hd : decode cc pc = .ok (.invokevirtual idx, 3)) (k : vM x (pc + 3) lv (.int r :: st) (w0 :: w1 :: w2 :: w3 :: d0 :: d1 :: d2 :: wt)) : vM x pc lv (p2 :: p1 :: p0 :: .ref a :: st) (w0 :: w1 :: w2 :: w3 :: c0 :: c1 :: c2 :: wt) := v_callV (As := [p0, p1, p2]) (rest := st) h hc lk hrm hcl hq (by rw [h0]; rfl) rfl [4, 5, 6] rfl (by decide) hW hd rfl k
theorem lk_X4_40 : LkV RX4 40 yX1_feelsHeavier cX1_feelsHeavier 5 (some .boolean) 3 := ⟨ml_X4_40, mn_X1_feelsHeavier, mv_X1_feelsHeavier, mi_X1, mc_X1_feelsHeavier, ⟨by decide, by decide, by decide +kernel⟩⟩
theorem lk_X4_46 : LkV RX4 46 yX1_feelsAlike cX1_feelsAlike 4 (some .boolean) 3 := ⟨ml_X4_46, mn_X1_feelsAlike, mv_X1_feelsAlike, mi_X1, mc_X1_feelsAlike, ⟨by decide, by decide, by decide +kernel⟩⟩
theorem cw_V_4_5_6_7_1_i {x : vX} {g : vG} {cc : ByteArray} {own : String} {rm : Room} {nL pc : Nat} {lv : List (Option Value)} {st : List Value} {w0 w1 w2 w3 : Nat × va_E} {wt : va_W} {c0 c1 c2 c3 d0 d1 d2 d3 : Nat × va_E} {idx : Nat} {y : MethodName} {bytes : ByteArray} {ml : Nat} {ret : Option FieldType} {rmc : Room} {r : Int32} {p0 : Value} {a ci : Nat} {q : vw_C} {fs : List Value} (h : Ok x g cc own rm nL) (hc : Ct g y bytes ml ret rmc [c0, c1, c2, c3] [.ref a, p0] (some (.int r)) [d0, d1, d2, d3]) (lk : LkV own idx y bytes ml ret 1) (hrm : RmOk rmc rm ml) (hcl : vwCl[ci]? = some q) (hq : y.cls = q.1) (h0 : c0 = (a, .inr (ci, fs))) (hW : (st.map fun v => v.category).sum ≤ 8) (hd : decode cc pc = .ok (.invokevirtual idx, 3)) (k : vM x (pc + 3) lv (.int r :: st) (w0 :: w1 :: w2 :: w3 :: d0 :: d1 :: d2 :: d3 :: wt)) : vM x pc lv (p0 :: .ref a :: st) (w0 :: w1 :: w2 :: w3 :: c0 :: c1 :: c2 :: c3 :: wt) := v_callV (As := [p0]) (rest := st) h hc lk hrm hcl hq (by rw [h0]; rfl) rfl [4, 5, 6, 7] rfl (by decide) hW hd rfl k
theorem lk_X4_61 : LkV RX4 61 yX4_lighterThan cX4_lighterThan 2 (some .int) 1 := ⟨ml_X4_61, mn_X4_lighterThan, mv_X4_lighterThan, mi_X4, mc_X4_lighterThan, ⟨by decide, by decide, by decide +kernel⟩⟩
theorem lk_X4_67 : LkN RX4 67 yX7_isIn cX7_isIn 2 (some .boolean) 2 := ⟨fun s h => h.2, ms_X7_isIn, mi_X7, mc_X7_isIn, ⟨by decide, by decide, by decide +kernel⟩⟩
theorem lk_X4_53 : LkV RX4 53 yX4_alikeTo cX4_alikeTo 2 (some .int) 1 := ⟨ml_X4_53, mn_X4_alikeTo, mv_X4_alikeTo, mi_X4, mc_X4_alikeTo, ⟨by decide, by decide, by decide +kernel⟩⟩
theorem lk_X4_64 : LkV RX4 64 yX4_alikeToAny cX4_alikeToAny 4 (some .int) 1 := ⟨ml_X4_64, mn_X4_alikeToAny, mv_X4_alikeToAny, mi_X4, mc_X4_alikeToAny, ⟨by decide, by decide, by decide +kernel⟩⟩
theorem cw_V_0_1_2_3_2_i {x : vX} {g : vG} {cc : ByteArray} {own : String} {rm : Room} {nL pc : Nat} {lv : List (Option Value)} {st : List Value} {wt : va_W} {c0 c1 c2 c3 d0 d1 d2 d3 : Nat × va_E} {idx : Nat} {y : MethodName} {bytes : ByteArray} {ml : Nat} {ret : Option FieldType} {rmc : Room} {r : Int32} {p0 p1 : Value} {a ci : Nat} {q : vw_C} {fs : List Value} (h : Ok x g cc own rm nL) (hc : Ct g y bytes ml ret rmc [c0, c1, c2, c3] [.ref a, p0, p1] (some (.int r)) [d0, d1, d2, d3]) (lk : LkV own idx y bytes ml ret 2) (hrm : RmOk rmc rm ml) (hcl : vwCl[ci]? = some q) (hq : y.cls = q.1) (h0 : c0 = (a, .inr (ci, fs))) (hW : (st.map fun v => v.category).sum ≤ 8) (hd : decode cc pc = .ok (.invokevirtual idx, 3)) (k : vM x (pc + 3) lv (.int r :: st) (d0 :: d1 :: d2 :: d3 :: wt)) : vM x pc lv (p1 :: p0 :: .ref a :: st) (c0 :: c1 :: c2 :: c3 :: wt) := v_callV (As := [p0, p1]) (rest := st) h hc lk hrm hcl hq (by rw [h0]; rfl) rfl [0, 1, 2, 3] rfl (by decide) hW hd rfl k
theorem lk_X4_71 : LkV RX4 71 yX4_within cX4_within 5 (some .int) 2 := ⟨ml_X4_71, mn_X4_within, mv_X4_within, mi_X4, mc_X4_within, ⟨by decide, by decide, by decide +kernel⟩⟩
theorem lk_X4_74 : LkV RX4 74 yX4_fewestSwaps cX4_fewestSwaps 4 (some .int) 2 := ⟨ml_X4_74, mn_X4_fewestSwaps, mv_X4_fewestSwaps, mi_X4, mc_X4_fewestSwaps, ⟨by decide, by decide, by decide +kernel⟩⟩
theorem lk_X4_77 : LkV RX4 77 yX4_leastIn cX4_leastIn 3 (some .int) 1 := ⟨ml_X4_77, mn_X4_leastIn, mv_X4_leastIn, mi_X4, mc_X4_leastIn, ⟨by decide, by decide, by decide +kernel⟩⟩
theorem cw_S_e_1_i {x : vX} {g : vG} {cc : ByteArray} {own : String} {rm : Room} {nL pc : Nat} {lv : List (Option Value)} {st : List Value} {wt : va_W} {idx : Nat} {y : MethodName} {bytes : ByteArray} {ml : Nat} {ret : Option FieldType} {rmc : Room} {r : Int32} {p0 : Value} (h : Ok x g cc own rm nL) (hc : Ct g y bytes ml ret rmc [] [p0] (some (.int r)) []) (lk : LkS own idx y bytes ml ret 1) (hrm : RmOk rmc rm ml) (hW : (st.map fun v => v.category).sum ≤ 8) (hd : decode cc pc = .ok (.invokestatic idx, 3)) (k : vM x (pc + 3) lv (.int r :: st) (wt)) : vM x pc lv (p0 :: st) (wt) := v_callS (As := [p0]) (rest := st) h hc lk hrm rfl [] rfl (by decide) hW hd rfl k
theorem lk_X4_56 : LkS RX4 56 yJ6_bitCount_0f7a4 cJ6_bitCount_0f7a4 1 (some .int) 1 := ⟨ml_X4_56, ms_J6_bitCount_0f7a4, mi_J6, mc_J6_bitCount_0f7a4, ⟨by decide, by decide, by decide +kernel⟩⟩
set_option maxRecDepth 20000 in
set_option maxHeartbeats 2000000 in
theorem c_J6_bitCount_0f7a4 {g : vG} {a : Nat} (ha : a < 2 ^ 8) : Ct g yJ6_bitCount_0f7a4 cJ6_bitCount_0f7a4 1 (some .int) (rmOf 0 0) [] [.int (nI a)] (some (.int (nI (popN a)))) [] := by
  refine Ct.ofV RJ6 rfl (by decide +kernel) rfl rfl rfl (Nat.le_of_ble_eq_true rfl) (List.forall_mem_cons.mpr ⟨rfl, (fun _ h9 => absurd h9 List.not_mem_nil)⟩) (fun x h hr => ?_)
  show vM x 0 [some (.int (nI a))] [] []
  refine v_iload_n0 h dJ6_bitCount_0f7a4_0 ?_
  refine v_iload_n0 h dJ6_bitCount_0f7a4_1 ?_
  refine v_iconst h (v := nI 1) dJ6_bitCount_0f7a4_2 (by decide) ?_
  refine v_iushr h dJ6_bitCount_0f7a4_3 rfl ?_
  refine v_ldcw h mk_J6_265 dJ6_bitCount_0f7a4_4 ?_
  refine v_iand h dJ6_bitCount_0f7a4_7 ?_
  refine v_isub h dJ6_bitCount_0f7a4_8 ?_
  refine v_istore_n0 h (Nat.le_of_ble_eq_true rfl) dJ6_bitCount_0f7a4_9 ?_
  refine v_iload_n0 h dJ6_bitCount_0f7a4_10 ?_
  refine v_ldcw h mk_J6_266 dJ6_bitCount_0f7a4_11 ?_
  refine v_iand h dJ6_bitCount_0f7a4_14 ?_
  refine v_iload_n0 h dJ6_bitCount_0f7a4_15 ?_
  refine v_iconst h (v := nI 2) dJ6_bitCount_0f7a4_16 (by decide) ?_
  refine v_iushr h dJ6_bitCount_0f7a4_17 rfl ?_
  refine v_ldcw h mk_J6_266 dJ6_bitCount_0f7a4_18 ?_
  refine v_iand h dJ6_bitCount_0f7a4_21 ?_
  refine v_iadd h dJ6_bitCount_0f7a4_22 ?_
  refine v_istore_n0 h (Nat.le_of_ble_eq_true rfl) dJ6_bitCount_0f7a4_23 ?_
  refine v_iload_n0 h dJ6_bitCount_0f7a4_24 ?_
  refine v_iload_n0 h dJ6_bitCount_0f7a4_25 ?_
  refine v_iconst h (v := nI 4) dJ6_bitCount_0f7a4_26 (by decide) ?_
  refine v_iushr h dJ6_bitCount_0f7a4_27 rfl ?_
  refine v_iadd h dJ6_bitCount_0f7a4_28 ?_
  refine v_ldcw h mk_J6_267 dJ6_bitCount_0f7a4_29 ?_
  refine v_iand h dJ6_bitCount_0f7a4_32 ?_
  refine v_istore_n0 h (Nat.le_of_ble_eq_true rfl) dJ6_bitCount_0f7a4_33 ?_
  refine v_iload_n0 h dJ6_bitCount_0f7a4_34 ?_
  refine v_iload_n0 h dJ6_bitCount_0f7a4_35 ?_
  refine v_bipush h (v := nI 8) dJ6_bitCount_0f7a4_36 (by decide) ?_
  refine v_iushr h dJ6_bitCount_0f7a4_38 rfl ?_
  refine v_iadd h dJ6_bitCount_0f7a4_39 ?_
  refine v_istore_n0 h (Nat.le_of_ble_eq_true rfl) dJ6_bitCount_0f7a4_40 ?_
  refine v_iload_n0 h dJ6_bitCount_0f7a4_41 ?_
  refine v_iload_n0 h dJ6_bitCount_0f7a4_42 ?_
  refine v_bipush h (v := nI 16) dJ6_bitCount_0f7a4_43 (by decide) ?_
  refine v_iushr h dJ6_bitCount_0f7a4_45 rfl ?_
  refine v_iadd h dJ6_bitCount_0f7a4_46 ?_
  refine v_istore_n0 h (Nat.le_of_ble_eq_true rfl) dJ6_bitCount_0f7a4_47 ?_
  refine v_iload_n0 h dJ6_bitCount_0f7a4_48 ?_
  refine v_bipush h (v := nI 63) dJ6_bitCount_0f7a4_49 (by decide) ?_
  refine v_iand h dJ6_bitCount_0f7a4_51 ?_
  exact v_iret h hr dJ6_bitCount_0f7a4_52 (by exact bitc ⟨a, ha⟩) rfl
set_option maxRecDepth 20000 in
set_option maxHeartbeats 2000000 in
theorem c_X2_clear {g : vG} {y0 y1 y2 y3 y4 : Nat} {sn : Nat} {sb : Nat → Nat} {sf : Nat → Nat} {ss : Nat → Nat} {sw : Nat → Nat} : Ct g yX2_clear cX2_clear 1 none (rmOf 0 0) [(y0, .inr (2, [.int (nI sn), .ref y1, .ref y2, .ref y3, .ref y4])), (y1, .inl (gI g, 10, .inl (fun z9 => nI (sb z9)))), (y2, .inl (gI g, 10, .inl (fun z9 => nI (sf z9)))), (y3, .inl (gI g, 10, .inl (fun z9 => nI (ss z9)))), (y4, .inl (gI g, 10, .inl (fun z9 => nI (sw z9))))] [.ref y0] none [(y0, .inr (2, [.int (nI 0), .ref y1, .ref y2, .ref y3, .ref y4])), (y1, .inl (gI g, 10, .inl (fun z9 => nI (sb z9)))), (y2, .inl (gI g, 10, .inl (fun z9 => nI (sf z9)))), (y3, .inl (gI g, 10, .inl (fun z9 => nI (ss z9)))), (y4, .inl (gI g, 10, .inl (fun z9 => nI (sw z9))))] := by
  refine Ct.ofV RX2 rfl (by decide +kernel) rfl rfl rfl (Nat.le_of_ble_eq_true rfl) (List.forall_mem_cons.mpr ⟨rfl, (fun _ h9 => absurd h9 List.not_mem_nil)⟩) (fun x h hr => ?_)
  show vM x 0 [some (.ref y0)] [] [(y0, .inr (2, [.int (nI sn), .ref y1, .ref y2, .ref y3, .ref y4])), (y1, .inl (gI g, 10, .inl (fun z9 => nI (sb z9)))), (y2, .inl (gI g, 10, .inl (fun z9 => nI (sf z9)))), (y3, .inl (gI g, 10, .inl (fun z9 => nI (ss z9)))), (y4, .inl (gI g, 10, .inl (fun z9 => nI (sw z9))))]
  refine v_aload_n0 h dX2_clear_0 ?_
  refine v_iconst h (v := nI 0) dX2_clear_1 (by decide) ?_
  refine pf_X2_9_at0 h dX2_clear_2 ?_
  exact v_vret h hr dX2_clear_5 rfl
set_option maxRecDepth 20000 in
set_option maxHeartbeats 2000000 in
theorem c_X4_has {g : vG} {e0 e1 e2 e3 : Nat} {ec : Nat} {el : Nat → Nat} {ea : Nat → Nat} {eo : Nat → Nat} {p : Int32} (he : ec ≤ 8) : Ct g yX4_has cX4_has 2 (some .boolean) (rmOf 0 0) [(e0, .inr (4, [.int (nI ec), .ref e1, .ref e2, .ref e3])), (e1, .inl (gI g, 8, .inl (fun z9 => nI (el z9)))), (e2, .inl (gI g, 8, .inl (fun z9 => nI (ea z9)))), (e3, .inl (gI g, 256, .inl (fun z9 => nI (eo z9))))] [.ref e0, .int p] (some (.int (nI (bN (inR p ec))))) [(e0, .inr (4, [.int (nI ec), .ref e1, .ref e2, .ref e3])), (e1, .inl (gI g, 8, .inl (fun z9 => nI (el z9)))), (e2, .inl (gI g, 8, .inl (fun z9 => nI (ea z9)))), (e3, .inl (gI g, 256, .inl (fun z9 => nI (eo z9))))] := by
  refine Ct.ofV RX4 rfl (by decide +kernel) rfl rfl rfl (Nat.le_of_ble_eq_true rfl) (List.forall_mem_cons.mpr ⟨rfl, (List.forall_mem_cons.mpr ⟨rfl, (fun _ h9 => absurd h9 List.not_mem_nil)⟩)⟩) (fun x h hr => ?_)
  show vM x 0 [some (.ref e0), some (.int p)] [] [(e0, .inr (4, [.int (nI ec), .ref e1, .ref e2, .ref e3])), (e1, .inl (gI g, 8, .inl (fun z9 => nI (el z9)))), (e2, .inl (gI g, 8, .inl (fun z9 => nI (ea z9)))), (e3, .inl (gI g, 256, .inl (fun z9 => nI (eo z9))))]
  refine v_iload_n1 h dX4_has_0 ?_
  refine v_if_lt h dX4_has_1 (tgt := 22) (by decide) (fun c1 => ?_) (fun c1 => ?_)
  · refine v_iconst h (v := nI 0) dX4_has_22 (by decide) ?_
    exact v_zret (v := false) h hr dX4_has_23 (by first | exact (inR_f0 c1).symm | exact (inR_f1 c9).symm | exact (inR_t c1 c9).symm) rfl
  · refine v_iload_n1 h dX4_has_4 ?_
    refine v_aload_n0 h dX4_has_5 ?_
    refine v_get h mw_X4 0 rfl rfl 0 (by decide) mf_X4_9 rfl dX4_has_6 ?_
    refine v_icmp_ge h dX4_has_9 (tgt := 22) (by decide) (fun c9 => ?_) (fun c9 => ?_)
    · refine v_iconst h (v := nI 0) dX4_has_22 (by decide) ?_
      exact v_zret (v := false) h hr dX4_has_23 (by first | exact (inR_f0 c1).symm | exact (inR_f1 c9).symm | exact (inR_t c1 c9).symm) rfl
    · refine v_iload_n1 h dX4_has_12 ?_
      refine v_bipush h (v := nI 8) dX4_has_13 (by decide) ?_
      refine v_icmp_ge h dX4_has_15 (tgt := 22) (by decide) (fun c15 => ?_) (fun c15 => ?_)
      · exact inR_big he (by decide) c9 c15
      · refine v_iconst h (v := nI 1) dX4_has_18 (by decide) ?_
        refine v_goto h dX4_has_19 (tgt := 23) (by decide) ?_
        exact v_zret (v := true) h hr dX4_has_23 (by first | exact (inR_f0 c1).symm | exact (inR_f1 c9).symm | exact (inR_t c1 c9).symm) rfl
set_option maxRecDepth 20000 in
set_option maxHeartbeats 2000000 in
theorem c_X4_alikeTo {g : vG} {e0 e1 e2 e3 : Nat} {ec : Nat} {el : Nat → Nat} {ea : Nat → Nat} {eo : Nat → Nat} {j : Nat} (he : ec ≤ 8) (hj : j < ec) : Ct g yX4_alikeTo cX4_alikeTo 2 (some .int) (rmOf 1 21) [(e0, .inr (4, [.int (nI ec), .ref e1, .ref e2, .ref e3])), (e1, .inl (gI g, 8, .inl (fun z9 => nI (el z9)))), (e2, .inl (gI g, 8, .inl (fun z9 => nI (ea z9)))), (e3, .inl (gI g, 256, .inl (fun z9 => nI (eo z9))))] [.ref e0, .int (nI j)] (some (.int (nI (ea j)))) [(e0, .inr (4, [.int (nI ec), .ref e1, .ref e2, .ref e3])), (e1, .inl (gI g, 8, .inl (fun z9 => nI (el z9)))), (e2, .inl (gI g, 8, .inl (fun z9 => nI (ea z9)))), (e3, .inl (gI g, 256, .inl (fun z9 => nI (eo z9))))] := by
  refine Ct.ofV RX4 rfl (by decide +kernel) rfl rfl rfl (Nat.le_of_ble_eq_true rfl) (List.forall_mem_cons.mpr ⟨rfl, (List.forall_mem_cons.mpr ⟨rfl, (fun _ h9 => absurd h9 List.not_mem_nil)⟩)⟩) (fun x h hr => ?_)
  show vM x 0 [some (.ref e0), some (.int (nI j))] [] [(e0, .inr (4, [.int (nI ec), .ref e1, .ref e2, .ref e3])), (e1, .inl (gI g, 8, .inl (fun z9 => nI (el z9)))), (e2, .inl (gI g, 8, .inl (fun z9 => nI (ea z9)))), (e3, .inl (gI g, 256, .inl (fun z9 => nI (eo z9))))]
  refine v_aload_n0 h dX4_alikeTo_0 ?_
  refine v_iload_n1 h dX4_alikeTo_1 ?_
  refine cw_V_0_1_2_3_1_i (ci := 4) h (c_X4_has (g := g) (by first | assumption | omega)) lk_X4_49 ⟨rfl, rfl, (Nat.le_of_ble_eq_true rfl), (Nat.le_of_ble_eq_true rfl)⟩ rfl rfl rfl (Nat.le_of_ble_eq_true rfl) dX4_alikeTo_2 ?_
  refine v_if_eqB h dX4_alikeTo_5 (tgt := 17) (by decide) (fun c5 => ?_) (fun c5 => ?_)
  · exact inR_no hj (by omega) c5
  · refine v_aload_n0 h dX4_alikeTo_8 ?_
    refine v_get h mw_X4 0 rfl rfl 2 (by decide) mf_X4_19 rfl dX4_alikeTo_9 ?_
    refine v_iload_n1 h dX4_alikeTo_12 ?_
    refine v_ialdN h 2 rfl (by omega) (Nat.le_of_ble_eq_true rfl) dX4_alikeTo_13 ?_
    refine v_goto h dX4_alikeTo_14 (tgt := 18) (by decide) ?_
    exact v_iret h hr dX4_alikeTo_18 rfl rfl
set_option maxRecDepth 20000 in
set_option maxHeartbeats 2000000 in
theorem c_X4_lighterThan {g : vG} {e0 e1 e2 e3 : Nat} {ec : Nat} {el : Nat → Nat} {ea : Nat → Nat} {eo : Nat → Nat} {j : Nat} (he : ec ≤ 8) (hj : j < ec) : Ct g yX4_lighterThan cX4_lighterThan 2 (some .int) (rmOf 1 21) [(e0, .inr (4, [.int (nI ec), .ref e1, .ref e2, .ref e3])), (e1, .inl (gI g, 8, .inl (fun z9 => nI (el z9)))), (e2, .inl (gI g, 8, .inl (fun z9 => nI (ea z9)))), (e3, .inl (gI g, 256, .inl (fun z9 => nI (eo z9))))] [.ref e0, .int (nI j)] (some (.int (nI (el j)))) [(e0, .inr (4, [.int (nI ec), .ref e1, .ref e2, .ref e3])), (e1, .inl (gI g, 8, .inl (fun z9 => nI (el z9)))), (e2, .inl (gI g, 8, .inl (fun z9 => nI (ea z9)))), (e3, .inl (gI g, 256, .inl (fun z9 => nI (eo z9))))] := by
  refine Ct.ofV RX4 rfl (by decide +kernel) rfl rfl rfl (Nat.le_of_ble_eq_true rfl) (List.forall_mem_cons.mpr ⟨rfl, (List.forall_mem_cons.mpr ⟨rfl, (fun _ h9 => absurd h9 List.not_mem_nil)⟩)⟩) (fun x h hr => ?_)
  show vM x 0 [some (.ref e0), some (.int (nI j))] [] [(e0, .inr (4, [.int (nI ec), .ref e1, .ref e2, .ref e3])), (e1, .inl (gI g, 8, .inl (fun z9 => nI (el z9)))), (e2, .inl (gI g, 8, .inl (fun z9 => nI (ea z9)))), (e3, .inl (gI g, 256, .inl (fun z9 => nI (eo z9))))]
  refine v_aload_n0 h dX4_lighterThan_0 ?_
  refine v_iload_n1 h dX4_lighterThan_1 ?_
  refine cw_V_0_1_2_3_1_i (ci := 4) h (c_X4_has (g := g) (by first | assumption | omega)) lk_X4_49 ⟨rfl, rfl, (Nat.le_of_ble_eq_true rfl), (Nat.le_of_ble_eq_true rfl)⟩ rfl rfl rfl (Nat.le_of_ble_eq_true rfl) dX4_lighterThan_2 ?_
  refine v_if_eqB h dX4_lighterThan_5 (tgt := 17) (by decide) (fun c5 => ?_) (fun c5 => ?_)
  · exact inR_no hj (by omega) c5
  · refine v_aload_n0 h dX4_lighterThan_8 ?_
    refine v_get h mw_X4 0 rfl rfl 1 (by decide) mf_X4_15 rfl dX4_lighterThan_9 ?_
    refine v_iload_n1 h dX4_lighterThan_12 ?_
    refine v_ialdN h 1 rfl (by omega) (Nat.le_of_ble_eq_true rfl) dX4_lighterThan_13 ?_
    refine v_goto h dX4_lighterThan_14 (tgt := 18) (by decide) ?_
    exact v_iret h hr dX4_lighterThan_18 rfl rfl
set_option maxRecDepth 20000 in
set_option maxHeartbeats 2000000 in
theorem c_X4_lay {g : vG} {e0 e1 e2 e3 h0 h1 h2 t0 t1 : Nat} {ec : Nat} {el : Nat → Nat} {ea : Nat → Nat} {eo : Nat → Nat} {hn : Nat} {kd : Nat → Nat} {pt : Nat → Nat} {n : Nat} {w : Nat → Nat} {j : Nat} (hT : wfT n w) (hH : wfH hn kd pt) (hj : j < hn) : Ct g yX4_lay cX4_lay 6 none (rmOf 4 89) [(e0, .inr (4, [.int (nI ec), .ref e1, .ref e2, .ref e3])), (e1, .inl (gI g, 8, .inl (fun z9 => nI (el z9)))), (e2, .inl (gI g, 8, .inl (fun z9 => nI (ea z9)))), (e3, .inl (gI g, 256, .inl (fun z9 => nI (eo z9)))), (h0, .inr (1, [.int (nI hn), .ref h1, .ref h2])), (h1, .inl (gI g, 6, .inl (fun z9 => nI (kd z9)))), (h2, .inl (gI g, 6, .inl (fun z9 => nI (pt z9)))), (t0, .inr (5, [.int (nI n), .ref t1])), (t1, .inl (gI g, 8, .inl (fun z9 => nI (w z9))))] [.ref e0, .ref h0, .int (nI j), .ref t0] none [(e0, .inr (4, [.int (nI n), .ref e1, .ref e2, .ref e3])), (e1, .inl (gI g, 8, .inl (fun z9 => nI ((layF el n (ligS (kd j) (pt j) w n)) z9)))), (e2, .inl (gI g, 8, .inl (fun z9 => nI ((layF ea n (alkS (kd j) (pt j) w n)) z9)))), (e3, .inl (gI g, 256, .inl (fun z9 => nI (eo z9)))), (h0, .inr (1, [.int (nI hn), .ref h1, .ref h2])), (h1, .inl (gI g, 6, .inl (fun z9 => nI (kd z9)))), (h2, .inl (gI g, 6, .inl (fun z9 => nI (pt z9)))), (t0, .inr (5, [.int (nI n), .ref t1])), (t1, .inl (gI g, 8, .inl (fun z9 => nI (w z9))))] := by
  refine Ct.ofV RX4 rfl (by decide +kernel) rfl rfl rfl (Nat.le_of_ble_eq_true rfl) (List.forall_mem_cons.mpr ⟨rfl, (List.forall_mem_cons.mpr ⟨rfl, (List.forall_mem_cons.mpr ⟨rfl, (List.forall_mem_cons.mpr ⟨rfl, (fun _ h9 => absurd h9 List.not_mem_nil)⟩)⟩)⟩)⟩) (fun x h hr => ?_)
  show vM x 0 [some (.ref e0), some (.ref h0), some (.int (nI j)), some (.ref t0), none, none] [] [(e0, .inr (4, [.int (nI ec), .ref e1, .ref e2, .ref e3])), (e1, .inl (gI g, 8, .inl (fun z9 => nI (el z9)))), (e2, .inl (gI g, 8, .inl (fun z9 => nI (ea z9)))), (e3, .inl (gI g, 256, .inl (fun z9 => nI (eo z9)))), (h0, .inr (1, [.int (nI hn), .ref h1, .ref h2])), (h1, .inl (gI g, 6, .inl (fun z9 => nI (kd z9)))), (h2, .inl (gI g, 6, .inl (fun z9 => nI (pt z9)))), (t0, .inr (5, [.int (nI n), .ref t1])), (t1, .inl (gI g, 8, .inl (fun z9 => nI (w z9))))]
  have ht1 := hT.1; have ht2 := hT.2.1; have ht3 := hT.2.2; have hh1 := hH.1; have hh2 := hH.2.1; have hh3 := hH.2.2.1; have hh4 := hH.2.2.2
  refine v_aload_n0 h dX4_lay_0 ?_
  refine v_aload_n3 h dX4_lay_1 ?_
  refine cw_V_7_8_0_i (ci := 5) h (c_X6_count (g := g)) lk_X4_25 ⟨rfl, rfl, (Nat.le_of_ble_eq_true rfl), (Nat.le_of_ble_eq_true rfl)⟩ rfl rfl rfl (Nat.le_of_ble_eq_true rfl) dX4_lay_2 ?_
  refine v_bipush h (v := nI 8) dX4_lay_5 (by decide) ?_
  refine v_minN h ml_X4_30 (Nat.le_of_ble_eq_true rfl) (Nat.le_of_ble_eq_true rfl) dX4_lay_7 (by omega) (by omega) ?_
  refine vM.top (v := .int (nI n)) (by rw [Nat.min_eq_left ht1]) ?_
  refine pf_X4_9_at0 h dX4_lay_10 ?_
  refine v_iconst h (v := nI 0) dX4_lay_13 (by decide) ?_
  refine v_istore4 h (Nat.le_of_ble_eq_true rfl) dX4_lay_14 ?_
  have L16 : ∀ (k16 : Nat) (i : Nat), n - i = k16 → (i ≤ n) → vM x 16 [some (.ref e0), some (.ref h0), some (.int (nI j)), some (.ref t0), some (.int (nI i)), none] [] [(e0, .inr (4, [.int (nI n), .ref e1, .ref e2, .ref e3])), (e1, .inl (gI g, 8, .inl (fun z9 => nI ((layF el i (ligS (kd j) (pt j) w n)) z9)))), (e2, .inl (gI g, 8, .inl (fun z9 => nI ((layF ea i (alkS (kd j) (pt j) w n)) z9)))), (e3, .inl (gI g, 256, .inl (fun z9 => nI (eo z9)))), (h0, .inr (1, [.int (nI hn), .ref h1, .ref h2])), (h1, .inl (gI g, 6, .inl (fun z9 => nI (kd z9)))), (h2, .inl (gI g, 6, .inl (fun z9 => nI (pt z9)))), (t0, .inr (5, [.int (nI n), .ref t1])), (t1, .inl (gI g, 8, .inl (fun z9 => nI (w z9))))] := by
    intro k16
    induction k16 using Nat.strongRecOn with
    | _ k16 ih16 =>
      intro i hm16 hi
      refine v_iload4 h dX4_lay_16 ?_
      refine v_aload_n0 h dX4_lay_18 ?_
      refine v_get h mw_X4 0 rfl rfl 0 (by decide) mf_X4_9 rfl dX4_lay_19 ?_
      refine v_icmp_geN h dX4_lay_22 (tgt := 133) (by decide) (by omega) (by omega) (fun c22 => ?_) (fun c22 => ?_)
      · have e22 : n = i := by omega
        subst e22
        exact v_vret h hr dX4_lay_133 rfl
      · refine v_aload_n0 h dX4_lay_25 ?_
        refine v_get h mw_X4 0 rfl rfl 1 (by decide) mf_X4_15 rfl dX4_lay_26 ?_
        refine v_iload4 h dX4_lay_29 ?_
        refine v_iconst h (v := nI 0) dX4_lay_31 (by decide) ?_
        refine v_iastN_at1 h (by omega) (Nat.le_of_ble_eq_true rfl) dX4_lay_32 ?_
        refine v_aload_n0 h dX4_lay_33 ?_
        refine v_get h mw_X4 0 rfl rfl 2 (by decide) mf_X4_19 rfl dX4_lay_34 ?_
        refine v_iload4 h dX4_lay_37 ?_
        refine v_iconst h (v := nI 0) dX4_lay_39 (by decide) ?_
        refine v_iastN_at2 h (by omega) (Nat.le_of_ble_eq_true rfl) dX4_lay_40 ?_
        refine v_iconst h (v := nI 0) dX4_lay_41 (by decide) ?_
        refine v_istore5 h (Nat.le_of_ble_eq_true rfl) dX4_lay_42 ?_
        have L44 : ∀ (k44 : Nat) (q : Nat), n - q = k44 → (q ≤ n) → vM x 44 [some (.ref e0), some (.ref h0), some (.int (nI j)), some (.ref t0), some (.int (nI i)), some (.int (nI q))] [] [(e0, .inr (4, [.int (nI n), .ref e1, .ref e2, .ref e3])), (e1, .inl (gI g, 8, .inl (fun z9 => nI ((up (layF el i (ligS (kd j) (pt j) w n)) i (orTo (ligF (kd j) (pt j) w i) q)) z9)))), (e2, .inl (gI g, 8, .inl (fun z9 => nI ((up (layF ea i (alkS (kd j) (pt j) w n)) i (orTo (alkF (kd j) (pt j) w i) q)) z9)))), (e3, .inl (gI g, 256, .inl (fun z9 => nI (eo z9)))), (h0, .inr (1, [.int (nI hn), .ref h1, .ref h2])), (h1, .inl (gI g, 6, .inl (fun z9 => nI (kd z9)))), (h2, .inl (gI g, 6, .inl (fun z9 => nI (pt z9)))), (t0, .inr (5, [.int (nI n), .ref t1])), (t1, .inl (gI g, 8, .inl (fun z9 => nI (w z9))))] := by
          intro k44
          induction k44 using Nat.strongRecOn with
          | _ k44 ih44 =>
            intro q hm44 hq
            refine v_iload5 h dX4_lay_44 ?_
            refine v_aload_n0 h dX4_lay_46 ?_
            refine v_get h mw_X4 0 rfl rfl 0 (by decide) mf_X4_9 rfl dX4_lay_47 ?_
            refine v_icmp_geN h dX4_lay_50 (tgt := 127) (by decide) (by omega) (by omega) (fun c50 => ?_) (fun c50 => ?_)
            · have e50 : n = q := by omega
              subst e50
              refine v_iincN4 h (Nat.le_of_ble_eq_true rfl) dX4_lay_127 ?_
              refine v_goto h dX4_lay_130 (tgt := 16) (by decide) ?_
              exact vM.le rfl rfl (by rw [layF_succ (F := (ligS (kd j) (pt j) w n)) (v := orTo (ligF (kd j) (pt j) w i) n) rfl, layF_succ (F := (alkS (kd j) (pt j) w n)) (v := orTo (alkF (kd j) (pt j) w i) n) rfl]) (vM.fg (ih16 _ (by omega) (i + 1) rfl (by first | assumption | rfl | omega)) ⟨rfl, rfl, rfl, rfl, rfl, trivial⟩)
            · refine v_aload_n1 h dX4_lay_53 ?_
              refine v_iload_n2 h dX4_lay_54 ?_
              refine v_aload_n3 h dX4_lay_55 ?_
              refine v_iload4 h dX4_lay_56 ?_
              refine cw_V_7_8_1_i (ci := 5) h (c_X6_weightOf (g := g) (by first | assumption | omega) (by first | assumption | omega)) lk_X4_36 ⟨rfl, rfl, (Nat.le_of_ble_eq_true rfl), (Nat.le_of_ble_eq_true rfl)⟩ rfl rfl rfl (Nat.le_of_ble_eq_true rfl) dX4_lay_58 ?_
              refine v_aload_n3 h dX4_lay_61 ?_
              refine v_iload5 h dX4_lay_62 ?_
              refine cw_V_7_8_1_i (ci := 5) h (c_X6_weightOf (g := g) (by first | assumption | omega) (by first | assumption | omega)) lk_X4_36 ⟨rfl, rfl, (Nat.le_of_ble_eq_true rfl), (Nat.le_of_ble_eq_true rfl)⟩ rfl rfl rfl (Nat.le_of_ble_eq_true rfl) dX4_lay_64 ?_
              refine cw_V_4_5_6_3_i (ci := 1) h (c_X1_feelsHeavier (g := g) (by first | assumption | omega) (by first | assumption | omega) (by have := ht2 i; omega) (by have := ht2 q; omega)) lk_X4_40 ⟨rfl, rfl, (Nat.le_of_ble_eq_true rfl), (Nat.le_of_ble_eq_true rfl)⟩ rfl rfl rfl (Nat.le_of_ble_eq_true rfl) dX4_lay_67 ?_
              refine v_if_eqB h dX4_lay_70 (tgt := 87) (by decide) (fun c70 => ?_) (fun c70 => ?_)
              · refine v_aload_n1 h dX4_lay_87 ?_
                refine v_iload_n2 h dX4_lay_88 ?_
                refine v_aload_n3 h dX4_lay_89 ?_
                refine v_iload4 h dX4_lay_90 ?_
                refine cw_V_7_8_1_i (ci := 5) h (c_X6_weightOf (g := g) (by first | assumption | omega) (by first | assumption | omega)) lk_X4_36 ⟨rfl, rfl, (Nat.le_of_ble_eq_true rfl), (Nat.le_of_ble_eq_true rfl)⟩ rfl rfl rfl (Nat.le_of_ble_eq_true rfl) dX4_lay_92 ?_
                refine v_aload_n3 h dX4_lay_95 ?_
                refine v_iload5 h dX4_lay_96 ?_
                refine cw_V_7_8_1_i (ci := 5) h (c_X6_weightOf (g := g) (by first | assumption | omega) (by first | assumption | omega)) lk_X4_36 ⟨rfl, rfl, (Nat.le_of_ble_eq_true rfl), (Nat.le_of_ble_eq_true rfl)⟩ rfl rfl rfl (Nat.le_of_ble_eq_true rfl) dX4_lay_98 ?_
                refine cw_V_4_5_6_3_i (ci := 1) h (c_X1_feelsAlike (g := g) (by first | assumption | omega) (by first | assumption | omega) (by have := ht2 i; omega) (by have := ht2 q; omega)) lk_X4_46 ⟨rfl, rfl, (Nat.le_of_ble_eq_true rfl), (Nat.le_of_ble_eq_true rfl)⟩ rfl rfl rfl (Nat.le_of_ble_eq_true rfl) dX4_lay_101 ?_
                refine v_if_eqB h dX4_lay_104 (tgt := 121) (by decide) (fun c104 => ?_) (fun c104 => ?_)
                · refine v_iincN5 h (Nat.le_of_ble_eq_true rfl) dX4_lay_121 ?_
                  refine v_goto h dX4_lay_124 (tgt := 44) (by decide) ?_
                  exact vM.le rfl rfl (by (first | rw [or_up_t (ligF_t c70)] | rw [or_up_f (ligF_f c70)]); (first | rw [or_up_t (alkF_t c104)] | rw [or_up_f (alkF_f c104)])) (vM.fg (ih44 _ (by omega) (q + 1) rfl (by first | assumption | rfl | omega)) ⟨rfl, rfl, rfl, rfl, rfl, rfl, trivial⟩)
                · refine v_aload_n0 h dX4_lay_107 ?_
                  refine v_get h mw_X4 0 rfl rfl 2 (by decide) mf_X4_19 rfl dX4_lay_108 ?_
                  refine v_iload4 h dX4_lay_111 ?_
                  refine v_dup2 h dX4_lay_113 rfl rfl ?_
                  refine v_ialdN h 2 rfl (by omega) (Nat.le_of_ble_eq_true rfl) dX4_lay_114 ?_
                  refine v_iconst h (v := nI 1) dX4_lay_115 (by decide) ?_
                  refine v_iload5 h dX4_lay_116 ?_
                  refine v_ishlN h dX4_lay_118 (by omega) ?_
                  refine v_iorN h dX4_lay_119 ?_
                  refine v_iastN_at2 h (by omega) (Nat.le_of_ble_eq_true rfl) dX4_lay_120 ?_
                  refine v_iincN5 h (Nat.le_of_ble_eq_true rfl) dX4_lay_121 ?_
                  refine v_goto h dX4_lay_124 (tgt := 44) (by decide) ?_
                  exact vM.le rfl rfl (by (first | rw [or_up_t (ligF_t c70)] | rw [or_up_f (ligF_f c70)]); (first | rw [or_up_t (alkF_t c104)] | rw [or_up_f (alkF_f c104)])) (vM.fg (ih44 _ (by omega) (q + 1) rfl (by first | assumption | rfl | omega)) ⟨rfl, rfl, rfl, rfl, rfl, rfl, trivial⟩)
              · refine v_aload_n0 h dX4_lay_73 ?_
                refine v_get h mw_X4 0 rfl rfl 1 (by decide) mf_X4_15 rfl dX4_lay_74 ?_
                refine v_iload4 h dX4_lay_77 ?_
                refine v_dup2 h dX4_lay_79 rfl rfl ?_
                refine v_ialdN h 1 rfl (by omega) (Nat.le_of_ble_eq_true rfl) dX4_lay_80 ?_
                refine v_iconst h (v := nI 1) dX4_lay_81 (by decide) ?_
                refine v_iload5 h dX4_lay_82 ?_
                refine v_ishlN h dX4_lay_84 (by omega) ?_
                refine v_iorN h dX4_lay_85 ?_
                refine v_iastN_at1 h (by omega) (Nat.le_of_ble_eq_true rfl) dX4_lay_86 ?_
                refine v_aload_n1 h dX4_lay_87 ?_
                refine v_iload_n2 h dX4_lay_88 ?_
                refine v_aload_n3 h dX4_lay_89 ?_
                refine v_iload4 h dX4_lay_90 ?_
                refine cw_V_7_8_1_i (ci := 5) h (c_X6_weightOf (g := g) (by first | assumption | omega) (by first | assumption | omega)) lk_X4_36 ⟨rfl, rfl, (Nat.le_of_ble_eq_true rfl), (Nat.le_of_ble_eq_true rfl)⟩ rfl rfl rfl (Nat.le_of_ble_eq_true rfl) dX4_lay_92 ?_
                refine v_aload_n3 h dX4_lay_95 ?_
                refine v_iload5 h dX4_lay_96 ?_
                refine cw_V_7_8_1_i (ci := 5) h (c_X6_weightOf (g := g) (by first | assumption | omega) (by first | assumption | omega)) lk_X4_36 ⟨rfl, rfl, (Nat.le_of_ble_eq_true rfl), (Nat.le_of_ble_eq_true rfl)⟩ rfl rfl rfl (Nat.le_of_ble_eq_true rfl) dX4_lay_98 ?_
                refine cw_V_4_5_6_3_i (ci := 1) h (c_X1_feelsAlike (g := g) (by first | assumption | omega) (by first | assumption | omega) (by have := ht2 i; omega) (by have := ht2 q; omega)) lk_X4_46 ⟨rfl, rfl, (Nat.le_of_ble_eq_true rfl), (Nat.le_of_ble_eq_true rfl)⟩ rfl rfl rfl (Nat.le_of_ble_eq_true rfl) dX4_lay_101 ?_
                refine v_if_eqB h dX4_lay_104 (tgt := 121) (by decide) (fun c104 => ?_) (fun c104 => ?_)
                · refine v_iincN5 h (Nat.le_of_ble_eq_true rfl) dX4_lay_121 ?_
                  refine v_goto h dX4_lay_124 (tgt := 44) (by decide) ?_
                  exact vM.le rfl rfl (by (first | rw [or_up_t (ligF_t c70)] | rw [or_up_f (ligF_f c70)]); (first | rw [or_up_t (alkF_t c104)] | rw [or_up_f (alkF_f c104)])) (vM.fg (ih44 _ (by omega) (q + 1) rfl (by first | assumption | rfl | omega)) ⟨rfl, rfl, rfl, rfl, rfl, rfl, trivial⟩)
                · refine v_aload_n0 h dX4_lay_107 ?_
                  refine v_get h mw_X4 0 rfl rfl 2 (by decide) mf_X4_19 rfl dX4_lay_108 ?_
                  refine v_iload4 h dX4_lay_111 ?_
                  refine v_dup2 h dX4_lay_113 rfl rfl ?_
                  refine v_ialdN h 2 rfl (by omega) (Nat.le_of_ble_eq_true rfl) dX4_lay_114 ?_
                  refine v_iconst h (v := nI 1) dX4_lay_115 (by decide) ?_
                  refine v_iload5 h dX4_lay_116 ?_
                  refine v_ishlN h dX4_lay_118 (by omega) ?_
                  refine v_iorN h dX4_lay_119 ?_
                  refine v_iastN_at2 h (by omega) (Nat.le_of_ble_eq_true rfl) dX4_lay_120 ?_
                  refine v_iincN5 h (Nat.le_of_ble_eq_true rfl) dX4_lay_121 ?_
                  refine v_goto h dX4_lay_124 (tgt := 44) (by decide) ?_
                  exact vM.le rfl rfl (by (first | rw [or_up_t (ligF_t c70)] | rw [or_up_f (ligF_f c70)]); (first | rw [or_up_t (alkF_t c104)] | rw [or_up_f (alkF_f c104)])) (vM.fg (ih44 _ (by omega) (q + 1) rfl (by first | assumption | rfl | omega)) ⟨rfl, rfl, rfl, rfl, rfl, rfl, trivial⟩)
        exact vM.fg (L44 _ 0 rfl (by first | assumption | rfl | omega)) ⟨rfl, rfl, rfl, rfl, rfl, rfl, trivial⟩
  exact vM.le rfl rfl (by rw [layF_0, layF_0]) (vM.fg (L16 _ 0 rfl (by first | assumption | rfl | omega)) ⟨rfl, rfl, rfl, rfl, rfl, trivial⟩)
set_option maxRecDepth 20000 in
set_option maxHeartbeats 2000000 in
theorem c_X4_isFinerThan {g : vG} {e0 e1 e2 e3 o0 o1 o2 o3 : Nat} {ec : Nat} {el : Nat → Nat} {ea : Nat → Nat} {eo : Nat → Nat} {oc : Nat} {ol : Nat → Nat} {oa : Nat → Nat} {oo : Nat → Nat} (he : ec ≤ 8) (ho : oc ≤ 8) (heo : ec ≤ oc) (hel : ∀ z, el z < 2 ^ 8) (hol : ∀ z, ol z < 2 ^ 8) : Ct g yX4_isFinerThan cX4_isFinerThan 4 (some .boolean) (rmOf 2 42) [(e0, .inr (4, [.int (nI ec), .ref e1, .ref e2, .ref e3])), (e1, .inl (gI g, 8, .inl (fun z9 => nI (el z9)))), (e2, .inl (gI g, 8, .inl (fun z9 => nI (ea z9)))), (e3, .inl (gI g, 256, .inl (fun z9 => nI (eo z9)))), (o0, .inr (4, [.int (nI oc), .ref o1, .ref o2, .ref o3])), (o1, .inl (gI g, 8, .inl (fun z9 => nI (ol z9)))), (o2, .inl (gI g, 8, .inl (fun z9 => nI (oa z9)))), (o3, .inl (gI g, 256, .inl (fun z9 => nI (oo z9))))] [.ref e0, .ref o0] (some (.int (nI (bN (finM ec el ol))))) [(e0, .inr (4, [.int (nI ec), .ref e1, .ref e2, .ref e3])), (e1, .inl (gI g, 8, .inl (fun z9 => nI (el z9)))), (e2, .inl (gI g, 8, .inl (fun z9 => nI (ea z9)))), (e3, .inl (gI g, 256, .inl (fun z9 => nI (eo z9)))), (o0, .inr (4, [.int (nI oc), .ref o1, .ref o2, .ref o3])), (o1, .inl (gI g, 8, .inl (fun z9 => nI (ol z9)))), (o2, .inl (gI g, 8, .inl (fun z9 => nI (oa z9)))), (o3, .inl (gI g, 256, .inl (fun z9 => nI (oo z9))))] := by
  refine Ct.ofV RX4 rfl (by decide +kernel) rfl rfl rfl (Nat.le_of_ble_eq_true rfl) (List.forall_mem_cons.mpr ⟨rfl, (List.forall_mem_cons.mpr ⟨rfl, (fun _ h9 => absurd h9 List.not_mem_nil)⟩)⟩) (fun x h hr => ?_)
  show vM x 0 [some (.ref e0), some (.ref o0), none, none] [] [(e0, .inr (4, [.int (nI ec), .ref e1, .ref e2, .ref e3])), (e1, .inl (gI g, 8, .inl (fun z9 => nI (el z9)))), (e2, .inl (gI g, 8, .inl (fun z9 => nI (ea z9)))), (e3, .inl (gI g, 256, .inl (fun z9 => nI (eo z9)))), (o0, .inr (4, [.int (nI oc), .ref o1, .ref o2, .ref o3])), (o1, .inl (gI g, 8, .inl (fun z9 => nI (ol z9)))), (o2, .inl (gI g, 8, .inl (fun z9 => nI (oa z9)))), (o3, .inl (gI g, 256, .inl (fun z9 => nI (oo z9))))]
  refine v_iconst h (v := nI 0) dX4_isFinerThan_0 (by decide) ?_
  refine v_istore_n2 h (Nat.le_of_ble_eq_true rfl) dX4_isFinerThan_1 ?_
  refine v_iconst h (v := nI 0) dX4_isFinerThan_2 (by decide) ?_
  refine v_istore_n3 h (Nat.le_of_ble_eq_true rfl) dX4_isFinerThan_3 ?_
  have L4 : ∀ (k4 : Nat) (i : Nat), ec - i = k4 → (i ≤ ec) → (allTo (fun x => decide (sdiff (ol x) (el x) = 0)) i = true) → vM x 4 [some (.ref e0), some (.ref o0), some (.int (nI (bN (!allTo (fun x => decide (ol x = el x)) i)))), some (.int (nI i))] [] [(e0, .inr (4, [.int (nI ec), .ref e1, .ref e2, .ref e3])), (e1, .inl (gI g, 8, .inl (fun z9 => nI (el z9)))), (e2, .inl (gI g, 8, .inl (fun z9 => nI (ea z9)))), (e3, .inl (gI g, 256, .inl (fun z9 => nI (eo z9)))), (o0, .inr (4, [.int (nI oc), .ref o1, .ref o2, .ref o3])), (o1, .inl (gI g, 8, .inl (fun z9 => nI (ol z9)))), (o2, .inl (gI g, 8, .inl (fun z9 => nI (oa z9)))), (o3, .inl (gI g, 256, .inl (fun z9 => nI (oo z9))))] := by
    intro k4
    induction k4 using Nat.strongRecOn with
    | _ k4 ih4 =>
      intro i hm4 hi h1
      refine v_iload_n3 h dX4_isFinerThan_4 ?_
      refine v_aload_n0 h dX4_isFinerThan_5 ?_
      refine v_get h mw_X4 0 rfl rfl 0 (by decide) mf_X4_9 rfl dX4_isFinerThan_6 ?_
      refine v_icmp_geN h dX4_isFinerThan_9 (tgt := 59) (by decide) (by omega) (by omega) (fun c9 => ?_) (fun c9 => ?_)
      · refine v_iload_n2 h dX4_isFinerThan_59 ?_
        exact v_zret h hr dX4_isFinerThan_60 (by rw [finM, show ec = i by omega, h1]; rfl) rfl
      · refine v_aload_n1 h dX4_isFinerThan_12 ?_
        refine v_iload_n3 h dX4_isFinerThan_13 ?_
        refine cw_V_4_5_6_7_1_i (ci := 4) h (c_X4_lighterThan (g := g) (by first | assumption | omega) (by first | assumption | omega)) lk_X4_61 ⟨rfl, rfl, (Nat.le_of_ble_eq_true rfl), (Nat.le_of_ble_eq_true rfl)⟩ rfl rfl rfl (Nat.le_of_ble_eq_true rfl) dX4_isFinerThan_14 ?_
        refine v_aload_n0 h dX4_isFinerThan_17 ?_
        refine v_iload_n3 h dX4_isFinerThan_18 ?_
        refine cw_V_0_1_2_3_1_i (ci := 4) h (c_X4_lighterThan (g := g) (by first | assumption | omega) (by first | assumption | omega)) lk_X4_61 ⟨rfl, rfl, (Nat.le_of_ble_eq_true rfl), (Nat.le_of_ble_eq_true rfl)⟩ rfl rfl rfl (Nat.le_of_ble_eq_true rfl) dX4_isFinerThan_19 ?_
        refine v_iconst h (v := -1) dX4_isFinerThan_22 (by decide) ?_
        refine v_ixor h dX4_isFinerThan_23 ?_
        refine v_iandM h dX4_isFinerThan_24 ?_
        refine v_if_eqN h dX4_isFinerThan_25 (tgt := 30) (by decide) (by exact b8 (sdiff_lt (hol _))) (fun c25 => ?_) (fun c25 => ?_)
        · refine v_iload_n2 h dX4_isFinerThan_30 ?_
          refine v_if_neB h dX4_isFinerThan_31 (tgt := 47) (by decide) (fun c31 => ?_) (fun c31 => ?_)
          · refine v_iconst h (v := nI 1) dX4_isFinerThan_47 (by decide) ?_
            refine v_goto h dX4_isFinerThan_48 (tgt := 52) (by decide) ?_
            refine v_istore_n2 h (Nat.le_of_ble_eq_true rfl) dX4_isFinerThan_52 ?_
            refine v_iincN3 h (Nat.le_of_ble_eq_true rfl) dX4_isFinerThan_53 ?_
            refine v_goto h dX4_isFinerThan_56 (tgt := 4) (by decide) ?_
            exact vM.fg (ih4 _ (by omega) (i + 1) rfl (by first | assumption | rfl | omega) (by simp [allTo, h1, c25])) ⟨rfl, rfl, (by first | simp [allTo, bN, c31, c44] | simp [allTo, bN, c31]), rfl, trivial⟩
          · refine v_aload_n1 h dX4_isFinerThan_34 ?_
            refine v_iload_n3 h dX4_isFinerThan_35 ?_
            refine cw_V_4_5_6_7_1_i (ci := 4) h (c_X4_lighterThan (g := g) (by first | assumption | omega) (by first | assumption | omega)) lk_X4_61 ⟨rfl, rfl, (Nat.le_of_ble_eq_true rfl), (Nat.le_of_ble_eq_true rfl)⟩ rfl rfl rfl (Nat.le_of_ble_eq_true rfl) dX4_isFinerThan_36 ?_
            refine v_aload_n0 h dX4_isFinerThan_39 ?_
            refine v_iload_n3 h dX4_isFinerThan_40 ?_
            refine cw_V_0_1_2_3_1_i (ci := 4) h (c_X4_lighterThan (g := g) (by first | assumption | omega) (by first | assumption | omega)) lk_X4_61 ⟨rfl, rfl, (Nat.le_of_ble_eq_true rfl), (Nat.le_of_ble_eq_true rfl)⟩ rfl rfl rfl (Nat.le_of_ble_eq_true rfl) dX4_isFinerThan_41 ?_
            refine v_icmp_eqN h dX4_isFinerThan_44 (tgt := 51) (by decide) (by first | exact b8 (hol _) | exact b8 (hel _)) (by first | exact b8 (hol _) | exact b8 (hel _)) (fun c44 => ?_) (fun c44 => ?_)
            · refine v_iconst h (v := nI 0) dX4_isFinerThan_51 (by decide) ?_
              refine v_istore_n2 h (Nat.le_of_ble_eq_true rfl) dX4_isFinerThan_52 ?_
              refine v_iincN3 h (Nat.le_of_ble_eq_true rfl) dX4_isFinerThan_53 ?_
              refine v_goto h dX4_isFinerThan_56 (tgt := 4) (by decide) ?_
              exact vM.fg (ih4 _ (by omega) (i + 1) rfl (by first | assumption | rfl | omega) (by simp [allTo, h1, c25])) ⟨rfl, rfl, (by first | simp [allTo, bN, c31, c44] | simp [allTo, bN, c31]), rfl, trivial⟩
            · refine v_iconst h (v := nI 1) dX4_isFinerThan_47 (by decide) ?_
              refine v_goto h dX4_isFinerThan_48 (tgt := 52) (by decide) ?_
              refine v_istore_n2 h (Nat.le_of_ble_eq_true rfl) dX4_isFinerThan_52 ?_
              refine v_iincN3 h (Nat.le_of_ble_eq_true rfl) dX4_isFinerThan_53 ?_
              refine v_goto h dX4_isFinerThan_56 (tgt := 4) (by decide) ?_
              exact vM.fg (ih4 _ (by omega) (i + 1) rfl (by first | assumption | rfl | omega) (by simp [allTo, h1, c25])) ⟨rfl, rfl, (by first | simp [allTo, bN, c31, c44] | simp [allTo, bN, c31]), rfl, trivial⟩
        · refine v_iconst h (v := nI 0) dX4_isFinerThan_28 (by decide) ?_
          exact v_zret (v := false) h hr dX4_isFinerThan_29 (by exact (by rw [finM, allTo_no (j := i) (by omega) (decide_eq_false (by omega))]; rfl)) rfl
  exact vM.fg (L4 _ 0 rfl (by first | assumption | rfl | omega) (by first | assumption | rfl | omega)) ⟨rfl, rfl, rfl, rfl, trivial⟩
set_option maxRecDepth 20000 in
set_option maxHeartbeats 2000000 in
theorem c_X4_alikeToAny {g : vG} {e0 e1 e2 e3 : Nat} {ec : Nat} {el : Nat → Nat} {ea : Nat → Nat} {eo : Nat → Nat} {a : Nat} (he : ec ≤ 8) (ha : a < 2 ^ 31) : Ct g yX4_alikeToAny cX4_alikeToAny 4 (some .int) (rmOf 2 42) [(e0, .inr (4, [.int (nI ec), .ref e1, .ref e2, .ref e3])), (e1, .inl (gI g, 8, .inl (fun z9 => nI (el z9)))), (e2, .inl (gI g, 8, .inl (fun z9 => nI (ea z9)))), (e3, .inl (gI g, 256, .inl (fun z9 => nI (eo z9))))] [.ref e0, .int (nI a)] (some (.int (nI (anyS ea ec a)))) [(e0, .inr (4, [.int (nI ec), .ref e1, .ref e2, .ref e3])), (e1, .inl (gI g, 8, .inl (fun z9 => nI (el z9)))), (e2, .inl (gI g, 8, .inl (fun z9 => nI (ea z9)))), (e3, .inl (gI g, 256, .inl (fun z9 => nI (eo z9))))] := by
  refine Ct.ofV RX4 rfl (by decide +kernel) rfl rfl rfl (Nat.le_of_ble_eq_true rfl) (List.forall_mem_cons.mpr ⟨rfl, (List.forall_mem_cons.mpr ⟨rfl, (fun _ h9 => absurd h9 List.not_mem_nil)⟩)⟩) (fun x h hr => ?_)
  show vM x 0 [some (.ref e0), some (.int (nI a)), none, none] [] [(e0, .inr (4, [.int (nI ec), .ref e1, .ref e2, .ref e3])), (e1, .inl (gI g, 8, .inl (fun z9 => nI (el z9)))), (e2, .inl (gI g, 8, .inl (fun z9 => nI (ea z9)))), (e3, .inl (gI g, 256, .inl (fun z9 => nI (eo z9))))]
  refine v_iconst h (v := nI 0) dX4_alikeToAny_0 (by decide) ?_
  refine v_istore_n2 h (Nat.le_of_ble_eq_true rfl) dX4_alikeToAny_1 ?_
  refine v_iconst h (v := nI 0) dX4_alikeToAny_2 (by decide) ?_
  refine v_istore_n3 h (Nat.le_of_ble_eq_true rfl) dX4_alikeToAny_3 ?_
  have L4 : ∀ (k4 : Nat) (i : Nat), ec - i = k4 → (i ≤ ec) → vM x 4 [some (.ref e0), some (.int (nI a)), some (.int (nI (orTo (fun z => if a.testBit z then ea z else 0) i))), some (.int (nI i))] [] [(e0, .inr (4, [.int (nI ec), .ref e1, .ref e2, .ref e3])), (e1, .inl (gI g, 8, .inl (fun z9 => nI (el z9)))), (e2, .inl (gI g, 8, .inl (fun z9 => nI (ea z9)))), (e3, .inl (gI g, 256, .inl (fun z9 => nI (eo z9))))] := by
    intro k4
    induction k4 using Nat.strongRecOn with
    | _ k4 ih4 =>
      intro i hm4 hi
      refine v_iload_n3 h dX4_alikeToAny_4 ?_
      refine v_aload_n0 h dX4_alikeToAny_5 ?_
      refine v_get h mw_X4 0 rfl rfl 0 (by decide) mf_X4_9 rfl dX4_alikeToAny_6 ?_
      refine v_icmp_geN h dX4_alikeToAny_9 (tgt := 38) (by decide) (by omega) (by omega) (fun c9 => ?_) (fun c9 => ?_)
      · refine v_iload_n2 h dX4_alikeToAny_38 ?_
        exact v_iret h hr dX4_alikeToAny_39 (by rw [show i = ec by omega]; rfl) rfl
      · refine v_iload_n2 h dX4_alikeToAny_12 ?_
        refine v_iload_n1 h dX4_alikeToAny_13 ?_
        refine v_iload_n3 h dX4_alikeToAny_14 ?_
        refine cw_N_e_2_i h (c_X7_isIn (g := g) (by first | assumption | omega) (by first | assumption | omega)) lk_X4_67 ⟨rfl, rfl, (Nat.le_of_ble_eq_true rfl), (Nat.le_of_ble_eq_true rfl)⟩ (Nat.le_of_ble_eq_true rfl) dX4_alikeToAny_15 ?_
        refine v_if_eqB h dX4_alikeToAny_18 (tgt := 29) (by decide) (fun c18 => ?_) (fun c18 => ?_)
        · refine v_iconst h (v := nI 0) dX4_alikeToAny_29 (by decide) ?_
          refine v_iorN h dX4_alikeToAny_30 ?_
          refine v_istore_n2 h (Nat.le_of_ble_eq_true rfl) dX4_alikeToAny_31 ?_
          refine v_iincN3 h (Nat.le_of_ble_eq_true rfl) dX4_alikeToAny_32 ?_
          refine v_goto h dX4_alikeToAny_35 (tgt := 4) (by decide) ?_
          exact vM.fg (ih4 _ (by omega) (i + 1) rfl (by first | assumption | rfl | omega)) ⟨rfl, rfl, (by rw [orTo]; simp [c18]), rfl, trivial⟩
        · refine v_aload_n0 h dX4_alikeToAny_21 ?_
          refine v_iload_n3 h dX4_alikeToAny_22 ?_
          refine cw_V_0_1_2_3_1_i (ci := 4) h (c_X4_alikeTo (g := g) (by first | assumption | omega) (by first | assumption | omega)) lk_X4_53 ⟨rfl, rfl, (Nat.le_of_ble_eq_true rfl), (Nat.le_of_ble_eq_true rfl)⟩ rfl rfl rfl (Nat.le_of_ble_eq_true rfl) dX4_alikeToAny_23 ?_
          refine v_goto h dX4_alikeToAny_26 (tgt := 30) (by decide) ?_
          refine v_iorN h dX4_alikeToAny_30 ?_
          refine v_istore_n2 h (Nat.le_of_ble_eq_true rfl) dX4_alikeToAny_31 ?_
          refine v_iincN3 h (Nat.le_of_ble_eq_true rfl) dX4_alikeToAny_32 ?_
          refine v_goto h dX4_alikeToAny_35 (tgt := 4) (by decide) ?_
          exact vM.fg (ih4 _ (by omega) (i + 1) rfl (by first | assumption | rfl | omega)) ⟨rfl, rfl, (by rw [orTo]; simp [c18]), rfl, trivial⟩
  exact vM.fg (L4 _ 0 rfl (by first | assumption | rfl | omega)) ⟨rfl, rfl, rfl, rfl, trivial⟩
set_option maxRecDepth 20000 in
set_option maxHeartbeats 2000000 in
theorem c_X4_within {g : vG} {e0 e1 e2 e3 : Nat} {ec : Nat} {el : Nat → Nat} {ea : Nat → Nat} {eo : Nat → Nat} {f : Nat} {s : Nat} (he : ec ≤ 8) (hf : f < ec) (hs : s < 2 ^ 31) (hea : ∀ z, ea z < 2 ^ 8) : Ct g yX4_within cX4_within 5 (some .int) (rmOf 3 65) [(e0, .inr (4, [.int (nI ec), .ref e1, .ref e2, .ref e3])), (e1, .inl (gI g, 8, .inl (fun z9 => nI (el z9)))), (e2, .inl (gI g, 8, .inl (fun z9 => nI (ea z9)))), (e3, .inl (gI g, 256, .inl (fun z9 => nI (eo z9))))] [.ref e0, .int (nI f), .int (nI s)] (some (.int (nI (wth ea ec (2 ^ f) (min s ec))))) [(e0, .inr (4, [.int (nI ec), .ref e1, .ref e2, .ref e3])), (e1, .inl (gI g, 8, .inl (fun z9 => nI (el z9)))), (e2, .inl (gI g, 8, .inl (fun z9 => nI (ea z9)))), (e3, .inl (gI g, 256, .inl (fun z9 => nI (eo z9))))] := by
  refine Ct.ofV RX4 rfl (by decide +kernel) rfl rfl rfl (Nat.le_of_ble_eq_true rfl) (List.forall_mem_cons.mpr ⟨rfl, (List.forall_mem_cons.mpr ⟨rfl, (List.forall_mem_cons.mpr ⟨rfl, (fun _ h9 => absurd h9 List.not_mem_nil)⟩)⟩)⟩) (fun x h hr => ?_)
  show vM x 0 [some (.ref e0), some (.int (nI f)), some (.int (nI s)), none, none] [] [(e0, .inr (4, [.int (nI ec), .ref e1, .ref e2, .ref e3])), (e1, .inl (gI g, 8, .inl (fun z9 => nI (el z9)))), (e2, .inl (gI g, 8, .inl (fun z9 => nI (ea z9)))), (e3, .inl (gI g, 256, .inl (fun z9 => nI (eo z9))))]
  refine v_iconst h (v := nI 1) dX4_within_0 (by decide) ?_
  refine v_iload_n1 h dX4_within_1 ?_
  refine v_ishlN h dX4_within_2 (by omega) ?_
  refine v_istore_n3 h (Nat.le_of_ble_eq_true rfl) dX4_within_3 ?_
  refine v_iconst h (v := nI 0) dX4_within_4 (by decide) ?_
  refine v_istore4 h (Nat.le_of_ble_eq_true rfl) dX4_within_5 ?_
  have L7 : ∀ (k7 : Nat) (i : Nat), ec - i = k7 → (i ≤ min s ec) → vM x 7 [some (.ref e0), some (.int (nI f)), some (.int (nI s)), some (.int (nI (wth ea ec (2 ^ f) i))), some (.int (nI i))] [] [(e0, .inr (4, [.int (nI ec), .ref e1, .ref e2, .ref e3])), (e1, .inl (gI g, 8, .inl (fun z9 => nI (el z9)))), (e2, .inl (gI g, 8, .inl (fun z9 => nI (ea z9)))), (e3, .inl (gI g, 256, .inl (fun z9 => nI (eo z9))))] := by
    intro k7
    induction k7 using Nat.strongRecOn with
    | _ k7 ih7 =>
      intro i hm7 hi
      refine v_iload4 h dX4_within_7 ?_
      refine v_iload_n2 h dX4_within_9 ?_
      refine v_icmp_geN h dX4_within_10 (tgt := 36) (by decide) (by omega) (by omega) (fun c10 => ?_) (fun c10 => ?_)
      · refine v_iload_n3 h dX4_within_36 ?_
        exact v_iret h hr dX4_within_37 (by rw [show min s ec = i by omega]) rfl
      · refine v_iload4 h dX4_within_13 ?_
        refine v_aload_n0 h dX4_within_15 ?_
        refine v_get h mw_X4 0 rfl rfl 0 (by decide) mf_X4_9 rfl dX4_within_16 ?_
        refine v_icmp_geN h dX4_within_19 (tgt := 36) (by decide) (by omega) (by omega) (fun c19 => ?_) (fun c19 => ?_)
        · refine v_iload_n3 h dX4_within_36 ?_
          exact v_iret h hr dX4_within_37 (by rw [show min s ec = i by omega]) rfl
        · refine v_iload_n3 h dX4_within_22 ?_
          refine v_aload_n0 h dX4_within_23 ?_
          refine v_iload_n3 h dX4_within_24 ?_
          refine cw_V_0_1_2_3_1_i (ci := 4) h (c_X4_alikeToAny (g := g) (by first | assumption | omega) (by exact b8 (wth_lt (fun z _ => hea z) (pow8 hf he) i))) lk_X4_64 ⟨rfl, rfl, (Nat.le_of_ble_eq_true rfl), (Nat.le_of_ble_eq_true rfl)⟩ rfl rfl rfl (Nat.le_of_ble_eq_true rfl) dX4_within_25 ?_
          refine v_iorN h dX4_within_28 ?_
          refine v_istore_n3 h (Nat.le_of_ble_eq_true rfl) dX4_within_29 ?_
          refine v_iincN4 h (Nat.le_of_ble_eq_true rfl) dX4_within_30 ?_
          refine v_goto h dX4_within_33 (tgt := 7) (by decide) ?_
          exact vM.fg (ih7 _ (by omega) (i + 1) rfl (by first | assumption | rfl | omega)) ⟨rfl, rfl, rfl, rfl, rfl, trivial⟩
  exact vM.fg (L7 _ 0 rfl (by first | assumption | rfl | omega)) ⟨rfl, rfl, rfl, rfl, rfl, trivial⟩
set_option maxRecDepth 20000 in
set_option maxHeartbeats 2000000 in
theorem c_X4_fewestSwaps {g : vG} {e0 e1 e2 e3 : Nat} {ec : Nat} {el : Nat → Nat} {ea : Nat → Nat} {eo : Nat → Nat} {f : Nat} {t : Nat} (he : ec ≤ 8) (hf : f < ec) (ht : t < ec) (hea : ∀ z, ea z < 2 ^ 8) : Ct g yX4_fewestSwaps cX4_fewestSwaps 4 (some .int) (rmOf 4 89) [(e0, .inr (4, [.int (nI ec), .ref e1, .ref e2, .ref e3])), (e1, .inl (gI g, 8, .inl (fun z9 => nI (el z9)))), (e2, .inl (gI g, 8, .inl (fun z9 => nI (ea z9)))), (e3, .inl (gI g, 256, .inl (fun z9 => nI (eo z9))))] [.ref e0, .int (nI f), .int (nI t)] (some (.int (oN (fstTo (fun s => (wth ea ec (2 ^ t) s).testBit f) ec)))) [(e0, .inr (4, [.int (nI ec), .ref e1, .ref e2, .ref e3])), (e1, .inl (gI g, 8, .inl (fun z9 => nI (el z9)))), (e2, .inl (gI g, 8, .inl (fun z9 => nI (ea z9)))), (e3, .inl (gI g, 256, .inl (fun z9 => nI (eo z9))))] := by
  refine Ct.ofV RX4 rfl (by decide +kernel) rfl rfl rfl (Nat.le_of_ble_eq_true rfl) (List.forall_mem_cons.mpr ⟨rfl, (List.forall_mem_cons.mpr ⟨rfl, (List.forall_mem_cons.mpr ⟨rfl, (fun _ h9 => absurd h9 List.not_mem_nil)⟩)⟩)⟩) (fun x h hr => ?_)
  show vM x 0 [some (.ref e0), some (.int (nI f)), some (.int (nI t)), none] [] [(e0, .inr (4, [.int (nI ec), .ref e1, .ref e2, .ref e3])), (e1, .inl (gI g, 8, .inl (fun z9 => nI (el z9)))), (e2, .inl (gI g, 8, .inl (fun z9 => nI (ea z9)))), (e3, .inl (gI g, 256, .inl (fun z9 => nI (eo z9))))]
  refine v_iconst h (v := nI 0) dX4_fewestSwaps_0 (by decide) ?_
  refine v_istore_n3 h (Nat.le_of_ble_eq_true rfl) dX4_fewestSwaps_1 ?_
  have L2 : ∀ (k2 : Nat) (i : Nat), ec - i = k2 → (i ≤ ec) → (fstTo (fun s => (wth ea ec (2 ^ t) s).testBit f) i = none) → vM x 2 [some (.ref e0), some (.int (nI f)), some (.int (nI t)), some (.int (nI i))] [] [(e0, .inr (4, [.int (nI ec), .ref e1, .ref e2, .ref e3])), (e1, .inl (gI g, 8, .inl (fun z9 => nI (el z9)))), (e2, .inl (gI g, 8, .inl (fun z9 => nI (ea z9)))), (e3, .inl (gI g, 256, .inl (fun z9 => nI (eo z9))))] := by
    intro k2
    induction k2 using Nat.strongRecOn with
    | _ k2 ih2 =>
      intro i hm2 hi h1
      refine v_iload_n3 h dX4_fewestSwaps_2 ?_
      refine v_aload_n0 h dX4_fewestSwaps_3 ?_
      refine v_get h mw_X4 0 rfl rfl 0 (by decide) mf_X4_9 rfl dX4_fewestSwaps_4 ?_
      refine v_icmp_geN h dX4_fewestSwaps_7 (tgt := 31) (by decide) (by omega) (by omega) (fun c7 => ?_) (fun c7 => ?_)
      · refine v_bipush h (v := -9) dX4_fewestSwaps_31 (by decide) ?_
        exact v_iret h hr dX4_fewestSwaps_33 (by rw [show ec = i by omega, show fstTo (fun s => (wth ea i (2 ^ t) s).testBit f) i = none by rw [← show ec = i by omega]; rw [show ec = i by omega]; exact (show ec = i by omega) ▸ h1]; rfl) rfl
      · refine v_aload_n0 h dX4_fewestSwaps_10 ?_
        refine v_iload_n2 h dX4_fewestSwaps_11 ?_
        refine v_iload_n3 h dX4_fewestSwaps_12 ?_
        refine cw_V_0_1_2_3_2_i (ci := 4) h (c_X4_within (g := g) (by first | assumption | omega) (by first | assumption | omega) (by first | assumption | omega) (by first | assumption | omega)) lk_X4_71 ⟨rfl, rfl, (Nat.le_of_ble_eq_true rfl), (Nat.le_of_ble_eq_true rfl)⟩ rfl rfl rfl (Nat.le_of_ble_eq_true rfl) dX4_fewestSwaps_13 ?_
        refine vM.top (v := .int (nI (wth ea ec (2 ^ t) i))) (by rw [Nat.min_eq_left (by omega)]) ?_
        refine v_iload_n1 h dX4_fewestSwaps_16 ?_
        refine cw_N_e_2_i h (c_X7_isIn (g := g) (by exact b8 (wth_lt (fun z _ => hea z) (pow8 ht he) i)) (by first | assumption | omega)) lk_X4_67 ⟨rfl, rfl, (Nat.le_of_ble_eq_true rfl), (Nat.le_of_ble_eq_true rfl)⟩ (Nat.le_of_ble_eq_true rfl) dX4_fewestSwaps_17 ?_
        refine v_if_eqB h dX4_fewestSwaps_20 (tgt := 25) (by decide) (fun c20 => ?_) (fun c20 => ?_)
        · refine v_iincN3 h (Nat.le_of_ble_eq_true rfl) dX4_fewestSwaps_25 ?_
          refine v_goto h dX4_fewestSwaps_28 (tgt := 2) (by decide) ?_
          exact vM.fg (ih2 _ (by omega) (i + 1) rfl (by first | assumption | rfl | omega) (by exact fst_step h1 c20)) ⟨rfl, rfl, rfl, rfl, trivial⟩
        · refine v_iload_n3 h dX4_fewestSwaps_23 ?_
          exact v_iret h hr dX4_fewestSwaps_24 (by rw [fst_hit h1 c20 (by omega)]; rfl) rfl
  exact vM.fg (L2 _ 0 rfl (by first | assumption | rfl | omega) (by first | assumption | rfl | omega)) ⟨rfl, rfl, rfl, rfl, trivial⟩
set_option maxRecDepth 20000 in
set_option maxHeartbeats 2000000 in
theorem c_X4_leastIn {g : vG} {e0 e1 e2 e3 : Nat} {ec : Nat} {el : Nat → Nat} {ea : Nat → Nat} {eo : Nat → Nat} {a : Nat} (he : ec ≤ 8) (ha : a < 2 ^ 31) : Ct g yX4_leastIn cX4_leastIn 3 (some .int) (rmOf 1 21) [(e0, .inr (4, [.int (nI ec), .ref e1, .ref e2, .ref e3])), (e1, .inl (gI g, 8, .inl (fun z9 => nI (el z9)))), (e2, .inl (gI g, 8, .inl (fun z9 => nI (ea z9)))), (e3, .inl (gI g, 256, .inl (fun z9 => nI (eo z9))))] [.ref e0, .int (nI a)] (some (.int (oN (lstN a ec)))) [(e0, .inr (4, [.int (nI ec), .ref e1, .ref e2, .ref e3])), (e1, .inl (gI g, 8, .inl (fun z9 => nI (el z9)))), (e2, .inl (gI g, 8, .inl (fun z9 => nI (ea z9)))), (e3, .inl (gI g, 256, .inl (fun z9 => nI (eo z9))))] := by
  refine Ct.ofV RX4 rfl (by decide +kernel) rfl rfl rfl (Nat.le_of_ble_eq_true rfl) (List.forall_mem_cons.mpr ⟨rfl, (List.forall_mem_cons.mpr ⟨rfl, (fun _ h9 => absurd h9 List.not_mem_nil)⟩)⟩) (fun x h hr => ?_)
  show vM x 0 [some (.ref e0), some (.int (nI a)), none] [] [(e0, .inr (4, [.int (nI ec), .ref e1, .ref e2, .ref e3])), (e1, .inl (gI g, 8, .inl (fun z9 => nI (el z9)))), (e2, .inl (gI g, 8, .inl (fun z9 => nI (ea z9)))), (e3, .inl (gI g, 256, .inl (fun z9 => nI (eo z9))))]
  refine v_iconst h (v := nI 0) dX4_leastIn_0 (by decide) ?_
  refine v_istore_n2 h (Nat.le_of_ble_eq_true rfl) dX4_leastIn_1 ?_
  have L2 : ∀ (k2 : Nat) (i : Nat), ec - i = k2 → (i ≤ ec) → (fstTo (fun z => a.testBit z) i = none) → vM x 2 [some (.ref e0), some (.int (nI a)), some (.int (nI i))] [] [(e0, .inr (4, [.int (nI ec), .ref e1, .ref e2, .ref e3])), (e1, .inl (gI g, 8, .inl (fun z9 => nI (el z9)))), (e2, .inl (gI g, 8, .inl (fun z9 => nI (ea z9)))), (e3, .inl (gI g, 256, .inl (fun z9 => nI (eo z9))))] := by
    intro k2
    induction k2 using Nat.strongRecOn with
    | _ k2 ih2 =>
      intro i hm2 hi h1
      refine v_iload_n2 h dX4_leastIn_2 ?_
      refine v_aload_n0 h dX4_leastIn_3 ?_
      refine v_get h mw_X4 0 rfl rfl 0 (by decide) mf_X4_9 rfl dX4_leastIn_4 ?_
      refine v_icmp_geN h dX4_leastIn_7 (tgt := 26) (by decide) (by omega) (by omega) (fun c7 => ?_) (fun c7 => ?_)
      · refine v_bipush h (v := -9) dX4_leastIn_26 (by decide) ?_
        exact v_iret h hr dX4_leastIn_28 (by rw [lstN, show ec = i by omega, h1]; rfl) rfl
      · refine v_iload_n1 h dX4_leastIn_10 ?_
        refine v_iload_n2 h dX4_leastIn_11 ?_
        refine cw_N_e_2_i h (c_X7_isIn (g := g) (by first | assumption | omega) (by first | assumption | omega)) lk_X4_67 ⟨rfl, rfl, (Nat.le_of_ble_eq_true rfl), (Nat.le_of_ble_eq_true rfl)⟩ (Nat.le_of_ble_eq_true rfl) dX4_leastIn_12 ?_
        refine v_if_eqB h dX4_leastIn_15 (tgt := 20) (by decide) (fun c15 => ?_) (fun c15 => ?_)
        · refine v_iincN2 h (Nat.le_of_ble_eq_true rfl) dX4_leastIn_20 ?_
          refine v_goto h dX4_leastIn_23 (tgt := 2) (by decide) ?_
          exact vM.fg (ih2 _ (by omega) (i + 1) rfl (by first | assumption | rfl | omega) (by exact fst_step h1 c15)) ⟨rfl, rfl, rfl, trivial⟩
        · refine v_iload_n2 h dX4_leastIn_18 ?_
          exact v_iret h hr dX4_leastIn_19 (by rw [lstN, fst_hit h1 c15 (by omega)]; rfl) rfl
  exact vM.fg (L2 _ 0 rfl (by first | assumption | rfl | omega) (by first | assumption | rfl | omega)) ⟨rfl, rfl, rfl, trivial⟩
set_option maxRecDepth 20000 in
set_option maxHeartbeats 2000000 in
theorem c_X4_behindSwaps {g : vG} {e0 e1 e2 e3 : Nat} {ec : Nat} {el : Nat → Nat} {ea : Nat → Nat} {eo : Nat → Nat} {f : Nat} {t : Nat} {q : Nat} (he : ec ≤ 8) (hf : f < ec) (ht : t < ec) (hq : q < 2 ^ 31) (hea : ∀ z, ea z < 2 ^ 8) (hr1 : ∀ z, z < ec → (ea z).testBit z = true) (hsy : ∀ z y, z < ec → y < ec → (ea z).testBit y = (ea y).testBit z) : Ct g yX4_behindSwaps cX4_behindSwaps 7 (some .int) (rmOf 5 112) [(e0, .inr (4, [.int (nI ec), .ref e1, .ref e2, .ref e3])), (e1, .inl (gI g, 8, .inl (fun z9 => nI (el z9)))), (e2, .inl (gI g, 8, .inl (fun z9 => nI (ea z9)))), (e3, .inl (gI g, 256, .inl (fun z9 => nI (eo z9))))] [.ref e0, .int (nI f), .int (nI t), .int (nI q)] (some (.int (wayS ea ec f t q))) [(e0, .inr (4, [.int (nI ec), .ref e1, .ref e2, .ref e3])), (e1, .inl (gI g, 8, .inl (fun z9 => nI (el z9)))), (e2, .inl (gI g, 8, .inl (fun z9 => nI (ea z9)))), (e3, .inl (gI g, 256, .inl (fun z9 => nI (eo z9))))] := by
  refine Ct.ofV RX4 rfl (by decide +kernel) rfl rfl rfl (Nat.le_of_ble_eq_true rfl) (List.forall_mem_cons.mpr ⟨rfl, (List.forall_mem_cons.mpr ⟨rfl, (List.forall_mem_cons.mpr ⟨rfl, (List.forall_mem_cons.mpr ⟨rfl, (fun _ h9 => absurd h9 List.not_mem_nil)⟩)⟩)⟩)⟩) (fun x h hr => ?_)
  show vM x 0 [some (.ref e0), some (.int (nI f)), some (.int (nI t)), some (.int (nI q)), none, none, none] [] [(e0, .inr (4, [.int (nI ec), .ref e1, .ref e2, .ref e3])), (e1, .inl (gI g, 8, .inl (fun z9 => nI (el z9)))), (e2, .inl (gI g, 8, .inl (fun z9 => nI (ea z9)))), (e3, .inl (gI g, 256, .inl (fun z9 => nI (eo z9))))]
  refine v_aload_n0 h dX4_behindSwaps_0 ?_
  refine v_iload_n1 h dX4_behindSwaps_1 ?_
  refine v_iload_n2 h dX4_behindSwaps_2 ?_
  refine cw_V_0_1_2_3_2_i (ci := 4) h (c_X4_fewestSwaps (g := g) (by first | assumption | omega) (by first | assumption | omega) (by first | assumption | omega) (by first | assumption | omega)) lk_X4_74 ⟨rfl, rfl, (Nat.le_of_ble_eq_true rfl), (Nat.le_of_ble_eq_true rfl)⟩ rfl rfl rfl (Nat.le_of_ble_eq_true rfl) dX4_behindSwaps_3 ?_
  rcases hf9 : fstTo (fun s => (wth ea ec (2 ^ t) s).testBit f) ec with _ | m
  · show vM x 6 _ (.int (-9) :: _) _
    refine v_istore4 h (Nat.le_of_ble_eq_true rfl) dX4_behindSwaps_6 ?_
    refine v_iload4 h dX4_behindSwaps_8 ?_
    refine v_bipush h (v := -9) dX4_behindSwaps_10 (by decide) ?_
    refine v_icmp_eq h dX4_behindSwaps_12 (tgt := 21) (by decide) (fun c12 => ?_) (fun c12 => ?_)
    · refine v_bipush h (v := -9) dX4_behindSwaps_21 (by decide) ?_
      exact v_iret h hr dX4_behindSwaps_23 (by first | (rw [wayS, hf9]; done) | (rw [wayS, hf9]; simp only; rw [if_pos (by omega)]) | (rw [wayS, hf9]; simp only; rw [if_neg (by omega), show q = i by omega])) rfl
    · exact absurd rfl c12
  · show vM x 6 _ (.int (nI m) :: _) _
    have hm9 := (fst_some.mp hf9).1; have hm8 := (fst_some.mp hf9).2.1
    refine v_istore4 h (Nat.le_of_ble_eq_true rfl) dX4_behindSwaps_6 ?_
    refine v_iload4 h dX4_behindSwaps_8 ?_
    refine v_bipush h (v := -9) dX4_behindSwaps_10 (by decide) ?_
    refine v_icmp_eq h dX4_behindSwaps_12 (tgt := 21) (by decide) (fun c12 => ?_) (fun c12 => ?_)
    · exact absurd c12 (oN_ne (by omega))
    · refine v_iload_n3 h dX4_behindSwaps_15 ?_
      refine v_iload4 h dX4_behindSwaps_16 ?_
      refine v_icmp_leN h dX4_behindSwaps_18 (tgt := 24) (by decide) (by omega) (by omega) (fun c18 => ?_) (fun c18 => ?_)
      · refine v_iload_n1 h dX4_behindSwaps_24 ?_
        refine v_istore5 h (Nat.le_of_ble_eq_true rfl) dX4_behindSwaps_25 ?_
        refine v_iconst h (v := nI 1) dX4_behindSwaps_27 (by decide) ?_
        refine v_istore6 h (Nat.le_of_ble_eq_true rfl) dX4_behindSwaps_28 ?_
        have L30 : ∀ (k30 : Nat) (i : Nat), q - i = k30 → (i ≤ q) → (bhd ea ec t m f i < ec) → ((wth ea ec (2 ^ t) (m - i)).testBit (bhd ea ec t m f i) = true) → vM x 30 [some (.ref e0), some (.int (nI f)), some (.int (nI t)), some (.int (nI q)), some (.int (nI m)), some (.int (nI (bhd ea ec t m f i))), some (.int (nI (i + 1)))] [] [(e0, .inr (4, [.int (nI ec), .ref e1, .ref e2, .ref e3])), (e1, .inl (gI g, 8, .inl (fun z9 => nI (el z9)))), (e2, .inl (gI g, 8, .inl (fun z9 => nI (ea z9)))), (e3, .inl (gI g, 256, .inl (fun z9 => nI (eo z9))))] := by
          intro k30
          induction k30 using Nat.strongRecOn with
          | _ k30 ih30 =>
            intro i hm30 hi hb hw
            refine v_iload6 h dX4_behindSwaps_30 ?_
            refine v_iload_n3 h dX4_behindSwaps_32 ?_
            refine v_icmp_gtN h dX4_behindSwaps_33 (tgt := 65) (by decide) (by omega) (by omega) (fun c33 => ?_) (fun c33 => ?_)
            · refine v_iload5 h dX4_behindSwaps_65 ?_
              exact v_iret h hr dX4_behindSwaps_67 (by first | (rw [wayS, hf9]; done) | (rw [wayS, hf9]; simp only; rw [if_pos (by omega)]) | (rw [wayS, hf9]; simp only; rw [if_neg (by omega), show q = i by omega])) rfl
            · refine v_aload_n0 h dX4_behindSwaps_36 ?_
              refine v_aload_n0 h dX4_behindSwaps_37 ?_
              refine v_iload5 h dX4_behindSwaps_38 ?_
              refine cw_V_0_1_2_3_1_i (ci := 4) h (c_X4_alikeTo (g := g) (by first | assumption | omega) (by first | assumption | omega)) lk_X4_53 ⟨rfl, rfl, (Nat.le_of_ble_eq_true rfl), (Nat.le_of_ble_eq_true rfl)⟩ rfl rfl rfl (Nat.le_of_ble_eq_true rfl) dX4_behindSwaps_40 ?_
              refine v_aload_n0 h dX4_behindSwaps_43 ?_
              refine v_iload_n2 h dX4_behindSwaps_44 ?_
              refine v_iload4 h dX4_behindSwaps_45 ?_
              refine v_iload6 h dX4_behindSwaps_47 ?_
              refine v_isubN h dX4_behindSwaps_49 (by omega) ?_
              refine cw_V_0_1_2_3_2_i (ci := 4) h (c_X4_within (g := g) (by first | assumption | omega) (by first | assumption | omega) (by omega) (by first | assumption | omega)) lk_X4_71 ⟨rfl, rfl, (Nat.le_of_ble_eq_true rfl), (Nat.le_of_ble_eq_true rfl)⟩ rfl rfl rfl (Nat.le_of_ble_eq_true rfl) dX4_behindSwaps_50 ?_
              refine v_iandN h dX4_behindSwaps_53 ?_
              refine cw_V_0_1_2_3_1_i (ci := 4) h (c_X4_leastIn (g := g) (by first | assumption | omega) (by exact b8 (and_lt8 (hea _)))) lk_X4_77 ⟨rfl, rfl, (Nat.le_of_ble_eq_true rfl), (Nat.le_of_ble_eq_true rfl)⟩ rfl rfl rfl (Nat.le_of_ble_eq_true rfl) dX4_behindSwaps_54 ?_
              rw [show min (m - (i + 1)) ec = m - (i + 1) by omega]
              obtain ⟨z9, hz1, hz2, hz3, hz4⟩ := bhd_step hr1 hsy hm9 (show i < m by omega) hb hw
              refine vM.top (v := .int (nI (bhd ea ec t m f (i + 1)))) (by rw [hz1, hz2]; rfl) ?_
              refine v_istore5 h (Nat.le_of_ble_eq_true rfl) dX4_behindSwaps_57 ?_
              refine v_iincN6 h (Nat.le_of_ble_eq_true rfl) dX4_behindSwaps_59 ?_
              refine v_goto h dX4_behindSwaps_62 (tgt := 30) (by decide) ?_
              exact vM.fg (ih30 _ (by omega) (i + 1) rfl (by first | assumption | rfl | omega) (by rw [hz2]; exact hz3) (by rw [hz2]; exact hz4)) ⟨rfl, rfl, rfl, rfl, rfl, rfl, rfl, trivial⟩
        exact vM.fg (L30 _ 0 rfl (by first | assumption | rfl | omega) (by exact hf) (by exact hm8)) ⟨rfl, rfl, rfl, rfl, rfl, rfl, rfl, trivial⟩
      · refine v_bipush h (v := -9) dX4_behindSwaps_21 (by decide) ?_
        exact v_iret h hr dX4_behindSwaps_23 (by first | (rw [wayS, hf9]; done) | (rw [wayS, hf9]; simp only; rw [if_pos (by omega)]) | (rw [wayS, hf9]; simp only; rw [if_neg (by omega), show q = i by omega])) rfl
set_option maxRecDepth 20000 in
set_option maxHeartbeats 2000000 in
theorem c_X4_countTold {g : vG} {e0 e1 e2 e3 : Nat} {ec : Nat} {el : Nat → Nat} {ea : Nat → Nat} {eo : Nat → Nat} (he : ec ≤ 8) (hel : ∀ z, el z < 2 ^ 8) : Ct g yX4_countTold cX4_countTold 3 (some .int) (rmOf 2 42) [(e0, .inr (4, [.int (nI ec), .ref e1, .ref e2, .ref e3])), (e1, .inl (gI g, 8, .inl (fun z9 => nI (el z9)))), (e2, .inl (gI g, 8, .inl (fun z9 => nI (ea z9)))), (e3, .inl (gI g, 256, .inl (fun z9 => nI (eo z9))))] [.ref e0] (some (.int (nI (toldN el ec)))) [(e0, .inr (4, [.int (nI ec), .ref e1, .ref e2, .ref e3])), (e1, .inl (gI g, 8, .inl (fun z9 => nI (el z9)))), (e2, .inl (gI g, 8, .inl (fun z9 => nI (ea z9)))), (e3, .inl (gI g, 256, .inl (fun z9 => nI (eo z9))))] := by
  refine Ct.ofV RX4 rfl (by decide +kernel) rfl rfl rfl (Nat.le_of_ble_eq_true rfl) (List.forall_mem_cons.mpr ⟨rfl, (fun _ h9 => absurd h9 List.not_mem_nil)⟩) (fun x h hr => ?_)
  show vM x 0 [some (.ref e0), none, none] [] [(e0, .inr (4, [.int (nI ec), .ref e1, .ref e2, .ref e3])), (e1, .inl (gI g, 8, .inl (fun z9 => nI (el z9)))), (e2, .inl (gI g, 8, .inl (fun z9 => nI (ea z9)))), (e3, .inl (gI g, 256, .inl (fun z9 => nI (eo z9))))]
  refine v_iconst h (v := nI 0) dX4_countTold_0 (by decide) ?_
  refine v_istore_n1 h (Nat.le_of_ble_eq_true rfl) dX4_countTold_1 ?_
  refine v_iconst h (v := nI 0) dX4_countTold_2 (by decide) ?_
  refine v_istore_n2 h (Nat.le_of_ble_eq_true rfl) dX4_countTold_3 ?_
  have L4 : ∀ (k4 : Nat) (i : Nat), ec - i = k4 → (i ≤ ec) → vM x 4 [some (.ref e0), some (.int (nI (sumTo (fun z => popN (el z)) i))), some (.int (nI i))] [] [(e0, .inr (4, [.int (nI ec), .ref e1, .ref e2, .ref e3])), (e1, .inl (gI g, 8, .inl (fun z9 => nI (el z9)))), (e2, .inl (gI g, 8, .inl (fun z9 => nI (ea z9)))), (e3, .inl (gI g, 256, .inl (fun z9 => nI (eo z9))))] := by
    intro k4
    induction k4 using Nat.strongRecOn with
    | _ k4 ih4 =>
      intro i hm4 hi
      refine v_iload_n2 h dX4_countTold_4 ?_
      refine v_aload_n0 h dX4_countTold_5 ?_
      refine v_get h mw_X4 0 rfl rfl 0 (by decide) mf_X4_9 rfl dX4_countTold_6 ?_
      refine v_icmp_geN h dX4_countTold_9 (tgt := 29) (by decide) (by omega) (by omega) (fun c9 => ?_) (fun c9 => ?_)
      · refine v_iload_n1 h dX4_countTold_29 ?_
        exact v_iret h hr dX4_countTold_30 (by rw [show i = ec by omega]; rfl) rfl
      · refine v_iload_n1 h dX4_countTold_12 ?_
        refine v_aload_n0 h dX4_countTold_13 ?_
        refine v_iload_n2 h dX4_countTold_14 ?_
        refine cw_V_0_1_2_3_1_i (ci := 4) h (c_X4_lighterThan (g := g) (by first | assumption | omega) (by first | assumption | omega)) lk_X4_61 ⟨rfl, rfl, (Nat.le_of_ble_eq_true rfl), (Nat.le_of_ble_eq_true rfl)⟩ rfl rfl rfl (Nat.le_of_ble_eq_true rfl) dX4_countTold_15 ?_
        refine cw_S_e_1_i h (c_J6_bitCount_0f7a4 (g := g) (by exact hel i)) lk_X4_56 ⟨rfl, rfl, (Nat.le_of_ble_eq_true rfl), (Nat.le_of_ble_eq_true rfl)⟩ (Nat.le_of_ble_eq_true rfl) dX4_countTold_18 ?_
        refine v_iaddN h dX4_countTold_21 ?_
        refine v_istore_n1 h (Nat.le_of_ble_eq_true rfl) dX4_countTold_22 ?_
        refine v_iincN2 h (Nat.le_of_ble_eq_true rfl) dX4_countTold_23 ?_
        refine v_goto h dX4_countTold_26 (tgt := 4) (by decide) ?_
        exact vM.fg (ih4 _ (by omega) (i + 1) rfl (by first | assumption | rfl | omega)) ⟨rfl, rfl, rfl, trivial⟩
  exact vM.fg (L4 _ 0 rfl (by first | assumption | rfl | omega)) ⟨rfl, rfl, rfl, trivial⟩
