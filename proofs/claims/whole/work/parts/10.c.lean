theorem cw_V_0_1_2_3_4_5_6_7_8_1_i {x : vX} {g : vG} {cc : ByteArray} {own : String} {rm : Room} {nL pc : Nat} {lv : List (Option Value)} {st : List Value} {wt : va_W} {c0 c1 c2 c3 c4 c5 c6 c7 c8 d0 d1 d2 d3 d4 d5 d6 d7 d8 : Nat × va_E} {idx : Nat} {y : MethodName} {bytes : ByteArray} {ml : Nat} {ret : Option FieldType} {rmc : Room} {r : Int32} {p0 : Value} {a ci : Nat} {q : vw_C} {fs : List Value} (h : Ok x g cc own rm nL) (hc : Ct g y bytes ml ret rmc [c0, c1, c2, c3, c4, c5, c6, c7, c8] [.ref a, p0] (some (.int r)) [d0, d1, d2, d3, d4, d5, d6, d7, d8]) (lk : LkV own idx y bytes ml ret 1) (hrm : RmOk rmc rm ml) (hcl : vwCl[ci]? = some q) (hq : y.cls = q.1) (h0 : c0 = (a, .inr (ci, fs))) (hW : (st.map fun v => v.category).sum ≤ 8) (hd : decode cc pc = .ok (.invokevirtual idx, 3)) (k : vM x (pc + 3) lv (.int r :: st) (d0 :: d1 :: d2 :: d3 :: d4 :: d5 :: d6 :: d7 :: d8 :: wt)) : vM x pc lv (p0 :: .ref a :: st) (c0 :: c1 :: c2 :: c3 :: c4 :: c5 :: c6 :: c7 :: c8 :: wt) := v_callV (As := [p0]) (rest := st) h hc lk hrm hcl hq (by rw [h0]; rfl) rfl [0, 1, 2, 3, 4, 5, 6, 7, 8] rfl (by decide) hW hd rfl k
theorem lk_X3_27 : LkV RX3 27 yX3_has cX3_has 2 (some .boolean) 1 := ⟨ml_X3_27, mn_X3_has, mv_X3_has, mi_X3, mc_X3_has, ⟨by decide, by decide, by decide +kernel⟩⟩
theorem lk_X3_31 : LkV RX3 31 yX3_hasRow cX3_hasRow 2 (some .boolean) 1 := ⟨ml_X3_31, mn_X3_hasRow, mv_X3_hasRow, mi_X3, mc_X3_hasRow, ⟨by decide, by decide, by decide +kernel⟩⟩
theorem lk_X3_34 : LkV RX3 34 yX3_sortOf cX3_sortOf 2 (some .int) 1 := ⟨ml_X3_34, mn_X3_sortOf, mv_X3_sortOf, mi_X3, mc_X3_sortOf, ⟨by decide, by decide, by decide +kernel⟩⟩
theorem cw_V_0_1_2_3_4_5_6_7_8_3_i {x : vX} {g : vG} {cc : ByteArray} {own : String} {rm : Room} {nL pc : Nat} {lv : List (Option Value)} {st : List Value} {wt : va_W} {c0 c1 c2 c3 c4 c5 c6 c7 c8 d0 d1 d2 d3 d4 d5 d6 d7 d8 : Nat × va_E} {idx : Nat} {y : MethodName} {bytes : ByteArray} {ml : Nat} {ret : Option FieldType} {rmc : Room} {r : Int32} {p0 p1 p2 : Value} {a ci : Nat} {q : vw_C} {fs : List Value} (h : Ok x g cc own rm nL) (hc : Ct g y bytes ml ret rmc [c0, c1, c2, c3, c4, c5, c6, c7, c8] [.ref a, p0, p1, p2] (some (.int r)) [d0, d1, d2, d3, d4, d5, d6, d7, d8]) (lk : LkV own idx y bytes ml ret 3) (hrm : RmOk rmc rm ml) (hcl : vwCl[ci]? = some q) (hq : y.cls = q.1) (h0 : c0 = (a, .inr (ci, fs))) (hW : (st.map fun v => v.category).sum ≤ 8) (hd : decode cc pc = .ok (.invokevirtual idx, 3)) (k : vM x (pc + 3) lv (.int r :: st) (d0 :: d1 :: d2 :: d3 :: d4 :: d5 :: d6 :: d7 :: d8 :: wt)) : vM x pc lv (p2 :: p1 :: p0 :: .ref a :: st) (c0 :: c1 :: c2 :: c3 :: c4 :: c5 :: c6 :: c7 :: c8 :: wt) := v_callV (As := [p0, p1, p2]) (rest := st) h hc lk hrm hcl hq (by rw [h0]; rfl) rfl [0, 1, 2, 3, 4, 5, 6, 7, 8] rfl (by decide) hW hd rfl k
theorem lk_X3_38 : LkV RX3 38 yX3_hasCells cX3_hasCells 4 (some .boolean) 3 := ⟨ml_X3_38, mn_X3_hasCells, mv_X3_hasCells, mi_X3, mc_X3_hasCells, ⟨by decide, by decide, by decide +kernel⟩⟩
theorem cw_S_e_2_i {x : vX} {g : vG} {cc : ByteArray} {own : String} {rm : Room} {nL pc : Nat} {lv : List (Option Value)} {st : List Value} {wt : va_W} {idx : Nat} {y : MethodName} {bytes : ByteArray} {ml : Nat} {ret : Option FieldType} {rmc : Room} {r : Int32} {p0 p1 : Value} (h : Ok x g cc own rm nL) (hc : Ct g y bytes ml ret rmc [] [p0, p1] (some (.int r)) []) (lk : LkS own idx y bytes ml ret 2) (hrm : RmOk rmc rm ml) (hW : (st.map fun v => v.category).sum ≤ 8) (hd : decode cc pc = .ok (.invokestatic idx, 3)) (k : vM x (pc + 3) lv (.int r :: st) (wt)) : vM x pc lv (p1 :: p0 :: st) (wt) := v_callS (As := [p0, p1]) (rest := st) h hc lk hrm rfl [] rfl (by decide) hW hd rfl k
theorem lk_X3_42 : LkS RX3 42 yX3_cut cX3_cut 2 (some .int) 2 := ⟨ml_X3_42, ms_X3_cut, mi_X3, mc_X3_cut, ⟨by decide, by decide, by decide +kernel⟩⟩
theorem v_zastN_at1 {x : vX} {g : vG} {cc : ByteArray} {own : String} {rm : Room} {nL pc : Nat} {lv : List (Option Value)} {st : List Value} {w0 : Nat × va_E} {wt : va_W} {n b i : Nat} {v : Bool} {w : Nat → Bool} (h : Ok x g cc own rm nL) (hi : i < n) (hn : n < 2 ^ 31) (hd : decode cc pc = .ok (.bastore, 1)) (k : vM x (pc + 1) lv st (w0 :: (b, .inl (gZ g, n, .inl (fun j => nI (bN (upB w i v j))))) :: wt)) : vM x pc lv (.int (nI (bN v)) :: .int (nI i) :: .ref b :: st) (w0 :: (b, .inl (gZ g, n, .inl (fun j => nI (bN (w j))))) :: wt) := v_zastN h 1 rfl hi hn hd rfl k
theorem pf_X0_9_at0 {x : vX} {g : vG} {cc : ByteArray} {rm : Room} {nL pc : Nat} {lv : List (Option Value)} {st : List Value} {wt : va_W} {a : Nat} {f0 f1 f2 : Value} {v : Int32} (h : Ok x g cc RX0 rm nL) (hd : decode cc pc = .ok (.putfield 9, 3)) (k : vM x (pc + 3) lv st ((a, .inr (0, [.int v, f1, f2])) :: wt)) : vM x pc lv (.int v :: .ref a :: st) ((a, .inr (0, [f0, f1, f2])) :: wt) := v_put h mw_X0 tyX0 tyX0_ok nmX0 0 rfl rfl 0 (by decide) mf_X0_9 rfl (ty := .int) (by decide +kernel) rfl rfl (Nat.le_of_ble_eq_true rfl) hd rfl k
theorem lk_X0_22 : LkV RX0 22 yX0_has cX0_has 2 (some .boolean) 1 := ⟨ml_X0_22, mn_X0_has, mv_X0_has, mi_X0, mc_X0_has, ⟨by decide, by decide, by decide +kernel⟩⟩
theorem lk_X0_26 : LkV RX0 26 yX0_inRow cX0_inRow 2 (some .int) 1 := ⟨ml_X0_26, mn_X0_inRow, mv_X0_inRow, mi_X0, mc_X0_inRow, ⟨by decide, by decide, by decide +kernel⟩⟩
theorem cw_V_3_4_5_2_i {x : vX} {g : vG} {cc : ByteArray} {own : String} {rm : Room} {nL pc : Nat} {lv : List (Option Value)} {st : List Value} {w0 w1 w2 : Nat × va_E} {wt : va_W} {c0 c1 c2 d0 d1 d2 : Nat × va_E} {idx : Nat} {y : MethodName} {bytes : ByteArray} {ml : Nat} {ret : Option FieldType} {rmc : Room} {r : Int32} {p0 p1 : Value} {a ci : Nat} {q : vw_C} {fs : List Value} (h : Ok x g cc own rm nL) (hc : Ct g y bytes ml ret rmc [c0, c1, c2] [.ref a, p0, p1] (some (.int r)) [d0, d1, d2]) (lk : LkV own idx y bytes ml ret 2) (hrm : RmOk rmc rm ml) (hcl : vwCl[ci]? = some q) (hq : y.cls = q.1) (h0 : c0 = (a, .inr (ci, fs))) (hW : (st.map fun v => v.category).sum ≤ 8) (hd : decode cc pc = .ok (.invokevirtual idx, 3)) (k : vM x (pc + 3) lv (.int r :: st) (w0 :: w1 :: w2 :: d0 :: d1 :: d2 :: wt)) : vM x pc lv (p1 :: p0 :: .ref a :: st) (w0 :: w1 :: w2 :: c0 :: c1 :: c2 :: wt) := v_callV (As := [p0, p1]) (rest := st) h hc lk hrm hcl hq (by rw [h0]; rfl) rfl [3, 4, 5] rfl (by decide) hW hd rfl k
theorem lk_X0_30 : LkV RX0 30 yX1_greatestUntold cX1_greatestUntold 4 (some .int) 2 := ⟨ml_X0_30, mn_X1_greatestUntold, mv_X1_greatestUntold, mi_X1, mc_X1_greatestUntold, ⟨by decide, by decide, by decide +kernel⟩⟩
theorem lk_X0_36 : LkV RX0 36 yX1_leastUntold cX1_leastUntold 5 (some .int) 2 := ⟨ml_X0_36, mn_X1_leastUntold, mv_X1_leastUntold, mi_X1, mc_X1_leastUntold, ⟨by decide, by decide, by decide +kernel⟩⟩
theorem cw_V_0_1_2_3_4_5_2_i {x : vX} {g : vG} {cc : ByteArray} {own : String} {rm : Room} {nL pc : Nat} {lv : List (Option Value)} {st : List Value} {wt : va_W} {c0 c1 c2 c3 c4 c5 d0 d1 d2 d3 d4 d5 : Nat × va_E} {idx : Nat} {y : MethodName} {bytes : ByteArray} {ml : Nat} {ret : Option FieldType} {rmc : Room} {r : Int32} {p0 p1 : Value} {a ci : Nat} {q : vw_C} {fs : List Value} (h : Ok x g cc own rm nL) (hc : Ct g y bytes ml ret rmc [c0, c1, c2, c3, c4, c5] [.ref a, p0, p1] (some (.int r)) [d0, d1, d2, d3, d4, d5]) (lk : LkV own idx y bytes ml ret 2) (hrm : RmOk rmc rm ml) (hcl : vwCl[ci]? = some q) (hq : y.cls = q.1) (h0 : c0 = (a, .inr (ci, fs))) (hW : (st.map fun v => v.category).sum ≤ 8) (hd : decode cc pc = .ok (.invokevirtual idx, 3)) (k : vM x (pc + 3) lv (.int r :: st) (d0 :: d1 :: d2 :: d3 :: d4 :: d5 :: wt)) : vM x pc lv (p1 :: p0 :: .ref a :: st) (c0 :: c1 :: c2 :: c3 :: c4 :: c5 :: wt) := v_callV (As := [p0, p1]) (rest := st) h hc lk hrm hcl hq (by rw [h0]; rfl) rfl [0, 1, 2, 3, 4, 5] rfl (by decide) hW hd rfl k
theorem lk_X0_39 : LkV RX0 39 yX0_greatestCopy cX0_greatestCopy 5 (some .int) 2 := ⟨ml_X0_39, mn_X0_greatestCopy, mv_X0_greatestCopy, mi_X0, mc_X0_greatestCopy, ⟨by decide, by decide, by decide +kernel⟩⟩
theorem lk_X0_43 : LkV RX0 43 yX0_leastCopy cX0_leastCopy 5 (some .int) 2 := ⟨ml_X0_43, mn_X0_leastCopy, mv_X0_leastCopy, mi_X0, mc_X0_leastCopy, ⟨by decide, by decide, by decide +kernel⟩⟩
theorem cw_V_0_1_2_2_v {x : vX} {g : vG} {cc : ByteArray} {own : String} {rm : Room} {nL pc : Nat} {lv : List (Option Value)} {st : List Value} {wt : va_W} {c0 c1 c2 d0 d1 d2 : Nat × va_E} {idx : Nat} {y : MethodName} {bytes : ByteArray} {ml : Nat} {ret : Option FieldType} {rmc : Room} {p0 p1 : Value} {a ci : Nat} {q : vw_C} {fs : List Value} (h : Ok x g cc own rm nL) (hc : Ct g y bytes ml ret rmc [c0, c1, c2] [.ref a, p0, p1] none [d0, d1, d2]) (lk : LkV own idx y bytes ml ret 2) (hrm : RmOk rmc rm ml) (hcl : vwCl[ci]? = some q) (hq : y.cls = q.1) (h0 : c0 = (a, .inr (ci, fs))) (hW : (st.map fun v => v.category).sum ≤ 8) (hd : decode cc pc = .ok (.invokevirtual idx, 3)) (k : vM x (pc + 3) lv (st) (d0 :: d1 :: d2 :: wt)) : vM x pc lv (p1 :: p0 :: .ref a :: st) (c0 :: c1 :: c2 :: wt) := v_callV (As := [p0, p1]) (rest := st) h hc lk hrm hcl hq (by rw [h0]; rfl) rfl [0, 1, 2] rfl (by decide) hW hd rfl k
theorem lk_X0_59 : LkV RX0 59 yX0_exchange cX0_exchange 4 none 2 := ⟨ml_X0_59, mn_X0_exchange, mv_X0_exchange, mi_X0, mc_X0_exchange, ⟨by decide, by decide, by decide +kernel⟩⟩
theorem cw_V_0_1_2_0_v {x : vX} {g : vG} {cc : ByteArray} {own : String} {rm : Room} {nL pc : Nat} {lv : List (Option Value)} {st : List Value} {wt : va_W} {c0 c1 c2 d0 d1 d2 : Nat × va_E} {idx : Nat} {y : MethodName} {bytes : ByteArray} {ml : Nat} {ret : Option FieldType} {rmc : Room} {a ci : Nat} {q : vw_C} {fs : List Value} (h : Ok x g cc own rm nL) (hc : Ct g y bytes ml ret rmc [c0, c1, c2] [.ref a] none [d0, d1, d2]) (lk : LkV own idx y bytes ml ret 0) (hrm : RmOk rmc rm ml) (hcl : vwCl[ci]? = some q) (hq : y.cls = q.1) (h0 : c0 = (a, .inr (ci, fs))) (hW : (st.map fun v => v.category).sum ≤ 8) (hd : decode cc pc = .ok (.invokevirtual idx, 3)) (k : vM x (pc + 3) lv (st) (d0 :: d1 :: d2 :: wt)) : vM x pc lv (.ref a :: st) (c0 :: c1 :: c2 :: wt) := v_callV (As := []) (rest := st) h hc lk hrm hcl hq (by rw [h0]; rfl) rfl [0, 1, 2] rfl (by decide) hW hd rfl k
theorem lk_X0_46 : LkV RX0 46 yX0_sortRow cX0_sortRow 3 none 0 := ⟨ml_X0_46, mn_X0_sortRow, mv_X0_sortRow, mi_X0, mc_X0_sortRow, ⟨by decide, by decide, by decide +kernel⟩⟩
theorem lk_X0_49 : LkV RX0 49 yX0_spread cX0_spread 3 (some .int) 2 := ⟨ml_X0_49, mn_X0_spread, mv_X0_spread, mi_X0, mc_X0_spread, ⟨by decide, by decide, by decide +kernel⟩⟩
theorem lk_X0_52 : LkV RX0 52 yX0_keepAsBest cX0_keepAsBest 2 none 0 := ⟨ml_X0_52, mn_X0_keepAsBest, mv_X0_keepAsBest, mi_X0, mc_X0_keepAsBest, ⟨by decide, by decide, by decide +kernel⟩⟩
theorem cw_V_0_1_2_0_i {x : vX} {g : vG} {cc : ByteArray} {own : String} {rm : Room} {nL pc : Nat} {lv : List (Option Value)} {st : List Value} {wt : va_W} {c0 c1 c2 d0 d1 d2 : Nat × va_E} {idx : Nat} {y : MethodName} {bytes : ByteArray} {ml : Nat} {ret : Option FieldType} {rmc : Room} {r : Int32} {a ci : Nat} {q : vw_C} {fs : List Value} (h : Ok x g cc own rm nL) (hc : Ct g y bytes ml ret rmc [c0, c1, c2] [.ref a] (some (.int r)) [d0, d1, d2]) (lk : LkV own idx y bytes ml ret 0) (hrm : RmOk rmc rm ml) (hcl : vwCl[ci]? = some q) (hq : y.cls = q.1) (h0 : c0 = (a, .inr (ci, fs))) (hW : (st.map fun v => v.category).sum ≤ 8) (hd : decode cc pc = .ok (.invokevirtual idx, 3)) (k : vM x (pc + 3) lv (.int r :: st) (d0 :: d1 :: d2 :: wt)) : vM x pc lv (.ref a :: st) (c0 :: c1 :: c2 :: wt) := v_callV (As := []) (rest := st) h hc lk hrm hcl hq (by rw [h0]; rfl) rfl [0, 1, 2] rfl (by decide) hW hd rfl k
theorem lk_X0_55 : LkV RX0 55 yX0_toNextOrder cX0_toNextOrder 5 (some .boolean) 0 := ⟨ml_X0_55, mn_X0_toNextOrder, mv_X0_toNextOrder, mi_X0, mc_X0_toNextOrder, ⟨by decide, by decide, by decide +kernel⟩⟩
theorem cw_V_0_1_2_3_4_5_6_7_8_2_i {x : vX} {g : vG} {cc : ByteArray} {own : String} {rm : Room} {nL pc : Nat} {lv : List (Option Value)} {st : List Value} {wt : va_W} {c0 c1 c2 c3 c4 c5 c6 c7 c8 d0 d1 d2 d3 d4 d5 d6 d7 d8 : Nat × va_E} {idx : Nat} {y : MethodName} {bytes : ByteArray} {ml : Nat} {ret : Option FieldType} {rmc : Room} {r : Int32} {p0 p1 : Value} {a ci : Nat} {q : vw_C} {fs : List Value} (h : Ok x g cc own rm nL) (hc : Ct g y bytes ml ret rmc [c0, c1, c2, c3, c4, c5, c6, c7, c8] [.ref a, p0, p1] (some (.int r)) [d0, d1, d2, d3, d4, d5, d6, d7, d8]) (lk : LkV own idx y bytes ml ret 2) (hrm : RmOk rmc rm ml) (hcl : vwCl[ci]? = some q) (hq : y.cls = q.1) (h0 : c0 = (a, .inr (ci, fs))) (hW : (st.map fun v => v.category).sum ≤ 8) (hd : decode cc pc = .ok (.invokevirtual idx, 3)) (k : vM x (pc + 3) lv (.int r :: st) (d0 :: d1 :: d2 :: d3 :: d4 :: d5 :: d6 :: d7 :: d8 :: wt)) : vM x pc lv (p1 :: p0 :: .ref a :: st) (c0 :: c1 :: c2 :: c3 :: c4 :: c5 :: c6 :: c7 :: c8 :: wt) := v_callV (As := [p0, p1]) (rest := st) h hc lk hrm hcl hq (by rw [h0]; rfl) rfl [0, 1, 2, 3, 4, 5, 6, 7, 8] rfl (by decide) hW hd rfl k
theorem lk_X5_15 : LkV RX5 15 yX3_cellOf cX3_cellOf 3 (some .int) 2 := ⟨ml_X5_15, mn_X3_cellOf, mv_X3_cellOf, mi_X3, mc_X3_cellOf, ⟨by decide, by decide, by decide +kernel⟩⟩
set_option maxRecDepth 20000 in
set_option maxHeartbeats 2000000 in
theorem c_X3_has {g : vG} {s0 s1 s2 s3 s4 : Nat} {rr : Nat → Nat} {fil : Nat → Bool} {srt : Nat → Nat} {len : Nat → Nat} {cc : Nat → Nat → Int32} {p : Int32} : Ct g yX3_has cX3_has 2 (some .boolean) (rmOf 0 0) [(s0, .inr (3, [.ref s1, .ref s2, .ref s3, .ref s4])), (s1, .inl (gZ g, 4, .inl (fun z9 => nI (bN (fil z9))))), (s2, .inl (gI g, 4, .inl (fun z9 => nI (srt z9)))), (s3, .inl (gI g, 4, .inl (fun z9 => nI (len z9)))), (s4, .inl (gA g, 4, .inr (.inr (.inr (.inr (fun i => if i < 4 then some (rr i) else none)))))), (rr 0, .inl (gI g, 40, .inl (cc 0))), (rr 1, .inl (gI g, 40, .inl (cc 1))), (rr 2, .inl (gI g, 40, .inl (cc 2))), (rr 3, .inl (gI g, 40, .inl (cc 3)))] [.ref s0, .int p] (some (.int (nI (bN (inR p 4))))) [(s0, .inr (3, [.ref s1, .ref s2, .ref s3, .ref s4])), (s1, .inl (gZ g, 4, .inl (fun z9 => nI (bN (fil z9))))), (s2, .inl (gI g, 4, .inl (fun z9 => nI (srt z9)))), (s3, .inl (gI g, 4, .inl (fun z9 => nI (len z9)))), (s4, .inl (gA g, 4, .inr (.inr (.inr (.inr (fun i => if i < 4 then some (rr i) else none)))))), (rr 0, .inl (gI g, 40, .inl (cc 0))), (rr 1, .inl (gI g, 40, .inl (cc 1))), (rr 2, .inl (gI g, 40, .inl (cc 2))), (rr 3, .inl (gI g, 40, .inl (cc 3)))] := by
  refine Ct.ofV RX3 rfl (by decide +kernel) rfl rfl rfl (Nat.le_of_ble_eq_true rfl) (List.forall_mem_cons.mpr ⟨rfl, (List.forall_mem_cons.mpr ⟨rfl, (fun _ h9 => absurd h9 List.not_mem_nil)⟩)⟩) (fun x h hr => ?_)
  show vM x 0 [some (.ref s0), some (.int p)] [] [(s0, .inr (3, [.ref s1, .ref s2, .ref s3, .ref s4])), (s1, .inl (gZ g, 4, .inl (fun z9 => nI (bN (fil z9))))), (s2, .inl (gI g, 4, .inl (fun z9 => nI (srt z9)))), (s3, .inl (gI g, 4, .inl (fun z9 => nI (len z9)))), (s4, .inl (gA g, 4, .inr (.inr (.inr (.inr (fun i => if i < 4 then some (rr i) else none)))))), (rr 0, .inl (gI g, 40, .inl (cc 0))), (rr 1, .inl (gI g, 40, .inl (cc 1))), (rr 2, .inl (gI g, 40, .inl (cc 2))), (rr 3, .inl (gI g, 40, .inl (cc 3)))]
  refine v_iload_n1 h dX3_has_0 ?_
  refine v_if_lt h dX3_has_1 (tgt := 13) (by decide) (fun c1 => ?_) (fun c1 => ?_)
  · refine v_iconst h (v := nI 0) dX3_has_13 (by decide) ?_
    exact v_zret (v := false) h hr dX3_has_14 (by first | exact (inR_f0 c1).symm | exact (inR_f1 c6).symm | exact (inR_t c1 c6).symm) rfl
  · refine v_iload_n1 h dX3_has_4 ?_
    refine v_iconst h (v := nI 4) dX3_has_5 (by decide) ?_
    refine v_icmp_ge h dX3_has_6 (tgt := 13) (by decide) (fun c6 => ?_) (fun c6 => ?_)
    · refine v_iconst h (v := nI 0) dX3_has_13 (by decide) ?_
      exact v_zret (v := false) h hr dX3_has_14 (by first | exact (inR_f0 c1).symm | exact (inR_f1 c6).symm | exact (inR_t c1 c6).symm) rfl
    · refine v_iconst h (v := nI 1) dX3_has_9 (by decide) ?_
      refine v_goto h dX3_has_10 (tgt := 14) (by decide) ?_
      exact v_zret (v := true) h hr dX3_has_14 (by first | exact (inR_f0 c1).symm | exact (inR_f1 c6).symm | exact (inR_t c1 c6).symm) rfl
set_option maxRecDepth 20000 in
set_option maxHeartbeats 2000000 in
theorem c_X3_hasRow {g : vG} {s0 s1 s2 s3 s4 : Nat} {rr : Nat → Nat} {fil : Nat → Bool} {srt : Nat → Nat} {len : Nat → Nat} {cc : Nat → Nat → Int32} {k : Nat} (hk : k < 4) : Ct g yX3_hasRow cX3_hasRow 2 (some .boolean) (rmOf 1 21) [(s0, .inr (3, [.ref s1, .ref s2, .ref s3, .ref s4])), (s1, .inl (gZ g, 4, .inl (fun z9 => nI (bN (fil z9))))), (s2, .inl (gI g, 4, .inl (fun z9 => nI (srt z9)))), (s3, .inl (gI g, 4, .inl (fun z9 => nI (len z9)))), (s4, .inl (gA g, 4, .inr (.inr (.inr (.inr (fun i => if i < 4 then some (rr i) else none)))))), (rr 0, .inl (gI g, 40, .inl (cc 0))), (rr 1, .inl (gI g, 40, .inl (cc 1))), (rr 2, .inl (gI g, 40, .inl (cc 2))), (rr 3, .inl (gI g, 40, .inl (cc 3)))] [.ref s0, .int (nI k)] (some (.int (nI (bN (fil k))))) [(s0, .inr (3, [.ref s1, .ref s2, .ref s3, .ref s4])), (s1, .inl (gZ g, 4, .inl (fun z9 => nI (bN (fil z9))))), (s2, .inl (gI g, 4, .inl (fun z9 => nI (srt z9)))), (s3, .inl (gI g, 4, .inl (fun z9 => nI (len z9)))), (s4, .inl (gA g, 4, .inr (.inr (.inr (.inr (fun i => if i < 4 then some (rr i) else none)))))), (rr 0, .inl (gI g, 40, .inl (cc 0))), (rr 1, .inl (gI g, 40, .inl (cc 1))), (rr 2, .inl (gI g, 40, .inl (cc 2))), (rr 3, .inl (gI g, 40, .inl (cc 3)))] := by
  refine Ct.ofV RX3 rfl (by decide +kernel) rfl rfl rfl (Nat.le_of_ble_eq_true rfl) (List.forall_mem_cons.mpr ⟨rfl, (List.forall_mem_cons.mpr ⟨rfl, (fun _ h9 => absurd h9 List.not_mem_nil)⟩)⟩) (fun x h hr => ?_)
  show vM x 0 [some (.ref s0), some (.int (nI k))] [] [(s0, .inr (3, [.ref s1, .ref s2, .ref s3, .ref s4])), (s1, .inl (gZ g, 4, .inl (fun z9 => nI (bN (fil z9))))), (s2, .inl (gI g, 4, .inl (fun z9 => nI (srt z9)))), (s3, .inl (gI g, 4, .inl (fun z9 => nI (len z9)))), (s4, .inl (gA g, 4, .inr (.inr (.inr (.inr (fun i => if i < 4 then some (rr i) else none)))))), (rr 0, .inl (gI g, 40, .inl (cc 0))), (rr 1, .inl (gI g, 40, .inl (cc 1))), (rr 2, .inl (gI g, 40, .inl (cc 2))), (rr 3, .inl (gI g, 40, .inl (cc 3)))]
  refine v_aload_n0 h dX3_hasRow_0 ?_
  refine v_iload_n1 h dX3_hasRow_1 ?_
  refine cw_V_0_1_2_3_4_5_6_7_8_1_i (ci := 3) h (c_X3_has (g := g)) lk_X3_27 ⟨rfl, rfl, (Nat.le_of_ble_eq_true rfl), (Nat.le_of_ble_eq_true rfl)⟩ rfl rfl rfl (Nat.le_of_ble_eq_true rfl) dX3_hasRow_2 ?_
  refine v_if_eqB h dX3_hasRow_5 (tgt := 21) (by decide) (fun c5 => ?_) (fun c5 => ?_)
  · exact inR_no hk (by decide) c5
  · refine v_aload_n0 h dX3_hasRow_8 ?_
    refine v_get h mw_X3 0 rfl rfl 0 (by decide) mf_X3_9 rfl dX3_hasRow_9 ?_
    refine v_iload_n1 h dX3_hasRow_12 ?_
    refine v_zaldN h 1 rfl (by omega) (Nat.le_of_ble_eq_true rfl) dX3_hasRow_13 ?_
    refine v_if_eqB h dX3_hasRow_14 (tgt := 21) (by decide) (fun c14 => ?_) (fun c14 => ?_)
    · refine v_iconst h (v := nI 0) dX3_hasRow_21 (by decide) ?_
      exact v_zret (v := false) h hr dX3_hasRow_22 (by exact c14.symm) rfl
    · refine v_iconst h (v := nI 1) dX3_hasRow_17 (by decide) ?_
      refine v_goto h dX3_hasRow_18 (tgt := 22) (by decide) ?_
      exact v_zret (v := true) h hr dX3_hasRow_22 (by exact c14.symm) rfl
set_option maxRecDepth 20000 in
set_option maxHeartbeats 2000000 in
theorem c_X3_sortOf {g : vG} {s0 s1 s2 s3 s4 : Nat} {rr : Nat → Nat} {fil : Nat → Bool} {srt : Nat → Nat} {len : Nat → Nat} {cc : Nat → Nat → Int32} {k : Nat} (hk : k < 4) : Ct g yX3_sortOf cX3_sortOf 2 (some .int) (rmOf 1 21) [(s0, .inr (3, [.ref s1, .ref s2, .ref s3, .ref s4])), (s1, .inl (gZ g, 4, .inl (fun z9 => nI (bN (fil z9))))), (s2, .inl (gI g, 4, .inl (fun z9 => nI (srt z9)))), (s3, .inl (gI g, 4, .inl (fun z9 => nI (len z9)))), (s4, .inl (gA g, 4, .inr (.inr (.inr (.inr (fun i => if i < 4 then some (rr i) else none)))))), (rr 0, .inl (gI g, 40, .inl (cc 0))), (rr 1, .inl (gI g, 40, .inl (cc 1))), (rr 2, .inl (gI g, 40, .inl (cc 2))), (rr 3, .inl (gI g, 40, .inl (cc 3)))] [.ref s0, .int (nI k)] (some (.int (nI (srt k)))) [(s0, .inr (3, [.ref s1, .ref s2, .ref s3, .ref s4])), (s1, .inl (gZ g, 4, .inl (fun z9 => nI (bN (fil z9))))), (s2, .inl (gI g, 4, .inl (fun z9 => nI (srt z9)))), (s3, .inl (gI g, 4, .inl (fun z9 => nI (len z9)))), (s4, .inl (gA g, 4, .inr (.inr (.inr (.inr (fun i => if i < 4 then some (rr i) else none)))))), (rr 0, .inl (gI g, 40, .inl (cc 0))), (rr 1, .inl (gI g, 40, .inl (cc 1))), (rr 2, .inl (gI g, 40, .inl (cc 2))), (rr 3, .inl (gI g, 40, .inl (cc 3)))] := by
  refine Ct.ofV RX3 rfl (by decide +kernel) rfl rfl rfl (Nat.le_of_ble_eq_true rfl) (List.forall_mem_cons.mpr ⟨rfl, (List.forall_mem_cons.mpr ⟨rfl, (fun _ h9 => absurd h9 List.not_mem_nil)⟩)⟩) (fun x h hr => ?_)
  show vM x 0 [some (.ref s0), some (.int (nI k))] [] [(s0, .inr (3, [.ref s1, .ref s2, .ref s3, .ref s4])), (s1, .inl (gZ g, 4, .inl (fun z9 => nI (bN (fil z9))))), (s2, .inl (gI g, 4, .inl (fun z9 => nI (srt z9)))), (s3, .inl (gI g, 4, .inl (fun z9 => nI (len z9)))), (s4, .inl (gA g, 4, .inr (.inr (.inr (.inr (fun i => if i < 4 then some (rr i) else none)))))), (rr 0, .inl (gI g, 40, .inl (cc 0))), (rr 1, .inl (gI g, 40, .inl (cc 1))), (rr 2, .inl (gI g, 40, .inl (cc 2))), (rr 3, .inl (gI g, 40, .inl (cc 3)))]
  refine v_aload_n0 h dX3_sortOf_0 ?_
  refine v_iload_n1 h dX3_sortOf_1 ?_
  refine cw_V_0_1_2_3_4_5_6_7_8_1_i (ci := 3) h (c_X3_has (g := g)) lk_X3_27 ⟨rfl, rfl, (Nat.le_of_ble_eq_true rfl), (Nat.le_of_ble_eq_true rfl)⟩ rfl rfl rfl (Nat.le_of_ble_eq_true rfl) dX3_sortOf_2 ?_
  refine v_if_eqB h dX3_sortOf_5 (tgt := 17) (by decide) (fun c5 => ?_) (fun c5 => ?_)
  · exact inR_no hk (by decide) c5
  · refine v_aload_n0 h dX3_sortOf_8 ?_
    refine v_get h mw_X3 0 rfl rfl 1 (by decide) mf_X3_15 rfl dX3_sortOf_9 ?_
    refine v_iload_n1 h dX3_sortOf_12 ?_
    refine v_ialdN h 2 rfl (by omega) (Nat.le_of_ble_eq_true rfl) dX3_sortOf_13 ?_
    refine v_goto h dX3_sortOf_14 (tgt := 18) (by decide) ?_
    exact v_iret h hr dX3_sortOf_18 rfl rfl
set_option maxRecDepth 20000 in
set_option maxHeartbeats 2000000 in
theorem c_X3_hasCells {g : vG} {s0 s1 s2 s3 s4 : Nat} {rr : Nat → Nat} {fil : Nat → Bool} {srt : Nat → Nat} {len : Nat → Nat} {cc : Nat → Nat → Int32} {k : Nat} {i : Int32} {n : Int32} (hk : k < 4) : Ct g yX3_hasCells cX3_hasCells 4 (some .boolean) (rmOf 1 21) [(s0, .inr (3, [.ref s1, .ref s2, .ref s3, .ref s4])), (s1, .inl (gZ g, 4, .inl (fun z9 => nI (bN (fil z9))))), (s2, .inl (gI g, 4, .inl (fun z9 => nI (srt z9)))), (s3, .inl (gI g, 4, .inl (fun z9 => nI (len z9)))), (s4, .inl (gA g, 4, .inr (.inr (.inr (.inr (fun i => if i < 4 then some (rr i) else none)))))), (rr 0, .inl (gI g, 40, .inl (cc 0))), (rr 1, .inl (gI g, 40, .inl (cc 1))), (rr 2, .inl (gI g, 40, .inl (cc 2))), (rr 3, .inl (gI g, 40, .inl (cc 3)))] [.ref s0, .int (nI k), .int i, .int n] (some (.int (nI (bN (hcB (fil k) (len k) i n))))) [(s0, .inr (3, [.ref s1, .ref s2, .ref s3, .ref s4])), (s1, .inl (gZ g, 4, .inl (fun z9 => nI (bN (fil z9))))), (s2, .inl (gI g, 4, .inl (fun z9 => nI (srt z9)))), (s3, .inl (gI g, 4, .inl (fun z9 => nI (len z9)))), (s4, .inl (gA g, 4, .inr (.inr (.inr (.inr (fun i => if i < 4 then some (rr i) else none)))))), (rr 0, .inl (gI g, 40, .inl (cc 0))), (rr 1, .inl (gI g, 40, .inl (cc 1))), (rr 2, .inl (gI g, 40, .inl (cc 2))), (rr 3, .inl (gI g, 40, .inl (cc 3)))] := by
  refine Ct.ofV RX3 rfl (by decide +kernel) rfl rfl rfl (Nat.le_of_ble_eq_true rfl) (List.forall_mem_cons.mpr ⟨rfl, (List.forall_mem_cons.mpr ⟨rfl, (List.forall_mem_cons.mpr ⟨rfl, (List.forall_mem_cons.mpr ⟨rfl, (fun _ h9 => absurd h9 List.not_mem_nil)⟩)⟩)⟩)⟩) (fun x h hr => ?_)
  show vM x 0 [some (.ref s0), some (.int (nI k)), some (.int i), some (.int n)] [] [(s0, .inr (3, [.ref s1, .ref s2, .ref s3, .ref s4])), (s1, .inl (gZ g, 4, .inl (fun z9 => nI (bN (fil z9))))), (s2, .inl (gI g, 4, .inl (fun z9 => nI (srt z9)))), (s3, .inl (gI g, 4, .inl (fun z9 => nI (len z9)))), (s4, .inl (gA g, 4, .inr (.inr (.inr (.inr (fun i => if i < 4 then some (rr i) else none)))))), (rr 0, .inl (gI g, 40, .inl (cc 0))), (rr 1, .inl (gI g, 40, .inl (cc 1))), (rr 2, .inl (gI g, 40, .inl (cc 2))), (rr 3, .inl (gI g, 40, .inl (cc 3)))]
  refine v_aload_n0 h dX3_hasCells_0 ?_
  refine v_iload_n1 h dX3_hasCells_1 ?_
  refine cw_V_0_1_2_3_4_5_6_7_8_1_i (ci := 3) h (c_X3_has (g := g)) lk_X3_27 ⟨rfl, rfl, (Nat.le_of_ble_eq_true rfl), (Nat.le_of_ble_eq_true rfl)⟩ rfl rfl rfl (Nat.le_of_ble_eq_true rfl) dX3_hasCells_2 ?_
  refine v_if_eqB h dX3_hasCells_5 (tgt := 51) (by decide) (fun c5 => ?_) (fun c5 => ?_)
  · exact inR_no hk (by decide) c5
  · refine v_aload_n0 h dX3_hasCells_8 ?_
    refine v_get h mw_X3 0 rfl rfl 0 (by decide) mf_X3_9 rfl dX3_hasCells_9 ?_
    refine v_iload_n1 h dX3_hasCells_12 ?_
    refine v_zaldN h 1 rfl (by omega) (Nat.le_of_ble_eq_true rfl) dX3_hasCells_13 ?_
    refine v_if_eqB h dX3_hasCells_14 (tgt := 51) (by decide) (fun c14 => ?_) (fun c14 => ?_)
    · refine v_iconst h (v := nI 0) dX3_hasCells_51 (by decide) ?_
      exact v_zret (v := false) h hr dX3_hasCells_52 (by first | exact (hcB_f0 c14).symm | exact (hcB_f1 c18).symm | exact (hcB_f2 c22).symm | exact (hcB_f3 c32).symm | exact (hcB_f4 c44).symm | exact (hcB_t c14 c18 c22 c32 c44).symm) rfl
    · refine v_iload_n2 h dX3_hasCells_17 ?_
      refine v_if_lt h dX3_hasCells_18 (tgt := 51) (by decide) (fun c18 => ?_) (fun c18 => ?_)
      · refine v_iconst h (v := nI 0) dX3_hasCells_51 (by decide) ?_
        exact v_zret (v := false) h hr dX3_hasCells_52 (by first | exact (hcB_f0 c14).symm | exact (hcB_f1 c18).symm | exact (hcB_f2 c22).symm | exact (hcB_f3 c32).symm | exact (hcB_f4 c44).symm | exact (hcB_t c14 c18 c22 c32 c44).symm) rfl
      · refine v_iload_n3 h dX3_hasCells_21 ?_
        refine v_if_lt h dX3_hasCells_22 (tgt := 51) (by decide) (fun c22 => ?_) (fun c22 => ?_)
        · refine v_iconst h (v := nI 0) dX3_hasCells_51 (by decide) ?_
          exact v_zret (v := false) h hr dX3_hasCells_52 (by first | exact (hcB_f0 c14).symm | exact (hcB_f1 c18).symm | exact (hcB_f2 c22).symm | exact (hcB_f3 c32).symm | exact (hcB_f4 c44).symm | exact (hcB_t c14 c18 c22 c32 c44).symm) rfl
        · refine v_iload_n2 h dX3_hasCells_25 ?_
          refine v_aload_n0 h dX3_hasCells_26 ?_
          refine v_get h mw_X3 0 rfl rfl 2 (by decide) mf_X3_19 rfl dX3_hasCells_27 ?_
          refine v_iload_n1 h dX3_hasCells_30 ?_
          refine v_ialdN h 3 rfl (by omega) (Nat.le_of_ble_eq_true rfl) dX3_hasCells_31 ?_
          refine v_icmp_gt h dX3_hasCells_32 (tgt := 51) (by decide) (fun c32 => ?_) (fun c32 => ?_)
          · refine v_iconst h (v := nI 0) dX3_hasCells_51 (by decide) ?_
            exact v_zret (v := false) h hr dX3_hasCells_52 (by first | exact (hcB_f0 c14).symm | exact (hcB_f1 c18).symm | exact (hcB_f2 c22).symm | exact (hcB_f3 c32).symm | exact (hcB_f4 c44).symm | exact (hcB_t c14 c18 c22 c32 c44).symm) rfl
          · refine v_iload_n3 h dX3_hasCells_35 ?_
            refine v_aload_n0 h dX3_hasCells_36 ?_
            refine v_get h mw_X3 0 rfl rfl 2 (by decide) mf_X3_19 rfl dX3_hasCells_37 ?_
            refine v_iload_n1 h dX3_hasCells_40 ?_
            refine v_ialdN h 3 rfl (by omega) (Nat.le_of_ble_eq_true rfl) dX3_hasCells_41 ?_
            refine v_iload_n2 h dX3_hasCells_42 ?_
            refine v_isub h dX3_hasCells_43 ?_
            refine v_icmp_gt h dX3_hasCells_44 (tgt := 51) (by decide) (fun c44 => ?_) (fun c44 => ?_)
            · refine v_iconst h (v := nI 0) dX3_hasCells_51 (by decide) ?_
              exact v_zret (v := false) h hr dX3_hasCells_52 (by first | exact (hcB_f0 c14).symm | exact (hcB_f1 c18).symm | exact (hcB_f2 c22).symm | exact (hcB_f3 c32).symm | exact (hcB_f4 c44).symm | exact (hcB_t c14 c18 c22 c32 c44).symm) rfl
            · refine v_iconst h (v := nI 1) dX3_hasCells_47 (by decide) ?_
              refine v_goto h dX3_hasCells_48 (tgt := 52) (by decide) ?_
              exact v_zret (v := true) h hr dX3_hasCells_52 (by first | exact (hcB_f0 c14).symm | exact (hcB_f1 c18).symm | exact (hcB_f2 c22).symm | exact (hcB_f3 c32).symm | exact (hcB_f4 c44).symm | exact (hcB_t c14 c18 c22 c32 c44).symm) rfl
set_option maxRecDepth 20000 in
set_option maxHeartbeats 2000000 in
theorem c_X3_faultOfTaking {g : vG} {s0 s1 s2 s3 s4 : Nat} {rr : Nat → Nat} {fil : Nat → Bool} {srt : Nat → Nat} {len : Nat → Nat} {cc : Nat → Nat → Int32} {k : Nat} {sort : Int32} {i : Int32} {n : Int32} (hk : k < 4) : Ct g yX3_faultOfTaking cX3_faultOfTaking 5 (some .int) (rmOf 2 44) [(s0, .inr (3, [.ref s1, .ref s2, .ref s3, .ref s4])), (s1, .inl (gZ g, 4, .inl (fun z9 => nI (bN (fil z9))))), (s2, .inl (gI g, 4, .inl (fun z9 => nI (srt z9)))), (s3, .inl (gI g, 4, .inl (fun z9 => nI (len z9)))), (s4, .inl (gA g, 4, .inr (.inr (.inr (.inr (fun i => if i < 4 then some (rr i) else none)))))), (rr 0, .inl (gI g, 40, .inl (cc 0))), (rr 1, .inl (gI g, 40, .inl (cc 1))), (rr 2, .inl (gI g, 40, .inl (cc 2))), (rr 3, .inl (gI g, 40, .inl (cc 3)))] [.ref s0, .int (nI k), .int sort, .int i, .int n] (some (.int (nI (ftk (fil k) (srt k) (len k) sort i n)))) [(s0, .inr (3, [.ref s1, .ref s2, .ref s3, .ref s4])), (s1, .inl (gZ g, 4, .inl (fun z9 => nI (bN (fil z9))))), (s2, .inl (gI g, 4, .inl (fun z9 => nI (srt z9)))), (s3, .inl (gI g, 4, .inl (fun z9 => nI (len z9)))), (s4, .inl (gA g, 4, .inr (.inr (.inr (.inr (fun i => if i < 4 then some (rr i) else none)))))), (rr 0, .inl (gI g, 40, .inl (cc 0))), (rr 1, .inl (gI g, 40, .inl (cc 1))), (rr 2, .inl (gI g, 40, .inl (cc 2))), (rr 3, .inl (gI g, 40, .inl (cc 3)))] := by
  refine Ct.ofV RX3 rfl (by decide +kernel) rfl rfl rfl (Nat.le_of_ble_eq_true rfl) (List.forall_mem_cons.mpr ⟨rfl, (List.forall_mem_cons.mpr ⟨rfl, (List.forall_mem_cons.mpr ⟨rfl, (List.forall_mem_cons.mpr ⟨rfl, (List.forall_mem_cons.mpr ⟨rfl, (fun _ h9 => absurd h9 List.not_mem_nil)⟩)⟩)⟩)⟩)⟩) (fun x h hr => ?_)
  show vM x 0 [some (.ref s0), some (.int (nI k)), some (.int sort), some (.int i), some (.int n)] [] [(s0, .inr (3, [.ref s1, .ref s2, .ref s3, .ref s4])), (s1, .inl (gZ g, 4, .inl (fun z9 => nI (bN (fil z9))))), (s2, .inl (gI g, 4, .inl (fun z9 => nI (srt z9)))), (s3, .inl (gI g, 4, .inl (fun z9 => nI (len z9)))), (s4, .inl (gA g, 4, .inr (.inr (.inr (.inr (fun i => if i < 4 then some (rr i) else none)))))), (rr 0, .inl (gI g, 40, .inl (cc 0))), (rr 1, .inl (gI g, 40, .inl (cc 1))), (rr 2, .inl (gI g, 40, .inl (cc 2))), (rr 3, .inl (gI g, 40, .inl (cc 3)))]
  refine v_aload_n0 h dX3_faultOfTaking_0 ?_
  refine v_iload_n1 h dX3_faultOfTaking_1 ?_
  refine cw_V_0_1_2_3_4_5_6_7_8_1_i (ci := 3) h (c_X3_hasRow (g := g) (by first | assumption | omega)) lk_X3_31 ⟨rfl, rfl, (Nat.le_of_ble_eq_true rfl), (Nat.le_of_ble_eq_true rfl)⟩ rfl rfl rfl (Nat.le_of_ble_eq_true rfl) dX3_faultOfTaking_2 ?_
  refine v_if_neB h dX3_faultOfTaking_5 (tgt := 10) (by decide) (fun c5 => ?_) (fun c5 => ?_)
  · refine v_aload_n0 h dX3_faultOfTaking_10 ?_
    refine v_iload_n1 h dX3_faultOfTaking_11 ?_
    refine cw_V_0_1_2_3_4_5_6_7_8_1_i (ci := 3) h (c_X3_sortOf (g := g) (by first | assumption | omega)) lk_X3_34 ⟨rfl, rfl, (Nat.le_of_ble_eq_true rfl), (Nat.le_of_ble_eq_true rfl)⟩ rfl rfl rfl (Nat.le_of_ble_eq_true rfl) dX3_faultOfTaking_12 ?_
    refine v_iload_n2 h dX3_faultOfTaking_15 ?_
    refine v_icmp_eq h dX3_faultOfTaking_16 (tgt := 21) (by decide) (fun c16 => ?_) (fun c16 => ?_)
    · refine v_iload4 h dX3_faultOfTaking_21 ?_
      refine v_if_ge h dX3_faultOfTaking_23 (tgt := 28) (by decide) (fun c23 => ?_) (fun c23 => ?_)
      · refine v_aload_n0 h dX3_faultOfTaking_28 ?_
        refine v_iload_n1 h dX3_faultOfTaking_29 ?_
        refine v_iload_n3 h dX3_faultOfTaking_30 ?_
        refine v_iload4 h dX3_faultOfTaking_31 ?_
        refine cw_V_0_1_2_3_4_5_6_7_8_3_i (ci := 3) h (c_X3_hasCells (g := g) (by first | assumption | omega)) lk_X3_38 ⟨rfl, rfl, (Nat.le_of_ble_eq_true rfl), (Nat.le_of_ble_eq_true rfl)⟩ rfl rfl rfl (Nat.le_of_ble_eq_true rfl) dX3_faultOfTaking_33 ?_
        refine v_if_eqB h dX3_faultOfTaking_36 (tgt := 43) (by decide) (fun c36 => ?_) (fun c36 => ?_)
        · refine v_iconst h (v := nI 3) dX3_faultOfTaking_43 (by decide) ?_
          exact v_iret h hr dX3_faultOfTaking_44 (by first | rw [ftk, if_neg (by rw [c5]; decide), if_pos c16, if_neg (Int32.not_lt.mpr c23), if_pos c36] | rw [ftk, if_neg (by rw [c5]; decide), if_pos c16, if_neg (Int32.not_lt.mpr c23), if_neg (by rw [c36]; decide)]) rfl
        · refine v_iconst h (v := nI 0) dX3_faultOfTaking_39 (by decide) ?_
          refine v_goto h dX3_faultOfTaking_40 (tgt := 44) (by decide) ?_
          exact v_iret h hr dX3_faultOfTaking_44 (by first | rw [ftk, if_neg (by rw [c5]; decide), if_pos c16, if_neg (Int32.not_lt.mpr c23), if_pos c36] | rw [ftk, if_neg (by rw [c5]; decide), if_pos c16, if_neg (Int32.not_lt.mpr c23), if_neg (by rw [c36]; decide)]) rfl
      · refine v_iconst h (v := nI 4) dX3_faultOfTaking_26 (by decide) ?_
        exact v_iret h hr dX3_faultOfTaking_27 (by rw [ftk, if_neg (by rw [c5]; decide), if_pos c16, if_pos (Int32.not_le.mp c23)]) rfl
    · refine v_iconst h (v := nI 2) dX3_faultOfTaking_19 (by decide) ?_
      exact v_iret h hr dX3_faultOfTaking_20 (by rw [ftk, if_neg (by rw [c5]; decide), if_neg c16]) rfl
  · refine v_iconst h (v := nI 1) dX3_faultOfTaking_8 (by decide) ?_
    exact v_iret h hr dX3_faultOfTaking_9 (by rw [ftk, if_pos c5]) rfl
set_option maxRecDepth 20000 in
set_option maxHeartbeats 2000000 in
theorem c_X3_cellOf {g : vG} {s0 s1 s2 s3 s4 : Nat} {rr : Nat → Nat} {fil : Nat → Bool} {srt : Nat → Nat} {len : Nat → Nat} {cc : Nat → Nat → Int32} {k : Nat} {i : Nat} (hk : k < 4) (hfk : fil k = true) (hlk : len k ≤ 40) (hi : i < len k) : Ct g yX3_cellOf cX3_cellOf 3 (some .int) (rmOf 2 44) [(s0, .inr (3, [.ref s1, .ref s2, .ref s3, .ref s4])), (s1, .inl (gZ g, 4, .inl (fun z9 => nI (bN (fil z9))))), (s2, .inl (gI g, 4, .inl (fun z9 => nI (srt z9)))), (s3, .inl (gI g, 4, .inl (fun z9 => nI (len z9)))), (s4, .inl (gA g, 4, .inr (.inr (.inr (.inr (fun i => if i < 4 then some (rr i) else none)))))), (rr 0, .inl (gI g, 40, .inl (cc 0))), (rr 1, .inl (gI g, 40, .inl (cc 1))), (rr 2, .inl (gI g, 40, .inl (cc 2))), (rr 3, .inl (gI g, 40, .inl (cc 3)))] [.ref s0, .int (nI k), .int (nI i)] (some (.int (cc k i))) [(s0, .inr (3, [.ref s1, .ref s2, .ref s3, .ref s4])), (s1, .inl (gZ g, 4, .inl (fun z9 => nI (bN (fil z9))))), (s2, .inl (gI g, 4, .inl (fun z9 => nI (srt z9)))), (s3, .inl (gI g, 4, .inl (fun z9 => nI (len z9)))), (s4, .inl (gA g, 4, .inr (.inr (.inr (.inr (fun i => if i < 4 then some (rr i) else none)))))), (rr 0, .inl (gI g, 40, .inl (cc 0))), (rr 1, .inl (gI g, 40, .inl (cc 1))), (rr 2, .inl (gI g, 40, .inl (cc 2))), (rr 3, .inl (gI g, 40, .inl (cc 3)))] := by
  refine Ct.ofV RX3 rfl (by decide +kernel) rfl rfl rfl (Nat.le_of_ble_eq_true rfl) (List.forall_mem_cons.mpr ⟨rfl, (List.forall_mem_cons.mpr ⟨rfl, (List.forall_mem_cons.mpr ⟨rfl, (fun _ h9 => absurd h9 List.not_mem_nil)⟩)⟩)⟩) (fun x h hr => ?_)
  show vM x 0 [some (.ref s0), some (.int (nI k)), some (.int (nI i))] [] [(s0, .inr (3, [.ref s1, .ref s2, .ref s3, .ref s4])), (s1, .inl (gZ g, 4, .inl (fun z9 => nI (bN (fil z9))))), (s2, .inl (gI g, 4, .inl (fun z9 => nI (srt z9)))), (s3, .inl (gI g, 4, .inl (fun z9 => nI (len z9)))), (s4, .inl (gA g, 4, .inr (.inr (.inr (.inr (fun i => if i < 4 then some (rr i) else none)))))), (rr 0, .inl (gI g, 40, .inl (cc 0))), (rr 1, .inl (gI g, 40, .inl (cc 1))), (rr 2, .inl (gI g, 40, .inl (cc 2))), (rr 3, .inl (gI g, 40, .inl (cc 3)))]
  refine v_aload_n0 h dX3_cellOf_0 ?_
  refine v_iload_n1 h dX3_cellOf_1 ?_
  refine v_iload_n2 h dX3_cellOf_2 ?_
  refine v_iconst h (v := nI 1) dX3_cellOf_3 (by decide) ?_
  refine cw_V_0_1_2_3_4_5_6_7_8_3_i (ci := 3) h (c_X3_hasCells (g := g) (by first | assumption | omega)) lk_X3_38 ⟨rfl, rfl, (Nat.le_of_ble_eq_true rfl), (Nat.le_of_ble_eq_true rfl)⟩ rfl rfl rfl (Nat.le_of_ble_eq_true rfl) dX3_cellOf_4 ?_
  refine v_if_eqB h dX3_cellOf_7 (tgt := 21) (by decide) (fun c7 => ?_) (fun c7 => ?_)
  · rw [hfk, hcB_N hlk (by omega)] at c7; cases c7
  · refine v_aload_n0 h dX3_cellOf_10 ?_
    refine v_get h mw_X3 0 rfl rfl 3 (by decide) mf_X3_24 rfl dX3_cellOf_11 ?_
    refine v_iload_n1 h dX3_cellOf_14 ?_
    refine v_rowref h (by omega) dX3_cellOf_15 ?_
    refine v_iload_n2 h dX3_cellOf_16 ?_
    refine v_rowld h (by omega) (by omega) dX3_cellOf_17 ?_
    refine v_goto h dX3_cellOf_18 (tgt := 22) (by decide) ?_
    exact v_iret h hr dX3_cellOf_22 rfl rfl
set_option maxRecDepth 20000 in
set_option maxHeartbeats 2000000 in
theorem c_X3_cut {g : vG} {r : Nat} {v : Int32} (hr2 : r ≤ 2) : Ct g yX3_cut cX3_cut 2 (some .int) (rmOf 0 0) [] [.int (nI r), .int v] (some (.int (cutV r v))) [] := by
  refine Ct.ofV RX3 rfl (by decide +kernel) rfl rfl rfl (Nat.le_of_ble_eq_true rfl) (List.forall_mem_cons.mpr ⟨rfl, (List.forall_mem_cons.mpr ⟨rfl, (fun _ h9 => absurd h9 List.not_mem_nil)⟩)⟩) (fun x h hr => ?_)
  show vM x 0 [some (.int (nI r)), some (.int v)] [] []
  refine v_iload_n0 h dX3_cut_0 ?_
  by_cases q0 : r = 0
  · subst q0; refine v_lookup h dX3_cut_1 (by decide) rfl (tgt := 28) (by decide) ?_
    refine v_iload_n1 h dX3_cut_28 ?_
    refine v_i2b h dX3_cut_29 ?_
    exact v_iret h hr dX3_cut_30 rfl rfl
  · by_cases q1 : r = 1
    · subst q1; refine v_lookup h dX3_cut_1 (by decide) rfl (tgt := 31) (by decide) ?_
      refine v_iload_n1 h dX3_cut_31 ?_
      refine v_i2s h dX3_cut_32 ?_
      exact v_iret h hr dX3_cut_33 rfl rfl
    · obtain rfl : r = 2 := by omega
      refine v_lookup h dX3_cut_1 (by decide) rfl (tgt := 34) (by decide) ?_
      refine v_iload_n1 h dX3_cut_34 ?_
      exact v_iret h hr dX3_cut_35 rfl rfl
set_option maxRecDepth 20000 in
set_option maxHeartbeats 2000000 in
theorem c_X3_setCell {g : vG} {s0 s1 s2 s3 s4 : Nat} {rr : Nat → Nat} {fil : Nat → Bool} {srt : Nat → Nat} {len : Nat → Nat} {cc : Nat → Nat → Int32} {k : Nat} {i : Nat} {v : Int32} (hk : k < 4) (hfk : fil k = true) (hlk : len k ≤ 40) (hi : i < len k) (hsr : srt k ≤ 2) : Ct g yX3_setCell cX3_setCell 4 none (rmOf 2 44) [(s0, .inr (3, [.ref s1, .ref s2, .ref s3, .ref s4])), (s1, .inl (gZ g, 4, .inl (fun z9 => nI (bN (fil z9))))), (s2, .inl (gI g, 4, .inl (fun z9 => nI (srt z9)))), (s3, .inl (gI g, 4, .inl (fun z9 => nI (len z9)))), (s4, .inl (gA g, 4, .inr (.inr (.inr (.inr (fun i => if i < 4 then some (rr i) else none)))))), (rr 0, .inl (gI g, 40, .inl (cc 0))), (rr 1, .inl (gI g, 40, .inl (cc 1))), (rr 2, .inl (gI g, 40, .inl (cc 2))), (rr 3, .inl (gI g, 40, .inl (cc 3)))] [.ref s0, .int (nI k), .int (nI i), .int v] none [(s0, .inr (3, [.ref s1, .ref s2, .ref s3, .ref s4])), (s1, .inl (gZ g, 4, .inl (fun z9 => nI (bN (fil z9))))), (s2, .inl (gI g, 4, .inl (fun z9 => nI (srt z9)))), (s3, .inl (gI g, 4, .inl (fun z9 => nI (len z9)))), (s4, .inl (gA g, 4, .inr (.inr (.inr (.inr (fun i => if i < 4 then some (rr i) else none)))))), (rr 0, .inl (gI g, 40, .inl ((upr cc k (upd (cc k) i (cutV (srt k) v))) 0))), (rr 1, .inl (gI g, 40, .inl ((upr cc k (upd (cc k) i (cutV (srt k) v))) 1))), (rr 2, .inl (gI g, 40, .inl ((upr cc k (upd (cc k) i (cutV (srt k) v))) 2))), (rr 3, .inl (gI g, 40, .inl ((upr cc k (upd (cc k) i (cutV (srt k) v))) 3)))] := by
  refine Ct.ofV RX3 rfl (by decide +kernel) rfl rfl rfl (Nat.le_of_ble_eq_true rfl) (List.forall_mem_cons.mpr ⟨rfl, (List.forall_mem_cons.mpr ⟨rfl, (List.forall_mem_cons.mpr ⟨rfl, (List.forall_mem_cons.mpr ⟨rfl, (fun _ h9 => absurd h9 List.not_mem_nil)⟩)⟩)⟩)⟩) (fun x h hr => ?_)
  show vM x 0 [some (.ref s0), some (.int (nI k)), some (.int (nI i)), some (.int v)] [] [(s0, .inr (3, [.ref s1, .ref s2, .ref s3, .ref s4])), (s1, .inl (gZ g, 4, .inl (fun z9 => nI (bN (fil z9))))), (s2, .inl (gI g, 4, .inl (fun z9 => nI (srt z9)))), (s3, .inl (gI g, 4, .inl (fun z9 => nI (len z9)))), (s4, .inl (gA g, 4, .inr (.inr (.inr (.inr (fun i => if i < 4 then some (rr i) else none)))))), (rr 0, .inl (gI g, 40, .inl (cc 0))), (rr 1, .inl (gI g, 40, .inl (cc 1))), (rr 2, .inl (gI g, 40, .inl (cc 2))), (rr 3, .inl (gI g, 40, .inl (cc 3)))]
  refine v_aload_n0 h dX3_setCell_0 ?_
  refine v_iload_n1 h dX3_setCell_1 ?_
  refine v_iload_n2 h dX3_setCell_2 ?_
  refine v_iconst h (v := nI 1) dX3_setCell_3 (by decide) ?_
  refine cw_V_0_1_2_3_4_5_6_7_8_3_i (ci := 3) h (c_X3_hasCells (g := g) (by first | assumption | omega)) lk_X3_38 ⟨rfl, rfl, (Nat.le_of_ble_eq_true rfl), (Nat.le_of_ble_eq_true rfl)⟩ rfl rfl rfl (Nat.le_of_ble_eq_true rfl) dX3_setCell_4 ?_
  refine v_if_eqB h dX3_setCell_7 (tgt := 28) (by decide) (fun c7 => ?_) (fun c7 => ?_)
  · rw [hfk, hcB_N hlk (by omega)] at c7; cases c7
  · refine v_aload_n0 h dX3_setCell_10 ?_
    refine v_get h mw_X3 0 rfl rfl 3 (by decide) mf_X3_24 rfl dX3_setCell_11 ?_
    refine v_iload_n1 h dX3_setCell_14 ?_
    refine v_rowref h (by omega) dX3_setCell_15 ?_
    refine v_iload_n2 h dX3_setCell_16 ?_
    refine v_aload_n0 h dX3_setCell_17 ?_
    refine v_get h mw_X3 0 rfl rfl 1 (by decide) mf_X3_15 rfl dX3_setCell_18 ?_
    refine v_iload_n1 h dX3_setCell_21 ?_
    refine v_ialdN h 2 rfl (by omega) (Nat.le_of_ble_eq_true rfl) dX3_setCell_22 ?_
    refine v_iload_n3 h dX3_setCell_23 ?_
    refine cw_S_e_2_i h (c_X3_cut (g := g) (by first | assumption | omega)) lk_X3_42 ⟨rfl, rfl, (Nat.le_of_ble_eq_true rfl), (Nat.le_of_ble_eq_true rfl)⟩ (Nat.le_of_ble_eq_true rfl) dX3_setCell_24 ?_
    refine v_rowst h (by omega) (by omega) dX3_setCell_27 ?_
    exact v_vret h hr dX3_setCell_28 rfl
set_option maxRecDepth 20000 in
set_option maxHeartbeats 2000000 in
theorem c_X3_renew {g : vG} {s0 s1 s2 s3 s4 : Nat} {rr : Nat → Nat} {fil : Nat → Bool} {srt : Nat → Nat} {len : Nat → Nat} {cc : Nat → Nat → Int32} {k : Nat} {r : Nat} {n : Nat} (hk : k < 4) (hn : n ≤ 40) : Ct g yX3_renew cX3_renew 5 none (rmOf 1 21) [(s0, .inr (3, [.ref s1, .ref s2, .ref s3, .ref s4])), (s1, .inl (gZ g, 4, .inl (fun z9 => nI (bN (fil z9))))), (s2, .inl (gI g, 4, .inl (fun z9 => nI (srt z9)))), (s3, .inl (gI g, 4, .inl (fun z9 => nI (len z9)))), (s4, .inl (gA g, 4, .inr (.inr (.inr (.inr (fun i => if i < 4 then some (rr i) else none)))))), (rr 0, .inl (gI g, 40, .inl (cc 0))), (rr 1, .inl (gI g, 40, .inl (cc 1))), (rr 2, .inl (gI g, 40, .inl (cc 2))), (rr 3, .inl (gI g, 40, .inl (cc 3)))] [.ref s0, .int (nI k), .int (nI r), .int (nI n)] none [(s0, .inr (3, [.ref s1, .ref s2, .ref s3, .ref s4])), (s1, .inl (gZ g, 4, .inl (fun z9 => nI (bN ((upB fil k true) z9))))), (s2, .inl (gI g, 4, .inl (fun z9 => nI ((up srt k r) z9)))), (s3, .inl (gI g, 4, .inl (fun z9 => nI ((up len k n) z9)))), (s4, .inl (gA g, 4, .inr (.inr (.inr (.inr (fun i => if i < 4 then some (rr i) else none)))))), (rr 0, .inl (gI g, 40, .inl ((rnw cc k n) 0))), (rr 1, .inl (gI g, 40, .inl ((rnw cc k n) 1))), (rr 2, .inl (gI g, 40, .inl ((rnw cc k n) 2))), (rr 3, .inl (gI g, 40, .inl ((rnw cc k n) 3)))] := by
  refine Ct.ofV RX3 rfl (by decide +kernel) rfl rfl rfl (Nat.le_of_ble_eq_true rfl) (List.forall_mem_cons.mpr ⟨rfl, (List.forall_mem_cons.mpr ⟨rfl, (List.forall_mem_cons.mpr ⟨rfl, (List.forall_mem_cons.mpr ⟨rfl, (fun _ h9 => absurd h9 List.not_mem_nil)⟩)⟩)⟩)⟩) (fun x h hr => ?_)
  show vM x 0 [some (.ref s0), some (.int (nI k)), some (.int (nI r)), some (.int (nI n)), none] [] [(s0, .inr (3, [.ref s1, .ref s2, .ref s3, .ref s4])), (s1, .inl (gZ g, 4, .inl (fun z9 => nI (bN (fil z9))))), (s2, .inl (gI g, 4, .inl (fun z9 => nI (srt z9)))), (s3, .inl (gI g, 4, .inl (fun z9 => nI (len z9)))), (s4, .inl (gA g, 4, .inr (.inr (.inr (.inr (fun i => if i < 4 then some (rr i) else none)))))), (rr 0, .inl (gI g, 40, .inl (cc 0))), (rr 1, .inl (gI g, 40, .inl (cc 1))), (rr 2, .inl (gI g, 40, .inl (cc 2))), (rr 3, .inl (gI g, 40, .inl (cc 3)))]
  refine v_aload_n0 h dX3_renew_0 ?_
  refine v_iload_n1 h dX3_renew_1 ?_
  refine cw_V_0_1_2_3_4_5_6_7_8_1_i (ci := 3) h (c_X3_has (g := g)) lk_X3_27 ⟨rfl, rfl, (Nat.le_of_ble_eq_true rfl), (Nat.le_of_ble_eq_true rfl)⟩ rfl rfl rfl (Nat.le_of_ble_eq_true rfl) dX3_renew_2 ?_
  refine v_if_eqB h dX3_renew_5 (tgt := 18) (by decide) (fun c5 => ?_) (fun c5 => ?_)
  · exact inR_no hk (by decide) c5
  · refine v_iload_n3 h dX3_renew_8 ?_
    refine v_if_ltN h dX3_renew_9 (by omega) (tgt := 18) (by decide) ?_
    refine v_iload_n3 h dX3_renew_12 ?_
    refine v_bipush h (v := nI 40) dX3_renew_13 (by decide) ?_
    refine v_icmp_leN h dX3_renew_15 (tgt := 19) (by decide) (by omega) (by omega) (fun c15 => ?_) (fun c15 => ?_)
    · refine v_aload_n0 h dX3_renew_19 ?_
      refine v_get h mw_X3 0 rfl rfl 0 (by decide) mf_X3_9 rfl dX3_renew_20 ?_
      refine v_iload_n1 h dX3_renew_23 ?_
      refine v_iconst h (v := nI 1) dX3_renew_24 (by decide) ?_
      refine vM.top (v := .int (nI (bN true))) rfl ?_
      refine v_zastN_at1 h (by omega) (Nat.le_of_ble_eq_true rfl) dX3_renew_25 ?_
      refine v_aload_n0 h dX3_renew_26 ?_
      refine v_get h mw_X3 0 rfl rfl 1 (by decide) mf_X3_15 rfl dX3_renew_27 ?_
      refine v_iload_n1 h dX3_renew_30 ?_
      refine v_iload_n2 h dX3_renew_31 ?_
      refine v_iastN_at2 h (by omega) (Nat.le_of_ble_eq_true rfl) dX3_renew_32 ?_
      refine v_aload_n0 h dX3_renew_33 ?_
      refine v_get h mw_X3 0 rfl rfl 2 (by decide) mf_X3_19 rfl dX3_renew_34 ?_
      refine v_iload_n1 h dX3_renew_37 ?_
      refine v_iload_n3 h dX3_renew_38 ?_
      refine v_iastN_at3 h (by omega) (Nat.le_of_ble_eq_true rfl) dX3_renew_39 ?_
      refine v_iconst h (v := nI 0) dX3_renew_40 (by decide) ?_
      refine v_istore4 h (Nat.le_of_ble_eq_true rfl) dX3_renew_41 ?_
      have L43 : ∀ (k43 : Nat) (i : Nat), n - i = k43 → (i ≤ n) → vM x 43 [some (.ref s0), some (.int (nI k)), some (.int (nI r)), some (.int (nI n)), some (.int (nI i))] [] [(s0, .inr (3, [.ref s1, .ref s2, .ref s3, .ref s4])), (s1, .inl (gZ g, 4, .inl (fun z9 => nI (bN ((upB fil k true) z9))))), (s2, .inl (gI g, 4, .inl (fun z9 => nI ((up srt k r) z9)))), (s3, .inl (gI g, 4, .inl (fun z9 => nI ((up len k n) z9)))), (s4, .inl (gA g, 4, .inr (.inr (.inr (.inr (fun i => if i < 4 then some (rr i) else none)))))), (rr 0, .inl (gI g, 40, .inl ((rnw cc k i) 0))), (rr 1, .inl (gI g, 40, .inl ((rnw cc k i) 1))), (rr 2, .inl (gI g, 40, .inl ((rnw cc k i) 2))), (rr 3, .inl (gI g, 40, .inl ((rnw cc k i) 3)))] := by
        intro k43
        induction k43 using Nat.strongRecOn with
        | _ k43 ih43 =>
          intro i hm43 hi
          refine v_iload4 h dX3_renew_43 ?_
          refine v_iload_n3 h dX3_renew_45 ?_
          refine v_icmp_geN h dX3_renew_46 (tgt := 65) (by decide) (by omega) (by omega) (fun c46 => ?_) (fun c46 => ?_)
          · have e46 : n = i := by omega
            subst e46
            exact v_vret h hr dX3_renew_65 rfl
          · refine v_aload_n0 h dX3_renew_49 ?_
            refine v_get h mw_X3 0 rfl rfl 3 (by decide) mf_X3_24 rfl dX3_renew_50 ?_
            refine v_iload_n1 h dX3_renew_53 ?_
            refine v_rowref h (by omega) dX3_renew_54 ?_
            refine v_iload4 h dX3_renew_55 ?_
            refine v_iconst h (v := nI 0) dX3_renew_57 (by decide) ?_
            refine v_rowst h (by omega) (by omega) dX3_renew_58 ?_
            refine v_iincN4 h (Nat.le_of_ble_eq_true rfl) dX3_renew_59 ?_
            refine v_goto h dX3_renew_62 (tgt := 43) (by decide) ?_
            exact vM.le rfl rfl (by rw [rnw_succ]) (vM.fg (ih43 _ (by omega) (i + 1) rfl (by first | assumption | rfl | omega)) ⟨rfl, rfl, rfl, rfl, rfl, trivial⟩)
      exact vM.le rfl rfl (by rw [rnw_0]) (vM.fg (L43 _ 0 rfl (by first | assumption | rfl | omega)) ⟨rfl, rfl, rfl, rfl, rfl, trivial⟩)
    · omega
set_option maxRecDepth 20000 in
set_option maxHeartbeats 2000000 in
theorem c_X3_empty {g : vG} {s0 s1 s2 s3 s4 : Nat} {rr : Nat → Nat} {fil : Nat → Bool} {srt : Nat → Nat} {len : Nat → Nat} {cc : Nat → Nat → Int32} {k : Nat} (hk : k < 4) : Ct g yX3_empty cX3_empty 3 (some .boolean) (rmOf 2 42) [(s0, .inr (3, [.ref s1, .ref s2, .ref s3, .ref s4])), (s1, .inl (gZ g, 4, .inl (fun z9 => nI (bN (fil z9))))), (s2, .inl (gI g, 4, .inl (fun z9 => nI (srt z9)))), (s3, .inl (gI g, 4, .inl (fun z9 => nI (len z9)))), (s4, .inl (gA g, 4, .inr (.inr (.inr (.inr (fun i => if i < 4 then some (rr i) else none)))))), (rr 0, .inl (gI g, 40, .inl (cc 0))), (rr 1, .inl (gI g, 40, .inl (cc 1))), (rr 2, .inl (gI g, 40, .inl (cc 2))), (rr 3, .inl (gI g, 40, .inl (cc 3)))] [.ref s0, .int (nI k)] (some (.int (nI (bN (fil k))))) [(s0, .inr (3, [.ref s1, .ref s2, .ref s3, .ref s4])), (s1, .inl (gZ g, 4, .inl (fun z9 => nI (bN ((upB fil k false) z9))))), (s2, .inl (gI g, 4, .inl (fun z9 => nI (srt z9)))), (s3, .inl (gI g, 4, .inl (fun z9 => nI (len z9)))), (s4, .inl (gA g, 4, .inr (.inr (.inr (.inr (fun i => if i < 4 then some (rr i) else none)))))), (rr 0, .inl (gI g, 40, .inl (cc 0))), (rr 1, .inl (gI g, 40, .inl (cc 1))), (rr 2, .inl (gI g, 40, .inl (cc 2))), (rr 3, .inl (gI g, 40, .inl (cc 3)))] := by
  refine Ct.ofV RX3 rfl (by decide +kernel) rfl rfl rfl (Nat.le_of_ble_eq_true rfl) (List.forall_mem_cons.mpr ⟨rfl, (List.forall_mem_cons.mpr ⟨rfl, (fun _ h9 => absurd h9 List.not_mem_nil)⟩)⟩) (fun x h hr => ?_)
  show vM x 0 [some (.ref s0), some (.int (nI k)), none] [] [(s0, .inr (3, [.ref s1, .ref s2, .ref s3, .ref s4])), (s1, .inl (gZ g, 4, .inl (fun z9 => nI (bN (fil z9))))), (s2, .inl (gI g, 4, .inl (fun z9 => nI (srt z9)))), (s3, .inl (gI g, 4, .inl (fun z9 => nI (len z9)))), (s4, .inl (gA g, 4, .inr (.inr (.inr (.inr (fun i => if i < 4 then some (rr i) else none)))))), (rr 0, .inl (gI g, 40, .inl (cc 0))), (rr 1, .inl (gI g, 40, .inl (cc 1))), (rr 2, .inl (gI g, 40, .inl (cc 2))), (rr 3, .inl (gI g, 40, .inl (cc 3)))]
  refine v_aload_n0 h dX3_empty_0 ?_
  refine v_iload_n1 h dX3_empty_1 ?_
  refine cw_V_0_1_2_3_4_5_6_7_8_1_i (ci := 3) h (c_X3_hasRow (g := g) (by first | assumption | omega)) lk_X3_31 ⟨rfl, rfl, (Nat.le_of_ble_eq_true rfl), (Nat.le_of_ble_eq_true rfl)⟩ rfl rfl rfl (Nat.le_of_ble_eq_true rfl) dX3_empty_2 ?_
  refine v_istore_n2 h (Nat.le_of_ble_eq_true rfl) dX3_empty_5 ?_
  refine v_iload_n2 h dX3_empty_6 ?_
  refine v_if_eqB h dX3_empty_7 (tgt := 17) (by decide) (fun c7 => ?_) (fun c7 => ?_)
  · refine v_iload_n2 h dX3_empty_17 ?_
    exact v_zret h hr dX3_empty_18 rfl (by first | rfl | rw [upB_same c7])
  · refine v_aload_n0 h dX3_empty_10 ?_
    refine v_get h mw_X3 0 rfl rfl 0 (by decide) mf_X3_9 rfl dX3_empty_11 ?_
    refine v_iload_n1 h dX3_empty_14 ?_
    refine v_iconst h (v := nI 0) dX3_empty_15 (by decide) ?_
    refine vM.top (v := .int (nI (bN false))) rfl ?_
    refine v_zastN_at1 h (by omega) (Nat.le_of_ble_eq_true rfl) dX3_empty_16 ?_
    refine v_iload_n2 h dX3_empty_17 ?_
    exact v_zret h hr dX3_empty_18 rfl (by first | rfl | rw [upB_same c7])
set_option maxRecDepth 20000 in
set_option maxHeartbeats 2000000 in
theorem c_X3_copyCells {g : vG} {s0 s1 s2 s3 s4 : Nat} {rr : Nat → Nat} {fil : Nat → Bool} {srt : Nat → Nat} {len : Nat → Nat} {cc : Nat → Nat → Int32} {k : Nat} {i : Nat} {o : Nat} {j : Nat} {n : Nat} (hk : k < 4) (ho : o < 4) (hfk : fil k = true) (hlk : len k ≤ 40) (hfo : fil o = true) (hlo : len o ≤ 40) (hi : i + n ≤ len k) (hj : j + n ≤ len o) : Ct g yX3_copyCells cX3_copyCells 6 none (rmOf 2 60) [(s0, .inr (3, [.ref s1, .ref s2, .ref s3, .ref s4])), (s1, .inl (gZ g, 4, .inl (fun z9 => nI (bN (fil z9))))), (s2, .inl (gI g, 4, .inl (fun z9 => nI (srt z9)))), (s3, .inl (gI g, 4, .inl (fun z9 => nI (len z9)))), (s4, .inl (gA g, 4, .inr (.inr (.inr (.inr (fun i => if i < 4 then some (rr i) else none)))))), (rr 0, .inl (gI g, 40, .inl (cc 0))), (rr 1, .inl (gI g, 40, .inl (cc 1))), (rr 2, .inl (gI g, 40, .inl (cc 2))), (rr 3, .inl (gI g, 40, .inl (cc 3)))] [.ref s0, .int (nI k), .int (nI i), .int (nI o), .int (nI j), .int (nI n)] none [(s0, .inr (3, [.ref s1, .ref s2, .ref s3, .ref s4])), (s1, .inl (gZ g, 4, .inl (fun z9 => nI (bN (fil z9))))), (s2, .inl (gI g, 4, .inl (fun z9 => nI (srt z9)))), (s3, .inl (gI g, 4, .inl (fun z9 => nI (len z9)))), (s4, .inl (gA g, 4, .inr (.inr (.inr (.inr (fun i => if i < 4 then some (rr i) else none)))))), (rr 0, .inl (gI g, 40, .inl ((upr cc o (va_cpy (cc k) (cc o) i j n)) 0))), (rr 1, .inl (gI g, 40, .inl ((upr cc o (va_cpy (cc k) (cc o) i j n)) 1))), (rr 2, .inl (gI g, 40, .inl ((upr cc o (va_cpy (cc k) (cc o) i j n)) 2))), (rr 3, .inl (gI g, 40, .inl ((upr cc o (va_cpy (cc k) (cc o) i j n)) 3)))] := by
  refine Ct.ofV RX3 rfl (by decide +kernel) rfl rfl rfl (Nat.le_of_ble_eq_true rfl) (List.forall_mem_cons.mpr ⟨rfl, (List.forall_mem_cons.mpr ⟨rfl, (List.forall_mem_cons.mpr ⟨rfl, (List.forall_mem_cons.mpr ⟨rfl, (List.forall_mem_cons.mpr ⟨rfl, (List.forall_mem_cons.mpr ⟨rfl, (fun _ h9 => absurd h9 List.not_mem_nil)⟩)⟩)⟩)⟩)⟩)⟩) (fun x h hr => ?_)
  show vM x 0 [some (.ref s0), some (.int (nI k)), some (.int (nI i)), some (.int (nI o)), some (.int (nI j)), some (.int (nI n))] [] [(s0, .inr (3, [.ref s1, .ref s2, .ref s3, .ref s4])), (s1, .inl (gZ g, 4, .inl (fun z9 => nI (bN (fil z9))))), (s2, .inl (gI g, 4, .inl (fun z9 => nI (srt z9)))), (s3, .inl (gI g, 4, .inl (fun z9 => nI (len z9)))), (s4, .inl (gA g, 4, .inr (.inr (.inr (.inr (fun i => if i < 4 then some (rr i) else none)))))), (rr 0, .inl (gI g, 40, .inl (cc 0))), (rr 1, .inl (gI g, 40, .inl (cc 1))), (rr 2, .inl (gI g, 40, .inl (cc 2))), (rr 3, .inl (gI g, 40, .inl (cc 3)))]
  refine v_aload_n0 h dX3_copyCells_0 ?_
  refine v_iload_n1 h dX3_copyCells_1 ?_
  refine v_iload_n2 h dX3_copyCells_2 ?_
  refine v_iload5 h dX3_copyCells_3 ?_
  refine cw_V_0_1_2_3_4_5_6_7_8_3_i (ci := 3) h (c_X3_hasCells (g := g) (by first | assumption | omega)) lk_X3_38 ⟨rfl, rfl, (Nat.le_of_ble_eq_true rfl), (Nat.le_of_ble_eq_true rfl)⟩ rfl rfl rfl (Nat.le_of_ble_eq_true rfl) dX3_copyCells_5 ?_
  refine v_if_eqB h dX3_copyCells_8 (tgt := 43) (by decide) (fun c8 => ?_) (fun c8 => ?_)
  · rw [hfk, hcB_N hlk (by omega)] at c8; cases c8
  · refine v_aload_n0 h dX3_copyCells_11 ?_
    refine v_iload_n3 h dX3_copyCells_12 ?_
    refine v_iload4 h dX3_copyCells_13 ?_
    refine v_iload5 h dX3_copyCells_15 ?_
    refine cw_V_0_1_2_3_4_5_6_7_8_3_i (ci := 3) h (c_X3_hasCells (g := g) (by first | assumption | omega)) lk_X3_38 ⟨rfl, rfl, (Nat.le_of_ble_eq_true rfl), (Nat.le_of_ble_eq_true rfl)⟩ rfl rfl rfl (Nat.le_of_ble_eq_true rfl) dX3_copyCells_17 ?_
    refine v_if_eqB h dX3_copyCells_20 (tgt := 43) (by decide) (fun c20 => ?_) (fun c20 => ?_)
    · rw [hfo, hcB_N hlo (by omega)] at c20; cases c20
    · refine v_aload_n0 h dX3_copyCells_23 ?_
      refine v_get h mw_X3 0 rfl rfl 3 (by decide) mf_X3_24 rfl dX3_copyCells_24 ?_
      refine v_iload_n1 h dX3_copyCells_27 ?_
      refine v_rowref h (by omega) dX3_copyCells_28 ?_
      refine v_iload_n2 h dX3_copyCells_29 ?_
      refine v_aload_n0 h dX3_copyCells_30 ?_
      refine v_get h mw_X3 0 rfl rfl 3 (by decide) mf_X3_24 rfl dX3_copyCells_31 ?_
      refine v_iload_n3 h dX3_copyCells_34 ?_
      refine v_rowref h (by omega) dX3_copyCells_35 ?_
      refine v_iload4 h dX3_copyCells_36 ?_
      refine v_iload5 h dX3_copyCells_38 ?_
      refine v_rowcpy h (by omega) (by omega) (by omega) (by omega) (Nat.le_of_ble_eq_true rfl) (Nat.le_of_ble_eq_true rfl) dX3_copyCells_40 ?_
      exact v_vret h hr dX3_copyCells_43 rfl
set_option maxRecDepth 20000 in
set_option maxHeartbeats 2000000 in
theorem c_X1_greatestUntold {g : vG} {h0 h1 h2 : Nat} {hn : Nat} {kd : Nat → Nat} {pt : Nat → Nat} {j : Nat} {v : Nat} (hH : wfH hn kd pt) (hj : j < hn) (hv1 : 1 ≤ v) (hv : v ≤ 99999) : Ct g yX1_greatestUntold cX1_greatestUntold 4 (some .int) (rmOf 2 42) [(h0, .inr (1, [.int (nI hn), .ref h1, .ref h2])), (h1, .inl (gI g, 6, .inl (fun z9 => nI (kd z9)))), (h2, .inl (gI g, 6, .inl (fun z9 => nI (pt z9))))] [.ref h0, .int (nI j), .int (nI v)] (some (.int (nI (grtN (kd j) (pt j) v)))) [(h0, .inr (1, [.int (nI hn), .ref h1, .ref h2])), (h1, .inl (gI g, 6, .inl (fun z9 => nI (kd z9)))), (h2, .inl (gI g, 6, .inl (fun z9 => nI (pt z9))))] := by
  refine Ct.ofV RX1 rfl (by decide +kernel) rfl rfl rfl (Nat.le_of_ble_eq_true rfl) (List.forall_mem_cons.mpr ⟨rfl, (List.forall_mem_cons.mpr ⟨rfl, (List.forall_mem_cons.mpr ⟨rfl, (fun _ h9 => absurd h9 List.not_mem_nil)⟩)⟩)⟩) (fun x h hr => ?_)
  show vM x 0 [some (.ref h0), some (.int (nI j)), some (.int (nI v)), none] [] [(h0, .inr (1, [.int (nI hn), .ref h1, .ref h2])), (h1, .inl (gI g, 6, .inl (fun z9 => nI (kd z9)))), (h2, .inl (gI g, 6, .inl (fun z9 => nI (pt z9))))]
  have hh1 := hH.1; have hh2 := hH.2.1; have hh3 := hH.2.2.1; have hh4 := hH.2.2.2; have ht8 := times_pos (k := kd j) (hh4 j hj); have ht9 := times_le (k := kd j) (hh3 j)
  refine v_aload_n0 h dX1_greatestUntold_0 ?_
  refine v_iload_n1 h dX1_greatestUntold_1 ?_
  refine cw_V_0_1_2_1_i (ci := 1) h (c_X1_timesOf (g := g) (by first | assumption | omega) (by first | assumption | omega)) lk_X1_26 ⟨rfl, rfl, (Nat.le_of_ble_eq_true rfl), (Nat.le_of_ble_eq_true rfl)⟩ rfl rfl rfl (Nat.le_of_ble_eq_true rfl) dX1_greatestUntold_2 ?_
  refine v_istore_n3 h (Nat.le_of_ble_eq_true rfl) dX1_greatestUntold_5 ?_
  refine v_iload_n3 h dX1_greatestUntold_6 ?_
  refine v_iconst h (v := nI 1) dX1_greatestUntold_7 (by decide) ?_
  refine v_icmp_geN h dX1_greatestUntold_8 (tgt := 13) (by decide) (by first | omega | (have := hh2 j; omega)) (by first | omega | (have := hh2 j; omega)) (fun c8 => ?_) (fun c8 => ?_)
  · refine v_iload_n2 h dX1_greatestUntold_13 ?_
    refine v_aload_n0 h dX1_greatestUntold_14 ?_
    refine v_iload_n1 h dX1_greatestUntold_15 ?_
    refine cw_V_0_1_2_1_i (ci := 1) h (c_X1_kindOf (g := g) (by first | assumption | omega) (by first | assumption | omega)) lk_X1_30 ⟨rfl, rfl, (Nat.le_of_ble_eq_true rfl), (Nat.le_of_ble_eq_true rfl)⟩ rfl rfl rfl (Nat.le_of_ble_eq_true rfl) dX1_greatestUntold_16 ?_
    refine v_iconst h (v := nI 2) dX1_greatestUntold_19 (by decide) ?_
    refine v_icmp_neN h dX1_greatestUntold_20 (tgt := 29) (by decide) (by first | omega | (have := hh2 j; omega)) (by first | omega | (have := hh2 j; omega)) (fun c20 => ?_) (fun c20 => ?_)
    · refine v_iload_n2 h dX1_greatestUntold_29 ?_
      refine v_iload_n3 h dX1_greatestUntold_30 ?_
      refine v_idivN h dX1_greatestUntold_31 (by omega) (by omega) (by omega) ?_
      refine v_iaddN h dX1_greatestUntold_32 ?_
      exact v_iret h hr dX1_greatestUntold_33 (by first | rw [grtN, if_pos (by omega)] | rw [grtN, if_neg (by omega)]) rfl
    · refine v_iload_n2 h dX1_greatestUntold_23 ?_
      refine v_iconst h (v := nI 1) dX1_greatestUntold_24 (by decide) ?_
      refine v_isubN h dX1_greatestUntold_25 (by omega) ?_
      refine v_goto h dX1_greatestUntold_26 (tgt := 30) (by decide) ?_
      refine v_iload_n3 h dX1_greatestUntold_30 ?_
      refine v_idivN h dX1_greatestUntold_31 (by omega) (by omega) (by omega) ?_
      refine v_iaddN h dX1_greatestUntold_32 ?_
      exact v_iret h hr dX1_greatestUntold_33 (by first | rw [grtN, if_pos (by omega)] | rw [grtN, if_neg (by omega)]) rfl
  · omega
set_option maxRecDepth 20000 in
set_option maxHeartbeats 2000000 in
theorem c_X1_leastUntold {g : vG} {h0 h1 h2 : Nat} {hn : Nat} {kd : Nat → Nat} {pt : Nat → Nat} {j : Nat} {v : Nat} (hH : wfH hn kd pt) (hj : j < hn) (hv1 : 1 ≤ v) (hv : v ≤ 99999) : Ct g yX1_leastUntold cX1_leastUntold 5 (some .int) (rmOf 2 42) [(h0, .inr (1, [.int (nI hn), .ref h1, .ref h2])), (h1, .inl (gI g, 6, .inl (fun z9 => nI (kd z9)))), (h2, .inl (gI g, 6, .inl (fun z9 => nI (pt z9))))] [.ref h0, .int (nI j), .int (nI v)] (some (.int (nI (leaN (kd j) (pt j) v)))) [(h0, .inr (1, [.int (nI hn), .ref h1, .ref h2])), (h1, .inl (gI g, 6, .inl (fun z9 => nI (kd z9)))), (h2, .inl (gI g, 6, .inl (fun z9 => nI (pt z9))))] := by
  refine Ct.ofV RX1 rfl (by decide +kernel) rfl rfl rfl (Nat.le_of_ble_eq_true rfl) (List.forall_mem_cons.mpr ⟨rfl, (List.forall_mem_cons.mpr ⟨rfl, (List.forall_mem_cons.mpr ⟨rfl, (fun _ h9 => absurd h9 List.not_mem_nil)⟩)⟩)⟩) (fun x h hr => ?_)
  show vM x 0 [some (.ref h0), some (.int (nI j)), some (.int (nI v)), none, none] [] [(h0, .inr (1, [.int (nI hn), .ref h1, .ref h2])), (h1, .inl (gI g, 6, .inl (fun z9 => nI (kd z9)))), (h2, .inl (gI g, 6, .inl (fun z9 => nI (pt z9))))]
  have hh1 := hH.1; have hh2 := hH.2.1; have hh3 := hH.2.2.1; have hh4 := hH.2.2.2; have ht8 := times_pos (k := kd j) (hh4 j hj); have ht9 := times_le (k := kd j) (hh3 j)
  refine v_aload_n0 h dX1_leastUntold_0 ?_
  refine v_iload_n1 h dX1_leastUntold_1 ?_
  refine cw_V_0_1_2_1_i (ci := 1) h (c_X1_timesOf (g := g) (by first | assumption | omega) (by first | assumption | omega)) lk_X1_26 ⟨rfl, rfl, (Nat.le_of_ble_eq_true rfl), (Nat.le_of_ble_eq_true rfl)⟩ rfl rfl rfl (Nat.le_of_ble_eq_true rfl) dX1_leastUntold_2 ?_
  refine v_istore_n3 h (Nat.le_of_ble_eq_true rfl) dX1_leastUntold_5 ?_
  refine v_iload_n3 h dX1_leastUntold_6 ?_
  refine v_iconst h (v := nI 1) dX1_leastUntold_7 (by decide) ?_
  refine v_icmp_geN h dX1_leastUntold_8 (tgt := 13) (by decide) (by first | omega | (have := hh2 j; omega)) (by first | omega | (have := hh2 j; omega)) (fun c8 => ?_) (fun c8 => ?_)
  · refine v_iload_n2 h dX1_leastUntold_13 ?_
    refine v_iload_n3 h dX1_leastUntold_14 ?_
    refine v_imulN h dX1_leastUntold_15 ?_
    refine v_istore4 h (Nat.le_of_ble_eq_true rfl) dX1_leastUntold_16 ?_
    refine v_aload_n0 h dX1_leastUntold_18 ?_
    refine v_iload_n1 h dX1_leastUntold_19 ?_
    refine cw_V_0_1_2_1_i (ci := 1) h (c_X1_kindOf (g := g) (by first | assumption | omega) (by first | assumption | omega)) lk_X1_30 ⟨rfl, rfl, (Nat.le_of_ble_eq_true rfl), (Nat.le_of_ble_eq_true rfl)⟩ rfl rfl rfl (Nat.le_of_ble_eq_true rfl) dX1_leastUntold_20 ?_
    refine v_iconst h (v := nI 2) dX1_leastUntold_23 (by decide) ?_
    refine v_icmp_neN h dX1_leastUntold_24 (tgt := 38) (by decide) (by first | omega | (have := hh2 j; omega)) (by first | omega | (have := hh2 j; omega)) (fun c24 => ?_) (fun c24 => ?_)
    · refine v_iload4 h dX1_leastUntold_38 ?_
      refine v_iload_n3 h dX1_leastUntold_40 ?_
      refine v_iaddN h dX1_leastUntold_41 ?_
      refine v_iload_n3 h dX1_leastUntold_42 ?_
      refine v_iconst h (v := nI 1) dX1_leastUntold_43 (by decide) ?_
      refine v_iaddN h dX1_leastUntold_44 ?_
      refine v_idivN h dX1_leastUntold_45 (by have := Nat.mul_le_mul hv ht9; omega) (by omega) (by omega) ?_
      exact v_iret h hr dX1_leastUntold_46 (by first | rw [leaN, if_pos (by omega)] | rw [leaN, if_neg (by omega)]) rfl
    · refine v_iload4 h dX1_leastUntold_27 ?_
      refine v_iload_n3 h dX1_leastUntold_29 ?_
      refine v_iconst h (v := nI 1) dX1_leastUntold_30 (by decide) ?_
      refine v_iaddN h dX1_leastUntold_31 ?_
      refine v_idivN h dX1_leastUntold_32 (by exact mulb hv (by omega)) (by omega) (by omega) ?_
      refine v_iconst h (v := nI 1) dX1_leastUntold_33 (by decide) ?_
      refine v_iaddN h dX1_leastUntold_34 ?_
      refine v_goto h dX1_leastUntold_35 (tgt := 46) (by decide) ?_
      exact v_iret h hr dX1_leastUntold_46 (by first | rw [leaN, if_pos (by omega)] | rw [leaN, if_neg (by omega)]) rfl
  · omega
set_option maxRecDepth 20000 in
set_option maxHeartbeats 2000000 in
theorem c_X0_clear {g : vG} {r0 r1 r2 : Nat} {rc : Nat} {rw : Nat → Nat} {rb : Nat → Nat} : Ct g yX0_clear cX0_clear 1 none (rmOf 0 0) [(r0, .inr (0, [.int (nI rc), .ref r1, .ref r2])), (r1, .inl (gI g, 5, .inl (fun z9 => nI (rw z9)))), (r2, .inl (gI g, 5, .inl (fun z9 => nI (rb z9))))] [.ref r0] none [(r0, .inr (0, [.int (nI 0), .ref r1, .ref r2])), (r1, .inl (gI g, 5, .inl (fun z9 => nI (rw z9)))), (r2, .inl (gI g, 5, .inl (fun z9 => nI (rb z9))))] := by
  refine Ct.ofV RX0 rfl (by decide +kernel) rfl rfl rfl (Nat.le_of_ble_eq_true rfl) (List.forall_mem_cons.mpr ⟨rfl, (fun _ h9 => absurd h9 List.not_mem_nil)⟩) (fun x h hr => ?_)
  show vM x 0 [some (.ref r0)] [] [(r0, .inr (0, [.int (nI rc), .ref r1, .ref r2])), (r1, .inl (gI g, 5, .inl (fun z9 => nI (rw z9)))), (r2, .inl (gI g, 5, .inl (fun z9 => nI (rb z9))))]
  refine v_aload_n0 h dX0_clear_0 ?_
  refine v_iconst h (v := nI 0) dX0_clear_1 (by decide) ?_
  refine pf_X0_9_at0 h dX0_clear_2 ?_
  exact v_vret h hr dX0_clear_5 rfl
set_option maxRecDepth 20000 in
set_option maxHeartbeats 2000000 in
theorem c_X0_add {g : vG} {r0 r1 r2 : Nat} {rc : Nat} {rw : Nat → Nat} {rb : Nat → Nat} {v : Nat} (hrc : rc < 5) : Ct g yX0_add cX0_add 2 none (rmOf 0 0) [(r0, .inr (0, [.int (nI rc), .ref r1, .ref r2])), (r1, .inl (gI g, 5, .inl (fun z9 => nI (rw z9)))), (r2, .inl (gI g, 5, .inl (fun z9 => nI (rb z9))))] [.ref r0, .int (nI v)] none [(r0, .inr (0, [.int (nI (rc + 1)), .ref r1, .ref r2])), (r1, .inl (gI g, 5, .inl (fun z9 => nI ((up rw rc v) z9)))), (r2, .inl (gI g, 5, .inl (fun z9 => nI (rb z9))))] := by
  refine Ct.ofV RX0 rfl (by decide +kernel) rfl rfl rfl (Nat.le_of_ble_eq_true rfl) (List.forall_mem_cons.mpr ⟨rfl, (List.forall_mem_cons.mpr ⟨rfl, (fun _ h9 => absurd h9 List.not_mem_nil)⟩)⟩) (fun x h hr => ?_)
  show vM x 0 [some (.ref r0), some (.int (nI v))] [] [(r0, .inr (0, [.int (nI rc), .ref r1, .ref r2])), (r1, .inl (gI g, 5, .inl (fun z9 => nI (rw z9)))), (r2, .inl (gI g, 5, .inl (fun z9 => nI (rb z9))))]
  refine v_aload_n0 h dX0_add_0 ?_
  refine v_get h mw_X0 0 rfl rfl 0 (by decide) mf_X0_9 rfl dX0_add_1 ?_
  refine v_iconst h (v := nI 5) dX0_add_4 (by decide) ?_
  refine v_icmp_geN h dX0_add_5 (tgt := 28) (by decide) (by omega) (by omega) (fun c5 => ?_) (fun c5 => ?_)
  · omega
  · refine v_aload_n0 h dX0_add_8 ?_
    refine v_get h mw_X0 0 rfl rfl 1 (by decide) mf_X0_15 rfl dX0_add_9 ?_
    refine v_aload_n0 h dX0_add_12 ?_
    refine v_get h mw_X0 0 rfl rfl 0 (by decide) mf_X0_9 rfl dX0_add_13 ?_
    refine v_iload_n1 h dX0_add_16 ?_
    refine v_iastN_at1 h (by omega) (Nat.le_of_ble_eq_true rfl) dX0_add_17 ?_
    refine v_aload_n0 h dX0_add_18 ?_
    refine v_dup h dX0_add_19 rfl ?_
    refine v_get h mw_X0 0 rfl rfl 0 (by decide) mf_X0_9 rfl dX0_add_20 ?_
    refine v_iconst h (v := nI 1) dX0_add_23 (by decide) ?_
    refine v_iaddN h dX0_add_24 ?_
    refine pf_X0_9_at0 h dX0_add_25 ?_
    exact v_vret h hr dX0_add_28 rfl
set_option maxRecDepth 20000 in
set_option maxHeartbeats 2000000 in
theorem c_X0_has {g : vG} {r0 r1 r2 : Nat} {rc : Nat} {rw : Nat → Nat} {rb : Nat → Nat} {p : Int32} (hrc : rc ≤ 5) : Ct g yX0_has cX0_has 2 (some .boolean) (rmOf 0 0) [(r0, .inr (0, [.int (nI rc), .ref r1, .ref r2])), (r1, .inl (gI g, 5, .inl (fun z9 => nI (rw z9)))), (r2, .inl (gI g, 5, .inl (fun z9 => nI (rb z9))))] [.ref r0, .int p] (some (.int (nI (bN (inR p rc))))) [(r0, .inr (0, [.int (nI rc), .ref r1, .ref r2])), (r1, .inl (gI g, 5, .inl (fun z9 => nI (rw z9)))), (r2, .inl (gI g, 5, .inl (fun z9 => nI (rb z9))))] := by
  refine Ct.ofV RX0 rfl (by decide +kernel) rfl rfl rfl (Nat.le_of_ble_eq_true rfl) (List.forall_mem_cons.mpr ⟨rfl, (List.forall_mem_cons.mpr ⟨rfl, (fun _ h9 => absurd h9 List.not_mem_nil)⟩)⟩) (fun x h hr => ?_)
  show vM x 0 [some (.ref r0), some (.int p)] [] [(r0, .inr (0, [.int (nI rc), .ref r1, .ref r2])), (r1, .inl (gI g, 5, .inl (fun z9 => nI (rw z9)))), (r2, .inl (gI g, 5, .inl (fun z9 => nI (rb z9))))]
  refine v_iload_n1 h dX0_has_0 ?_
  refine v_if_lt h dX0_has_1 (tgt := 21) (by decide) (fun c1 => ?_) (fun c1 => ?_)
  · refine v_iconst h (v := nI 0) dX0_has_21 (by decide) ?_
    exact v_zret (v := false) h hr dX0_has_22 (by first | exact (inR_f0 c1).symm | exact (inR_f1 c9).symm | exact (inR_t c1 c9).symm) rfl
  · refine v_iload_n1 h dX0_has_4 ?_
    refine v_aload_n0 h dX0_has_5 ?_
    refine v_get h mw_X0 0 rfl rfl 0 (by decide) mf_X0_9 rfl dX0_has_6 ?_
    refine v_icmp_ge h dX0_has_9 (tgt := 21) (by decide) (fun c9 => ?_) (fun c9 => ?_)
    · refine v_iconst h (v := nI 0) dX0_has_21 (by decide) ?_
      exact v_zret (v := false) h hr dX0_has_22 (by first | exact (inR_f0 c1).symm | exact (inR_f1 c9).symm | exact (inR_t c1 c9).symm) rfl
    · refine v_iload_n1 h dX0_has_12 ?_
      refine v_iconst h (v := nI 5) dX0_has_13 (by decide) ?_
      refine v_icmp_ge h dX0_has_14 (tgt := 21) (by decide) (fun c14 => ?_) (fun c14 => ?_)
      · exact inR_big hrc (by decide) c9 c14
      · refine v_iconst h (v := nI 1) dX0_has_17 (by decide) ?_
        refine v_goto h dX0_has_18 (tgt := 22) (by decide) ?_
        exact v_zret (v := true) h hr dX0_has_22 (by first | exact (inR_f0 c1).symm | exact (inR_f1 c9).symm | exact (inR_t c1 c9).symm) rfl
set_option maxRecDepth 20000 in
set_option maxHeartbeats 2000000 in
theorem c_X0_inRow {g : vG} {r0 r1 r2 : Nat} {rc : Nat} {rw : Nat → Nat} {rb : Nat → Nat} {j : Nat} (hrc : rc ≤ 5) (hj : j < rc) : Ct g yX0_inRow cX0_inRow 2 (some .int) (rmOf 1 21) [(r0, .inr (0, [.int (nI rc), .ref r1, .ref r2])), (r1, .inl (gI g, 5, .inl (fun z9 => nI (rw z9)))), (r2, .inl (gI g, 5, .inl (fun z9 => nI (rb z9))))] [.ref r0, .int (nI j)] (some (.int (nI (rw j)))) [(r0, .inr (0, [.int (nI rc), .ref r1, .ref r2])), (r1, .inl (gI g, 5, .inl (fun z9 => nI (rw z9)))), (r2, .inl (gI g, 5, .inl (fun z9 => nI (rb z9))))] := by
  refine Ct.ofV RX0 rfl (by decide +kernel) rfl rfl rfl (Nat.le_of_ble_eq_true rfl) (List.forall_mem_cons.mpr ⟨rfl, (List.forall_mem_cons.mpr ⟨rfl, (fun _ h9 => absurd h9 List.not_mem_nil)⟩)⟩) (fun x h hr => ?_)
  show vM x 0 [some (.ref r0), some (.int (nI j))] [] [(r0, .inr (0, [.int (nI rc), .ref r1, .ref r2])), (r1, .inl (gI g, 5, .inl (fun z9 => nI (rw z9)))), (r2, .inl (gI g, 5, .inl (fun z9 => nI (rb z9))))]
  refine v_aload_n0 h dX0_inRow_0 ?_
  refine v_iload_n1 h dX0_inRow_1 ?_
  refine cw_V_0_1_2_1_i (ci := 0) h (c_X0_has (g := g) (by first | assumption | omega)) lk_X0_22 ⟨rfl, rfl, (Nat.le_of_ble_eq_true rfl), (Nat.le_of_ble_eq_true rfl)⟩ rfl rfl rfl (Nat.le_of_ble_eq_true rfl) dX0_inRow_2 ?_
  refine v_if_eqB h dX0_inRow_5 (tgt := 17) (by decide) (fun c5 => ?_) (fun c5 => ?_)
  · exact inR_no hj (by omega) c5
  · refine v_aload_n0 h dX0_inRow_8 ?_
    refine v_get h mw_X0 0 rfl rfl 1 (by decide) mf_X0_15 rfl dX0_inRow_9 ?_
    refine v_iload_n1 h dX0_inRow_12 ?_
    refine v_ialdN h 1 rfl (by omega) (Nat.le_of_ble_eq_true rfl) dX0_inRow_13 ?_
    refine v_goto h dX0_inRow_14 (tgt := 18) (by decide) ?_
    exact v_iret h hr dX0_inRow_18 rfl rfl
set_option maxRecDepth 20000 in
set_option maxHeartbeats 2000000 in
theorem c_X0_inBest {g : vG} {r0 r1 r2 : Nat} {rc : Nat} {rw : Nat → Nat} {rb : Nat → Nat} {q : Nat} (hrc : rc ≤ 5) (hq : q < rc) : Ct g yX0_inBest cX0_inBest 2 (some .int) (rmOf 1 21) [(r0, .inr (0, [.int (nI rc), .ref r1, .ref r2])), (r1, .inl (gI g, 5, .inl (fun z9 => nI (rw z9)))), (r2, .inl (gI g, 5, .inl (fun z9 => nI (rb z9))))] [.ref r0, .int (nI q)] (some (.int (nI (rb q)))) [(r0, .inr (0, [.int (nI rc), .ref r1, .ref r2])), (r1, .inl (gI g, 5, .inl (fun z9 => nI (rw z9)))), (r2, .inl (gI g, 5, .inl (fun z9 => nI (rb z9))))] := by
  refine Ct.ofV RX0 rfl (by decide +kernel) rfl rfl rfl (Nat.le_of_ble_eq_true rfl) (List.forall_mem_cons.mpr ⟨rfl, (List.forall_mem_cons.mpr ⟨rfl, (fun _ h9 => absurd h9 List.not_mem_nil)⟩)⟩) (fun x h hr => ?_)
  show vM x 0 [some (.ref r0), some (.int (nI q))] [] [(r0, .inr (0, [.int (nI rc), .ref r1, .ref r2])), (r1, .inl (gI g, 5, .inl (fun z9 => nI (rw z9)))), (r2, .inl (gI g, 5, .inl (fun z9 => nI (rb z9))))]
  refine v_aload_n0 h dX0_inBest_0 ?_
  refine v_iload_n1 h dX0_inBest_1 ?_
  refine cw_V_0_1_2_1_i (ci := 0) h (c_X0_has (g := g) (by first | assumption | omega)) lk_X0_22 ⟨rfl, rfl, (Nat.le_of_ble_eq_true rfl), (Nat.le_of_ble_eq_true rfl)⟩ rfl rfl rfl (Nat.le_of_ble_eq_true rfl) dX0_inBest_2 ?_
  refine v_if_eqB h dX0_inBest_5 (tgt := 17) (by decide) (fun c5 => ?_) (fun c5 => ?_)
  · exact inR_no hq (by omega) c5
  · refine v_aload_n0 h dX0_inBest_8 ?_
    refine v_get h mw_X0 0 rfl rfl 2 (by decide) mf_X0_19 rfl dX0_inBest_9 ?_
    refine v_iload_n1 h dX0_inBest_12 ?_
    refine v_ialdN h 2 rfl (by omega) (Nat.le_of_ble_eq_true rfl) dX0_inBest_13 ?_
    refine v_goto h dX0_inBest_14 (tgt := 18) (by decide) ?_
    exact v_iret h hr dX0_inBest_18 rfl rfl
set_option maxRecDepth 20000 in
set_option maxHeartbeats 2000000 in
theorem c_X0_greatestCopy {g : vG} {r0 r1 r2 h0 h1 h2 : Nat} {rc : Nat} {rw : Nat → Nat} {rb : Nat → Nat} {hn : Nat} {kd : Nat → Nat} {pt : Nat → Nat} {v : Nat} (hH : wfH hn kd pt) (hrc : rc ≤ 5) (hrw : ∀ z, z < rc → rw z < hn) (hv1 : 1 ≤ v) (hv : v ≤ 999) : Ct g yX0_greatestCopy cX0_greatestCopy 5 (some .int) (rmOf 3 65) [(r0, .inr (0, [.int (nI rc), .ref r1, .ref r2])), (r1, .inl (gI g, 5, .inl (fun z9 => nI (rw z9)))), (r2, .inl (gI g, 5, .inl (fun z9 => nI (rb z9)))), (h0, .inr (1, [.int (nI hn), .ref h1, .ref h2])), (h1, .inl (gI g, 6, .inl (fun z9 => nI (kd z9)))), (h2, .inl (gI g, 6, .inl (fun z9 => nI (pt z9))))] [.ref r0, .ref h0, .int (nI v)] (some (.int (nI (grtK kd pt rw v rc)))) [(r0, .inr (0, [.int (nI rc), .ref r1, .ref r2])), (r1, .inl (gI g, 5, .inl (fun z9 => nI (rw z9)))), (r2, .inl (gI g, 5, .inl (fun z9 => nI (rb z9)))), (h0, .inr (1, [.int (nI hn), .ref h1, .ref h2])), (h1, .inl (gI g, 6, .inl (fun z9 => nI (kd z9)))), (h2, .inl (gI g, 6, .inl (fun z9 => nI (pt z9))))] := by
  refine Ct.ofV RX0 rfl (by decide +kernel) rfl rfl rfl (Nat.le_of_ble_eq_true rfl) (List.forall_mem_cons.mpr ⟨rfl, (List.forall_mem_cons.mpr ⟨rfl, (List.forall_mem_cons.mpr ⟨rfl, (fun _ h9 => absurd h9 List.not_mem_nil)⟩)⟩)⟩) (fun x h hr => ?_)
  show vM x 0 [some (.ref r0), some (.ref h0), some (.int (nI v)), none, none] [] [(r0, .inr (0, [.int (nI rc), .ref r1, .ref r2])), (r1, .inl (gI g, 5, .inl (fun z9 => nI (rw z9)))), (r2, .inl (gI g, 5, .inl (fun z9 => nI (rb z9)))), (h0, .inr (1, [.int (nI hn), .ref h1, .ref h2])), (h1, .inl (gI g, 6, .inl (fun z9 => nI (kd z9)))), (h2, .inl (gI g, 6, .inl (fun z9 => nI (pt z9))))]
  have hh1 := hH.1; have hh2 := hH.2.1; have hh3 := hH.2.2.1; have hh4 := hH.2.2.2
  refine v_iload_n2 h dX0_greatestCopy_0 ?_
  refine v_istore_n3 h (Nat.le_of_ble_eq_true rfl) dX0_greatestCopy_1 ?_
  refine v_iconst h (v := nI 0) dX0_greatestCopy_2 (by decide) ?_
  refine v_istore4 h (Nat.le_of_ble_eq_true rfl) dX0_greatestCopy_3 ?_
  have L5 : ∀ (k5 : Nat) (i : Nat), rc - i = k5 → (i ≤ rc) → vM x 5 [some (.ref r0), some (.ref h0), some (.int (nI v)), some (.int (nI (grtK kd pt rw v i))), some (.int (nI i))] [] [(r0, .inr (0, [.int (nI rc), .ref r1, .ref r2])), (r1, .inl (gI g, 5, .inl (fun z9 => nI (rw z9)))), (r2, .inl (gI g, 5, .inl (fun z9 => nI (rb z9)))), (h0, .inr (1, [.int (nI hn), .ref h1, .ref h2])), (h1, .inl (gI g, 6, .inl (fun z9 => nI (kd z9)))), (h2, .inl (gI g, 6, .inl (fun z9 => nI (pt z9))))] := by
    intro k5
    induction k5 using Nat.strongRecOn with
    | _ k5 ih5 =>
      intro i hm5 hi
      refine v_iload4 h dX0_greatestCopy_5 ?_
      refine v_aload_n0 h dX0_greatestCopy_7 ?_
      refine v_get h mw_X0 0 rfl rfl 0 (by decide) mf_X0_9 rfl dX0_greatestCopy_8 ?_
      refine v_icmp_geN h dX0_greatestCopy_11 (tgt := 32) (by decide) (by omega) (by omega) (fun c11 => ?_) (fun c11 => ?_)
      · refine v_iload_n3 h dX0_greatestCopy_32 ?_
        exact v_iret h hr dX0_greatestCopy_33 (by rw [show i = rc by omega]) rfl
      · refine v_aload_n1 h dX0_greatestCopy_14 ?_
        refine v_aload_n0 h dX0_greatestCopy_15 ?_
        refine v_iload4 h dX0_greatestCopy_16 ?_
        refine cw_V_0_1_2_1_i (ci := 0) h (c_X0_inRow (g := g) (by first | assumption | omega) (by first | assumption | omega)) lk_X0_26 ⟨rfl, rfl, (Nat.le_of_ble_eq_true rfl), (Nat.le_of_ble_eq_true rfl)⟩ rfl rfl rfl (Nat.le_of_ble_eq_true rfl) dX0_greatestCopy_18 ?_
        refine v_iload_n3 h dX0_greatestCopy_21 ?_
        refine cw_V_3_4_5_2_i (ci := 1) h (c_X1_greatestUntold (g := g) (by first | assumption | omega) (by exact hrw i (by omega)) (by exact Nat.le_trans hv1 (grtK_ge i)) (by have := grtK_b (kd := kd) (pt := pt) (rw := rw) (k := i) hv (by omega); omega)) lk_X0_30 ⟨rfl, rfl, (Nat.le_of_ble_eq_true rfl), (Nat.le_of_ble_eq_true rfl)⟩ rfl rfl rfl (Nat.le_of_ble_eq_true rfl) dX0_greatestCopy_22 ?_
        refine v_istore_n3 h (Nat.le_of_ble_eq_true rfl) dX0_greatestCopy_25 ?_
        refine v_iincN4 h (Nat.le_of_ble_eq_true rfl) dX0_greatestCopy_26 ?_
        refine v_goto h dX0_greatestCopy_29 (tgt := 5) (by decide) ?_
        exact vM.fg (ih5 _ (by omega) (i + 1) rfl (by first | assumption | rfl | omega)) ⟨rfl, rfl, rfl, rfl, rfl, trivial⟩
  exact vM.fg (L5 _ 0 rfl (by first | assumption | rfl | omega)) ⟨rfl, rfl, rfl, rfl, rfl, trivial⟩
set_option maxRecDepth 20000 in
set_option maxHeartbeats 2000000 in
theorem c_X0_leastCopy {g : vG} {r0 r1 r2 h0 h1 h2 : Nat} {rc : Nat} {rw : Nat → Nat} {rb : Nat → Nat} {hn : Nat} {kd : Nat → Nat} {pt : Nat → Nat} {v : Nat} (hH : wfH hn kd pt) (hrc : rc ≤ 5) (hrw : ∀ z, z < rc → rw z < hn) (hv1 : 1 ≤ v) (hv : v ≤ 999) : Ct g yX0_leastCopy cX0_leastCopy 5 (some .int) (rmOf 3 66) [(r0, .inr (0, [.int (nI rc), .ref r1, .ref r2])), (r1, .inl (gI g, 5, .inl (fun z9 => nI (rw z9)))), (r2, .inl (gI g, 5, .inl (fun z9 => nI (rb z9)))), (h0, .inr (1, [.int (nI hn), .ref h1, .ref h2])), (h1, .inl (gI g, 6, .inl (fun z9 => nI (kd z9)))), (h2, .inl (gI g, 6, .inl (fun z9 => nI (pt z9))))] [.ref r0, .ref h0, .int (nI v)] (some (.int (nI (leaK kd pt rw v rc)))) [(r0, .inr (0, [.int (nI rc), .ref r1, .ref r2])), (r1, .inl (gI g, 5, .inl (fun z9 => nI (rw z9)))), (r2, .inl (gI g, 5, .inl (fun z9 => nI (rb z9)))), (h0, .inr (1, [.int (nI hn), .ref h1, .ref h2])), (h1, .inl (gI g, 6, .inl (fun z9 => nI (kd z9)))), (h2, .inl (gI g, 6, .inl (fun z9 => nI (pt z9))))] := by
  refine Ct.ofV RX0 rfl (by decide +kernel) rfl rfl rfl (Nat.le_of_ble_eq_true rfl) (List.forall_mem_cons.mpr ⟨rfl, (List.forall_mem_cons.mpr ⟨rfl, (List.forall_mem_cons.mpr ⟨rfl, (fun _ h9 => absurd h9 List.not_mem_nil)⟩)⟩)⟩) (fun x h hr => ?_)
  show vM x 0 [some (.ref r0), some (.ref h0), some (.int (nI v)), none, none] [] [(r0, .inr (0, [.int (nI rc), .ref r1, .ref r2])), (r1, .inl (gI g, 5, .inl (fun z9 => nI (rw z9)))), (r2, .inl (gI g, 5, .inl (fun z9 => nI (rb z9)))), (h0, .inr (1, [.int (nI hn), .ref h1, .ref h2])), (h1, .inl (gI g, 6, .inl (fun z9 => nI (kd z9)))), (h2, .inl (gI g, 6, .inl (fun z9 => nI (pt z9))))]
  have hh1 := hH.1; have hh2 := hH.2.1; have hh3 := hH.2.2.1; have hh4 := hH.2.2.2
  refine v_iload_n2 h dX0_leastCopy_0 ?_
  refine v_istore_n3 h (Nat.le_of_ble_eq_true rfl) dX0_leastCopy_1 ?_
  refine v_iconst h (v := nI 0) dX0_leastCopy_2 (by decide) ?_
  refine v_istore4 h (Nat.le_of_ble_eq_true rfl) dX0_leastCopy_3 ?_
  have L5 : ∀ (k5 : Nat) (i : Nat), rc - i = k5 → (i ≤ rc) → vM x 5 [some (.ref r0), some (.ref h0), some (.int (nI v)), some (.int (nI (leaK kd pt rw v i))), some (.int (nI i))] [] [(r0, .inr (0, [.int (nI rc), .ref r1, .ref r2])), (r1, .inl (gI g, 5, .inl (fun z9 => nI (rw z9)))), (r2, .inl (gI g, 5, .inl (fun z9 => nI (rb z9)))), (h0, .inr (1, [.int (nI hn), .ref h1, .ref h2])), (h1, .inl (gI g, 6, .inl (fun z9 => nI (kd z9)))), (h2, .inl (gI g, 6, .inl (fun z9 => nI (pt z9))))] := by
    intro k5
    induction k5 using Nat.strongRecOn with
    | _ k5 ih5 =>
      intro i hm5 hi
      refine v_iload4 h dX0_leastCopy_5 ?_
      refine v_aload_n0 h dX0_leastCopy_7 ?_
      refine v_get h mw_X0 0 rfl rfl 0 (by decide) mf_X0_9 rfl dX0_leastCopy_8 ?_
      refine v_icmp_geN h dX0_leastCopy_11 (tgt := 32) (by decide) (by omega) (by omega) (fun c11 => ?_) (fun c11 => ?_)
      · refine v_iload_n3 h dX0_leastCopy_32 ?_
        exact v_iret h hr dX0_leastCopy_33 (by rw [show i = rc by omega]) rfl
      · refine v_aload_n1 h dX0_leastCopy_14 ?_
        refine v_aload_n0 h dX0_leastCopy_15 ?_
        refine v_iload4 h dX0_leastCopy_16 ?_
        refine cw_V_0_1_2_1_i (ci := 0) h (c_X0_inRow (g := g) (by first | assumption | omega) (by first | assumption | omega)) lk_X0_26 ⟨rfl, rfl, (Nat.le_of_ble_eq_true rfl), (Nat.le_of_ble_eq_true rfl)⟩ rfl rfl rfl (Nat.le_of_ble_eq_true rfl) dX0_leastCopy_18 ?_
        refine v_iload_n3 h dX0_leastCopy_21 ?_
        refine cw_V_3_4_5_2_i (ci := 1) h (c_X1_leastUntold (g := g) (by first | assumption | omega) (by exact hrw i (by omega)) (by exact (leaK_le (n := rc) (fun z hz => hh4 _ (hrw z hz)) hv1 i (by omega)).2) (by have := (leaK_le (kd := kd) (n := rc) (fun z hz => hh4 _ (hrw z hz)) hv1 i (by omega)).1; omega)) lk_X0_36 ⟨rfl, rfl, (Nat.le_of_ble_eq_true rfl), (Nat.le_of_ble_eq_true rfl)⟩ rfl rfl rfl (Nat.le_of_ble_eq_true rfl) dX0_leastCopy_22 ?_
        refine v_istore_n3 h (Nat.le_of_ble_eq_true rfl) dX0_leastCopy_25 ?_
        refine v_iincN4 h (Nat.le_of_ble_eq_true rfl) dX0_leastCopy_26 ?_
        refine v_goto h dX0_leastCopy_29 (tgt := 5) (by decide) ?_
        exact vM.fg (ih5 _ (by omega) (i + 1) rfl (by first | assumption | rfl | omega)) ⟨rfl, rfl, rfl, rfl, rfl, trivial⟩
  exact vM.fg (L5 _ 0 rfl (by first | assumption | rfl | omega)) ⟨rfl, rfl, rfl, rfl, rfl, trivial⟩
set_option maxRecDepth 20000 in
set_option maxHeartbeats 2000000 in
theorem c_X0_spread {g : vG} {r0 r1 r2 h0 h1 h2 : Nat} {rc : Nat} {rw : Nat → Nat} {rb : Nat → Nat} {hn : Nat} {kd : Nat → Nat} {pt : Nat → Nat} {v : Nat} (hH : wfH hn kd pt) (hrc : rc ≤ 5) (hrw : ∀ z, z < rc → rw z < hn) (hv1 : 1 ≤ v) (hv : v ≤ 999) : Ct g yX0_spread cX0_spread 3 (some .int) (rmOf 4 90) [(r0, .inr (0, [.int (nI rc), .ref r1, .ref r2])), (r1, .inl (gI g, 5, .inl (fun z9 => nI (rw z9)))), (r2, .inl (gI g, 5, .inl (fun z9 => nI (rb z9)))), (h0, .inr (1, [.int (nI hn), .ref h1, .ref h2])), (h1, .inl (gI g, 6, .inl (fun z9 => nI (kd z9)))), (h2, .inl (gI g, 6, .inl (fun z9 => nI (pt z9))))] [.ref r0, .ref h0, .int (nI v)] (some (.int (nI (spdN kd pt v rc rw)))) [(r0, .inr (0, [.int (nI rc), .ref r1, .ref r2])), (r1, .inl (gI g, 5, .inl (fun z9 => nI (rw z9)))), (r2, .inl (gI g, 5, .inl (fun z9 => nI (rb z9)))), (h0, .inr (1, [.int (nI hn), .ref h1, .ref h2])), (h1, .inl (gI g, 6, .inl (fun z9 => nI (kd z9)))), (h2, .inl (gI g, 6, .inl (fun z9 => nI (pt z9))))] := by
  refine Ct.ofV RX0 rfl (by decide +kernel) rfl rfl rfl (Nat.le_of_ble_eq_true rfl) (List.forall_mem_cons.mpr ⟨rfl, (List.forall_mem_cons.mpr ⟨rfl, (List.forall_mem_cons.mpr ⟨rfl, (fun _ h9 => absurd h9 List.not_mem_nil)⟩)⟩)⟩) (fun x h hr => ?_)
  show vM x 0 [some (.ref r0), some (.ref h0), some (.int (nI v))] [] [(r0, .inr (0, [.int (nI rc), .ref r1, .ref r2])), (r1, .inl (gI g, 5, .inl (fun z9 => nI (rw z9)))), (r2, .inl (gI g, 5, .inl (fun z9 => nI (rb z9)))), (h0, .inr (1, [.int (nI hn), .ref h1, .ref h2])), (h1, .inl (gI g, 6, .inl (fun z9 => nI (kd z9)))), (h2, .inl (gI g, 6, .inl (fun z9 => nI (pt z9))))]
  have hh1 := hH.1; have hh2 := hH.2.1; have hh3 := hH.2.2.1; have hh4 := hH.2.2.2
  refine v_aload_n0 h dX0_spread_0 ?_
  refine v_aload_n1 h dX0_spread_1 ?_
  refine v_iload_n2 h dX0_spread_2 ?_
  refine cw_V_0_1_2_3_4_5_2_i (ci := 0) h (c_X0_greatestCopy (g := g) (by first | assumption | omega) (by first | assumption | omega) (by first | assumption | omega) (by first | assumption | omega) (by first | assumption | omega)) lk_X0_39 ⟨rfl, rfl, (Nat.le_of_ble_eq_true rfl), (Nat.le_of_ble_eq_true rfl)⟩ rfl rfl rfl (Nat.le_of_ble_eq_true rfl) dX0_spread_3 ?_
  refine v_aload_n0 h dX0_spread_6 ?_
  refine v_aload_n1 h dX0_spread_7 ?_
  refine v_iload_n2 h dX0_spread_8 ?_
  refine cw_V_0_1_2_3_4_5_2_i (ci := 0) h (c_X0_leastCopy (g := g) (by first | assumption | omega) (by first | assumption | omega) (by first | assumption | omega) (by first | assumption | omega) (by first | assumption | omega)) lk_X0_43 ⟨rfl, rfl, (Nat.le_of_ble_eq_true rfl), (Nat.le_of_ble_eq_true rfl)⟩ rfl rfl rfl (Nat.le_of_ble_eq_true rfl) dX0_spread_9 ?_
  refine v_isubN h dX0_spread_12 (by exact spd_le (fun z hz => hh4 _ (hrw z hz)) hv1) ?_
  exact v_iret h hr dX0_spread_13 rfl rfl
set_option maxRecDepth 20000 in
set_option maxHeartbeats 2000000 in
theorem c_X0_keepAsBest {g : vG} {r0 r1 r2 : Nat} {rc : Nat} {rw : Nat → Nat} {rb : Nat → Nat} (hrc : rc ≤ 5) : Ct g yX0_keepAsBest cX0_keepAsBest 2 none (rmOf 0 0) [(r0, .inr (0, [.int (nI rc), .ref r1, .ref r2])), (r1, .inl (gI g, 5, .inl (fun z9 => nI (rw z9)))), (r2, .inl (gI g, 5, .inl (fun z9 => nI (rb z9))))] [.ref r0] none [(r0, .inr (0, [.int (nI rc), .ref r1, .ref r2])), (r1, .inl (gI g, 5, .inl (fun z9 => nI (rw z9)))), (r2, .inl (gI g, 5, .inl (fun z9 => nI ((layF rb rc rw) z9))))] := by
  refine Ct.ofV RX0 rfl (by decide +kernel) rfl rfl rfl (Nat.le_of_ble_eq_true rfl) (List.forall_mem_cons.mpr ⟨rfl, (fun _ h9 => absurd h9 List.not_mem_nil)⟩) (fun x h hr => ?_)
  show vM x 0 [some (.ref r0), none] [] [(r0, .inr (0, [.int (nI rc), .ref r1, .ref r2])), (r1, .inl (gI g, 5, .inl (fun z9 => nI (rw z9)))), (r2, .inl (gI g, 5, .inl (fun z9 => nI (rb z9))))]
  refine v_iconst h (v := nI 0) dX0_keepAsBest_0 (by decide) ?_
  refine v_istore_n1 h (Nat.le_of_ble_eq_true rfl) dX0_keepAsBest_1 ?_
  have L2 : ∀ (k2 : Nat) (i : Nat), rc - i = k2 → (i ≤ rc) → vM x 2 [some (.ref r0), some (.int (nI i))] [] [(r0, .inr (0, [.int (nI rc), .ref r1, .ref r2])), (r1, .inl (gI g, 5, .inl (fun z9 => nI (rw z9)))), (r2, .inl (gI g, 5, .inl (fun z9 => nI ((layF rb i rw) z9))))] := by
    intro k2
    induction k2 using Nat.strongRecOn with
    | _ k2 ih2 =>
      intro i hm2 hi
      refine v_iload_n1 h dX0_keepAsBest_2 ?_
      refine v_aload_n0 h dX0_keepAsBest_3 ?_
      refine v_get h mw_X0 0 rfl rfl 0 (by decide) mf_X0_9 rfl dX0_keepAsBest_4 ?_
      refine v_icmp_geN h dX0_keepAsBest_7 (tgt := 33) (by decide) (by omega) (by omega) (fun c7 => ?_) (fun c7 => ?_)
      · exact v_vret h hr dX0_keepAsBest_33 (by rw [show i = rc by omega])
      · refine v_iload_n1 h dX0_keepAsBest_10 ?_
        refine v_iconst h (v := nI 5) dX0_keepAsBest_11 (by decide) ?_
        refine v_icmp_geN h dX0_keepAsBest_12 (tgt := 33) (by decide) (by omega) (by omega) (fun c12 => ?_) (fun c12 => ?_)
        · omega
        · refine v_aload_n0 h dX0_keepAsBest_15 ?_
          refine v_get h mw_X0 0 rfl rfl 2 (by decide) mf_X0_19 rfl dX0_keepAsBest_16 ?_
          refine v_iload_n1 h dX0_keepAsBest_19 ?_
          refine v_aload_n0 h dX0_keepAsBest_20 ?_
          refine v_get h mw_X0 0 rfl rfl 1 (by decide) mf_X0_15 rfl dX0_keepAsBest_21 ?_
          refine v_iload_n1 h dX0_keepAsBest_24 ?_
          refine v_ialdN h 1 rfl (by omega) (Nat.le_of_ble_eq_true rfl) dX0_keepAsBest_25 ?_
          refine v_iastN_at2 h (by omega) (Nat.le_of_ble_eq_true rfl) dX0_keepAsBest_26 ?_
          refine v_iincN1 h (Nat.le_of_ble_eq_true rfl) dX0_keepAsBest_27 ?_
          refine v_goto h dX0_keepAsBest_30 (tgt := 2) (by decide) ?_
          exact vM.le rfl rfl (by rw [layF_succ rfl]) (vM.fg (ih2 _ (by omega) (i + 1) rfl (by first | assumption | rfl | omega)) ⟨rfl, rfl, trivial⟩)
  exact vM.le rfl rfl (by rw [layF_0]) (vM.fg (L2 _ 0 rfl (by first | assumption | rfl | omega)) ⟨rfl, rfl, trivial⟩)
set_option maxRecDepth 20000 in
set_option maxHeartbeats 2000000 in
theorem c_X0_exchange {g : vG} {r0 r1 r2 : Nat} {rc : Nat} {rw : Nat → Nat} {rb : Nat → Nat} {a : Nat} {b : Nat} (hrc : rc ≤ 5) (ha : a < rc) (hb : b < rc) : Ct g yX0_exchange cX0_exchange 4 none (rmOf 1 21) [(r0, .inr (0, [.int (nI rc), .ref r1, .ref r2])), (r1, .inl (gI g, 5, .inl (fun z9 => nI (rw z9)))), (r2, .inl (gI g, 5, .inl (fun z9 => nI (rb z9))))] [.ref r0, .int (nI a), .int (nI b)] none [(r0, .inr (0, [.int (nI rc), .ref r1, .ref r2])), (r1, .inl (gI g, 5, .inl (fun z9 => nI ((exw rw a b) z9)))), (r2, .inl (gI g, 5, .inl (fun z9 => nI (rb z9))))] := by
  refine Ct.ofV RX0 rfl (by decide +kernel) rfl rfl rfl (Nat.le_of_ble_eq_true rfl) (List.forall_mem_cons.mpr ⟨rfl, (List.forall_mem_cons.mpr ⟨rfl, (List.forall_mem_cons.mpr ⟨rfl, (fun _ h9 => absurd h9 List.not_mem_nil)⟩)⟩)⟩) (fun x h hr => ?_)
  show vM x 0 [some (.ref r0), some (.int (nI a)), some (.int (nI b)), none] [] [(r0, .inr (0, [.int (nI rc), .ref r1, .ref r2])), (r1, .inl (gI g, 5, .inl (fun z9 => nI (rw z9)))), (r2, .inl (gI g, 5, .inl (fun z9 => nI (rb z9))))]
  refine v_aload_n0 h dX0_exchange_0 ?_
  refine v_iload_n1 h dX0_exchange_1 ?_
  refine cw_V_0_1_2_1_i (ci := 0) h (c_X0_has (g := g) (by first | assumption | omega)) lk_X0_22 ⟨rfl, rfl, (Nat.le_of_ble_eq_true rfl), (Nat.le_of_ble_eq_true rfl)⟩ rfl rfl rfl (Nat.le_of_ble_eq_true rfl) dX0_exchange_2 ?_
  refine v_if_eqB h dX0_exchange_5 (tgt := 42) (by decide) (fun c5 => ?_) (fun c5 => ?_)
  · exact inR_no ha (by omega) c5
  · refine v_aload_n0 h dX0_exchange_8 ?_
    refine v_iload_n2 h dX0_exchange_9 ?_
    refine cw_V_0_1_2_1_i (ci := 0) h (c_X0_has (g := g) (by first | assumption | omega)) lk_X0_22 ⟨rfl, rfl, (Nat.le_of_ble_eq_true rfl), (Nat.le_of_ble_eq_true rfl)⟩ rfl rfl rfl (Nat.le_of_ble_eq_true rfl) dX0_exchange_10 ?_
    refine v_if_eqB h dX0_exchange_13 (tgt := 42) (by decide) (fun c13 => ?_) (fun c13 => ?_)
    · exact inR_no hb (by omega) c13
    · refine v_aload_n0 h dX0_exchange_16 ?_
      refine v_get h mw_X0 0 rfl rfl 1 (by decide) mf_X0_15 rfl dX0_exchange_17 ?_
      refine v_iload_n1 h dX0_exchange_20 ?_
      refine v_ialdN h 1 rfl (by omega) (Nat.le_of_ble_eq_true rfl) dX0_exchange_21 ?_
      refine v_istore_n3 h (Nat.le_of_ble_eq_true rfl) dX0_exchange_22 ?_
      refine v_aload_n0 h dX0_exchange_23 ?_
      refine v_get h mw_X0 0 rfl rfl 1 (by decide) mf_X0_15 rfl dX0_exchange_24 ?_
      refine v_iload_n1 h dX0_exchange_27 ?_
      refine v_aload_n0 h dX0_exchange_28 ?_
      refine v_get h mw_X0 0 rfl rfl 1 (by decide) mf_X0_15 rfl dX0_exchange_29 ?_
      refine v_iload_n2 h dX0_exchange_32 ?_
      refine v_ialdN h 1 rfl (by omega) (Nat.le_of_ble_eq_true rfl) dX0_exchange_33 ?_
      refine v_iastN_at1 h (by omega) (Nat.le_of_ble_eq_true rfl) dX0_exchange_34 ?_
      refine v_aload_n0 h dX0_exchange_35 ?_
      refine v_get h mw_X0 0 rfl rfl 1 (by decide) mf_X0_15 rfl dX0_exchange_36 ?_
      refine v_iload_n2 h dX0_exchange_39 ?_
      refine v_iload_n3 h dX0_exchange_40 ?_
      refine v_iastN_at1 h (by omega) (Nat.le_of_ble_eq_true rfl) dX0_exchange_41 ?_
      exact v_vret h hr dX0_exchange_42 rfl
set_option maxRecDepth 20000 in
set_option maxHeartbeats 2000000 in
theorem c_X0_sortRow {g : vG} {r0 r1 r2 : Nat} {rc : Nat} {rw : Nat → Nat} {rb : Nat → Nat} (hrc : rc ≤ 5) (hrc1 : 1 ≤ rc) (hr6 : ∀ z, z < rc → rw z < 6) : Ct g yX0_sortRow cX0_sortRow 3 none (rmOf 2 44) [(r0, .inr (0, [.int (nI rc), .ref r1, .ref r2])), (r1, .inl (gI g, 5, .inl (fun z9 => nI (rw z9)))), (r2, .inl (gI g, 5, .inl (fun z9 => nI (rb z9))))] [.ref r0] none [(r0, .inr (0, [.int (nI rc), .ref r1, .ref r2])), (r1, .inl (gI g, 5, .inl (fun z9 => nI ((srtK rw (rc - 1)) z9)))), (r2, .inl (gI g, 5, .inl (fun z9 => nI (rb z9))))] := by
  refine Ct.ofV RX0 rfl (by decide +kernel) rfl rfl rfl (Nat.le_of_ble_eq_true rfl) (List.forall_mem_cons.mpr ⟨rfl, (fun _ h9 => absurd h9 List.not_mem_nil)⟩) (fun x h hr => ?_)
  show vM x 0 [some (.ref r0), none, none] [] [(r0, .inr (0, [.int (nI rc), .ref r1, .ref r2])), (r1, .inl (gI g, 5, .inl (fun z9 => nI (rw z9)))), (r2, .inl (gI g, 5, .inl (fun z9 => nI (rb z9))))]
  refine v_iconst h (v := nI 1) dX0_sortRow_0 (by decide) ?_
  refine v_istore_n1 h (Nat.le_of_ble_eq_true rfl) dX0_sortRow_1 ?_
  have L2 : ∀ (k2 : Nat) (k : Nat), rc - k = k2 → (k + 1 ≤ rc) → (∀ z, z < rc → srtK rw k z < 6) → vM x 2 [some (.ref r0), some (.int (nI (k + 1))), none] [] [(r0, .inr (0, [.int (nI rc), .ref r1, .ref r2])), (r1, .inl (gI g, 5, .inl (fun z9 => nI ((srtK rw k) z9)))), (r2, .inl (gI g, 5, .inl (fun z9 => nI (rb z9))))] := by
    intro k2
    induction k2 using Nat.strongRecOn with
    | _ k2 ih2 =>
      intro k hm2 hk hr0
      refine v_iload_n1 h dX0_sortRow_2 ?_
      refine v_aload_n0 h dX0_sortRow_3 ?_
      refine v_get h mw_X0 0 rfl rfl 0 (by decide) mf_X0_9 rfl dX0_sortRow_4 ?_
      refine v_icmp_geN h dX0_sortRow_7 (tgt := 51) (by decide) (by omega) (by omega) (fun c7 => ?_) (fun c7 => ?_)
      · exact v_vret h hr dX0_sortRow_51 (by rw [show k = rc - 1 by omega])
      · refine v_iload_n1 h dX0_sortRow_10 ?_
        refine v_istore_n2 h (Nat.le_of_ble_eq_true rfl) dX0_sortRow_11 ?_
        have L12 : ∀ (k12 : Nat) (a : Nat) (u1 : Nat → Nat), a = k12 → (a ≤ k + 1) → (sft u1 a = srtK rw (k + 1)) → (∀ z, z < rc → u1 z < 6) → vM x 12 [some (.ref r0), some (.int (nI (k + 1))), some (.int (nI a))] [] [(r0, .inr (0, [.int (nI rc), .ref r1, .ref r2])), (r1, .inl (gI g, 5, .inl (fun z9 => nI (u1 z9)))), (r2, .inl (gI g, 5, .inl (fun z9 => nI (rb z9))))] := by
          intro k12
          induction k12 using Nat.strongRecOn with
          | _ k12 ih12 =>
            intro a u1 hm12 ha h2 hr1
            refine v_iload_n2 h dX0_sortRow_12 ?_
            refine v_if_leN h dX0_sortRow_13 (tgt := 45) (by decide) (by omega) (fun c13 => ?_) (fun c13 => ?_)
            · have e9 : u1 = srtK rw (k + 1) := by subst c13; exact h2
              refine v_iincN1 h (Nat.le_of_ble_eq_true rfl) dX0_sortRow_45 ?_
              refine v_goto h dX0_sortRow_48 (tgt := 2) (by decide) ?_
              exact vM.le rfl rfl (by rw [e9]) (vM.fg (ih2 _ (by omega) (k + 1) rfl (by first | assumption | rfl | omega) (by rw [← e9]; exact hr1)) ⟨rfl, rfl, trivial⟩)
            · obtain ⟨b, rfl⟩ : ∃ b, a = b + 1 := ⟨a - 1, by omega⟩
              refine v_aload_n0 h dX0_sortRow_16 ?_
              refine v_iload_n2 h dX0_sortRow_17 ?_
              refine v_iconst h (v := nI 1) dX0_sortRow_18 (by decide) ?_
              refine v_isubN h dX0_sortRow_19 (by omega) ?_
              refine vM.top (v := .int (nI b)) rfl ?_
              refine cw_V_0_1_2_1_i (ci := 0) h (c_X0_inRow (g := g) (by first | assumption | omega) (by first | assumption | omega)) lk_X0_26 ⟨rfl, rfl, (Nat.le_of_ble_eq_true rfl), (Nat.le_of_ble_eq_true rfl)⟩ rfl rfl rfl (Nat.le_of_ble_eq_true rfl) dX0_sortRow_20 ?_
              refine v_aload_n0 h dX0_sortRow_23 ?_
              refine v_iload_n2 h dX0_sortRow_24 ?_
              refine cw_V_0_1_2_1_i (ci := 0) h (c_X0_inRow (g := g) (by first | assumption | omega) (by first | assumption | omega)) lk_X0_26 ⟨rfl, rfl, (Nat.le_of_ble_eq_true rfl), (Nat.le_of_ble_eq_true rfl)⟩ rfl rfl rfl (Nat.le_of_ble_eq_true rfl) dX0_sortRow_25 ?_
              refine v_icmp_leN h dX0_sortRow_28 (tgt := 45) (by decide) (by first | (have := hr1 b (by omega); omega) | (have := hr1 (b + 1) (by omega); omega)) (by first | (have := hr1 b (by omega); omega) | (have := hr1 (b + 1) (by omega); omega)) (fun c28 => ?_) (fun c28 => ?_)
              · have e9 : u1 = srtK rw (k + 1) := by rw [← h2, sft, if_neg (by omega)]
                refine v_iincN1 h (Nat.le_of_ble_eq_true rfl) dX0_sortRow_45 ?_
                refine v_goto h dX0_sortRow_48 (tgt := 2) (by decide) ?_
                exact vM.le rfl rfl (by rw [e9]) (vM.fg (ih2 _ (by omega) (k + 1) rfl (by first | assumption | rfl | omega) (by rw [← e9]; exact hr1)) ⟨rfl, rfl, trivial⟩)
              · refine v_aload_n0 h dX0_sortRow_31 ?_
                refine v_iload_n2 h dX0_sortRow_32 ?_
                refine v_iconst h (v := nI 1) dX0_sortRow_33 (by decide) ?_
                refine v_isubN h dX0_sortRow_34 (by omega) ?_
                refine vM.top (v := .int (nI b)) rfl ?_
                refine v_iload_n2 h dX0_sortRow_35 ?_
                refine cw_V_0_1_2_2_v (ci := 0) h (c_X0_exchange (g := g) (by first | assumption | omega) (by first | assumption | omega) (by first | assumption | omega)) lk_X0_59 ⟨rfl, rfl, (Nat.le_of_ble_eq_true rfl), (Nat.le_of_ble_eq_true rfl)⟩ rfl rfl rfl (Nat.le_of_ble_eq_true rfl) dX0_sortRow_36 ?_
                refine v_idecN2 h (Nat.le_of_ble_eq_true rfl) dX0_sortRow_39 ?_
                refine v_goto h dX0_sortRow_42 (tgt := 12) (by decide) ?_
                exact vM.fg (ih12 _ (by omega) b _ rfl (by first | assumption | rfl | omega) (by rw [← h2, sft, if_pos c28]) (by exact exw_lt hr1 (by omega) (by omega))) ⟨rfl, rfl, rfl, trivial⟩
        exact vM.fg (L12 _ (k + 1) _ rfl (by first | assumption | rfl | omega) (by rfl) (by exact hr0)) ⟨rfl, rfl, rfl, trivial⟩
  exact vM.fg (L2 _ 0 rfl (by first | assumption | rfl | omega) (by exact hr6)) ⟨rfl, rfl, trivial⟩
set_option maxRecDepth 20000 in
set_option maxHeartbeats 2000000 in
theorem c_X0_toNextOrder {g : vG} {r0 r1 r2 : Nat} {rc : Nat} {rw : Nat → Nat} {rb : Nat → Nat} (hrc : rc ≤ 5) (hrc1 : 1 ≤ rc) (hr6 : ∀ z, z < rc → rw z < 6) : Ct g yX0_toNextOrder cX0_toNextOrder 5 (some .boolean) (rmOf 2 44) [(r0, .inr (0, [.int (nI rc), .ref r1, .ref r2])), (r1, .inl (gI g, 5, .inl (fun z9 => nI (rw z9)))), (r2, .inl (gI g, 5, .inl (fun z9 => nI (rb z9))))] [.ref r0] (some (.int (nI (bN ((nxt rc rw).isSome))))) [(r0, .inr (0, [.int (nI rc), .ref r1, .ref r2])), (r1, .inl (gI g, 5, .inl (fun z9 => nI (((nxt rc rw).getD rw) z9)))), (r2, .inl (gI g, 5, .inl (fun z9 => nI (rb z9))))] := by
  refine Ct.ofV RX0 rfl (by decide +kernel) rfl rfl rfl (Nat.le_of_ble_eq_true rfl) (List.forall_mem_cons.mpr ⟨rfl, (fun _ h9 => absurd h9 List.not_mem_nil)⟩) (fun x h hr => ?_)
  show vM x 0 [some (.ref r0), none, none, none, none] [] [(r0, .inr (0, [.int (nI rc), .ref r1, .ref r2])), (r1, .inl (gI g, 5, .inl (fun z9 => nI (rw z9)))), (r2, .inl (gI g, 5, .inl (fun z9 => nI (rb z9))))]
  refine v_aload_n0 h dX0_toNextOrder_0 ?_
  refine v_get h mw_X0 0 rfl rfl 0 (by decide) mf_X0_9 rfl dX0_toNextOrder_1 ?_
  refine v_iconst h (v := nI 2) dX0_toNextOrder_4 (by decide) ?_
  refine v_isub h dX0_toNextOrder_5 ?_
  refine v_istore_n1 h (Nat.le_of_ble_eq_true rfl) dX0_toNextOrder_6 ?_
  have L7 : ∀ (k7 : Nat) (k : Nat), k = k7 → (k + 1 ≤ rc) → (ris rw (rc - 1) = ris rw k) → vM x 7 [some (.ref r0), some (.int (nI k + Int32.ofInt (-1))), none, none, none] [] [(r0, .inr (0, [.int (nI rc), .ref r1, .ref r2])), (r1, .inl (gI g, 5, .inl (fun z9 => nI (rw z9)))), (r2, .inl (gI g, 5, .inl (fun z9 => nI (rb z9))))] := by
    intro k7
    induction k7 using Nat.strongRecOn with
    | _ k7 ih7 =>
      intro k hm7 hk h1
      rcases k with _ | k
      · have e9 : ris rw (rc - 1) = none := h1
        refine v_iload_n1 h dX0_toNextOrder_7 ?_
        refine v_if_lt h dX0_toNextOrder_8 (tgt := 32) (by decide) (fun c8 => ?_) (fun c8 => ?_)
        · refine v_iload_n1 h dX0_toNextOrder_32 ?_
          refine v_if_ge h dX0_toNextOrder_33 (tgt := 38) (by decide) (fun c33 => ?_) (fun c33 => ?_)
          · exact absurd c33 (by decide)
          · refine v_iconst h (v := nI 0) dX0_toNextOrder_36 (by decide) ?_
            exact v_zret (v := false) h hr dX0_toNextOrder_37 (by rw [nxt, e9]; rfl) (by rw [nxt, e9]; rfl)
        · exact absurd (by decide) c8
      · rw [show nI (k + 1) + Int32.ofInt (-1) = nI k from pk_m1 k]
        refine v_iload_n1 h dX0_toNextOrder_7 ?_
        refine v_if_ltN h dX0_toNextOrder_8 (by omega) (tgt := 32) (by decide) ?_
        refine v_aload_n0 h dX0_toNextOrder_11 ?_
        refine v_iload_n1 h dX0_toNextOrder_12 ?_
        refine cw_V_0_1_2_1_i (ci := 0) h (c_X0_inRow (g := g) (by first | assumption | omega) (by first | assumption | omega)) lk_X0_26 ⟨rfl, rfl, (Nat.le_of_ble_eq_true rfl), (Nat.le_of_ble_eq_true rfl)⟩ rfl rfl rfl (Nat.le_of_ble_eq_true rfl) dX0_toNextOrder_13 ?_
        refine v_aload_n0 h dX0_toNextOrder_16 ?_
        refine v_iload_n1 h dX0_toNextOrder_17 ?_
        refine v_iconst h (v := nI 1) dX0_toNextOrder_18 (by decide) ?_
        refine v_iaddN h dX0_toNextOrder_19 ?_
        refine cw_V_0_1_2_1_i (ci := 0) h (c_X0_inRow (g := g) (by first | assumption | omega) (by first | assumption | omega)) lk_X0_26 ⟨rfl, rfl, (Nat.le_of_ble_eq_true rfl), (Nat.le_of_ble_eq_true rfl)⟩ rfl rfl rfl (Nat.le_of_ble_eq_true rfl) dX0_toNextOrder_20 ?_
        refine v_icmp_ltN h dX0_toNextOrder_23 (tgt := 32) (by decide) (by first | (have := hr6 k (by omega); omega) | (have := hr6 (k + 1) (by omega); omega)) (by first | (have := hr6 k (by omega); omega) | (have := hr6 (k + 1) (by omega); omega)) (fun c23 => ?_) (fun c23 => ?_)
        · have e9 : ris rw (rc - 1) = some k := by rw [h1, ris, if_pos c23]
          refine v_iload_n1 h dX0_toNextOrder_32 ?_
          refine v_if_geN h dX0_toNextOrder_33 (by omega) (tgt := 38) (by decide) ?_
          refine v_aload_n0 h dX0_toNextOrder_38 ?_
          refine v_get h mw_X0 0 rfl rfl 0 (by decide) mf_X0_9 rfl dX0_toNextOrder_39 ?_
          refine v_iconst h (v := nI 1) dX0_toNextOrder_42 (by decide) ?_
          refine v_isubN h dX0_toNextOrder_43 (by omega) ?_
          refine v_istore_n2 h (Nat.le_of_ble_eq_true rfl) dX0_toNextOrder_44 ?_
          have L45 : ∀ (k45 : Nat) (q : Nat), q = k45 → (q ≤ rc - 1) → (k < q) → (gre rw k (rc - 1) = gre rw k q) → vM x 45 [some (.ref r0), some (.int (nI k)), some (.int (nI q)), none, none] [] [(r0, .inr (0, [.int (nI rc), .ref r1, .ref r2])), (r1, .inl (gI g, 5, .inl (fun z9 => nI (rw z9)))), (r2, .inl (gI g, 5, .inl (fun z9 => nI (rb z9))))] := by
            intro k45
            induction k45 using Nat.strongRecOn with
            | _ k45 ih45 =>
              intro q hm45 hq hkq hg
              refine v_iload_n2 h dX0_toNextOrder_45 ?_
              refine v_iload_n1 h dX0_toNextOrder_46 ?_
              refine v_icmp_leN h dX0_toNextOrder_47 (tgt := 69) (by decide) (by omega) (by omega) (fun c47 => ?_) (fun c47 => ?_)
              · omega
              · refine v_aload_n0 h dX0_toNextOrder_50 ?_
                refine v_iload_n2 h dX0_toNextOrder_51 ?_
                refine cw_V_0_1_2_1_i (ci := 0) h (c_X0_inRow (g := g) (by first | assumption | omega) (by first | assumption | omega)) lk_X0_26 ⟨rfl, rfl, (Nat.le_of_ble_eq_true rfl), (Nat.le_of_ble_eq_true rfl)⟩ rfl rfl rfl (Nat.le_of_ble_eq_true rfl) dX0_toNextOrder_52 ?_
                refine v_aload_n0 h dX0_toNextOrder_55 ?_
                refine v_iload_n1 h dX0_toNextOrder_56 ?_
                refine cw_V_0_1_2_1_i (ci := 0) h (c_X0_inRow (g := g) (by first | assumption | omega) (by first | assumption | omega)) lk_X0_26 ⟨rfl, rfl, (Nat.le_of_ble_eq_true rfl), (Nat.le_of_ble_eq_true rfl)⟩ rfl rfl rfl (Nat.le_of_ble_eq_true rfl) dX0_toNextOrder_57 ?_
                refine v_icmp_gtN h dX0_toNextOrder_60 (tgt := 69) (by decide) (by first | (have := hr6 k (by omega); omega) | (have := hr6 q (by omega); omega)) (by first | (have := hr6 k (by omega); omega) | (have := hr6 q (by omega); omega)) (fun c60 => ?_) (fun c60 => ?_)
                · have e8 : gre rw k (rc - 1) = q := by
                    rw [hg]
                    obtain ⟨b, rfl⟩ : ∃ b, q = b + 1 := ⟨q - 1, by omega⟩
                    rw [gre, if_neg (by omega)]
                  refine v_aload_n0 h dX0_toNextOrder_69 ?_
                  refine v_iload_n1 h dX0_toNextOrder_70 ?_
                  refine v_iload_n2 h dX0_toNextOrder_71 ?_
                  refine cw_V_0_1_2_2_v (ci := 0) h (c_X0_exchange (g := g) (by first | assumption | omega) (by first | assumption | omega) (by first | assumption | omega)) lk_X0_59 ⟨rfl, rfl, (Nat.le_of_ble_eq_true rfl), (Nat.le_of_ble_eq_true rfl)⟩ rfl rfl rfl (Nat.le_of_ble_eq_true rfl) dX0_toNextOrder_72 ?_
                  refine v_iload_n1 h dX0_toNextOrder_75 ?_
                  refine v_iconst h (v := nI 1) dX0_toNextOrder_76 (by decide) ?_
                  refine v_iaddN h dX0_toNextOrder_77 ?_
                  refine v_istore_n3 h (Nat.le_of_ble_eq_true rfl) dX0_toNextOrder_78 ?_
                  refine v_aload_n0 h dX0_toNextOrder_79 ?_
                  refine v_get h mw_X0 0 rfl rfl 0 (by decide) mf_X0_9 rfl dX0_toNextOrder_80 ?_
                  refine v_iconst h (v := nI 1) dX0_toNextOrder_83 (by decide) ?_
                  refine v_isubN h dX0_toNextOrder_84 (by omega) ?_
                  refine v_istore4 h (Nat.le_of_ble_eq_true rfl) dX0_toNextOrder_85 ?_
                  have L87 : ∀ (k87 : Nat) (f lo hi : Nat) (u1 : Nat → Nat), hi - lo = k87 → (hi ≤ lo + f) → (lo ≤ 5) → (hi ≤ rc - 1) → (rvs f u1 lo hi = rvs rc (exw rw k q) (k + 1) (rc - 1)) → vM x 87 [some (.ref r0), some (.int (nI k)), none, some (.int (nI lo)), some (.int (nI hi))] [] [(r0, .inr (0, [.int (nI rc), .ref r1, .ref r2])), (r1, .inl (gI g, 5, .inl (fun z9 => nI (u1 z9)))), (r2, .inl (gI g, 5, .inl (fun z9 => nI (rb z9))))] := by
                    intro k87
                    induction k87 using Nat.strongRecOn with
                    | _ k87 ih87 =>
                      intro f lo hi u1 hm87 hf hlo hhi h3
                      refine v_iload_n3 h dX0_toNextOrder_87 ?_
                      refine v_iload4 h dX0_toNextOrder_88 ?_
                      refine v_icmp_geN h dX0_toNextOrder_90 (tgt := 109) (by decide) (by omega) (by omega) (fun c90 => ?_) (fun c90 => ?_)
                      · refine v_iconst h (v := nI 1) dX0_toNextOrder_109 (by decide) ?_
                        exact v_zret (v := true) h hr dX0_toNextOrder_110 (by rw [nxt, e9]; rfl) (by rw [nxt, e9]; rw [show u1 = rvs rc (exw rw k (gre rw k (rc - 1))) (k + 1) (rc - 1) by rw [e8, ← h3, rvs_fuel _ _ _ _ (by omega)]]; rfl)
                      · obtain ⟨b, rfl⟩ : ∃ b, hi = b + 1 := ⟨hi - 1, by omega⟩
                        obtain ⟨f9, rfl⟩ : ∃ f9, f = f9 + 1 := ⟨f - 1, by omega⟩
                        refine v_aload_n0 h dX0_toNextOrder_93 ?_
                        refine v_iload_n3 h dX0_toNextOrder_94 ?_
                        refine v_iload4 h dX0_toNextOrder_95 ?_
                        refine cw_V_0_1_2_2_v (ci := 0) h (c_X0_exchange (g := g) (by first | assumption | omega) (by first | assumption | omega) (by first | assumption | omega)) lk_X0_59 ⟨rfl, rfl, (Nat.le_of_ble_eq_true rfl), (Nat.le_of_ble_eq_true rfl)⟩ rfl rfl rfl (Nat.le_of_ble_eq_true rfl) dX0_toNextOrder_97 ?_
                        refine v_iincN3 h (Nat.le_of_ble_eq_true rfl) dX0_toNextOrder_100 ?_
                        refine v_idecN4 h (Nat.le_of_ble_eq_true rfl) dX0_toNextOrder_103 ?_
                        refine v_goto h dX0_toNextOrder_106 (tgt := 87) (by decide) ?_
                        exact vM.fg (ih87 _ (by omega) f9 (lo + 1) b _ rfl (by first | assumption | rfl | omega) (by first | assumption | rfl | omega) (by first | assumption | rfl | omega) (by rw [← h3, rvs, if_pos (by omega), Nat.add_sub_cancel])) ⟨rfl, rfl, rfl, rfl, trivial⟩
                  exact vM.fg (L87 _ rc (k + 1) (rc - 1) _ rfl (by first | assumption | rfl | omega) (by first | assumption | rfl | omega) (by first | assumption | rfl | omega) (by rfl)) ⟨rfl, rfl, rfl, rfl, trivial⟩
                · obtain ⟨b, rfl⟩ : ∃ b, q = b + 1 := ⟨q - 1, by omega⟩
                  have hb9 : b ≠ k := fun e => by subst e; omega
                  refine v_idecN2 h (Nat.le_of_ble_eq_true rfl) dX0_toNextOrder_63 ?_
                  refine v_goto h dX0_toNextOrder_66 (tgt := 45) (by decide) ?_
                  exact vM.fg (ih45 _ (by omega) b rfl (by first | assumption | rfl | omega) (by first | assumption | rfl | omega) (by rw [hg, gre, if_pos (by omega)])) ⟨rfl, rfl, rfl, trivial⟩
          exact vM.fg (L45 _ (rc - 1) rfl (by first | assumption | rfl | omega) (by first | assumption | rfl | omega) (by rfl)) ⟨rfl, rfl, rfl, trivial⟩
        · refine v_iinc1 h (Nat.le_of_ble_eq_true rfl) dX0_toNextOrder_26 ?_
          refine v_goto h dX0_toNextOrder_29 (tgt := 7) (by decide) ?_
          exact vM.fg (ih7 _ (by omega) k rfl (by first | assumption | rfl | omega) (by rw [h1, ris, if_neg (by omega)])) ⟨rfl, rfl, trivial⟩
  exact vM.fg (L7 _ (rc - 1) rfl (by first | assumption | rfl | omega) (by rfl)) ⟨rfl, (by rw [show nI rc - nI 2 = nI (rc - 1) + Int32.ofInt (-1) from by rw [show rc = (rc - 1) + 1 by omega, Nat.add_sub_cancel, ← nI_1]; exact nI_m2 _]), trivial⟩
set_option maxRecDepth 20000 in
set_option maxHeartbeats 2000000 in
theorem c_X0_findBest {g : vG} {r0 r1 r2 h0 h1 h2 : Nat} {rc : Nat} {rw : Nat → Nat} {rb : Nat → Nat} {hn : Nat} {kd : Nat → Nat} {pt : Nat → Nat} {v : Nat} {rs : Nat → Nat → Nat} {K : Nat} (hH : wfH hn kd pt) (hrc : rc ≤ 5) (hrc1 : 1 ≤ rc) (hrw : ∀ z, z < rc → rw z < hn) (hv1 : 1 ≤ v) (hv : v ≤ 999) (hz0 : rs 0 = srtK rw (rc - 1)) (hs : ∀ k, k < K → nxt rc (rs k) = some (rs (k + 1))) (hK : nxt rc (rs K) = none) (hK2 : K ≤ 119) (hrs : ∀ k, k ≤ K → ∀ z, z < rc → rs k z < hn) : Ct g yX0_findBest cX0_findBest 6 (some .int) (rmOf 5 112) [(r0, .inr (0, [.int (nI rc), .ref r1, .ref r2])), (r1, .inl (gI g, 5, .inl (fun z9 => nI (rw z9)))), (r2, .inl (gI g, 5, .inl (fun z9 => nI (rb z9)))), (h0, .inr (1, [.int (nI hn), .ref h1, .ref h2])), (h1, .inl (gI g, 6, .inl (fun z9 => nI (kd z9)))), (h2, .inl (gI g, 6, .inl (fun z9 => nI (pt z9))))] [.ref r0, .ref h0, .int (nI v)] (some (.int (nI (lsK (spdN kd pt v rc) rs K)))) [(r0, .inr (0, [.int (nI rc), .ref r1, .ref r2])), (r1, .inl (gI g, 5, .inl (fun z9 => nI ((rs K) z9)))), (r2, .inl (gI g, 5, .inl (fun z9 => nI ((bsK (spdN kd pt v rc) rs rb rc K) z9)))), (h0, .inr (1, [.int (nI hn), .ref h1, .ref h2])), (h1, .inl (gI g, 6, .inl (fun z9 => nI (kd z9)))), (h2, .inl (gI g, 6, .inl (fun z9 => nI (pt z9))))] := by
  refine Ct.ofV RX0 rfl (by decide +kernel) rfl rfl rfl (Nat.le_of_ble_eq_true rfl) (List.forall_mem_cons.mpr ⟨rfl, (List.forall_mem_cons.mpr ⟨rfl, (List.forall_mem_cons.mpr ⟨rfl, (fun _ h9 => absurd h9 List.not_mem_nil)⟩)⟩)⟩) (fun x h hr => ?_)
  show vM x 0 [some (.ref r0), some (.ref h0), some (.int (nI v)), none, none, none] [] [(r0, .inr (0, [.int (nI rc), .ref r1, .ref r2])), (r1, .inl (gI g, 5, .inl (fun z9 => nI (rw z9)))), (r2, .inl (gI g, 5, .inl (fun z9 => nI (rb z9)))), (h0, .inr (1, [.int (nI hn), .ref h1, .ref h2])), (h1, .inl (gI g, 6, .inl (fun z9 => nI (kd z9)))), (h2, .inl (gI g, 6, .inl (fun z9 => nI (pt z9))))]
  have hh1 := hH.1; have hh2 := hH.2.1; have hh3 := hH.2.2.1; have hh4 := hH.2.2.2
  refine v_aload_n0 h dX0_findBest_0 ?_
  refine cw_V_0_1_2_0_v (ci := 0) h (c_X0_sortRow (g := g) (by first | assumption | omega) (by first | assumption | omega) (by exact fun z hz => Nat.lt_of_lt_of_le (hrw z hz) hh1)) lk_X0_46 ⟨rfl, rfl, (Nat.le_of_ble_eq_true rfl), (Nat.le_of_ble_eq_true rfl)⟩ rfl rfl rfl (Nat.le_of_ble_eq_true rfl) dX0_findBest_1 ?_
  rw [← hz0]
  refine v_aload_n0 h dX0_findBest_4 ?_
  refine v_aload_n1 h dX0_findBest_5 ?_
  refine v_iload_n2 h dX0_findBest_6 ?_
  refine cw_V_0_1_2_3_4_5_2_i (ci := 0) h (c_X0_spread (g := g) (by first | assumption | omega) (by first | assumption | omega) (by exact hrs 0 (by omega)) (by first | assumption | omega) (by first | assumption | omega)) lk_X0_49 ⟨rfl, rfl, (Nat.le_of_ble_eq_true rfl), (Nat.le_of_ble_eq_true rfl)⟩ rfl rfl rfl (Nat.le_of_ble_eq_true rfl) dX0_findBest_7 ?_
  refine v_istore_n3 h (Nat.le_of_ble_eq_true rfl) dX0_findBest_10 ?_
  refine v_aload_n0 h dX0_findBest_11 ?_
  refine cw_V_0_1_2_0_v (ci := 0) h (c_X0_keepAsBest (g := g) (by first | assumption | omega)) lk_X0_52 ⟨rfl, rfl, (Nat.le_of_ble_eq_true rfl), (Nat.le_of_ble_eq_true rfl)⟩ rfl rfl rfl (Nat.le_of_ble_eq_true rfl) dX0_findBest_12 ?_
  refine v_iconst h (v := nI 1) dX0_findBest_15 (by decide) ?_
  refine v_istore4 h (Nat.le_of_ble_eq_true rfl) dX0_findBest_16 ?_
  have L18 : ∀ (k18 : Nat) (k : Nat), K - k = k18 → (k ≤ K) → vM x 18 [some (.ref r0), some (.ref h0), some (.int (nI v)), some (.int (nI (lsK (spdN kd pt v rc) rs k))), some (.int (nI (k + 1))), none] [] [(r0, .inr (0, [.int (nI rc), .ref r1, .ref r2])), (r1, .inl (gI g, 5, .inl (fun z9 => nI ((rs k) z9)))), (r2, .inl (gI g, 5, .inl (fun z9 => nI ((bsK (spdN kd pt v rc) rs rb rc k) z9)))), (h0, .inr (1, [.int (nI hn), .ref h1, .ref h2])), (h1, .inl (gI g, 6, .inl (fun z9 => nI (kd z9)))), (h2, .inl (gI g, 6, .inl (fun z9 => nI (pt z9))))] := by
    intro k18
    induction k18 using Nat.strongRecOn with
    | _ k18 ih18 =>
      intro k hm18 hk
      refine v_iload4 h dX0_findBest_18 ?_
      refine v_bipush h (v := nI 120) dX0_findBest_20 (by decide) ?_
      refine v_icmp_geN h dX0_findBest_22 (tgt := 59) (by decide) (by omega) (by omega) (fun c22 => ?_) (fun c22 => ?_)
      · have e9 : k = K := by omega
        subst e9
        refine v_iload_n3 h dX0_findBest_59 ?_
        exact v_iret h hr dX0_findBest_60 rfl rfl
      · refine v_aload_n0 h dX0_findBest_25 ?_
        refine cw_V_0_1_2_0_i (ci := 0) h (c_X0_toNextOrder (g := g) (by first | assumption | omega) (by first | assumption | omega) (by exact fun z hz => Nat.lt_of_lt_of_le (hrs k hk z hz) hh1)) lk_X0_55 ⟨rfl, rfl, (Nat.le_of_ble_eq_true rfl), (Nat.le_of_ble_eq_true rfl)⟩ rfl rfl rfl (Nat.le_of_ble_eq_true rfl) dX0_findBest_26 ?_
        refine v_if_eqB h dX0_findBest_29 (tgt := 59) (by decide) (fun c29 => ?_) (fun c29 => ?_)
        · have e9 : k = K := by
            rcases Nat.lt_or_ge k K with q | q
            · rw [hs k q] at c29; cases c29
            · omega
          subst e9; simp only [hK, Option.getD_none]
          refine v_iload_n3 h dX0_findBest_59 ?_
          exact v_iret h hr dX0_findBest_60 rfl rfl
        · have hk9 : k < K := by
            rcases Nat.lt_or_ge k K with q | q
            · exact q
            · rw [show k = K by omega, hK] at c29; cases c29
          simp only [hs k hk9, Option.getD_some]
          refine v_aload_n0 h dX0_findBest_32 ?_
          refine v_aload_n1 h dX0_findBest_33 ?_
          refine v_iload_n2 h dX0_findBest_34 ?_
          refine cw_V_0_1_2_3_4_5_2_i (ci := 0) h (c_X0_spread (g := g) (by first | assumption | omega) (by first | assumption | omega) (by exact hrs (k + 1) (by omega)) (by first | assumption | omega) (by first | assumption | omega)) lk_X0_49 ⟨rfl, rfl, (Nat.le_of_ble_eq_true rfl), (Nat.le_of_ble_eq_true rfl)⟩ rfl rfl rfl (Nat.le_of_ble_eq_true rfl) dX0_findBest_35 ?_
          refine v_istore5 h (Nat.le_of_ble_eq_true rfl) dX0_findBest_38 ?_
          refine v_iload5 h dX0_findBest_40 ?_
          refine v_iload_n3 h dX0_findBest_42 ?_
          refine v_icmp_geN h dX0_findBest_43 (tgt := 53) (by decide) (by first | exact Nat.lt_of_le_of_lt (spdN_le hv hrc _) (by decide) | exact Nat.lt_of_le_of_lt (lsK_le (spdN_le hv hrc) k) (by decide)) (by first | exact Nat.lt_of_le_of_lt (spdN_le hv hrc _) (by decide) | exact Nat.lt_of_le_of_lt (lsK_le (spdN_le hv hrc) k) (by decide)) (fun c43 => ?_) (fun c43 => ?_)
          · refine v_iincN4 h (Nat.le_of_ble_eq_true rfl) dX0_findBest_53 ?_
            refine v_goto h dX0_findBest_56 (tgt := 18) (by decide) ?_
            exact vM.le rfl rfl (by first | rw [bsK, if_pos c43] | rw [bsK, if_neg (by omega)]) (vM.fg (ih18 _ (by omega) (k + 1) rfl (by first | assumption | rfl | omega)) ⟨rfl, rfl, rfl, (by first | rw [lsK, if_pos c43] | rw [lsK, if_neg (by omega)]), rfl, trivial⟩)
          · refine v_iload5 h dX0_findBest_46 ?_
            refine v_istore_n3 h (Nat.le_of_ble_eq_true rfl) dX0_findBest_48 ?_
            refine v_aload_n0 h dX0_findBest_49 ?_
            refine cw_V_0_1_2_0_v (ci := 0) h (c_X0_keepAsBest (g := g) (by first | assumption | omega)) lk_X0_52 ⟨rfl, rfl, (Nat.le_of_ble_eq_true rfl), (Nat.le_of_ble_eq_true rfl)⟩ rfl rfl rfl (Nat.le_of_ble_eq_true rfl) dX0_findBest_50 ?_
            refine v_iincN4 h (Nat.le_of_ble_eq_true rfl) dX0_findBest_53 ?_
            refine v_goto h dX0_findBest_56 (tgt := 18) (by decide) ?_
            exact vM.le rfl rfl (by first | rw [bsK, if_pos c43] | rw [bsK, if_neg (by omega)]) (vM.fg (ih18 _ (by omega) (k + 1) rfl (by first | assumption | rfl | omega)) ⟨rfl, rfl, rfl, (by first | rw [lsK, if_pos c43] | rw [lsK, if_neg (by omega)]), rfl, trivial⟩)
  exact vM.fg (L18 _ 0 rfl (by first | assumption | rfl | omega)) ⟨rfl, rfl, rfl, rfl, rfl, trivial⟩
set_option maxRecDepth 20000 in
set_option maxHeartbeats 2000000 in
theorem c_X5_number {g : vG} {s0 s1 s2 s3 s4 : Nat} {rr : Nat → Nat} {fil : Nat → Bool} {srt : Nat → Nat} {len : Nat → Nat} {cc : Nat → Nat → Int32} {k : Nat} {i : Nat} (hk : k < 4) (hfk : fil k = true) (hlk : len k ≤ 40) (hi : i + 3 ≤ len k) (hdg : ∀ z, z < 3 → cc k (i + z) = nI (48 + dv (cc k (i + z))) ∧ dv (cc k (i + z)) ≤ 9) : Ct g yX5_number cX5_number 5 (some .int) (rmOf 3 66) [(s0, .inr (3, [.ref s1, .ref s2, .ref s3, .ref s4])), (s1, .inl (gZ g, 4, .inl (fun z9 => nI (bN (fil z9))))), (s2, .inl (gI g, 4, .inl (fun z9 => nI (srt z9)))), (s3, .inl (gI g, 4, .inl (fun z9 => nI (len z9)))), (s4, .inl (gA g, 4, .inr (.inr (.inr (.inr (fun i => if i < 4 then some (rr i) else none)))))), (rr 0, .inl (gI g, 40, .inl (cc 0))), (rr 1, .inl (gI g, 40, .inl (cc 1))), (rr 2, .inl (gI g, 40, .inl (cc 2))), (rr 3, .inl (gI g, 40, .inl (cc 3)))] [.ref s0, .int (nI k), .int (nI i)] (some (.int (nI (numV (fun z => cc k (i + z)) 0)))) [(s0, .inr (3, [.ref s1, .ref s2, .ref s3, .ref s4])), (s1, .inl (gZ g, 4, .inl (fun z9 => nI (bN (fil z9))))), (s2, .inl (gI g, 4, .inl (fun z9 => nI (srt z9)))), (s3, .inl (gI g, 4, .inl (fun z9 => nI (len z9)))), (s4, .inl (gA g, 4, .inr (.inr (.inr (.inr (fun i => if i < 4 then some (rr i) else none)))))), (rr 0, .inl (gI g, 40, .inl (cc 0))), (rr 1, .inl (gI g, 40, .inl (cc 1))), (rr 2, .inl (gI g, 40, .inl (cc 2))), (rr 3, .inl (gI g, 40, .inl (cc 3)))] := by
  refine Ct.ofV RX5 rfl (by decide +kernel) rfl rfl rfl (Nat.le_of_ble_eq_true rfl) (List.forall_mem_cons.mpr ⟨rfl, (List.forall_mem_cons.mpr ⟨rfl, (List.forall_mem_cons.mpr ⟨rfl, (fun _ h9 => absurd h9 List.not_mem_nil)⟩)⟩)⟩) (fun x h hr => ?_)
  show vM x 0 [some (.ref s0), some (.int (nI k)), some (.int (nI i)), none, none] [] [(s0, .inr (3, [.ref s1, .ref s2, .ref s3, .ref s4])), (s1, .inl (gZ g, 4, .inl (fun z9 => nI (bN (fil z9))))), (s2, .inl (gI g, 4, .inl (fun z9 => nI (srt z9)))), (s3, .inl (gI g, 4, .inl (fun z9 => nI (len z9)))), (s4, .inl (gA g, 4, .inr (.inr (.inr (.inr (fun i => if i < 4 then some (rr i) else none)))))), (rr 0, .inl (gI g, 40, .inl (cc 0))), (rr 1, .inl (gI g, 40, .inl (cc 1))), (rr 2, .inl (gI g, 40, .inl (cc 2))), (rr 3, .inl (gI g, 40, .inl (cc 3)))]
  refine v_iconst h (v := nI 0) dX5_number_0 (by decide) ?_
  refine v_istore_n3 h (Nat.le_of_ble_eq_true rfl) dX5_number_1 ?_
  refine v_iconst h (v := nI 0) dX5_number_2 (by decide) ?_
  refine v_istore4 h (Nat.le_of_ble_eq_true rfl) dX5_number_3 ?_
  have L5 : ∀ (k5 : Nat) (q : Nat), 3 - q = k5 → (q ≤ 3) → vM x 5 [some (.ref s0), some (.int (nI k)), some (.int (nI i)), some (.int (nI (numK (fun z => dv (cc k (i + z))) q))), some (.int (nI q))] [] [(s0, .inr (3, [.ref s1, .ref s2, .ref s3, .ref s4])), (s1, .inl (gZ g, 4, .inl (fun z9 => nI (bN (fil z9))))), (s2, .inl (gI g, 4, .inl (fun z9 => nI (srt z9)))), (s3, .inl (gI g, 4, .inl (fun z9 => nI (len z9)))), (s4, .inl (gA g, 4, .inr (.inr (.inr (.inr (fun i => if i < 4 then some (rr i) else none)))))), (rr 0, .inl (gI g, 40, .inl (cc 0))), (rr 1, .inl (gI g, 40, .inl (cc 1))), (rr 2, .inl (gI g, 40, .inl (cc 2))), (rr 3, .inl (gI g, 40, .inl (cc 3)))] := by
    intro k5
    induction k5 using Nat.strongRecOn with
    | _ k5 ih5 =>
      intro q hm5 hq
      refine v_iload4 h dX5_number_5 ?_
      refine v_iconst h (v := nI 3) dX5_number_7 (by decide) ?_
      refine v_icmp_geN h dX5_number_8 (tgt := 35) (by decide) (by omega) (by omega) (fun c8 => ?_) (fun c8 => ?_)
      · refine v_iload_n3 h dX5_number_35 ?_
        exact v_iret h hr dX5_number_36 (by rw [show q = 3 by omega, numV]; simp only [Nat.zero_add]) rfl
      · refine v_bipush h (v := nI 10) dX5_number_11 (by decide) ?_
        refine v_iload_n3 h dX5_number_13 ?_
        refine v_imulN h dX5_number_14 ?_
        refine v_aload_n0 h dX5_number_15 ?_
        refine v_iload_n1 h dX5_number_16 ?_
        refine v_iload_n2 h dX5_number_17 ?_
        refine v_iload4 h dX5_number_18 ?_
        refine v_iaddN h dX5_number_20 ?_
        refine cw_V_0_1_2_3_4_5_6_7_8_2_i (ci := 3) h (c_X3_cellOf (g := g) (by first | assumption | omega) (by first | assumption | omega) (by first | assumption | omega) (by first | assumption | omega)) lk_X5_15 ⟨rfl, rfl, (Nat.le_of_ble_eq_true rfl), (Nat.le_of_ble_eq_true rfl)⟩ rfl rfl rfl (Nat.le_of_ble_eq_true rfl) dX5_number_21 ?_
        rw [(hdg q (by omega)).1]
        refine v_iaddN h dX5_number_24 ?_
        refine v_bipush h (v := nI 48) dX5_number_25 (by decide) ?_
        refine v_isubN h dX5_number_27 (by omega) ?_
        refine v_istore_n3 h (Nat.le_of_ble_eq_true rfl) dX5_number_28 ?_
        refine v_iincN4 h (Nat.le_of_ble_eq_true rfl) dX5_number_29 ?_
        refine v_goto h dX5_number_32 (tgt := 5) (by decide) ?_
        exact vM.fg (ih5 _ (by omega) (q + 1) rfl (by first | assumption | rfl | omega)) ⟨rfl, rfl, rfl, (by rw [show 10 * numK (fun z => dv (cc k (i + z))) q + (48 + dv (cc k (i + q))) - 48 = numK (fun z => dv (cc k (i + z))) (q + 1) by rw [numK]; omega]), rfl, trivial⟩
  exact vM.fg (L5 _ 0 rfl (by first | assumption | rfl | omega)) ⟨rfl, rfl, rfl, rfl, rfl, trivial⟩
