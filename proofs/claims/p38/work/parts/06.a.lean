theorem pf_X6_9_at0 {x : vX} {g : vG} {cc : ByteArray} {rm : Room} {nL pc : Nat} {lv : List (Option Value)} {st : List Value} {wt : va_W} {a : Nat} {f0 f1 : Value} {v : Int32} (h : Ok x g cc RX6 rm nL) (hd : decode cc pc = .ok (.putfield 9, 3)) (k : vM x (pc + 3) lv st ((a, .inr (5, [.int v, f1])) :: wt)) : vM x pc lv (.int v :: .ref a :: st) ((a, .inr (5, [f0, f1])) :: wt) := v_put h mw_X6 tyX6 tyX6_ok nmX6 0 rfl rfl 0 (by decide) mf_X6_9 rfl (ty := .int) (by decide +kernel) rfl rfl (Nat.le_of_ble_eq_true rfl) hd rfl k
theorem cw_V_0_1_1_i {x : vX} {g : vG} {cc : ByteArray} {own : String} {rm : Room} {nL pc : Nat} {lv : List (Option Value)} {st : List Value} {wt : va_W} {c0 c1 d0 d1 : Nat × va_E} {idx : Nat} {y : MethodName} {bytes : ByteArray} {ml : Nat} {ret : Option FieldType} {rmc : Room} {r : Int32} {p0 : Value} {a ci : Nat} {q : vw_C} {fs : List Value} (h : Ok x g cc own rm nL) (hc : Ct g y bytes ml ret rmc [c0, c1] [.ref a, p0] (some (.int r)) [d0, d1]) (lk : LkV own idx y bytes ml ret 1) (hrm : RmOk rmc rm ml) (hcl : vwCl[ci]? = some q) (hq : y.cls = q.1) (h0 : c0 = (a, .inr (ci, fs))) (hW : (st.map fun v => v.category).sum ≤ 8) (hd : decode cc pc = .ok (.invokevirtual idx, 3)) (k : vM x (pc + 3) lv (.int r :: st) (d0 :: d1 :: wt)) : vM x pc lv (p0 :: .ref a :: st) (c0 :: c1 :: wt) := v_callV (As := [p0]) (rest := st) h hc lk hrm hcl hq (by rw [h0]; rfl) rfl [0, 1] rfl (by decide) hW hd rfl k
theorem lk_X6_19 : LkV RX6 19 yX6_has cX6_has 2 (some .boolean) 1 := ⟨ml_X6_19, mn_X6_has, mv_X6_has, mi_X6, mc_X6_has, ⟨by decide, by decide, by decide +kernel⟩⟩
theorem v_iastN_at1 {x : vX} {g : vG} {cc : ByteArray} {own : String} {rm : Room} {nL pc : Nat} {lv : List (Option Value)} {st : List Value} {w0 : Nat × va_E} {wt : va_W} {n b i v : Nat} {w : Nat → Nat} (h : Ok x g cc own rm nL) (hi : i < n) (hn : n < 2 ^ 31) (hd : decode cc pc = .ok (.iastore, 1)) (k : vM x (pc + 1) lv st (w0 :: (b, .inl (gI g, n, .inl (fun j => nI (up w i v j)))) :: wt)) : vM x pc lv (.int (nI v) :: .int (nI i) :: .ref b :: st) (w0 :: (b, .inl (gI g, n, .inl (fun j => nI (w j)))) :: wt) := v_iastN h 1 rfl hi hn hd rfl k
theorem cw_N_e_2_i {x : vX} {g : vG} {cc : ByteArray} {own : String} {rm : Room} {nL pc : Nat} {lv : List (Option Value)} {st : List Value} {wt : va_W} {idx : Nat} {y : MethodName} {bytes : ByteArray} {ml : Nat} {ret : Option FieldType} {rmc : Room} {r : Int32} {p0 p1 : Value} (h : Ok x g cc own rm nL) (hc : Ct g y bytes ml ret rmc [] [p0, p1] (some (.int r)) []) (lk : LkN own idx y bytes ml ret 2) (hrm : RmOk rmc rm ml) (hW : (st.map fun v => v.category).sum ≤ 8) (hd : decode cc pc = .ok (.invokestatic idx, 3)) (k : vM x (pc + 3) lv (.int r :: st) (wt)) : vM x pc lv (p1 :: p0 :: st) (wt) := v_callN (As := [p0, p1]) (rest := st) h hc lk hrm rfl [] rfl (by decide) hW hd rfl k
theorem lk_X6_23 : LkN RX6 23 yX7_isIn cX7_isIn 2 (some .boolean) 2 := ⟨fun s h => h.1, ms_X7_isIn, mi_X7, mc_X7_isIn, ⟨by decide, by decide, by decide +kernel⟩⟩
theorem lk_X6_27 : LkV RX6 27 yX6_weightOf cX6_weightOf 2 (some .int) 1 := ⟨ml_X6_27, mn_X6_weightOf, mv_X6_weightOf, mi_X6, mc_X6_weightOf, ⟨by decide, by decide, by decide +kernel⟩⟩
theorem pf_X1_9_at0 {x : vX} {g : vG} {cc : ByteArray} {rm : Room} {nL pc : Nat} {lv : List (Option Value)} {st : List Value} {wt : va_W} {a : Nat} {f0 f1 f2 : Value} {v : Int32} (h : Ok x g cc RX1 rm nL) (hd : decode cc pc = .ok (.putfield 9, 3)) (k : vM x (pc + 3) lv st ((a, .inr (1, [.int v, f1, f2])) :: wt)) : vM x pc lv (.int v :: .ref a :: st) ((a, .inr (1, [f0, f1, f2])) :: wt) := v_put h mw_X1 tyX1 tyX1_ok nmX1 0 rfl rfl 0 (by decide) mf_X1_9 rfl (ty := .int) (by decide +kernel) rfl rfl (Nat.le_of_ble_eq_true rfl) hd rfl k
theorem cw_V_0_1_2_1_i {x : vX} {g : vG} {cc : ByteArray} {own : String} {rm : Room} {nL pc : Nat} {lv : List (Option Value)} {st : List Value} {wt : va_W} {c0 c1 c2 d0 d1 d2 : Nat × va_E} {idx : Nat} {y : MethodName} {bytes : ByteArray} {ml : Nat} {ret : Option FieldType} {rmc : Room} {r : Int32} {p0 : Value} {a ci : Nat} {q : vw_C} {fs : List Value} (h : Ok x g cc own rm nL) (hc : Ct g y bytes ml ret rmc [c0, c1, c2] [.ref a, p0] (some (.int r)) [d0, d1, d2]) (lk : LkV own idx y bytes ml ret 1) (hrm : RmOk rmc rm ml) (hcl : vwCl[ci]? = some q) (hq : y.cls = q.1) (h0 : c0 = (a, .inr (ci, fs))) (hW : (st.map fun v => v.category).sum ≤ 8) (hd : decode cc pc = .ok (.invokevirtual idx, 3)) (k : vM x (pc + 3) lv (.int r :: st) (d0 :: d1 :: d2 :: wt)) : vM x pc lv (p0 :: .ref a :: st) (c0 :: c1 :: c2 :: wt) := v_callV (As := [p0]) (rest := st) h hc lk hrm hcl hq (by rw [h0]; rfl) rfl [0, 1, 2] rfl (by decide) hW hd rfl k
theorem lk_X1_22 : LkV RX1 22 yX1_has cX1_has 2 (some .boolean) 1 := ⟨ml_X1_22, mn_X1_has, mv_X1_has, mi_X1, mc_X1_has, ⟨by decide, by decide, by decide +kernel⟩⟩
theorem v_iastN_at2 {x : vX} {g : vG} {cc : ByteArray} {own : String} {rm : Room} {nL pc : Nat} {lv : List (Option Value)} {st : List Value} {w0 w1 : Nat × va_E} {wt : va_W} {n b i v : Nat} {w : Nat → Nat} (h : Ok x g cc own rm nL) (hi : i < n) (hn : n < 2 ^ 31) (hd : decode cc pc = .ok (.iastore, 1)) (k : vM x (pc + 1) lv st (w0 :: w1 :: (b, .inl (gI g, n, .inl (fun j => nI (up w i v j)))) :: wt)) : vM x pc lv (.int (nI v) :: .int (nI i) :: .ref b :: st) (w0 :: w1 :: (b, .inl (gI g, n, .inl (fun j => nI (w j)))) :: wt) := v_iastN h 2 rfl hi hn hd rfl k
theorem lk_X1_26 : LkV RX1 26 yX1_timesOf cX1_timesOf 2 (some .int) 1 := ⟨ml_X1_26, mn_X1_timesOf, mv_X1_timesOf, mi_X1, mc_X1_timesOf, ⟨by decide, by decide, by decide +kernel⟩⟩
theorem lk_X1_30 : LkV RX1 30 yX1_kindOf cX1_kindOf 2 (some .int) 1 := ⟨ml_X1_30, mn_X1_kindOf, mv_X1_kindOf, mi_X1, mc_X1_kindOf, ⟨by decide, by decide, by decide +kernel⟩⟩
theorem cw_V_0_1_2_3_i {x : vX} {g : vG} {cc : ByteArray} {own : String} {rm : Room} {nL pc : Nat} {lv : List (Option Value)} {st : List Value} {wt : va_W} {c0 c1 c2 d0 d1 d2 : Nat × va_E} {idx : Nat} {y : MethodName} {bytes : ByteArray} {ml : Nat} {ret : Option FieldType} {rmc : Room} {r : Int32} {p0 p1 p2 : Value} {a ci : Nat} {q : vw_C} {fs : List Value} (h : Ok x g cc own rm nL) (hc : Ct g y bytes ml ret rmc [c0, c1, c2] [.ref a, p0, p1, p2] (some (.int r)) [d0, d1, d2]) (lk : LkV own idx y bytes ml ret 3) (hrm : RmOk rmc rm ml) (hcl : vwCl[ci]? = some q) (hq : y.cls = q.1) (h0 : c0 = (a, .inr (ci, fs))) (hW : (st.map fun v => v.category).sum ≤ 8) (hd : decode cc pc = .ok (.invokevirtual idx, 3)) (k : vM x (pc + 3) lv (.int r :: st) (d0 :: d1 :: d2 :: wt)) : vM x pc lv (p2 :: p1 :: p0 :: .ref a :: st) (c0 :: c1 :: c2 :: wt) := v_callV (As := [p0, p1, p2]) (rest := st) h hc lk hrm hcl hq (by rw [h0]; rfl) rfl [0, 1, 2] rfl (by decide) hW hd rfl k
theorem lk_X1_33 : LkV RX1 33 yX1_feelsHeavier cX1_feelsHeavier 5 (some .boolean) 3 := ⟨ml_X1_33, mn_X1_feelsHeavier, mv_X1_feelsHeavier, mi_X1, mc_X1_feelsHeavier, ⟨by decide, by decide, by decide +kernel⟩⟩
set_option maxRecDepth 20000 in
set_option maxHeartbeats 2000000 in
theorem c_X6_count {g : vG} {t0 t1 : Nat} {n : Nat} {w : Nat → Nat} : Ct g yX6_count cX6_count 1 (some .int) (rmOf 0 0) [(t0, .inr (5, [.int (nI n), .ref t1])), (t1, .inl (gI g, 8, .inl (fun z9 => nI (w z9))))] [.ref t0] (some (.int (nI n))) [(t0, .inr (5, [.int (nI n), .ref t1])), (t1, .inl (gI g, 8, .inl (fun z9 => nI (w z9))))] := by
  refine Ct.ofV RX6 rfl (by decide +kernel) rfl rfl rfl (Nat.le_of_ble_eq_true rfl) (List.forall_mem_cons.mpr ⟨rfl, (fun _ h9 => absurd h9 List.not_mem_nil)⟩) (fun x h hr => ?_)
  show vM x 0 [some (.ref t0)] [] [(t0, .inr (5, [.int (nI n), .ref t1])), (t1, .inl (gI g, 8, .inl (fun z9 => nI (w z9))))]
  refine v_aload_n0 h dX6_count_0 ?_
  refine v_get h mw_X6 0 rfl rfl 0 (by decide) mf_X6_9 rfl dX6_count_1 ?_
  exact v_iret h hr dX6_count_4 rfl rfl
set_option maxRecDepth 20000 in
set_option maxHeartbeats 2000000 in
theorem c_X6_clear {g : vG} {t0 t1 : Nat} {n : Nat} {w : Nat → Nat} : Ct g yX6_clear cX6_clear 1 none (rmOf 0 0) [(t0, .inr (5, [.int (nI n), .ref t1])), (t1, .inl (gI g, 8, .inl (fun z9 => nI (w z9))))] [.ref t0] none [(t0, .inr (5, [.int (nI 0), .ref t1])), (t1, .inl (gI g, 8, .inl (fun z9 => nI (w z9))))] := by
  refine Ct.ofV RX6 rfl (by decide +kernel) rfl rfl rfl (Nat.le_of_ble_eq_true rfl) (List.forall_mem_cons.mpr ⟨rfl, (fun _ h9 => absurd h9 List.not_mem_nil)⟩) (fun x h hr => ?_)
  show vM x 0 [some (.ref t0)] [] [(t0, .inr (5, [.int (nI n), .ref t1])), (t1, .inl (gI g, 8, .inl (fun z9 => nI (w z9))))]
  refine v_aload_n0 h dX6_clear_0 ?_
  refine v_iconst h (v := nI 0) dX6_clear_1 (by decide) ?_
  refine pf_X6_9_at0 h dX6_clear_2 ?_
  exact v_vret h hr dX6_clear_5 rfl
set_option maxRecDepth 20000 in
set_option maxHeartbeats 2000000 in
theorem c_X6_has {g : vG} {t0 t1 : Nat} {n : Nat} {w : Nat → Nat} {p : Int32} (ht1 : n ≤ 8) : Ct g yX6_has cX6_has 2 (some .boolean) (rmOf 0 0) [(t0, .inr (5, [.int (nI n), .ref t1])), (t1, .inl (gI g, 8, .inl (fun z9 => nI (w z9))))] [.ref t0, .int p] (some (.int (nI (bN (inR p n))))) [(t0, .inr (5, [.int (nI n), .ref t1])), (t1, .inl (gI g, 8, .inl (fun z9 => nI (w z9))))] := by
  refine Ct.ofV RX6 rfl (by decide +kernel) rfl rfl rfl (Nat.le_of_ble_eq_true rfl) (List.forall_mem_cons.mpr ⟨rfl, (List.forall_mem_cons.mpr ⟨rfl, (fun _ h9 => absurd h9 List.not_mem_nil)⟩)⟩) (fun x h hr => ?_)
  show vM x 0 [some (.ref t0), some (.int p)] [] [(t0, .inr (5, [.int (nI n), .ref t1])), (t1, .inl (gI g, 8, .inl (fun z9 => nI (w z9))))]
  refine v_iload_n1 h dX6_has_0 ?_
  refine v_if_lt h dX6_has_1 (tgt := 25) (by decide) (fun c1 => ?_) (fun c1 => ?_)
  · refine v_iconst h (v := nI 0) dX6_has_25 (by decide) ?_
    exact v_zret (v := false) h hr dX6_has_26 (by first | exact (inR_f0 c1).symm | exact (inR_f1 c9).symm | exact (inR_t c1 c9).symm) rfl
  · refine v_iload_n1 h dX6_has_4 ?_
    refine v_aload_n0 h dX6_has_5 ?_
    refine v_get h mw_X6 0 rfl rfl 0 (by decide) mf_X6_9 rfl dX6_has_6 ?_
    refine v_icmp_ge h dX6_has_9 (tgt := 25) (by decide) (fun c9 => ?_) (fun c9 => ?_)
    · refine v_iconst h (v := nI 0) dX6_has_25 (by decide) ?_
      exact v_zret (v := false) h hr dX6_has_26 (by first | exact (inR_f0 c1).symm | exact (inR_f1 c9).symm | exact (inR_t c1 c9).symm) rfl
    · refine v_iload_n1 h dX6_has_12 ?_
      refine v_aload_n0 h dX6_has_13 ?_
      refine v_get h mw_X6 0 rfl rfl 1 (by decide) mf_X6_15 rfl dX6_has_14 ?_
      refine v_alen h 1 rfl dX6_has_17 ?_
      refine v_icmp_ge h dX6_has_18 (tgt := 25) (by decide) (fun c18 => ?_) (fun c18 => ?_)
      · exact inR_big ht1 (by decide) c9 c18
      · refine v_iconst h (v := nI 1) dX6_has_21 (by decide) ?_
        refine v_goto h dX6_has_22 (tgt := 26) (by decide) ?_
        exact v_zret (v := true) h hr dX6_has_26 (by first | exact (inR_f0 c1).symm | exact (inR_f1 c9).symm | exact (inR_t c1 c9).symm) rfl
set_option maxRecDepth 20000 in
set_option maxHeartbeats 2000000 in
theorem c_X6_weightOf {g : vG} {t0 t1 : Nat} {n : Nat} {w : Nat → Nat} {j : Nat} (ht1 : n ≤ 8) (hj : j < n) : Ct g yX6_weightOf cX6_weightOf 2 (some .int) (rmOf 1 21) [(t0, .inr (5, [.int (nI n), .ref t1])), (t1, .inl (gI g, 8, .inl (fun z9 => nI (w z9))))] [.ref t0, .int (nI j)] (some (.int (nI (w j)))) [(t0, .inr (5, [.int (nI n), .ref t1])), (t1, .inl (gI g, 8, .inl (fun z9 => nI (w z9))))] := by
  refine Ct.ofV RX6 rfl (by decide +kernel) rfl rfl rfl (Nat.le_of_ble_eq_true rfl) (List.forall_mem_cons.mpr ⟨rfl, (List.forall_mem_cons.mpr ⟨rfl, (fun _ h9 => absurd h9 List.not_mem_nil)⟩)⟩) (fun x h hr => ?_)
  show vM x 0 [some (.ref t0), some (.int (nI j))] [] [(t0, .inr (5, [.int (nI n), .ref t1])), (t1, .inl (gI g, 8, .inl (fun z9 => nI (w z9))))]
  refine v_aload_n0 h dX6_weightOf_0 ?_
  refine v_iload_n1 h dX6_weightOf_1 ?_
  refine cw_V_0_1_1_i (ci := 5) h (c_X6_has (g := g) (by first | assumption | omega)) lk_X6_19 ⟨rfl, rfl, (Nat.le_of_ble_eq_true rfl), (Nat.le_of_ble_eq_true rfl)⟩ rfl rfl rfl (Nat.le_of_ble_eq_true rfl) dX6_weightOf_2 ?_
  refine v_if_eqB h dX6_weightOf_5 (tgt := 17) (by decide) (fun c5 => ?_) (fun c5 => ?_)
  · exact inR_no hj (by omega) c5
  · refine v_aload_n0 h dX6_weightOf_8 ?_
    refine v_get h mw_X6 0 rfl rfl 1 (by decide) mf_X6_15 rfl dX6_weightOf_9 ?_
    refine v_iload_n1 h dX6_weightOf_12 ?_
    refine v_ialdN h 1 rfl (by omega) (Nat.le_of_ble_eq_true rfl) dX6_weightOf_13 ?_
    refine v_goto h dX6_weightOf_14 (tgt := 18) (by decide) ?_
    exact v_iret h hr dX6_weightOf_18 rfl rfl
set_option maxRecDepth 20000 in
set_option maxHeartbeats 2000000 in
theorem c_X6_setWeight {g : vG} {t0 t1 : Nat} {n : Nat} {w : Nat → Nat} {j : Nat} {v : Nat} (ht1 : n ≤ 8) (hj : j < n) : Ct g yX6_setWeight cX6_setWeight 3 none (rmOf 1 21) [(t0, .inr (5, [.int (nI n), .ref t1])), (t1, .inl (gI g, 8, .inl (fun z9 => nI (w z9))))] [.ref t0, .int (nI j), .int (nI v)] none [(t0, .inr (5, [.int (nI n), .ref t1])), (t1, .inl (gI g, 8, .inl (fun z9 => nI ((up w j v) z9))))] := by
  refine Ct.ofV RX6 rfl (by decide +kernel) rfl rfl rfl (Nat.le_of_ble_eq_true rfl) (List.forall_mem_cons.mpr ⟨rfl, (List.forall_mem_cons.mpr ⟨rfl, (List.forall_mem_cons.mpr ⟨rfl, (fun _ h9 => absurd h9 List.not_mem_nil)⟩)⟩)⟩) (fun x h hr => ?_)
  show vM x 0 [some (.ref t0), some (.int (nI j)), some (.int (nI v))] [] [(t0, .inr (5, [.int (nI n), .ref t1])), (t1, .inl (gI g, 8, .inl (fun z9 => nI (w z9))))]
  refine v_aload_n0 h dX6_setWeight_0 ?_
  refine v_iload_n1 h dX6_setWeight_1 ?_
  refine cw_V_0_1_1_i (ci := 5) h (c_X6_has (g := g) (by first | assumption | omega)) lk_X6_19 ⟨rfl, rfl, (Nat.le_of_ble_eq_true rfl), (Nat.le_of_ble_eq_true rfl)⟩ rfl rfl rfl (Nat.le_of_ble_eq_true rfl) dX6_setWeight_2 ?_
  refine v_if_eqB h dX6_setWeight_5 (tgt := 15) (by decide) (fun c5 => ?_) (fun c5 => ?_)
  · exact inR_no hj (by omega) c5
  · refine v_aload_n0 h dX6_setWeight_8 ?_
    refine v_get h mw_X6 0 rfl rfl 1 (by decide) mf_X6_15 rfl dX6_setWeight_9 ?_
    refine v_iload_n1 h dX6_setWeight_12 ?_
    refine v_iload_n2 h dX6_setWeight_13 ?_
    refine v_iastN_at1 h (by omega) (Nat.le_of_ble_eq_true rfl) dX6_setWeight_14 ?_
    exact v_vret h hr dX6_setWeight_15 rfl
set_option maxRecDepth 20000 in
set_option maxHeartbeats 2000000 in
theorem c_X6_add {g : vG} {t0 t1 : Nat} {n : Nat} {w : Nat → Nat} {v : Nat} (ht1 : n < 8) : Ct g yX6_add cX6_add 2 none (rmOf 0 0) [(t0, .inr (5, [.int (nI n), .ref t1])), (t1, .inl (gI g, 8, .inl (fun z9 => nI (w z9))))] [.ref t0, .int (nI v)] none [(t0, .inr (5, [.int (nI (n + 1)), .ref t1])), (t1, .inl (gI g, 8, .inl (fun z9 => nI ((up w n v) z9))))] := by
  refine Ct.ofV RX6 rfl (by decide +kernel) rfl rfl rfl (Nat.le_of_ble_eq_true rfl) (List.forall_mem_cons.mpr ⟨rfl, (List.forall_mem_cons.mpr ⟨rfl, (fun _ h9 => absurd h9 List.not_mem_nil)⟩)⟩) (fun x h hr => ?_)
  show vM x 0 [some (.ref t0), some (.int (nI v))] [] [(t0, .inr (5, [.int (nI n), .ref t1])), (t1, .inl (gI g, 8, .inl (fun z9 => nI (w z9))))]
  refine v_aload_n0 h dX6_add_0 ?_
  refine v_get h mw_X6 0 rfl rfl 0 (by decide) mf_X6_9 rfl dX6_add_1 ?_
  refine v_aload_n0 h dX6_add_4 ?_
  refine v_get h mw_X6 0 rfl rfl 1 (by decide) mf_X6_15 rfl dX6_add_5 ?_
  refine v_alen h 1 rfl dX6_add_8 ?_
  refine v_icmp_geN h dX6_add_9 (tgt := 32) (by decide) (by omega) (by omega) (fun c9 => ?_) (fun c9 => ?_)
  · omega
  · refine v_aload_n0 h dX6_add_12 ?_
    refine v_get h mw_X6 0 rfl rfl 1 (by decide) mf_X6_15 rfl dX6_add_13 ?_
    refine v_aload_n0 h dX6_add_16 ?_
    refine v_get h mw_X6 0 rfl rfl 0 (by decide) mf_X6_9 rfl dX6_add_17 ?_
    refine v_iload_n1 h dX6_add_20 ?_
    refine v_iastN_at1 h (by omega) (Nat.le_of_ble_eq_true rfl) dX6_add_21 ?_
    refine v_aload_n0 h dX6_add_22 ?_
    refine v_dup h dX6_add_23 rfl ?_
    refine v_get h mw_X6 0 rfl rfl 0 (by decide) mf_X6_9 rfl dX6_add_24 ?_
    refine v_iconst h (v := nI 1) dX6_add_27 (by decide) ?_
    refine v_iaddN h dX6_add_28 ?_
    refine pf_X6_9_at0 h dX6_add_29 ?_
    exact v_vret h hr dX6_add_32 rfl
set_option maxRecDepth 20000 in
set_option maxHeartbeats 2000000 in
theorem c_X7_isIn {g : vG} {a : Nat} {b : Nat} (ha : a < 2 ^ 31) (hb : b < 32) : Ct g yX7_isIn cX7_isIn 2 (some .boolean) (rmOf 0 0) [] [.int (nI a), .int (nI b)] (some (.int (nI (bN (a.testBit b))))) [] := by
  refine Ct.ofV RX7 rfl (by decide +kernel) rfl rfl rfl (Nat.le_of_ble_eq_true rfl) (List.forall_mem_cons.mpr ⟨rfl, (List.forall_mem_cons.mpr ⟨rfl, (fun _ h9 => absurd h9 List.not_mem_nil)⟩)⟩) (fun x h hr => ?_)
  show vM x 0 [some (.int (nI a)), some (.int (nI b))] [] []
  refine v_iload_n0 h dX7_isIn_0 ?_
  refine v_iload_n1 h dX7_isIn_1 ?_
  refine v_ishrN h dX7_isIn_2 (by omega) (by omega) ?_
  refine v_iconst h (v := nI 1) dX7_isIn_3 (by decide) ?_
  refine v_iandN h dX7_isIn_4 ?_
  refine v_iconst h (v := nI 1) dX7_isIn_5 (by decide) ?_
  refine v_icmp_neN h dX7_isIn_6 (tgt := 13) (by decide) (by first | omega | exact and1_lt _) (by first | omega | exact and1_lt _) (fun c6 => ?_) (fun c6 => ?_)
  · refine v_iconst h (v := nI 0) dX7_isIn_13 (by decide) ?_
    exact v_zret (v := false) h hr dX7_isIn_14 (by first | exact (testBit_of (by omega)).symm | exact (testBit_no (by omega)).symm) rfl
  · refine v_iconst h (v := nI 1) dX7_isIn_9 (by decide) ?_
    refine v_goto h dX7_isIn_10 (tgt := 14) (by decide) ?_
    exact v_zret (v := true) h hr dX7_isIn_14 (by first | exact (testBit_of (by omega)).symm | exact (testBit_no (by omega)).symm) rfl
set_option maxRecDepth 20000 in
set_option maxHeartbeats 2000000 in
theorem c_X6_greatestOf {g : vG} {t0 t1 : Nat} {n : Nat} {w : Nat → Nat} {a : Nat} (hT : wfT n w) (ha : a < 2 ^ 31) : Ct g yX6_greatestOf cX6_greatestOf 4 (some .int) (rmOf 2 42) [(t0, .inr (5, [.int (nI n), .ref t1])), (t1, .inl (gI g, 8, .inl (fun z9 => nI (w z9))))] [.ref t0, .int (nI a)] (some (.int (nI (maxTo (fun z => if a.testBit z then w z else 0) n)))) [(t0, .inr (5, [.int (nI n), .ref t1])), (t1, .inl (gI g, 8, .inl (fun z9 => nI (w z9))))] := by
  refine Ct.ofV RX6 rfl (by decide +kernel) rfl rfl rfl (Nat.le_of_ble_eq_true rfl) (List.forall_mem_cons.mpr ⟨rfl, (List.forall_mem_cons.mpr ⟨rfl, (fun _ h9 => absurd h9 List.not_mem_nil)⟩)⟩) (fun x h hr => ?_)
  show vM x 0 [some (.ref t0), some (.int (nI a)), none, none] [] [(t0, .inr (5, [.int (nI n), .ref t1])), (t1, .inl (gI g, 8, .inl (fun z9 => nI (w z9))))]
  have ht1 := hT.1; have ht2 := hT.2.1; have ht3 := hT.2.2
  refine v_iconst h (v := nI 0) dX6_greatestOf_0 (by decide) ?_
  refine v_istore_n2 h (Nat.le_of_ble_eq_true rfl) dX6_greatestOf_1 ?_
  refine v_iconst h (v := nI 0) dX6_greatestOf_2 (by decide) ?_
  refine v_istore_n3 h (Nat.le_of_ble_eq_true rfl) dX6_greatestOf_3 ?_
  have L4 : ∀ (k4 : Nat) (i : Nat), n - i = k4 → (i ≤ n) → vM x 4 [some (.ref t0), some (.int (nI a)), some (.int (nI (maxTo (fun z => if a.testBit z then w z else 0) i))), some (.int (nI i))] [] [(t0, .inr (5, [.int (nI n), .ref t1])), (t1, .inl (gI g, 8, .inl (fun z9 => nI (w z9))))] := by
    intro k4
    induction k4 using Nat.strongRecOn with
    | _ k4 ih4 =>
      intro i hm4 hi
      refine v_iload_n3 h dX6_greatestOf_4 ?_
      refine v_aload_n0 h dX6_greatestOf_5 ?_
      refine v_get h mw_X6 0 rfl rfl 0 (by decide) mf_X6_9 rfl dX6_greatestOf_6 ?_
      refine v_icmp_geN h dX6_greatestOf_9 (tgt := 40) (by decide) (by omega) (by omega) (fun c9 => ?_) (fun c9 => ?_)
      · refine v_iload_n2 h dX6_greatestOf_40 ?_
        exact v_iret h hr dX6_greatestOf_41 (by rw [show i = n by omega]) rfl
      · refine v_iload_n1 h dX6_greatestOf_12 ?_
        refine v_iload_n3 h dX6_greatestOf_13 ?_
        refine cw_N_e_2_i h (c_X7_isIn (g := g) (by first | assumption | omega) (by first | assumption | omega)) lk_X6_23 ⟨rfl, rfl, (Nat.le_of_ble_eq_true rfl), (Nat.le_of_ble_eq_true rfl)⟩ (Nat.le_of_ble_eq_true rfl) dX6_greatestOf_14 ?_
        refine v_if_eqB h dX6_greatestOf_17 (tgt := 32) (by decide) (fun c17 => ?_) (fun c17 => ?_)
        · refine v_iload_n2 h dX6_greatestOf_32 ?_
          refine v_istore_n2 h (Nat.le_of_ble_eq_true rfl) dX6_greatestOf_33 ?_
          refine v_iincN3 h (Nat.le_of_ble_eq_true rfl) dX6_greatestOf_34 ?_
          refine v_goto h dX6_greatestOf_37 (tgt := 4) (by decide) ?_
          exact vM.fg (ih4 _ (by omega) (i + 1) rfl (by first | assumption | rfl | omega)) ⟨rfl, rfl, (by rw [maxTo]; simp [c17]), rfl, trivial⟩
        · refine v_iload_n2 h dX6_greatestOf_20 ?_
          refine v_aload_n0 h dX6_greatestOf_21 ?_
          refine v_iload_n3 h dX6_greatestOf_22 ?_
          refine cw_V_0_1_1_i (ci := 5) h (c_X6_weightOf (g := g) (by first | assumption | omega) (by first | assumption | omega)) lk_X6_27 ⟨rfl, rfl, (Nat.le_of_ble_eq_true rfl), (Nat.le_of_ble_eq_true rfl)⟩ rfl rfl rfl (Nat.le_of_ble_eq_true rfl) dX6_greatestOf_23 ?_
          refine v_maxN h ml_X6_31 (Nat.le_of_ble_eq_true rfl) (Nat.le_of_ble_eq_true rfl) dX6_greatestOf_26 (by first | (have := ht2 i; omega) | exact Nat.lt_of_le_of_lt (maxTo_le (b := 999) (fun j => by have := ht2 j; split <;> omega) i) (by decide)) (by first | (have := ht2 i; omega) | exact Nat.lt_of_le_of_lt (maxTo_le (b := 999) (fun j => by have := ht2 j; split <;> omega) i) (by decide)) ?_
          refine v_goto h dX6_greatestOf_29 (tgt := 33) (by decide) ?_
          refine v_istore_n2 h (Nat.le_of_ble_eq_true rfl) dX6_greatestOf_33 ?_
          refine v_iincN3 h (Nat.le_of_ble_eq_true rfl) dX6_greatestOf_34 ?_
          refine v_goto h dX6_greatestOf_37 (tgt := 4) (by decide) ?_
          exact vM.fg (ih4 _ (by omega) (i + 1) rfl (by first | assumption | rfl | omega)) ⟨rfl, rfl, (by rw [maxTo]; simp [c17]), rfl, trivial⟩
  exact vM.fg (L4 _ 0 rfl (by first | assumption | rfl | omega)) ⟨rfl, rfl, rfl, rfl, trivial⟩
set_option maxRecDepth 20000 in
set_option maxHeartbeats 2000000 in
theorem c_X1_clear {g : vG} {h0 h1 h2 : Nat} {hn : Nat} {kd : Nat → Nat} {pt : Nat → Nat} : Ct g yX1_clear cX1_clear 1 none (rmOf 0 0) [(h0, .inr (1, [.int (nI hn), .ref h1, .ref h2])), (h1, .inl (gI g, 6, .inl (fun z9 => nI (kd z9)))), (h2, .inl (gI g, 6, .inl (fun z9 => nI (pt z9))))] [.ref h0] none [(h0, .inr (1, [.int (nI 0), .ref h1, .ref h2])), (h1, .inl (gI g, 6, .inl (fun z9 => nI (kd z9)))), (h2, .inl (gI g, 6, .inl (fun z9 => nI (pt z9))))] := by
  refine Ct.ofV RX1 rfl (by decide +kernel) rfl rfl rfl (Nat.le_of_ble_eq_true rfl) (List.forall_mem_cons.mpr ⟨rfl, (fun _ h9 => absurd h9 List.not_mem_nil)⟩) (fun x h hr => ?_)
  show vM x 0 [some (.ref h0)] [] [(h0, .inr (1, [.int (nI hn), .ref h1, .ref h2])), (h1, .inl (gI g, 6, .inl (fun z9 => nI (kd z9)))), (h2, .inl (gI g, 6, .inl (fun z9 => nI (pt z9))))]
  refine v_aload_n0 h dX1_clear_0 ?_
  refine v_iconst h (v := nI 0) dX1_clear_1 (by decide) ?_
  refine pf_X1_9_at0 h dX1_clear_2 ?_
  exact v_vret h hr dX1_clear_5 rfl
set_option maxRecDepth 20000 in
set_option maxHeartbeats 2000000 in
theorem c_X1_has {g : vG} {h0 h1 h2 : Nat} {hn : Nat} {kd : Nat → Nat} {pt : Nat → Nat} {p : Int32} (hh1 : hn ≤ 6) : Ct g yX1_has cX1_has 2 (some .boolean) (rmOf 0 0) [(h0, .inr (1, [.int (nI hn), .ref h1, .ref h2])), (h1, .inl (gI g, 6, .inl (fun z9 => nI (kd z9)))), (h2, .inl (gI g, 6, .inl (fun z9 => nI (pt z9))))] [.ref h0, .int p] (some (.int (nI (bN (inR p hn))))) [(h0, .inr (1, [.int (nI hn), .ref h1, .ref h2])), (h1, .inl (gI g, 6, .inl (fun z9 => nI (kd z9)))), (h2, .inl (gI g, 6, .inl (fun z9 => nI (pt z9))))] := by
  refine Ct.ofV RX1 rfl (by decide +kernel) rfl rfl rfl (Nat.le_of_ble_eq_true rfl) (List.forall_mem_cons.mpr ⟨rfl, (List.forall_mem_cons.mpr ⟨rfl, (fun _ h9 => absurd h9 List.not_mem_nil)⟩)⟩) (fun x h hr => ?_)
  show vM x 0 [some (.ref h0), some (.int p)] [] [(h0, .inr (1, [.int (nI hn), .ref h1, .ref h2])), (h1, .inl (gI g, 6, .inl (fun z9 => nI (kd z9)))), (h2, .inl (gI g, 6, .inl (fun z9 => nI (pt z9))))]
  refine v_iload_n1 h dX1_has_0 ?_
  refine v_if_lt h dX1_has_1 (tgt := 22) (by decide) (fun c1 => ?_) (fun c1 => ?_)
  · refine v_iconst h (v := nI 0) dX1_has_22 (by decide) ?_
    exact v_zret (v := false) h hr dX1_has_23 (by first | exact (inR_f0 c1).symm | exact (inR_f1 c9).symm | exact (inR_t c1 c9).symm) rfl
  · refine v_iload_n1 h dX1_has_4 ?_
    refine v_aload_n0 h dX1_has_5 ?_
    refine v_get h mw_X1 0 rfl rfl 0 (by decide) mf_X1_9 rfl dX1_has_6 ?_
    refine v_icmp_ge h dX1_has_9 (tgt := 22) (by decide) (fun c9 => ?_) (fun c9 => ?_)
    · refine v_iconst h (v := nI 0) dX1_has_22 (by decide) ?_
      exact v_zret (v := false) h hr dX1_has_23 (by first | exact (inR_f0 c1).symm | exact (inR_f1 c9).symm | exact (inR_t c1 c9).symm) rfl
    · refine v_iload_n1 h dX1_has_12 ?_
      refine v_bipush h (v := nI 6) dX1_has_13 (by decide) ?_
      refine v_icmp_ge h dX1_has_15 (tgt := 22) (by decide) (fun c15 => ?_) (fun c15 => ?_)
      · exact inR_big hh1 (by decide) c9 c15
      · refine v_iconst h (v := nI 1) dX1_has_18 (by decide) ?_
        refine v_goto h dX1_has_19 (tgt := 23) (by decide) ?_
        exact v_zret (v := true) h hr dX1_has_23 (by first | exact (inR_f0 c1).symm | exact (inR_f1 c9).symm | exact (inR_t c1 c9).symm) rfl
set_option maxRecDepth 20000 in
set_option maxHeartbeats 2000000 in
theorem c_X1_kindOf {g : vG} {h0 h1 h2 : Nat} {hn : Nat} {kd : Nat → Nat} {pt : Nat → Nat} {j : Nat} (hh1 : hn ≤ 6) (hj : j < hn) : Ct g yX1_kindOf cX1_kindOf 2 (some .int) (rmOf 1 21) [(h0, .inr (1, [.int (nI hn), .ref h1, .ref h2])), (h1, .inl (gI g, 6, .inl (fun z9 => nI (kd z9)))), (h2, .inl (gI g, 6, .inl (fun z9 => nI (pt z9))))] [.ref h0, .int (nI j)] (some (.int (nI (kd j)))) [(h0, .inr (1, [.int (nI hn), .ref h1, .ref h2])), (h1, .inl (gI g, 6, .inl (fun z9 => nI (kd z9)))), (h2, .inl (gI g, 6, .inl (fun z9 => nI (pt z9))))] := by
  refine Ct.ofV RX1 rfl (by decide +kernel) rfl rfl rfl (Nat.le_of_ble_eq_true rfl) (List.forall_mem_cons.mpr ⟨rfl, (List.forall_mem_cons.mpr ⟨rfl, (fun _ h9 => absurd h9 List.not_mem_nil)⟩)⟩) (fun x h hr => ?_)
  show vM x 0 [some (.ref h0), some (.int (nI j))] [] [(h0, .inr (1, [.int (nI hn), .ref h1, .ref h2])), (h1, .inl (gI g, 6, .inl (fun z9 => nI (kd z9)))), (h2, .inl (gI g, 6, .inl (fun z9 => nI (pt z9))))]
  refine v_aload_n0 h dX1_kindOf_0 ?_
  refine v_iload_n1 h dX1_kindOf_1 ?_
  refine cw_V_0_1_2_1_i (ci := 1) h (c_X1_has (g := g) (by first | assumption | omega)) lk_X1_22 ⟨rfl, rfl, (Nat.le_of_ble_eq_true rfl), (Nat.le_of_ble_eq_true rfl)⟩ rfl rfl rfl (Nat.le_of_ble_eq_true rfl) dX1_kindOf_2 ?_
  refine v_if_eqB h dX1_kindOf_5 (tgt := 17) (by decide) (fun c5 => ?_) (fun c5 => ?_)
  · exact inR_no hj (by omega) c5
  · refine v_aload_n0 h dX1_kindOf_8 ?_
    refine v_get h mw_X1 0 rfl rfl 1 (by decide) mf_X1_15 rfl dX1_kindOf_9 ?_
    refine v_iload_n1 h dX1_kindOf_12 ?_
    refine v_ialdN h 1 rfl (by omega) (Nat.le_of_ble_eq_true rfl) dX1_kindOf_13 ?_
    refine v_goto h dX1_kindOf_14 (tgt := 18) (by decide) ?_
    exact v_iret h hr dX1_kindOf_18 rfl rfl
set_option maxRecDepth 20000 in
set_option maxHeartbeats 2000000 in
theorem c_X1_add {g : vG} {h0 h1 h2 : Nat} {hn : Nat} {kd : Nat → Nat} {pt : Nat → Nat} {k : Nat} {v : Nat} (hh1 : hn ≤ 6) : Ct g yX1_add cX1_add 3 (some .int) (rmOf 0 0) [(h0, .inr (1, [.int (nI hn), .ref h1, .ref h2])), (h1, .inl (gI g, 6, .inl (fun z9 => nI (kd z9)))), (h2, .inl (gI g, 6, .inl (fun z9 => nI (pt z9))))] [.ref h0, .int (nI k), .int (nI v)] (some (.int (if hn < 6 then nI hn else -4))) [(h0, .inr (1, [.int (nI (if hn < 6 then hn + 1 else hn)), .ref h1, .ref h2])), (h1, .inl (gI g, 6, .inl (fun z9 => nI ((if hn < 6 then up kd hn k else kd) z9)))), (h2, .inl (gI g, 6, .inl (fun z9 => nI ((if hn < 6 then up pt hn v else pt) z9))))] := by
  refine Ct.ofV RX1 rfl (by decide +kernel) rfl rfl rfl (Nat.le_of_ble_eq_true rfl) (List.forall_mem_cons.mpr ⟨rfl, (List.forall_mem_cons.mpr ⟨rfl, (List.forall_mem_cons.mpr ⟨rfl, (fun _ h9 => absurd h9 List.not_mem_nil)⟩)⟩)⟩) (fun x h hr => ?_)
  show vM x 0 [some (.ref h0), some (.int (nI k)), some (.int (nI v))] [] [(h0, .inr (1, [.int (nI hn), .ref h1, .ref h2])), (h1, .inl (gI g, 6, .inl (fun z9 => nI (kd z9)))), (h2, .inl (gI g, 6, .inl (fun z9 => nI (pt z9))))]
  refine v_aload_n0 h dX1_add_0 ?_
  refine v_get h mw_X1 0 rfl rfl 0 (by decide) mf_X1_9 rfl dX1_add_1 ?_
  refine v_bipush h (v := nI 6) dX1_add_4 (by decide) ?_
  refine v_icmp_ltN h dX1_add_6 (tgt := 12) (by decide) (by omega) (by omega) (fun c6 => ?_) (fun c6 => ?_)
  · refine v_aload_n0 h dX1_add_12 ?_
    refine v_get h mw_X1 0 rfl rfl 1 (by decide) mf_X1_15 rfl dX1_add_13 ?_
    refine v_aload_n0 h dX1_add_16 ?_
    refine v_get h mw_X1 0 rfl rfl 0 (by decide) mf_X1_9 rfl dX1_add_17 ?_
    refine v_iload_n1 h dX1_add_20 ?_
    refine v_iastN_at1 h (by omega) (Nat.le_of_ble_eq_true rfl) dX1_add_21 ?_
    refine v_aload_n0 h dX1_add_22 ?_
    refine v_get h mw_X1 0 rfl rfl 2 (by decide) mf_X1_19 rfl dX1_add_23 ?_
    refine v_aload_n0 h dX1_add_26 ?_
    refine v_get h mw_X1 0 rfl rfl 0 (by decide) mf_X1_9 rfl dX1_add_27 ?_
    refine v_iload_n2 h dX1_add_30 ?_
    refine v_iastN_at2 h (by omega) (Nat.le_of_ble_eq_true rfl) dX1_add_31 ?_
    refine v_aload_n0 h dX1_add_32 ?_
    refine v_dup h dX1_add_33 rfl ?_
    refine v_get h mw_X1 0 rfl rfl 0 (by decide) mf_X1_9 rfl dX1_add_34 ?_
    refine v_iconst h (v := nI 1) dX1_add_37 (by decide) ?_
    refine v_iaddN h dX1_add_38 ?_
    refine pf_X1_9_at0 h dX1_add_39 ?_
    refine v_aload_n0 h dX1_add_42 ?_
    refine v_get h mw_X1 0 rfl rfl 0 (by decide) mf_X1_9 rfl dX1_add_43 ?_
    refine v_iconst h (v := nI 1) dX1_add_46 (by decide) ?_
    refine v_isubN h dX1_add_47 (by omega) ?_
    exact v_iret h hr dX1_add_48 (by rw [Nat.add_sub_cancel, if_pos c6]) (by rw [if_pos c6, if_pos c6, if_pos c6])
  · refine v_bipush h (v := -4) dX1_add_9 (by decide) ?_
    exact v_iret h hr dX1_add_11 (by rw [if_neg (by omega)]) (by rw [if_neg (by omega), if_neg (by omega), if_neg (by omega)])
set_option maxRecDepth 20000 in
set_option maxHeartbeats 2000000 in
theorem c_X1_timesOf {g : vG} {h0 h1 h2 : Nat} {hn : Nat} {kd : Nat → Nat} {pt : Nat → Nat} {j : Nat} (hH : wfH hn kd pt) (hj : j < hn) : Ct g yX1_timesOf cX1_timesOf 2 (some .int) (rmOf 1 21) [(h0, .inr (1, [.int (nI hn), .ref h1, .ref h2])), (h1, .inl (gI g, 6, .inl (fun z9 => nI (kd z9)))), (h2, .inl (gI g, 6, .inl (fun z9 => nI (pt z9))))] [.ref h0, .int (nI j)] (some (.int (nI (times (kd j) (pt j))))) [(h0, .inr (1, [.int (nI hn), .ref h1, .ref h2])), (h1, .inl (gI g, 6, .inl (fun z9 => nI (kd z9)))), (h2, .inl (gI g, 6, .inl (fun z9 => nI (pt z9))))] := by
  refine Ct.ofV RX1 rfl (by decide +kernel) rfl rfl rfl (Nat.le_of_ble_eq_true rfl) (List.forall_mem_cons.mpr ⟨rfl, (List.forall_mem_cons.mpr ⟨rfl, (fun _ h9 => absurd h9 List.not_mem_nil)⟩)⟩) (fun x h hr => ?_)
  show vM x 0 [some (.ref h0), some (.int (nI j))] [] [(h0, .inr (1, [.int (nI hn), .ref h1, .ref h2])), (h1, .inl (gI g, 6, .inl (fun z9 => nI (kd z9)))), (h2, .inl (gI g, 6, .inl (fun z9 => nI (pt z9))))]
  have hh1 := hH.1; have hh2 := hH.2.1; have hh3 := hH.2.2.1; have hh4 := hH.2.2.2
  refine v_aload_n0 h dX1_timesOf_0 ?_
  refine v_iload_n1 h dX1_timesOf_1 ?_
  refine cw_V_0_1_2_1_i (ci := 1) h (c_X1_has (g := g) (by first | assumption | omega)) lk_X1_22 ⟨rfl, rfl, (Nat.le_of_ble_eq_true rfl), (Nat.le_of_ble_eq_true rfl)⟩ rfl rfl rfl (Nat.le_of_ble_eq_true rfl) dX1_timesOf_2 ?_
  refine v_if_neB h dX1_timesOf_5 (tgt := 10) (by decide) (fun c5 => ?_) (fun c5 => ?_)
  · refine v_aload_n0 h dX1_timesOf_10 ?_
    refine v_get h mw_X1 0 rfl rfl 1 (by decide) mf_X1_15 rfl dX1_timesOf_11 ?_
    refine v_iload_n1 h dX1_timesOf_14 ?_
    refine v_ialdN h 1 rfl (by omega) (Nat.le_of_ble_eq_true rfl) dX1_timesOf_15 ?_
    refine v_if_neN h dX1_timesOf_16 (tgt := 28) (by decide) (by have := hh2 j; omega) (fun c16 => ?_) (fun c16 => ?_)
    · refine v_iconst h (v := nI 2) dX1_timesOf_28 (by decide) ?_
      refine v_aload_n0 h dX1_timesOf_29 ?_
      refine v_get h mw_X1 0 rfl rfl 2 (by decide) mf_X1_19 rfl dX1_timesOf_30 ?_
      refine v_iload_n1 h dX1_timesOf_33 ?_
      refine v_ialdN h 2 rfl (by omega) (Nat.le_of_ble_eq_true rfl) dX1_timesOf_34 ?_
      refine v_imulN h dX1_timesOf_35 ?_
      exact v_iret h hr dX1_timesOf_36 (by first | rw [times, if_pos (by omega)] | rw [times, if_neg (by omega)]) rfl
    · refine v_aload_n0 h dX1_timesOf_19 ?_
      refine v_get h mw_X1 0 rfl rfl 2 (by decide) mf_X1_19 rfl dX1_timesOf_20 ?_
      refine v_iload_n1 h dX1_timesOf_23 ?_
      refine v_ialdN h 2 rfl (by omega) (Nat.le_of_ble_eq_true rfl) dX1_timesOf_24 ?_
      refine v_goto h dX1_timesOf_25 (tgt := 36) (by decide) ?_
      exact v_iret h hr dX1_timesOf_36 (by first | rw [times, if_pos (by omega)] | rw [times, if_neg (by omega)]) rfl
  · exact inR_no hj (by omega) c5
set_option maxRecDepth 20000 in
set_option maxHeartbeats 2000000 in
theorem c_X1_feelsHeavier {g : vG} {h0 h1 h2 : Nat} {hn : Nat} {kd : Nat → Nat} {pt : Nat → Nat} {j : Nat} {a : Nat} {b : Nat} (hH : wfH hn kd pt) (hj : j < hn) (ha : a ≤ 9999) (hb : b ≤ 9999) : Ct g yX1_feelsHeavier cX1_feelsHeavier 5 (some .boolean) (rmOf 2 42) [(h0, .inr (1, [.int (nI hn), .ref h1, .ref h2])), (h1, .inl (gI g, 6, .inl (fun z9 => nI (kd z9)))), (h2, .inl (gI g, 6, .inl (fun z9 => nI (pt z9))))] [.ref h0, .int (nI j), .int (nI a), .int (nI b)] (some (.int (nI (bN (tls (kd j) (pt j) a b))))) [(h0, .inr (1, [.int (nI hn), .ref h1, .ref h2])), (h1, .inl (gI g, 6, .inl (fun z9 => nI (kd z9)))), (h2, .inl (gI g, 6, .inl (fun z9 => nI (pt z9))))] := by
  refine Ct.ofV RX1 rfl (by decide +kernel) rfl rfl rfl (Nat.le_of_ble_eq_true rfl) (List.forall_mem_cons.mpr ⟨rfl, (List.forall_mem_cons.mpr ⟨rfl, (List.forall_mem_cons.mpr ⟨rfl, (List.forall_mem_cons.mpr ⟨rfl, (fun _ h9 => absurd h9 List.not_mem_nil)⟩)⟩)⟩)⟩) (fun x h hr => ?_)
  show vM x 0 [some (.ref h0), some (.int (nI j)), some (.int (nI a)), some (.int (nI b)), none] [] [(h0, .inr (1, [.int (nI hn), .ref h1, .ref h2])), (h1, .inl (gI g, 6, .inl (fun z9 => nI (kd z9)))), (h2, .inl (gI g, 6, .inl (fun z9 => nI (pt z9))))]
  have hh1 := hH.1; have hh2 := hH.2.1; have hh3 := hH.2.2.1; have hh4 := hH.2.2.2
  refine v_iload_n2 h dX1_feelsHeavier_0 ?_
  refine v_iload_n3 h dX1_feelsHeavier_1 ?_
  refine v_icmp_gtN h dX1_feelsHeavier_2 (tgt := 7) (by decide) (by first | omega | (have := hh2 j; omega) | exact mulb (by omega) (Nat.le_trans (times_le (hh3 j)) (by decide))) (by first | omega | (have := hh2 j; omega) | exact mulb (by omega) (Nat.le_trans (times_le (hh3 j)) (by decide))) (fun c2 => ?_) (fun c2 => ?_)
  · refine v_iload_n2 h dX1_feelsHeavier_7 ?_
    refine v_iload_n3 h dX1_feelsHeavier_8 ?_
    refine v_isubN h dX1_feelsHeavier_9 (by omega) ?_
    refine v_aload_n0 h dX1_feelsHeavier_10 ?_
    refine v_iload_n1 h dX1_feelsHeavier_11 ?_
    refine cw_V_0_1_2_1_i (ci := 1) h (c_X1_timesOf (g := g) (by first | assumption | omega) (by first | assumption | omega)) lk_X1_26 ⟨rfl, rfl, (Nat.le_of_ble_eq_true rfl), (Nat.le_of_ble_eq_true rfl)⟩ rfl rfl rfl (Nat.le_of_ble_eq_true rfl) dX1_feelsHeavier_12 ?_
    refine v_imulN h dX1_feelsHeavier_15 ?_
    refine v_istore4 h (Nat.le_of_ble_eq_true rfl) dX1_feelsHeavier_16 ?_
    refine v_iload4 h dX1_feelsHeavier_18 ?_
    refine v_iload_n3 h dX1_feelsHeavier_20 ?_
    refine v_icmp_gtN h dX1_feelsHeavier_21 (tgt := 39) (by decide) (by first | omega | (have := hh2 j; omega) | exact mulb (by omega) (Nat.le_trans (times_le (hh3 j)) (by decide))) (by first | omega | (have := hh2 j; omega) | exact mulb (by omega) (Nat.le_trans (times_le (hh3 j)) (by decide))) (fun c21 => ?_) (fun c21 => ?_)
    · refine v_iconst h (v := nI 1) dX1_feelsHeavier_39 (by decide) ?_
      refine v_goto h dX1_feelsHeavier_40 (tgt := 44) (by decide) ?_
      exact v_zret (v := true) h hr dX1_feelsHeavier_44 (by first | exact (tls_iff.mpr (by omega)).symm | exact (tls_f (by omega)).symm) rfl
    · refine v_aload_n0 h dX1_feelsHeavier_24 ?_
      refine v_iload_n1 h dX1_feelsHeavier_25 ?_
      refine cw_V_0_1_2_1_i (ci := 1) h (c_X1_kindOf (g := g) (by first | assumption | omega) (by first | assumption | omega)) lk_X1_30 ⟨rfl, rfl, (Nat.le_of_ble_eq_true rfl), (Nat.le_of_ble_eq_true rfl)⟩ rfl rfl rfl (Nat.le_of_ble_eq_true rfl) dX1_feelsHeavier_26 ?_
      refine v_iconst h (v := nI 2) dX1_feelsHeavier_29 (by decide) ?_
      refine v_icmp_neN h dX1_feelsHeavier_30 (tgt := 43) (by decide) (by first | omega | (have := hh2 j; omega) | exact mulb (by omega) (Nat.le_trans (times_le (hh3 j)) (by decide))) (by first | omega | (have := hh2 j; omega) | exact mulb (by omega) (Nat.le_trans (times_le (hh3 j)) (by decide))) (fun c30 => ?_) (fun c30 => ?_)
      · refine v_iconst h (v := nI 0) dX1_feelsHeavier_43 (by decide) ?_
        exact v_zret (v := false) h hr dX1_feelsHeavier_44 (by first | exact (tls_iff.mpr (by omega)).symm | exact (tls_f (by omega)).symm) rfl
      · refine v_iload4 h dX1_feelsHeavier_33 ?_
        refine v_iload_n3 h dX1_feelsHeavier_35 ?_
        refine v_icmp_neN h dX1_feelsHeavier_36 (tgt := 43) (by decide) (by first | omega | (have := hh2 j; omega) | exact mulb (by omega) (Nat.le_trans (times_le (hh3 j)) (by decide))) (by first | omega | (have := hh2 j; omega) | exact mulb (by omega) (Nat.le_trans (times_le (hh3 j)) (by decide))) (fun c36 => ?_) (fun c36 => ?_)
        · refine v_iconst h (v := nI 0) dX1_feelsHeavier_43 (by decide) ?_
          exact v_zret (v := false) h hr dX1_feelsHeavier_44 (by first | exact (tls_iff.mpr (by omega)).symm | exact (tls_f (by omega)).symm) rfl
        · refine v_iconst h (v := nI 1) dX1_feelsHeavier_39 (by decide) ?_
          refine v_goto h dX1_feelsHeavier_40 (tgt := 44) (by decide) ?_
          exact v_zret (v := true) h hr dX1_feelsHeavier_44 (by first | exact (tls_iff.mpr (by omega)).symm | exact (tls_f (by omega)).symm) rfl
  · refine v_iconst h (v := nI 0) dX1_feelsHeavier_5 (by decide) ?_
    exact v_zret (v := false) h hr dX1_feelsHeavier_6 (by first | exact (tls_iff.mpr (by omega)).symm | exact (tls_f (by omega)).symm) rfl
set_option maxRecDepth 20000 in
set_option maxHeartbeats 2000000 in
theorem c_X1_feelsAlike {g : vG} {h0 h1 h2 : Nat} {hn : Nat} {kd : Nat → Nat} {pt : Nat → Nat} {j : Nat} {a : Nat} {b : Nat} (hH : wfH hn kd pt) (hj : j < hn) (ha : a ≤ 9999) (hb : b ≤ 9999) : Ct g yX1_feelsAlike cX1_feelsAlike 4 (some .boolean) (rmOf 3 66) [(h0, .inr (1, [.int (nI hn), .ref h1, .ref h2])), (h1, .inl (gI g, 6, .inl (fun z9 => nI (kd z9)))), (h2, .inl (gI g, 6, .inl (fun z9 => nI (pt z9))))] [.ref h0, .int (nI j), .int (nI a), .int (nI b)] (some (.int (nI (bN (alk (kd j) (pt j) a b))))) [(h0, .inr (1, [.int (nI hn), .ref h1, .ref h2])), (h1, .inl (gI g, 6, .inl (fun z9 => nI (kd z9)))), (h2, .inl (gI g, 6, .inl (fun z9 => nI (pt z9))))] := by
  refine Ct.ofV RX1 rfl (by decide +kernel) rfl rfl rfl (Nat.le_of_ble_eq_true rfl) (List.forall_mem_cons.mpr ⟨rfl, (List.forall_mem_cons.mpr ⟨rfl, (List.forall_mem_cons.mpr ⟨rfl, (List.forall_mem_cons.mpr ⟨rfl, (fun _ h9 => absurd h9 List.not_mem_nil)⟩)⟩)⟩)⟩) (fun x h hr => ?_)
  show vM x 0 [some (.ref h0), some (.int (nI j)), some (.int (nI a)), some (.int (nI b))] [] [(h0, .inr (1, [.int (nI hn), .ref h1, .ref h2])), (h1, .inl (gI g, 6, .inl (fun z9 => nI (kd z9)))), (h2, .inl (gI g, 6, .inl (fun z9 => nI (pt z9))))]
  refine v_aload_n0 h dX1_feelsAlike_0 ?_
  refine v_iload_n1 h dX1_feelsAlike_1 ?_
  refine v_iload_n2 h dX1_feelsAlike_2 ?_
  refine v_iload_n3 h dX1_feelsAlike_3 ?_
  refine cw_V_0_1_2_3_i (ci := 1) h (c_X1_feelsHeavier (g := g) (by first | assumption | omega) (by first | assumption | omega) (by first | assumption | omega) (by first | assumption | omega)) lk_X1_33 ⟨rfl, rfl, (Nat.le_of_ble_eq_true rfl), (Nat.le_of_ble_eq_true rfl)⟩ rfl rfl rfl (Nat.le_of_ble_eq_true rfl) dX1_feelsAlike_4 ?_
  refine v_if_neB h dX1_feelsAlike_7 (tgt := 24) (by decide) (fun c7 => ?_) (fun c7 => ?_)
  · refine v_iconst h (v := nI 0) dX1_feelsAlike_24 (by decide) ?_
    exact v_zret (v := false) h hr dX1_feelsAlike_25 (by first | exact (alk_t c7 c17).symm | exact (alk_f1 c7).symm | exact (alk_f2 c17).symm) rfl
  · refine v_aload_n0 h dX1_feelsAlike_10 ?_
    refine v_iload_n1 h dX1_feelsAlike_11 ?_
    refine v_iload_n3 h dX1_feelsAlike_12 ?_
    refine v_iload_n2 h dX1_feelsAlike_13 ?_
    refine cw_V_0_1_2_3_i (ci := 1) h (c_X1_feelsHeavier (g := g) (by first | assumption | omega) (by first | assumption | omega) (by first | assumption | omega) (by first | assumption | omega)) lk_X1_33 ⟨rfl, rfl, (Nat.le_of_ble_eq_true rfl), (Nat.le_of_ble_eq_true rfl)⟩ rfl rfl rfl (Nat.le_of_ble_eq_true rfl) dX1_feelsAlike_14 ?_
    refine v_if_neB h dX1_feelsAlike_17 (tgt := 24) (by decide) (fun c17 => ?_) (fun c17 => ?_)
    · refine v_iconst h (v := nI 0) dX1_feelsAlike_24 (by decide) ?_
      exact v_zret (v := false) h hr dX1_feelsAlike_25 (by first | exact (alk_t c7 c17).symm | exact (alk_f1 c7).symm | exact (alk_f2 c17).symm) rfl
    · refine v_iconst h (v := nI 1) dX1_feelsAlike_20 (by decide) ?_
      refine v_goto h dX1_feelsAlike_21 (tgt := 25) (by decide) ?_
      exact v_zret (v := true) h hr dX1_feelsAlike_25 (by first | exact (alk_t c7 c17).symm | exact (alk_f1 c7).symm | exact (alk_f2 c17).symm) rfl
