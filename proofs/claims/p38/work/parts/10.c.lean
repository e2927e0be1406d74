theorem cw_V_0_1_2_3_4_5_6_7_8_1_i {x : vX} {g : vG} {cc : ByteArray} {own : String} {rm : Room} {nL pc : Nat} {lv : List (Option Value)} {st : List Value} {wt : va_W} {c0 c1 c2 c3 c4 c5 c6 c7 c8 d0 d1 d2 d3 d4 d5 d6 d7 d8 : Nat × va_E} {idx : Nat} {y : MethodName} {bytes : ByteArray} {ml : Nat} {ret : Option FieldType} {rmc : Room} {r : Int32} {p0 : Value} {a ci : Nat} {q : vw_C} {fs : List Value} (h : Ok x g cc own rm nL) (hc : Ct g y bytes ml ret rmc [c0, c1, c2, c3, c4, c5, c6, c7, c8] [.ref a, p0] (some (.int r)) [d0, d1, d2, d3, d4, d5, d6, d7, d8]) (lk : LkV own idx y bytes ml ret 1) (hrm : RmOk rmc rm ml) (hcl : vwCl[ci]? = some q) (hq : y.cls = q.1) (h0 : c0 = (a, .inr (ci, fs))) (hW : (st.map fun v => v.category).sum ≤ 8) (hd : decode cc pc = .ok (.invokevirtual idx, 3)) (k : vM x (pc + 3) lv (.int r :: st) (d0 :: d1 :: d2 :: d3 :: d4 :: d5 :: d6 :: d7 :: d8 :: wt)) : vM x pc lv (p0 :: .ref a :: st) (c0 :: c1 :: c2 :: c3 :: c4 :: c5 :: c6 :: c7 :: c8 :: wt) := v_callV (As := [p0]) (rest := st) h hc lk hrm hcl hq (by rw [h0]; rfl) rfl [0, 1, 2, 3, 4, 5, 6, 7, 8] rfl (by decide) hW hd rfl k
theorem lk_X3_27 : LkV RX3 27 yX3_has cX3_has 2 (some .boolean) 1 := ⟨ml_X3_27, mn_X3_has, mv_X3_has, mi_X3, mc_X3_has, ⟨by decide, by decide, by decide +kernel⟩⟩
theorem lk_X3_31 : LkV RX3 31 yX3_hasRow cX3_hasRow 2 (some .boolean) 1 := ⟨ml_X3_31, mn_X3_hasRow, mv_X3_hasRow, mi_X3, mc_X3_hasRow, ⟨by decide, by decide, by decide +kernel⟩⟩
theorem lk_X3_34 : LkV RX3 34 yX3_sortOf cX3_sortOf 2 (some .int) 1 := ⟨ml_X3_34, mn_X3_sortOf, mv_X3_sortOf, mi_X3, mc_X3_sortOf, ⟨by decide, by decide, by decide +kernel⟩⟩
theorem cw_V_0_1_2_3_4_5_6_7_8_3_i {x : vX} {g : vG} {cc : ByteArray} {own : String} {rm : Room} {nL pc : Nat} {lv : List (Option Value)} {st : List Value} {wt : va_W} {c0 c1 c2 c3 c4 c5 c6 c7 c8 d0 d1 d2 d3 d4 d5 d6 d7 d8 : Nat × va_E} {idx : Nat} {y : MethodName} {bytes : ByteArray} {ml : Nat} {ret : Option FieldType} {rmc : Room} {r : Int32} {p0 p1 p2 : Value} {a ci : Nat} {q : vw_C} {fs : List Value} (h : Ok x g cc own rm nL) (hc : Ct g y bytes ml ret rmc [c0, c1, c2, c3, c4, c5, c6, c7, c8] [.ref a, p0, p1, p2] (some (.int r)) [d0, d1, d2, d3, d4, d5, d6, d7, d8]) (lk : LkV own idx y bytes ml ret 3) (hrm : RmOk rmc rm ml) (hcl : vwCl[ci]? = some q) (hq : y.cls = q.1) (h0 : c0 = (a, .inr (ci, fs))) (hW : (st.map fun v => v.category).sum ≤ 8) (hd : decode cc pc = .ok (.invokevirtual idx, 3)) (k : vM x (pc + 3) lv (.int r :: st) (d0 :: d1 :: d2 :: d3 :: d4 :: d5 :: d6 :: d7 :: d8 :: wt)) : vM x pc lv (p2 :: p1 :: p0 :: .ref a :: st) (c0 :: c1 :: c2 :: c3 :: c4 :: c5 :: c6 :: c7 :: c8 :: wt) := v_callV (As := [p0, p1, p2]) (rest := st) h hc lk hrm hcl hq (by rw [h0]; rfl) rfl [0, 1, 2, 3, 4, 5, 6, 7, 8] rfl (by decide) hW hd rfl k
theorem lk_X3_38 : LkV RX3 38 yX3_hasCells cX3_hasCells 4 (some .boolean) 3 := ⟨ml_X3_38, mn_X3_hasCells, mv_X3_hasCells, mi_X3, mc_X3_hasCells, ⟨by decide, by decide, by decide +kernel⟩⟩
theorem cw_S_e_2_i {x : vX} {g : vG} {cc : ByteArray} {own : String} {rm : Room} {nL pc : Nat} {lv : List (Option Value)} {st : List Value} {wt : va_W} {idx : Nat} {y : MethodName} {bytes : ByteArray} {ml : Nat} {ret : Option FieldType} {rmc : Room} {r : Int32} {p0 p1 : Value} (h : Ok x g cc own rm nL) (hc : Ct g y bytes ml ret rmc [] [p0, p1] (some (.int r)) []) (lk : LkS own idx y bytes ml ret 2) (hrm : RmOk rmc rm ml) (hW : (st.map fun v => v.category).sum ≤ 8) (hd : decode cc pc = .ok (.invokestatic idx, 3)) (k : vM x (pc + 3) lv (.int r :: st) (wt)) : vM x pc lv (p1 :: p0 :: st) (wt) := v_callS (As := [p0, p1]) (rest := st) h hc lk hrm rfl [] rfl (by decide) hW hd rfl k
theorem lk_X3_42 : LkS RX3 42 yX3_cut cX3_cut 2 (some .int) 2 := ⟨ml_X3_42, ms_X3_cut, mi_X3, mc_X3_cut, ⟨by decide, by decide, by decide +kernel⟩⟩
theorem v_zastN_at1 {x : vX} {g : vG} {cc : ByteArray} {own : String} {rm : Room} {nL pc : Nat} {lv : List (Option Value)} {st : List Value} {w0 : Nat × va_E} {wt : va_W} {n b i : Nat} {v : Bool} {w : Nat → Bool} (h : Ok x g cc own rm nL) (hi : i < n) (hn : n < 2 ^ 31) (hd : decode cc pc = .ok (.bastore, 1)) (k : vM x (pc + 1) lv st (w0 :: (b, .inl (gZ g, n, .inl (fun j => nI (bN (upB w i v j))))) :: wt)) : vM x pc lv (.int (nI (bN v)) :: .int (nI i) :: .ref b :: st) (w0 :: (b, .inl (gZ g, n, .inl (fun j => nI (bN (w j))))) :: wt) := v_zastN h 1 rfl hi hn hd rfl k
theorem v_iastN_at3 {x : vX} {g : vG} {cc : ByteArray} {own : String} {rm : Room} {nL pc : Nat} {lv : List (Option Value)} {st : List Value} {w0 w1 w2 : Nat × va_E} {wt : va_W} {n b i v : Nat} {w : Nat → Nat} (h : Ok x g cc own rm nL) (hi : i < n) (hn : n < 2 ^ 31) (hd : decode cc pc = .ok (.iastore, 1)) (k : vM x (pc + 1) lv st (w0 :: w1 :: w2 :: (b, .inl (gI g, n, .inl (fun j => nI (up w i v j)))) :: wt)) : vM x pc lv (.int (nI v) :: .int (nI i) :: .ref b :: st) (w0 :: w1 :: w2 :: (b, .inl (gI g, n, .inl (fun j => nI (w j)))) :: wt) := v_iastN h 3 rfl hi hn hd rfl k
theorem cw_V_0_1_2_3_4_5_6_7_8_2_i {x : vX} {g : vG} {cc : ByteArray} {own : String} {rm : Room} {nL pc : Nat} {lv : List (Option Value)} {st : List Value} {wt : va_W} {c0 c1 c2 c3 c4 c5 c6 c7 c8 d0 d1 d2 d3 d4 d5 d6 d7 d8 : Nat × va_E} {idx : Nat} {y : MethodName} {bytes : ByteArray} {ml : Nat} {ret : Option FieldType} {rmc : Room} {r : Int32} {p0 p1 : Value} {a ci : Nat} {q : vw_C} {fs : List Value} (h : Ok x g cc own rm nL) (hc : Ct g y bytes ml ret rmc [c0, c1, c2, c3, c4, c5, c6, c7, c8] [.ref a, p0, p1] (some (.int r)) [d0, d1, d2, d3, d4, d5, d6, d7, d8]) (lk : LkV own idx y bytes ml ret 2) (hrm : RmOk rmc rm ml) (hcl : vwCl[ci]? = some q) (hq : y.cls = q.1) (h0 : c0 = (a, .inr (ci, fs))) (hW : (st.map fun v => v.category).sum ≤ 8) (hd : decode cc pc = .ok (.invokevirtual idx, 3)) (k : vM x (pc + 3) lv (.int r :: st) (d0 :: d1 :: d2 :: d3 :: d4 :: d5 :: d6 :: d7 :: d8 :: wt)) : vM x pc lv (p1 :: p0 :: .ref a :: st) (c0 :: c1 :: c2 :: c3 :: c4 :: c5 :: c6 :: c7 :: c8 :: wt) := v_callV (As := [p0, p1]) (rest := st) h hc lk hrm hcl hq (by rw [h0]; rfl) rfl [0, 1, 2, 3, 4, 5, 6, 7, 8] rfl (by decide) hW hd rfl k
theorem lk_X5_15 : LkV RX5 15 yX3_cellOf cX3_cellOf 3 (some .int) 2 := ⟨ml_X5_15, mn_X3_cellOf, mv_X3_cellOf, mi_X3, mc_X3_cellOf, ⟨by decide, by decide, by decide +kernel⟩⟩
set_option maxRecDepth 20000 in
set_option maxHeartbeats 2000000 in
theorem c_X3_has {g : vG} {s0 s1 s2 s3 s4 : Nat} {rr : Nat → Nat} {fil : Nat → Bool} {srt : Nat → Nat} {len : Nat → Nat} {cc : Nat → Nat → Int32} {p : Int32} : Ct g yX3_has cX3_has 2 (some .boolean) (rmOf 0 0) [(s0, .inr (3, [.ref s1, .ref s2, .ref s3, .ref s4])), (s1, .inl (gZ g, 4, .inl (fun z9 => nI (bN (fil z9))))), (s2, .inl (gI g, 4, .inl (fun z9 => nI (srt z9)))), (s3, .inl (gI g, 4, .inl (fun z9 => nI (len z9)))), (s4, .inl (gA g, 4, .inr (.inr (.inr (.inr (fun i => if i < 4 then some (rr i) else none)))))), (rr 0, .inl (gI g, 40, .inl (cc 0))), (rr 1, .inl (gI g, 40, .inl (cc 1))), (rr 2, .inl (gI g, 40, .inl (cc 2))), (rr 3, .inl (gI g, 40, .inl (cc 3)))] [.ref s0, .int p] (some (.int (nI (bN (inR p 4))))) [(s0, .inr (3, [.ref s1, .ref s2, .ref s3, .ref s4])), (s1, .inl (gZ g, 4, .inl (fun z9 => nI (bN (fil z9))))), (s2, .inl (gI g, 4, .inl (fun z9 => nI (srt z9)))), (s3, .inl (gI g, 4, .inl (fun z9 => nI (len z9)))), (s4, .inl (gA g, 4, .inr (.inr (.inr (.inr (fun i => if i < 4 then some (rr i) else none)))))), (rr 0, .inl (gI g, 40, .inl (cc 0))), (rr 1, .inl (gI g, 40, .inl (cc 1))), (rr 2, .inl (gI g, 40, .inl (cc 2))), (rr 3, .inl (gI g, 40, .inl (cc 3)))] := by
  refine Ct.ofV RX3 rfl (by decide +kernel) rfl rfl rfl (Nat.le_of_ble_eq_true rfl) (List.forall_mem_cons.mpr ⟨rfl, (List.forall_mem_cons.mpr ⟨rfl, (fun _ h9 => absurd h9 List.not_mem_nil)⟩)⟩) (fun x h hr => ?_)
  show vM x 0 [some (.ref s0), some (.int p)] [] [(s0, .inr (3, [.ref s1, .ref s2, .ref s3, .ref s4])), (s1, .inl (gZ g, 4, .inl (fun z9 => nI (bN (fil z9))))), (s2, .inl (gI g, 4, .inl (fun z9 => nI (srt z9)))), (s3, .inl (gI g, 4, .inl (fun z9 => nI (len z9)))), (s4, .inl (gA g, 4, .inr (.inr (.inr (.inr (fun i => if i < 4 then some (rr i) else none)))))), (rr 0, .inl (gI g, 40, .inl (cc 0))), (rr 1, .inl (gI g, 40, .inl (cc 1))), (rr 2, .inl (gI g, 40, .inl (cc 2))), (rr 3, .inl (gI g, 40, .inl (cc 3)))]
  refine v_iload_n1 h dX3_has_0 ?_
  refine v_if_lt h dX3_has_1 (tgt := 13) (by decide) (fun c1 => ?_) (fun c1 => ?_)
  · refine v_iconst h (v := nI 0) dX3_has_13 (by decide) ?_
    exact v_zret (v := false) h hr dX3_has_14 (by first | exact (inR_f0 c1).symm | exact (inR_f1 c6).symm | exact (inR_t c1 c6).symm) rfl
  · refine v_iload_n1 h dX3_has_4 ?_
    refine v_iconst h (v := nI 4) dX3_has_5 (by decide) ?_
    refine v_icmp_ge h dX3_has_6 (tgt := 13) (by decide) (fun c6 => ?_) (fun c6 => ?_)
    · refine v_iconst h (v := nI 0) dX3_has_13 (by decide) ?_
      exact v_zret (v := false) h hr dX3_has_14 (by first | exact (inR_f0 c1).symm | exact (inR_f1 c6).symm | exact (inR_t c1 c6).symm) rfl
    · refine v_iconst h (v := nI 1) dX3_has_9 (by decide) ?_
      refine v_goto h dX3_has_10 (tgt := 14) (by decide) ?_
      exact v_zret (v := true) h hr dX3_has_14 (by first | exact (inR_f0 c1).symm | exact (inR_f1 c6).symm | exact (inR_t c1 c6).symm) rfl
set_option maxRecDepth 20000 in
set_option maxHeartbeats 2000000 in
theorem c_X3_hasRow {g : vG} {s0 s1 s2 s3 s4 : Nat} {rr : Nat → Nat} {fil : Nat → Bool} {srt : Nat → Nat} {len : Nat → Nat} {cc : Nat → Nat → Int32} {k : Nat} (hk : k < 4) : Ct g yX3_hasRow cX3_hasRow 2 (some .boolean) (rmOf 1 21) [(s0, .inr (3, [.ref s1, .ref s2, .ref s3, .ref s4])), (s1, .inl (gZ g, 4, .inl (fun z9 => nI (bN (fil z9))))), (s2, .inl (gI g, 4, .inl (fun z9 => nI (srt z9)))), (s3, .inl (gI g, 4, .inl (fun z9 => nI (len z9)))), (s4, .inl (gA g, 4, .inr (.inr (.inr (.inr (fun i => if i < 4 then some (rr i) else none)))))), (rr 0, .inl (gI g, 40, .inl (cc 0))), (rr 1, .inl (gI g, 40, .inl (cc 1))), (rr 2, .inl (gI g, 40, .inl (cc 2))), (rr 3, .inl (gI g, 40, .inl (cc 3)))] [.ref s0, .int (nI k)] (some (.int (nI (bN (fil k))))) [(s0, .inr (3, [.ref s1, .ref s2, .ref s3, .ref s4])), (s1, .inl (gZ g, 4, .inl (fun z9 => nI (bN (fil z9))))), (s2, .inl (gI g, 4, .inl (fun z9 => nI (srt z9)))), (s3, .inl (gI g, 4, .inl (fun z9 => nI (len z9)))), (s4, .inl (gA g, 4, .inr (.inr (.inr (.inr (fun i => if i < 4 then some (rr i) else none)))))), (rr 0, .inl (gI g, 40, .inl (cc 0))), (rr 1, .inl (gI g, 40, .inl (cc 1))), (rr 2, .inl (gI g, 40, .inl (cc 2))), (rr 3, .inl (gI g, 40, .inl (cc 3)))] := by
  refine Ct.ofV RX3 rfl (by decide +kernel) rfl rfl rfl (Nat.le_of_ble_eq_true rfl) (List.forall_mem_cons.mpr ⟨rfl, (List.forall_mem_cons.mpr ⟨rfl, (fun _ h9 => absurd h9 List.not_mem_nil)⟩)⟩) (fun x h hr => ?_)
  show vM x 0 [some (.ref s0), some (.int (nI k))] [] [(s0, .inr (3, [.ref s1, .ref s2, .ref s3, .ref s4])), (s1, .inl (gZ g, 4, .inl (fun z9 => nI (bN (fil z9))))), (s2, .inl (gI g, 4, .inl (fun z9 => nI (srt z9)))), (s3, .inl (gI g, 4, .inl (fun z9 => nI (len z9)))), (s4, .inl (gA g, 4, .inr (.inr (.inr (.inr (fun i => if i < 4 then some (rr i) else none)))))), (rr 0, .inl (gI g, 40, .inl (cc 0))), (rr 1, .inl (gI g, 40, .inl (cc 1))), (rr 2, .inl (gI g, 40, .inl (cc 2))), (rr 3, .inl (gI g, 40, .inl (cc 3)))]
  refine v_aload_n0 h dX3_hasRow_0 ?_
  refine v_iload_n1 h dX3_hasRow_1 ?_
  refine cw_V_0_1_2_3_4_5_6_7_8_1_i (ci := 3) h (c_X3_has (g := g)) lk_X3_27 ⟨rfl, rfl, (Nat.le_of_ble_eq_true rfl), (Nat.le_of_ble_eq_true rfl)⟩ rfl rfl rfl (Nat.le_of_ble_eq_true rfl) dX3_hasRow_2 ?_
  refine v_if_eqB h dX3_hasRow_5 (tgt := 21) (by decide) (fun c5 => ?_) (fun c5 => ?_)
  · exact inR_no hk (by decide) c5
  · refine v_aload_n0 h dX3_hasRow_8 ?_
    refine v_get h mw_X3 0 rfl rfl 0 (by decide) mf_X3_9 rfl dX3_hasRow_9 ?_
    refine v_iload_n1 h dX3_hasRow_12 ?_
    refine v_zaldN h 1 rfl (by omega) (Nat.le_of_ble_eq_true rfl) dX3_hasRow_13 ?_
    refine v_if_eqB h dX3_hasRow_14 (tgt := 21) (by decide) (fun c14 => ?_) (fun c14 => ?_)
    · refine v_iconst h (v := nI 0) dX3_hasRow_21 (by decide) ?_
      exact v_zret (v := false) h hr dX3_hasRow_22 (by exact c14.symm) rfl
    · refine v_iconst h (v := nI 1) dX3_hasRow_17 (by decide) ?_
      refine v_goto h dX3_hasRow_18 (tgt := 22) (by decide) ?_
      exact v_zret (v := true) h hr dX3_hasRow_22 (by exact c14.symm) rfl
set_option maxRecDepth 20000 in
set_option maxHeartbeats 2000000 in
theorem c_X3_sortOf {g : vG} {s0 s1 s2 s3 s4 : Nat} {rr : Nat → Nat} {fil : Nat → Bool} {srt : Nat → Nat} {len : Nat → Nat} {cc : Nat → Nat → Int32} {k : Nat} (hk : k < 4) : Ct g yX3_sortOf cX3_sortOf 2 (some .int) (rmOf 1 21) [(s0, .inr (3, [.ref s1, .ref s2, .ref s3, .ref s4])), (s1, .inl (gZ g, 4, .inl (fun z9 => nI (bN (fil z9))))), (s2, .inl (gI g, 4, .inl (fun z9 => nI (srt z9)))), (s3, .inl (gI g, 4, .inl (fun z9 => nI (len z9)))), (s4, .inl (gA g, 4, .inr (.inr (.inr (.inr (fun i => if i < 4 then some (rr i) else none)))))), (rr 0, .inl (gI g, 40, .inl (cc 0))), (rr 1, .inl (gI g, 40, .inl (cc 1))), (rr 2, .inl (gI g, 40, .inl (cc 2))), (rr 3, .inl (gI g, 40, .inl (cc 3)))] [.ref s0, .int (nI k)] (some (.int (nI (srt k)))) [(s0, .inr (3, [.ref s1, .ref s2, .ref s3, .ref s4])), (s1, .inl (gZ g, 4, .inl (fun z9 => nI (bN (fil z9))))), (s2, .inl (gI g, 4, .inl (fun z9 => nI (srt z9)))), (s3, .inl (gI g, 4, .inl (fun z9 => nI (len z9)))), (s4, .inl (gA g, 4, .inr (.inr (.inr (.inr (fun i => if i < 4 then some (rr i) else none)))))), (rr 0, .inl (gI g, 40, .inl (cc 0))), (rr 1, .inl (gI g, 40, .inl (cc 1))), (rr 2, .inl (gI g, 40, .inl (cc 2))), (rr 3, .inl (gI g, 40, .inl (cc 3)))] := by
  refine Ct.ofV RX3 rfl (by decide +kernel) rfl rfl rfl (Nat.le_of_ble_eq_true rfl) (List.forall_mem_cons.mpr ⟨rfl, (List.forall_mem_cons.mpr ⟨rfl, (fun _ h9 => absurd h9 List.not_mem_nil)⟩)⟩) (fun x h hr => ?_)
  show vM x 0 [some (.ref s0), some (.int (nI k))] [] [(s0, .inr (3, [.ref s1, .ref s2, .ref s3, .ref s4])), (s1, .inl (gZ g, 4, .inl (fun z9 => nI (bN (fil z9))))), (s2, .inl (gI g, 4, .inl (fun z9 => nI (srt z9)))), (s3, .inl (gI g, 4, .inl (fun z9 => nI (len z9)))), (s4, .inl (gA g, 4, .inr (.inr (.inr (.inr (fun i => if i < 4 then some (rr i) else none)))))), (rr 0, .inl (gI g, 40, .inl (cc 0))), (rr 1, .inl (gI g, 40, .inl (cc 1))), (rr 2, .inl (gI g, 40, .inl (cc 2))), (rr 3, .inl (gI g, 40, .inl (cc 3)))]
  refine v_aload_n0 h dX3_sortOf_0 ?_
  refine v_iload_n1 h dX3_sortOf_1 ?_
  refine cw_V_0_1_2_3_4_5_6_7_8_1_i (ci := 3) h (c_X3_has (g := g)) lk_X3_27 ⟨rfl, rfl, (Nat.le_of_ble_eq_true rfl), (Nat.le_of_ble_eq_true rfl)⟩ rfl rfl rfl (Nat.le_of_ble_eq_true rfl) dX3_sortOf_2 ?_
  refine v_if_eqB h dX3_sortOf_5 (tgt := 17) (by decide) (fun c5 => ?_) (fun c5 => ?_)
  · exact inR_no hk (by decide) c5
  · refine v_aload_n0 h dX3_sortOf_8 ?_
    refine v_get h mw_X3 0 rfl rfl 1 (by decide) mf_X3_15 rfl dX3_sortOf_9 ?_
    refine v_iload_n1 h dX3_sortOf_12 ?_
    refine v_ialdN h 2 rfl (by omega) (Nat.le_of_ble_eq_true rfl) dX3_sortOf_13 ?_
    refine v_goto h dX3_sortOf_14 (tgt := 18) (by decide) ?_
    exact v_iret h hr dX3_sortOf_18 rfl rfl
set_option maxRecDepth 20000 in
set_option maxHeartbeats 2000000 in
theorem c_X3_hasCells {g : vG} {s0 s1 s2 s3 s4 : Nat} {rr : Nat → Nat} {fil : Nat → Bool} {srt : Nat → Nat} {len : Nat → Nat} {cc : Nat → Nat → Int32} {k : Nat} {i : Int32} {n : Int32} (hk : k < 4) : Ct g yX3_hasCells cX3_hasCells 4 (some .boolean) (rmOf 1 21) [(s0, .inr (3, [.ref s1, .ref s2, .ref s3, .ref s4])), (s1, .inl (gZ g, 4, .inl (fun z9 => nI (bN (fil z9))))), (s2, .inl (gI g, 4, .inl (fun z9 => nI (srt z9)))), (s3, .inl (gI g, 4, .inl (fun z9 => nI (len z9)))), (s4, .inl (gA g, 4, .inr (.inr (.inr (.inr (fun i => if i < 4 then some (rr i) else none)))))), (rr 0, .inl (gI g, 40, .inl (cc 0))), (rr 1, .inl (gI g, 40, .inl (cc 1))), (rr 2, .inl (gI g, 40, .inl (cc 2))), (rr 3, .inl (gI g, 40, .inl (cc 3)))] [.ref s0, .int (nI k), .int i, .int n] (some (.int (nI (bN (hcB (fil k) (len k) i n))))) [(s0, .inr (3, [.ref s1, .ref s2, .ref s3, .ref s4])), (s1, .inl (gZ g, 4, .inl (fun z9 => nI (bN (fil z9))))), (s2, .inl (gI g, 4, .inl (fun z9 => nI (srt z9)))), (s3, .inl (gI g, 4, .inl (fun z9 => nI (len z9)))), (s4, .inl (gA g, 4, .inr (.inr (.inr (.inr (fun i => if i < 4 then some (rr i) else none)))))), (rr 0, .inl (gI g, 40, .inl (cc 0))), (rr 1, .inl (gI g, 40, .inl (cc 1))), (rr 2, .inl (gI g, 40, .inl (cc 2))), (rr 3, .inl (gI g, 40, .inl (cc 3)))] := by
  refine Ct.ofV RX3 rfl (by decide +kernel) rfl rfl rfl (Nat.le_of_ble_eq_true rfl) (List.forall_mem_cons.mpr ⟨rfl, (List.forall_mem_cons.mpr ⟨rfl, (List.forall_mem_cons.mpr ⟨rfl, (List.forall_mem_cons.mpr ⟨rfl, (fun _ h9 => absurd h9 List.not_mem_nil)⟩)⟩)⟩)⟩) (fun x h hr => ?_)
  show vM x 0 [some (.ref s0), some (.int (nI k)), some (.int i), some (.int n)] [] [(s0, .inr (3, [.ref s1, .ref s2, .ref s3, .ref s4])), (s1, .inl (gZ g, 4, .inl (fun z9 => nI (bN (fil z9))))), (s2, .inl (gI g, 4, .inl (fun z9 => nI (srt z9)))), (s3, .inl (gI g, 4, .inl (fun z9 => nI (len z9)))), (s4, .inl (gA g, 4, .inr (.inr (.inr (.inr (fun i => if i < 4 then some (rr i) else none)))))), (rr 0, .inl (gI g, 40, .inl (cc 0))), (rr 1, .inl (gI g, 40, .inl (cc 1))), (rr 2, .inl (gI g, 40, .inl (cc 2))), (rr 3, .inl (gI g, 40, .inl (cc 3)))]
  refine v_aload_n0 h dX3_hasCells_0 ?_
  refine v_iload_n1 h dX3_hasCells_1 ?_
  refine cw_V_0_1_2_3_4_5_6_7_8_1_i (ci := 3) h (c_X3_has (g := g)) lk_X3_27 ⟨rfl, rfl, (Nat.le_of_ble_eq_true rfl), (Nat.le_of_ble_eq_true rfl)⟩ rfl rfl rfl (Nat.le_of_ble_eq_true rfl) dX3_hasCells_2 ?_
  refine v_if_eqB h dX3_hasCells_5 (tgt := 51) (by decide) (fun c5 => ?_) (fun c5 => ?_)
  · exact inR_no hk (by decide) c5
  · refine v_aload_n0 h dX3_hasCells_8 ?_
    refine v_get h mw_X3 0 rfl rfl 0 (by decide) mf_X3_9 rfl dX3_hasCells_9 ?_
    refine v_iload_n1 h dX3_hasCells_12 ?_
    refine v_zaldN h 1 rfl (by omega) (Nat.le_of_ble_eq_true rfl) dX3_hasCells_13 ?_
    refine v_if_eqB h dX3_hasCells_14 (tgt := 51) (by decide) (fun c14 => ?_) (fun c14 => ?_)
    · refine v_iconst h (v := nI 0) dX3_hasCells_51 (by decide) ?_
      exact v_zret (v := false) h hr dX3_hasCells_52 (by first | exact (hcB_f0 c14).symm | exact (hcB_f1 c18).symm | exact (hcB_f2 c22).symm | exact (hcB_f3 c32).symm | exact (hcB_f4 c44).symm | exact (hcB_t c14 c18 c22 c32 c44).symm) rfl
    · refine v_iload_n2 h dX3_hasCells_17 ?_
      refine v_if_lt h dX3_hasCells_18 (tgt := 51) (by decide) (fun c18 => ?_) (fun c18 => ?_)
      · refine v_iconst h (v := nI 0) dX3_hasCells_51 (by decide) ?_
        exact v_zret (v := false) h hr dX3_hasCells_52 (by first | exact (hcB_f0 c14).symm | exact (hcB_f1 c18).symm | exact (hcB_f2 c22).symm | exact (hcB_f3 c32).symm | exact (hcB_f4 c44).symm | exact (hcB_t c14 c18 c22 c32 c44).symm) rfl
      · refine v_iload_n3 h dX3_hasCells_21 ?_
        refine v_if_lt h dX3_hasCells_22 (tgt := 51) (by decide) (fun c22 => ?_) (fun c22 => ?_)
        · refine v_iconst h (v := nI 0) dX3_hasCells_51 (by decide) ?_
          exact v_zret (v := false) h hr dX3_hasCells_52 (by first | exact (hcB_f0 c14).symm | exact (hcB_f1 c18).symm | exact (hcB_f2 c22).symm | exact (hcB_f3 c32).symm | exact (hcB_f4 c44).symm | exact (hcB_t c14 c18 c22 c32 c44).symm) rfl
        · refine v_iload_n2 h dX3_hasCells_25 ?_
          refine v_aload_n0 h dX3_hasCells_26 ?_
          refine v_get h mw_X3 0 rfl rfl 2 (by decide) mf_X3_19 rfl dX3_hasCells_27 ?_
          refine v_iload_n1 h dX3_hasCells_30 ?_
          refine v_ialdN h 3 rfl (by omega) (Nat.le_of_ble_eq_true rfl) dX3_hasCells_31 ?_
          refine v_icmp_gt h dX3_hasCells_32 (tgt := 51) (by decide) (fun c32 => ?_) (fun c32 => ?_)
          · refine v_iconst h (v := nI 0) dX3_hasCells_51 (by decide) ?_
            exact v_zret (v := false) h hr dX3_hasCells_52 (by first | exact (hcB_f0 c14).symm | exact (hcB_f1 c18).symm | exact (hcB_f2 c22).symm | exact (hcB_f3 c32).symm | exact (hcB_f4 c44).symm | exact (hcB_t c14 c18 c22 c32 c44).symm) rfl
          · refine v_iload_n3 h dX3_hasCells_35 ?_
            refine v_aload_n0 h dX3_hasCells_36 ?_
            refine v_get h mw_X3 0 rfl rfl 2 (by decide) mf_X3_19 rfl dX3_hasCells_37 ?_
            refine v_iload_n1 h dX3_hasCells_40 ?_
            refine v_ialdN h 3 rfl (by omega) (Nat.le_of_ble_eq_true rfl) dX3_hasCells_41 ?_
            refine v_iload_n2 h dX3_hasCells_42 ?_
            refine v_isub h dX3_hasCells_43 ?_
            refine v_icmp_gt h dX3_hasCells_44 (tgt := 51) (by decide) (fun c44 => ?_) (fun c44 => ?_)
            · refine v_iconst h (v := nI 0) dX3_hasCells_51 (by decide) ?_
              exact v_zret (v := false) h hr dX3_hasCells_52 (by first | exact (hcB_f0 c14).symm | exact (hcB_f1 c18).symm | exact (hcB_f2 c22).symm | exact (hcB_f3 c32).symm | exact (hcB_f4 c44).symm | exact (hcB_t c14 c18 c22 c32 c44).symm) rfl
            · refine v_iconst h (v := nI 1) dX3_hasCells_47 (by decide) ?_
              refine v_goto h dX3_hasCells_48 (tgt := 52) (by decide) ?_
              exact v_zret (v := true) h hr dX3_hasCells_52 (by first | exact (hcB_f0 c14).symm | exact (hcB_f1 c18).symm | exact (hcB_f2 c22).symm | exact (hcB_f3 c32).symm | exact (hcB_f4 c44).symm | exact (hcB_t c14 c18 c22 c32 c44).symm) rfl
set_option maxRecDepth 20000 in
set_option maxHeartbeats 2000000 in
theorem c_X3_faultOfTaking {g : vG} {s0 s1 s2 s3 s4 : Nat} {rr : Nat → Nat} {fil : Nat → Bool} {srt : Nat → Nat} {len : Nat → Nat} {cc : Nat → Nat → Int32} {k : Nat} {sort : Int32} {i : Int32} {n : Int32} (hk : k < 4) : Ct g yX3_faultOfTaking cX3_faultOfTaking 5 (some .int) (rmOf 2 44) [(s0, .inr (3, [.ref s1, .ref s2, .ref s3, .ref s4])), (s1, .inl (gZ g, 4, .inl (fun z9 => nI (bN (fil z9))))), (s2, .inl (gI g, 4, .inl (fun z9 => nI (srt z9)))), (s3, .inl (gI g, 4, .inl (fun z9 => nI (len z9)))), (s4, .inl (gA g, 4, .inr (.inr (.inr (.inr (fun i => if i < 4 then some (rr i) else none)))))), (rr 0, .inl (gI g, 40, .inl (cc 0))), (rr 1, .inl (gI g, 40, .inl (cc 1))), (rr 2, .inl (gI g, 40, .inl (cc 2))), (rr 3, .inl (gI g, 40, .inl (cc 3)))] [.ref s0, .int (nI k), .int sort, .int i, .int n] (some (.int (nI (ftk (fil k) (srt k) (len k) sort i n)))) [(s0, .inr (3, [.ref s1, .ref s2, .ref s3, .ref s4])), (s1, .inl (gZ g, 4, .inl (fun z9 => nI (bN (fil z9))))), (s2, .inl (gI g, 4, .inl (fun z9 => nI (srt z9)))), (s3, .inl (gI g, 4, .inl (fun z9 => nI (len z9)))), (s4, .inl (gA g, 4, .inr (.inr (.inr (.inr (fun i => if i < 4 then some (rr i) else none)))))), (rr 0, .inl (gI g, 40, .inl (cc 0))), (rr 1, .inl (gI g, 40, .inl (cc 1))), (rr 2, .inl (gI g, 40, .inl (cc 2))), (rr 3, .inl (gI g, 40, .inl (cc 3)))] := by
  refine Ct.ofV RX3 rfl (by decide +kernel) rfl rfl rfl (Nat.le_of_ble_eq_true rfl) (List.forall_mem_cons.mpr ⟨rfl, (List.forall_mem_cons.mpr ⟨rfl, (List.forall_mem_cons.mpr ⟨rfl, (List.forall_mem_cons.mpr ⟨rfl, (List.forall_mem_cons.mpr ⟨rfl, (fun _ h9 => absurd h9 List.not_mem_nil)⟩)⟩)⟩)⟩)⟩) (fun x h hr => ?_)
  show vM x 0 [some (.ref s0), some (.int (nI k)), some (.int sort), some (.int i), some (.int n)] [] [(s0, .inr (3, [.ref s1, .ref s2, .ref s3, .ref s4])), (s1, .inl (gZ g, 4, .inl (fun z9 => nI (bN (fil z9))))), (s2, .inl (gI g, 4, .inl (fun z9 => nI (srt z9)))), (s3, .inl (gI g, 4, .inl (fun z9 => nI (len z9)))), (s4, .inl (gA g, 4, .inr (.inr (.inr (.inr (fun i => if i < 4 then some (rr i) else none)))))), (rr 0, .inl (gI g, 40, .inl (cc 0))), (rr 1, .inl (gI g, 40, .inl (cc 1))), (rr 2, .inl (gI g, 40, .inl (cc 2))), (rr 3, .inl (gI g, 40, .inl (cc 3)))]
  refine v_aload_n0 h dX3_faultOfTaking_0 ?_
  refine v_iload_n1 h dX3_faultOfTaking_1 ?_
  refine cw_V_0_1_2_3_4_5_6_7_8_1_i (ci := 3) h (c_X3_hasRow (g := g) (by first | assumption | omega)) lk_X3_31 ⟨rfl, rfl, (Nat.le_of_ble_eq_true rfl), (Nat.le_of_ble_eq_true rfl)⟩ rfl rfl rfl (Nat.le_of_ble_eq_true rfl) dX3_faultOfTaking_2 ?_
  refine v_if_neB h dX3_faultOfTaking_5 (tgt := 10) (by decide) (fun c5 => ?_) (fun c5 => ?_)
  · refine v_aload_n0 h dX3_faultOfTaking_10 ?_
    refine v_iload_n1 h dX3_faultOfTaking_11 ?_
    refine cw_V_0_1_2_3_4_5_6_7_8_1_i (ci := 3) h (c_X3_sortOf (g := g) (by first | assumption | omega)) lk_X3_34 ⟨rfl, rfl, (Nat.le_of_ble_eq_true rfl), (Nat.le_of_ble_eq_true rfl)⟩ rfl rfl rfl (Nat.le_of_ble_eq_true rfl) dX3_faultOfTaking_12 ?_
    refine v_iload_n2 h dX3_faultOfTaking_15 ?_
    refine v_icmp_eq h dX3_faultOfTaking_16 (tgt := 21) (by decide) (fun c16 => ?_) (fun c16 => ?_)
    · refine v_iload4 h dX3_faultOfTaking_21 ?_
      refine v_if_ge h dX3_faultOfTaking_23 (tgt := 28) (by decide) (fun c23 => ?_) (fun c23 => ?_)
      · refine v_aload_n0 h dX3_faultOfTaking_28 ?_
        refine v_iload_n1 h dX3_faultOfTaking_29 ?_
        refine v_iload_n3 h dX3_faultOfTaking_30 ?_
        refine v_iload4 h dX3_faultOfTaking_31 ?_
        refine cw_V_0_1_2_3_4_5_6_7_8_3_i (ci := 3) h (c_X3_hasCells (g := g) (by first | assumption | omega)) lk_X3_38 ⟨rfl, rfl, (Nat.le_of_ble_eq_true rfl), (Nat.le_of_ble_eq_true rfl)⟩ rfl rfl rfl (Nat.le_of_ble_eq_true rfl) dX3_faultOfTaking_33 ?_
        refine v_if_eqB h dX3_faultOfTaking_36 (tgt := 43) (by decide) (fun c36 => ?_) (fun c36 => ?_)
        · refine v_iconst h (v := nI 3) dX3_faultOfTaking_43 (by decide) ?_
          exact v_iret h hr dX3_faultOfTaking_44 (by first | rw [ftk, if_neg (by rw [c5]; decide), if_pos c16, if_neg (Int32.not_lt.mpr c23), if_pos c36] | rw [ftk, if_neg (by rw [c5]; decide), if_pos c16, if_neg (Int32.not_lt.mpr c23), if_neg (by rw [c36]; decide)]) rfl
        · refine v_iconst h (v := nI 0) dX3_faultOfTaking_39 (by decide) ?_
          refine v_goto h dX3_faultOfTaking_40 (tgt := 44) (by decide) ?_
          exact v_iret h hr dX3_faultOfTaking_44 (by first | rw [ftk, if_neg (by rw [c5]; decide), if_pos c16, if_neg (Int32.not_lt.mpr c23), if_pos c36] | rw [ftk, if_neg (by rw [c5]; decide), if_pos c16, if_neg (Int32.not_lt.mpr c23), if_neg (by rw [c36]; decide)]) rfl
      · refine v_iconst h (v := nI 4) dX3_faultOfTaking_26 (by decide) ?_
        exact v_iret h hr dX3_faultOfTaking_27 (by rw [ftk, if_neg (by rw [c5]; decide), if_pos c16, if_pos (Int32.not_le.mp c23)]) rfl
    · refine v_iconst h (v := nI 2) dX3_faultOfTaking_19 (by decide) ?_
      exact v_iret h hr dX3_faultOfTaking_20 (by rw [ftk, if_neg (by rw [c5]; decide), if_neg c16]) rfl
  · refine v_iconst h (v := nI 1) dX3_faultOfTaking_8 (by decide) ?_
    exact v_iret h hr dX3_faultOfTaking_9 (by rw [ftk, if_pos c5]) rfl
set_option maxRecDepth 20000 in
set_option maxHeartbeats 2000000 in
theorem c_X3_cellOf {g : vG} {s0 s1 s2 s3 s4 : Nat} {rr : Nat → Nat} {fil : Nat → Bool} {srt : Nat → Nat} {len : Nat → Nat} {cc : Nat → Nat → Int32} {k : Nat} {i : Nat} (hk : k < 4) (hfk : fil k = true) (hlk : len k ≤ 40) (hi : i < len k) : Ct g yX3_cellOf cX3_cellOf 3 (some .int) (rmOf 2 44) [(s0, .inr (3, [.ref s1, .ref s2, .ref s3, .ref s4])), (s1, .inl (gZ g, 4, .inl (fun z9 => nI (bN (fil z9))))), (s2, .inl (gI g, 4, .inl (fun z9 => nI (srt z9)))), (s3, .inl (gI g, 4, .inl (fun z9 => nI (len z9)))), (s4, .inl (gA g, 4, .inr (.inr (.inr (.inr (fun i => if i < 4 then some (rr i) else none)))))), (rr 0, .inl (gI g, 40, .inl (cc 0))), (rr 1, .inl (gI g, 40, .inl (cc 1))), (rr 2, .inl (gI g, 40, .inl (cc 2))), (rr 3, .inl (gI g, 40, .inl (cc 3)))] [.ref s0, .int (nI k), .int (nI i)] (some (.int (cc k i))) [(s0, .inr (3, [.ref s1, .ref s2, .ref s3, .ref s4])), (s1, .inl (gZ g, 4, .inl (fun z9 => nI (bN (fil z9))))), (s2, .inl (gI g, 4, .inl (fun z9 => nI (srt z9)))), (s3, .inl (gI g, 4, .inl (fun z9 => nI (len z9)))), (s4, .inl (gA g, 4, .inr (.inr (.inr (.inr (fun i => if i < 4 then some (rr i) else none)))))), (rr 0, .inl (gI g, 40, .inl (cc 0))), (rr 1, .inl (gI g, 40, .inl (cc 1))), (rr 2, .inl (gI g, 40, .inl (cc 2))), (rr 3, .inl (gI g, 40, .inl (cc 3)))] := by
  refine Ct.ofV RX3 rfl (by decide +kernel) rfl rfl rfl (Nat.le_of_ble_eq_true rfl) (List.forall_mem_cons.mpr ⟨rfl, (List.forall_mem_cons.mpr ⟨rfl, (List.forall_mem_cons.mpr ⟨rfl, (fun _ h9 => absurd h9 List.not_mem_nil)⟩)⟩)⟩) (fun x h hr => ?_)
  show vM x 0 [some (.ref s0), some (.int (nI k)), some (.int (nI i))] [] [(s0, .inr (3, [.ref s1, .ref s2, .ref s3, .ref s4])), (s1, .inl (gZ g, 4, .inl (fun z9 => nI (bN (fil z9))))), (s2, .inl (gI g, 4, .inl (fun z9 => nI (srt z9)))), (s3, .inl (gI g, 4, .inl (fun z9 => nI (len z9)))), (s4, .inl (gA g, 4, .inr (.inr (.inr (.inr (fun i => if i < 4 then some (rr i) else none)))))), (rr 0, .inl (gI g, 40, .inl (cc 0))), (rr 1, .inl (gI g, 40, .inl (cc 1))), (rr 2, .inl (gI g, 40, .inl (cc 2))), (rr 3, .inl (gI g, 40, .inl (cc 3)))]
  refine v_aload_n0 h dX3_cellOf_0 ?_
  refine v_iload_n1 h dX3_cellOf_1 ?_
  refine v_iload_n2 h dX3_cellOf_2 ?_
  refine v_iconst h (v := nI 1) dX3_cellOf_3 (by decide) ?_
  refine cw_V_0_1_2_3_4_5_6_7_8_3_i (ci := 3) h (c_X3_hasCells (g := g) (by first | assumption | omega)) lk_X3_38 ⟨rfl, rfl, (Nat.le_of_ble_eq_true rfl), (Nat.le_of_ble_eq_true rfl)⟩ rfl rfl rfl (Nat.le_of_ble_eq_true rfl) dX3_cellOf_4 ?_
  refine v_if_eqB h dX3_cellOf_7 (tgt := 21) (by decide) (fun c7 => ?_) (fun c7 => ?_)
  · rw [hfk, hcB_N hlk (by omega)] at c7; cases c7
  · refine v_aload_n0 h dX3_cellOf_10 ?_
    refine v_get h mw_X3 0 rfl rfl 3 (by decide) mf_X3_24 rfl dX3_cellOf_11 ?_
    refine v_iload_n1 h dX3_cellOf_14 ?_
    refine v_rowref h (by omega) dX3_cellOf_15 ?_
    refine v_iload_n2 h dX3_cellOf_16 ?_
    refine v_rowld h (by omega) (by omega) dX3_cellOf_17 ?_
    refine v_goto h dX3_cellOf_18 (tgt := 22) (by decide) ?_
    exact v_iret h hr dX3_cellOf_22 rfl rfl
set_option maxRecDepth 20000 in
set_option maxHeartbeats 2000000 in
theorem c_X3_cut {g : vG} {r : Nat} {v : Int32} (hr2 : r ≤ 2) : Ct g yX3_cut cX3_cut 2 (some .int) (rmOf 0 0) [] [.int (nI r), .int v] (some (.int (cutV r v))) [] := by
  refine Ct.ofV RX3 rfl (by decide +kernel) rfl rfl rfl (Nat.le_of_ble_eq_true rfl) (List.forall_mem_cons.mpr ⟨rfl, (List.forall_mem_cons.mpr ⟨rfl, (fun _ h9 => absurd h9 List.not_mem_nil)⟩)⟩) (fun x h hr => ?_)
  show vM x 0 [some (.int (nI r)), some (.int v)] [] []
  refine v_iload_n0 h dX3_cut_0 ?_
  by_cases q0 : r = 0
  · subst q0; refine v_lookup h dX3_cut_1 (by decide) rfl (tgt := 28) (by decide) ?_
    refine v_iload_n1 h dX3_cut_28 ?_
    refine v_i2b h dX3_cut_29 ?_
    exact v_iret h hr dX3_cut_30 rfl rfl
  · by_cases q1 : r = 1
    · subst q1; refine v_lookup h dX3_cut_1 (by decide) rfl (tgt := 31) (by decide) ?_
      refine v_iload_n1 h dX3_cut_31 ?_
      refine v_i2s h dX3_cut_32 ?_
      exact v_iret h hr dX3_cut_33 rfl rfl
    · obtain rfl : r = 2 := by omega
      refine v_lookup h dX3_cut_1 (by decide) rfl (tgt := 34) (by decide) ?_
      refine v_iload_n1 h dX3_cut_34 ?_
      exact v_iret h hr dX3_cut_35 rfl rfl
set_option maxRecDepth 20000 in
set_option maxHeartbeats 2000000 in
theorem c_X3_setCell {g : vG} {s0 s1 s2 s3 s4 : Nat} {rr : Nat → Nat} {fil : Nat → Bool} {srt : Nat → Nat} {len : Nat → Nat} {cc : Nat → Nat → Int32} {k : Nat} {i : Nat} {v : Int32} (hk : k < 4) (hfk : fil k = true) (hlk : len k ≤ 40) (hi : i < len k) (hsr : srt k ≤ 2) : Ct g yX3_setCell cX3_setCell 4 none (rmOf 2 44) [(s0, .inr (3, [.ref s1, .ref s2, .ref s3, .ref s4])), (s1, .inl (gZ g, 4, .inl (fun z9 => nI (bN (fil z9))))), (s2, .inl (gI g, 4, .inl (fun z9 => nI (srt z9)))), (s3, .inl (gI g, 4, .inl (fun z9 => nI (len z9)))), (s4, .inl (gA g, 4, .inr (.inr (.inr (.inr (fun i => if i < 4 then some (rr i) else none)))))), (rr 0, .inl (gI g, 40, .inl (cc 0))), (rr 1, .inl (gI g, 40, .inl (cc 1))), (rr 2, .inl (gI g, 40, .inl (cc 2))), (rr 3, .inl (gI g, 40, .inl (cc 3)))] [.ref s0, .int (nI k), .int (nI i), .int v] none [(s0, .inr (3, [.ref s1, .ref s2, .ref s3, .ref s4])), (s1, .inl (gZ g, 4, .inl (fun z9 => nI (bN (fil z9))))), (s2, .inl (gI g, 4, .inl (fun z9 => nI (srt z9)))), (s3, .inl (gI g, 4, .inl (fun z9 => nI (len z9)))), (s4, .inl (gA g, 4, .inr (.inr (.inr (.inr (fun i => if i < 4 then some (rr i) else none)))))), (rr 0, .inl (gI g, 40, .inl ((upr cc k (upd (cc k) i (cutV (srt k) v))) 0))), (rr 1, .inl (gI g, 40, .inl ((upr cc k (upd (cc k) i (cutV (srt k) v))) 1))), (rr 2, .inl (gI g, 40, .inl ((upr cc k (upd (cc k) i (cutV (srt k) v))) 2))), (rr 3, .inl (gI g, 40, .inl ((upr cc k (upd (cc k) i (cutV (srt k) v))) 3)))] := by
  refine Ct.ofV RX3 rfl (by decide +kernel) rfl rfl rfl (Nat.le_of_ble_eq_true rfl) (List.forall_mem_cons.mpr ⟨rfl, (List.forall_mem_cons.mpr ⟨rfl, (List.forall_mem_cons.mpr ⟨rfl, (List.forall_mem_cons.mpr ⟨rfl, (fun _ h9 => absurd h9 List.not_mem_nil)⟩)⟩)⟩)⟩) (fun x h hr => ?_)
  show vM x 0 [some (.ref s0), some (.int (nI k)), some (.int (nI i)), some (.int v)] [] [(s0, .inr (3, [.ref s1, .ref s2, .ref s3, .ref s4])), (s1, .inl (gZ g, 4, .inl (fun z9 => nI (bN (fil z9))))), (s2, .inl (gI g, 4, .inl (fun z9 => nI (srt z9)))), (s3, .inl (gI g, 4, .inl (fun z9 => nI (len z9)))), (s4, .inl (gA g, 4, .inr (.inr (.inr (.inr (fun i => if i < 4 then some (rr i) else none)))))), (rr 0, .inl (gI g, 40, .inl (cc 0))), (rr 1, .inl (gI g, 40, .inl (cc 1))), (rr 2, .inl (gI g, 40, .inl (cc 2))), (rr 3, .inl (gI g, 40, .inl (cc 3)))]
  refine v_aload_n0 h dX3_setCell_0 ?_
  refine v_iload_n1 h dX3_setCell_1 ?_
  refine v_iload_n2 h dX3_setCell_2 ?_
  refine v_iconst h (v := nI 1) dX3_setCell_3 (by decide) ?_
  refine cw_V_0_1_2_3_4_5_6_7_8_3_i (ci := 3) h (c_X3_hasCells (g := g) (by first | assumption | omega)) lk_X3_38 ⟨rfl, rfl, (Nat.le_of_ble_eq_true rfl), (Nat.le_of_ble_eq_true rfl)⟩ rfl rfl rfl (Nat.le_of_ble_eq_true rfl) dX3_setCell_4 ?_
  refine v_if_eqB h dX3_setCell_7 (tgt := 28) (by decide) (fun c7 => ?_) (fun c7 => ?_)
  · rw [hfk, hcB_N hlk (by omega)] at c7; cases c7
  · refine v_aload_n0 h dX3_setCell_10 ?_
    refine v_get h mw_X3 0 rfl rfl 3 (by decide) mf_X3_24 rfl dX3_setCell_11 ?_
    refine v_iload_n1 h dX3_setCell_14 ?_
    refine v_rowref h (by omega) dX3_setCell_15 ?_
    refine v_iload_n2 h dX3_setCell_16 ?_
    refine v_aload_n0 h dX3_setCell_17 ?_
    refine v_get h mw_X3 0 rfl rfl 1 (by decide) mf_X3_15 rfl dX3_setCell_18 ?_
    refine v_iload_n1 h dX3_setCell_21 ?_
    refine v_ialdN h 2 rfl (by omega) (Nat.le_of_ble_eq_true rfl) dX3_setCell_22 ?_
    refine v_iload_n3 h dX3_setCell_23 ?_
    refine cw_S_e_2_i h (c_X3_cut (g := g) (by first | assumption | omega)) lk_X3_42 ⟨rfl, rfl, (Nat.le_of_ble_eq_true rfl), (Nat.le_of_ble_eq_true rfl)⟩ (Nat.le_of_ble_eq_true rfl) dX3_setCell_24 ?_
    refine v_rowst h (by omega) (by omega) dX3_setCell_27 ?_
    exact v_vret h hr dX3_setCell_28 rfl
set_option maxRecDepth 20000 in
set_option maxHeartbeats 2000000 in
theorem c_X3_renew {g : vG} {s0 s1 s2 s3 s4 : Nat} {rr : Nat → Nat} {fil : Nat → Bool} {srt : Nat → Nat} {len : Nat → Nat} {cc : Nat → Nat → Int32} {k : Nat} {r : Nat} {n : Nat} (hk : k < 4) (hn : n ≤ 40) : Ct g yX3_renew cX3_renew 5 none (rmOf 1 21) [(s0, .inr (3, [.ref s1, .ref s2, .ref s3, .ref s4])), (s1, .inl (gZ g, 4, .inl (fun z9 => nI (bN (fil z9))))), (s2, .inl (gI g, 4, .inl (fun z9 => nI (srt z9)))), (s3, .inl (gI g, 4, .inl (fun z9 => nI (len z9)))), (s4, .inl (gA g, 4, .inr (.inr (.inr (.inr (fun i => if i < 4 then some (rr i) else none)))))), (rr 0, .inl (gI g, 40, .inl (cc 0))), (rr 1, .inl (gI g, 40, .inl (cc 1))), (rr 2, .inl (gI g, 40, .inl (cc 2))), (rr 3, .inl (gI g, 40, .inl (cc 3)))] [.ref s0, .int (nI k), .int (nI r), .int (nI n)] none [(s0, .inr (3, [.ref s1, .ref s2, .ref s3, .ref s4])), (s1, .inl (gZ g, 4, .inl (fun z9 => nI (bN ((upB fil k true) z9))))), (s2, .inl (gI g, 4, .inl (fun z9 => nI ((up srt k r) z9)))), (s3, .inl (gI g, 4, .inl (fun z9 => nI ((up len k n) z9)))), (s4, .inl (gA g, 4, .inr (.inr (.inr (.inr (fun i => if i < 4 then some (rr i) else none)))))), (rr 0, .inl (gI g, 40, .inl ((rnw cc k n) 0))), (rr 1, .inl (gI g, 40, .inl ((rnw cc k n) 1))), (rr 2, .inl (gI g, 40, .inl ((rnw cc k n) 2))), (rr 3, .inl (gI g, 40, .inl ((rnw cc k n) 3)))] := by
  refine Ct.ofV RX3 rfl (by decide +kernel) rfl rfl rfl (Nat.le_of_ble_eq_true rfl) (List.forall_mem_cons.mpr ⟨rfl, (List.forall_mem_cons.mpr ⟨rfl, (List.forall_mem_cons.mpr ⟨rfl, (List.forall_mem_cons.mpr ⟨rfl, (fun _ h9 => absurd h9 List.not_mem_nil)⟩)⟩)⟩)⟩) (fun x h hr => ?_)
  show vM x 0 [some (.ref s0), some (.int (nI k)), some (.int (nI r)), some (.int (nI n)), none] [] [(s0, .inr (3, [.ref s1, .ref s2, .ref s3, .ref s4])), (s1, .inl (gZ g, 4, .inl (fun z9 => nI (bN (fil z9))))), (s2, .inl (gI g, 4, .inl (fun z9 => nI (srt z9)))), (s3, .inl (gI g, 4, .inl (fun z9 => nI (len z9)))), (s4, .inl (gA g, 4, .inr (.inr (.inr (.inr (fun i => if i < 4 then some (rr i) else none)))))), (rr 0, .inl (gI g, 40, .inl (cc 0))), (rr 1, .inl (gI g, 40, .inl (cc 1))), (rr 2, .inl (gI g, 40, .inl (cc 2))), (rr 3, .inl (gI g, 40, .inl (cc 3)))]
  refine v_aload_n0 h dX3_renew_0 ?_
  refine v_iload_n1 h dX3_renew_1 ?_
  refine cw_V_0_1_2_3_4_5_6_7_8_1_i (ci := 3) h (c_X3_has (g := g)) lk_X3_27 ⟨rfl, rfl, (Nat.le_of_ble_eq_true rfl), (Nat.le_of_ble_eq_true rfl)⟩ rfl rfl rfl (Nat.le_of_ble_eq_true rfl) dX3_renew_2 ?_
  refine v_if_eqB h dX3_renew_5 (tgt := 18) (by decide) (fun c5 => ?_) (fun c5 => ?_)
  · exact inR_no hk (by decide) c5
  · refine v_iload_n3 h dX3_renew_8 ?_
    refine v_if_ltN h dX3_renew_9 (by omega) (tgt := 18) (by decide) ?_
    refine v_iload_n3 h dX3_renew_12 ?_
    refine v_bipush h (v := nI 40) dX3_renew_13 (by decide) ?_
    refine v_icmp_leN h dX3_renew_15 (tgt := 19) (by decide) (by omega) (by omega) (fun c15 => ?_) (fun c15 => ?_)
    · refine v_aload_n0 h dX3_renew_19 ?_
      refine v_get h mw_X3 0 rfl rfl 0 (by decide) mf_X3_9 rfl dX3_renew_20 ?_
      refine v_iload_n1 h dX3_renew_23 ?_
      refine v_iconst h (v := nI 1) dX3_renew_24 (by decide) ?_
      refine vM.top (v := .int (nI (bN true))) rfl ?_
      refine v_zastN_at1 h (by omega) (Nat.le_of_ble_eq_true rfl) dX3_renew_25 ?_
      refine v_aload_n0 h dX3_renew_26 ?_
      refine v_get h mw_X3 0 rfl rfl 1 (by decide) mf_X3_15 rfl dX3_renew_27 ?_
      refine v_iload_n1 h dX3_renew_30 ?_
      refine v_iload_n2 h dX3_renew_31 ?_
      refine v_iastN_at2 h (by omega) (Nat.le_of_ble_eq_true rfl) dX3_renew_32 ?_
      refine v_aload_n0 h dX3_renew_33 ?_
      refine v_get h mw_X3 0 rfl rfl 2 (by decide) mf_X3_19 rfl dX3_renew_34 ?_
      refine v_iload_n1 h dX3_renew_37 ?_
      refine v_iload_n3 h dX3_renew_38 ?_
      refine v_iastN_at3 h (by omega) (Nat.le_of_ble_eq_true rfl) dX3_renew_39 ?_
      refine v_iconst h (v := nI 0) dX3_renew_40 (by decide) ?_
      refine v_istore4 h (Nat.le_of_ble_eq_true rfl) dX3_renew_41 ?_
      have L43 : ∀ (k43 : Nat) (i : Nat), n - i = k43 → (i ≤ n) → vM x 43 [some (.ref s0), some (.int (nI k)), some (.int (nI r)), some (.int (nI n)), some (.int (nI i))] [] [(s0, .inr (3, [.ref s1, .ref s2, .ref s3, .ref s4])), (s1, .inl (gZ g, 4, .inl (fun z9 => nI (bN ((upB fil k true) z9))))), (s2, .inl (gI g, 4, .inl (fun z9 => nI ((up srt k r) z9)))), (s3, .inl (gI g, 4, .inl (fun z9 => nI ((up len k n) z9)))), (s4, .inl (gA g, 4, .inr (.inr (.inr (.inr (fun i => if i < 4 then some (rr i) else none)))))), (rr 0, .inl (gI g, 40, .inl ((rnw cc k i) 0))), (rr 1, .inl (gI g, 40, .inl ((rnw cc k i) 1))), (rr 2, .inl (gI g, 40, .inl ((rnw cc k i) 2))), (rr 3, .inl (gI g, 40, .inl ((rnw cc k i) 3)))] := by
        intro k43
        induction k43 using Nat.strongRecOn with
        | _ k43 ih43 =>
          intro i hm43 hi
          refine v_iload4 h dX3_renew_43 ?_
          refine v_iload_n3 h dX3_renew_45 ?_
          refine v_icmp_geN h dX3_renew_46 (tgt := 65) (by decide) (by omega) (by omega) (fun c46 => ?_) (fun c46 => ?_)
          · have e46 : n = i := by omega
            subst e46
            exact v_vret h hr dX3_renew_65 rfl
          · refine v_aload_n0 h dX3_renew_49 ?_
            refine v_get h mw_X3 0 rfl rfl 3 (by decide) mf_X3_24 rfl dX3_renew_50 ?_
            refine v_iload_n1 h dX3_renew_53 ?_
            refine v_rowref h (by omega) dX3_renew_54 ?_
            refine v_iload4 h dX3_renew_55 ?_
            refine v_iconst h (v := nI 0) dX3_renew_57 (by decide) ?_
            refine v_rowst h (by omega) (by omega) dX3_renew_58 ?_
            refine v_iincN4 h (Nat.le_of_ble_eq_true rfl) dX3_renew_59 ?_
            refine v_goto h dX3_renew_62 (tgt := 43) (by decide) ?_
            exact vM.le rfl rfl (by rw [rnw_succ]) (vM.fg (ih43 _ (by omega) (i + 1) rfl (by first | assumption | rfl | omega)) ⟨rfl, rfl, rfl, rfl, rfl, trivial⟩)
      exact vM.le rfl rfl (by rw [rnw_0]) (vM.fg (L43 _ 0 rfl (by first | assumption | rfl | omega)) ⟨rfl, rfl, rfl, rfl, rfl, trivial⟩)
    · omega
set_option maxRecDepth 20000 in
set_option maxHeartbeats 2000000 in
theorem c_X5_number {g : vG} {s0 s1 s2 s3 s4 : Nat} {rr : Nat → Nat} {fil : Nat → Bool} {srt : Nat → Nat} {len : Nat → Nat} {cc : Nat → Nat → Int32} {k : Nat} {i : Nat} (hk : k < 4) (hfk : fil k = true) (hlk : len k ≤ 40) (hi : i + 3 ≤ len k) (hdg : ∀ z, z < 3 → cc k (i + z) = nI (48 + dv (cc k (i + z))) ∧ dv (cc k (i + z)) ≤ 9) : Ct g yX5_number cX5_number 5 (some .int) (rmOf 3 66) [(s0, .inr (3, [.ref s1, .ref s2, .ref s3, .ref s4])), (s1, .inl (gZ g, 4, .inl (fun z9 => nI (bN (fil z9))))), (s2, .inl (gI g, 4, .inl (fun z9 => nI (srt z9)))), (s3, .inl (gI g, 4, .inl (fun z9 => nI (len z9)))), (s4, .inl (gA g, 4, .inr (.inr (.inr (.inr (fun i => if i < 4 then some (rr i) else none)))))), (rr 0, .inl (gI g, 40, .inl (cc 0))), (rr 1, .inl (gI g, 40, .inl (cc 1))), (rr 2, .inl (gI g, 40, .inl (cc 2))), (rr 3, .inl (gI g, 40, .inl (cc 3)))] [.ref s0, .int (nI k), .int (nI i)] (some (.int (nI (numV (fun z => cc k (i + z)) 0)))) [(s0, .inr (3, [.ref s1, .ref s2, .ref s3, .ref s4])), (s1, .inl (gZ g, 4, .inl (fun z9 => nI (bN (fil z9))))), (s2, .inl (gI g, 4, .inl (fun z9 => nI (srt z9)))), (s3, .inl (gI g, 4, .inl (fun z9 => nI (len z9)))), (s4, .inl (gA g, 4, .inr (.inr (.inr (.inr (fun i => if i < 4 then some (rr i) else none)))))), (rr 0, .inl (gI g, 40, .inl (cc 0))), (rr 1, .inl (gI g, 40, .inl (cc 1))), (rr 2, .inl (gI g, 40, .inl (cc 2))), (rr 3, .inl (gI g, 40, .inl (cc 3)))] := by
  refine Ct.ofV RX5 rfl (by decide +kernel) rfl rfl rfl (Nat.le_of_ble_eq_true rfl) (List.forall_mem_cons.mpr ⟨rfl, (List.forall_mem_cons.mpr ⟨rfl, (List.forall_mem_cons.mpr ⟨rfl, (fun _ h9 => absurd h9 List.not_mem_nil)⟩)⟩)⟩) (fun x h hr => ?_)
  show vM x 0 [some (.ref s0), some (.int (nI k)), some (.int (nI i)), none, none] [] [(s0, .inr (3, [.ref s1, .ref s2, .ref s3, .ref s4])), (s1, .inl (gZ g, 4, .inl (fun z9 => nI (bN (fil z9))))), (s2, .inl (gI g, 4, .inl (fun z9 => nI (srt z9)))), (s3, .inl (gI g, 4, .inl (fun z9 => nI (len z9)))), (s4, .inl (gA g, 4, .inr (.inr (.inr (.inr (fun i => if i < 4 then some (rr i) else none)))))), (rr 0, .inl (gI g, 40, .inl (cc 0))), (rr 1, .inl (gI g, 40, .inl (cc 1))), (rr 2, .inl (gI g, 40, .inl (cc 2))), (rr 3, .inl (gI g, 40, .inl (cc 3)))]
  refine v_iconst h (v := nI 0) dX5_number_0 (by decide) ?_
  refine v_istore_n3 h (Nat.le_of_ble_eq_true rfl) dX5_number_1 ?_
  refine v_iconst h (v := nI 0) dX5_number_2 (by decide) ?_
  refine v_istore4 h (Nat.le_of_ble_eq_true rfl) dX5_number_3 ?_
  have L5 : ∀ (k5 : Nat) (q : Nat), 3 - q = k5 → (q ≤ 3) → vM x 5 [some (.ref s0), some (.int (nI k)), some (.int (nI i)), some (.int (nI (numK (fun z => dv (cc k (i + z))) q))), some (.int (nI q))] [] [(s0, .inr (3, [.ref s1, .ref s2, .ref s3, .ref s4])), (s1, .inl (gZ g, 4, .inl (fun z9 => nI (bN (fil z9))))), (s2, .inl (gI g, 4, .inl (fun z9 => nI (srt z9)))), (s3, .inl (gI g, 4, .inl (fun z9 => nI (len z9)))), (s4, .inl (gA g, 4, .inr (.inr (.inr (.inr (fun i => if i < 4 then some (rr i) else none)))))), (rr 0, .inl (gI g, 40, .inl (cc 0))), (rr 1, .inl (gI g, 40, .inl (cc 1))), (rr 2, .inl (gI g, 40, .inl (cc 2))), (rr 3, .inl (gI g, 40, .inl (cc 3)))] := by
    intro k5
    induction k5 using Nat.strongRecOn with
    | _ k5 ih5 =>
      intro q hm5 hq
      refine v_iload4 h dX5_number_5 ?_
      refine v_iconst h (v := nI 3) dX5_number_7 (by decide) ?_
      refine v_icmp_geN h dX5_number_8 (tgt := 35) (by decide) (by omega) (by omega) (fun c8 => ?_) (fun c8 => ?_)
      · refine v_iload_n3 h dX5_number_35 ?_
        exact v_iret h hr dX5_number_36 (by rw [show q = 3 by omega, numV]; simp only [Nat.zero_add]) rfl
      · refine v_bipush h (v := nI 10) dX5_number_11 (by decide) ?_
        refine v_iload_n3 h dX5_number_13 ?_
        refine v_imulN h dX5_number_14 ?_
        refine v_aload_n0 h dX5_number_15 ?_
        refine v_iload_n1 h dX5_number_16 ?_
        refine v_iload_n2 h dX5_number_17 ?_
        refine v_iload4 h dX5_number_18 ?_
        refine v_iaddN h dX5_number_20 ?_
        refine cw_V_0_1_2_3_4_5_6_7_8_2_i (ci := 3) h (c_X3_cellOf (g := g) (by first | assumption | omega) (by first | assumption | omega) (by first | assumption | omega) (by first | assumption | omega)) lk_X5_15 ⟨rfl, rfl, (Nat.le_of_ble_eq_true rfl), (Nat.le_of_ble_eq_true rfl)⟩ rfl rfl rfl (Nat.le_of_ble_eq_true rfl) dX5_number_21 ?_
        rw [(hdg q (by omega)).1]
        refine v_iaddN h dX5_number_24 ?_
        refine v_bipush h (v := nI 48) dX5_number_25 (by decide) ?_
        refine v_isubN h dX5_number_27 (by omega) ?_
        refine v_istore_n3 h (Nat.le_of_ble_eq_true rfl) dX5_number_28 ?_
        refine v_iincN4 h (Nat.le_of_ble_eq_true rfl) dX5_number_29 ?_
        refine v_goto h dX5_number_32 (tgt := 5) (by decide) ?_
        exact vM.fg (ih5 _ (by omega) (q + 1) rfl (by first | assumption | rfl | omega)) ⟨rfl, rfl, rfl, (by rw [show 10 * numK (fun z => dv (cc k (i + z))) q + (48 + dv (cc k (i + q))) - 48 = numK (fun z => dv (cc k (i + z))) (q + 1) by rw [numK]; omega]), rfl, trivial⟩
  exact vM.fg (L5 _ 0 rfl (by first | assumption | rfl | omega)) ⟨rfl, rfl, rfl, rfl, rfl, trivial⟩
