theorem cw_V_6_7_8_9_0_i {x : vX} {g : vG} {cc : ByteArray} {own : String} {rm : Room} {nL pc : Nat} {lv : List (Option Value)} {st : List Value} {w0 w1 w2 w3 w4 w5 : Nat × va_E} {wt : va_W} {c0 c1 c2 c3 d0 d1 d2 d3 : Nat × va_E} {idx : Nat} {y : MethodName} {bytes : ByteArray} {ml : Nat} {ret : Option FieldType} {rmc : Room} {r : Int32} {a ci : Nat} {q : vw_C} {fs : List Value} (h : Ok x g cc own rm nL) (hc : Ct g y bytes ml ret rmc [c0, c1, c2, c3] [.ref a] (some (.int r)) [d0, d1, d2, d3]) (lk : LkV own idx y bytes ml ret 0) (hrm : RmOk rmc rm ml) (hcl : vwCl[ci]? = some q) (hq : y.cls = q.1) (h0 : c0 = (a, .inr (ci, fs))) (hW : (st.map fun v => v.category).sum ≤ 8) (hd : decode cc pc = .ok (.invokevirtual idx, 3)) (k : vM x (pc + 3) lv (.int r :: st) (w0 :: w1 :: w2 :: w3 :: w4 :: w5 :: d0 :: d1 :: d2 :: d3 :: wt)) : vM x pc lv (.ref a :: st) (w0 :: w1 :: w2 :: w3 :: w4 :: w5 :: c0 :: c1 :: c2 :: c3 :: wt) := v_callV (As := []) (rest := st) h hc lk hrm hcl hq (by rw [h0]; rfl) rfl [6, 7, 8, 9] rfl (by decide) hW hd rfl k
theorem lk_X7_225 : LkV RX7 225 yX4_countTold cX4_countTold 3 (some .int) 0 := ⟨ml_X7_225, mn_X4_countTold, mv_X4_countTold, mi_X4, mc_X4_countTold, ⟨by decide, by decide, by decide +kernel⟩⟩
theorem lk_X7_228 : LkS RX7 228 yX7_commonDivisor cX7_commonDivisor 3 (some .int) 2 := ⟨ml_X7_228, ms_X7_commonDivisor, mi_X7, mc_X7_commonDivisor, ⟨by decide, by decide, by decide +kernel⟩⟩
theorem cw_V_1_2_3_4_5_6_7_8_9_1_i {x : vX} {g : vG} {cc : ByteArray} {own : String} {rm : Room} {nL pc : Nat} {lv : List (Option Value)} {st : List Value} {w0 : Nat × va_E} {wt : va_W} {c0 c1 c2 c3 c4 c5 c6 c7 c8 d0 d1 d2 d3 d4 d5 d6 d7 d8 : Nat × va_E} {idx : Nat} {y : MethodName} {bytes : ByteArray} {ml : Nat} {ret : Option FieldType} {rmc : Room} {r : Int32} {p0 : Value} {a ci : Nat} {q : vw_C} {fs : List Value} (h : Ok x g cc own rm nL) (hc : Ct g y bytes ml ret rmc [c0, c1, c2, c3, c4, c5, c6, c7, c8] [.ref a, p0] (some (.int r)) [d0, d1, d2, d3, d4, d5, d6, d7, d8]) (lk : LkV own idx y bytes ml ret 1) (hrm : RmOk rmc rm ml) (hcl : vwCl[ci]? = some q) (hq : y.cls = q.1) (h0 : c0 = (a, .inr (ci, fs))) (hW : (st.map fun v => v.category).sum ≤ 8) (hd : decode cc pc = .ok (.invokevirtual idx, 3)) (k : vM x (pc + 3) lv (.int r :: st) (w0 :: d0 :: d1 :: d2 :: d3 :: d4 :: d5 :: d6 :: d7 :: d8 :: wt)) : vM x pc lv (p0 :: .ref a :: st) (w0 :: c0 :: c1 :: c2 :: c3 :: c4 :: c5 :: c6 :: c7 :: c8 :: wt) := v_callV (As := [p0]) (rest := st) h hc lk hrm hcl hq (by rw [h0]; rfl) rfl [1, 2, 3, 4, 5, 6, 7, 8, 9] rfl (by decide) hW hd rfl k
theorem lk_X7_63 : LkV RX7 63 yX3_has cX3_has 2 (some .boolean) 1 := ⟨ml_X7_63, mn_X3_has, mv_X3_has, mi_X3, mc_X3_has, ⟨by decide, by decide, by decide +kernel⟩⟩
theorem lk_X7_67 : LkS RX7 67 yX7_isSort cX7_isSort 1 (some .boolean) 1 := ⟨ml_X7_67, ms_X7_isSort, mi_X7, mc_X7_isSort, ⟨by decide, by decide, by decide +kernel⟩⟩
theorem cw_V_1_2_3_4_5_6_7_8_9_3_v {x : vX} {g : vG} {cc : ByteArray} {own : String} {rm : Room} {nL pc : Nat} {lv : List (Option Value)} {st : List Value} {w0 : Nat × va_E} {wt : va_W} {c0 c1 c2 c3 c4 c5 c6 c7 c8 d0 d1 d2 d3 d4 d5 d6 d7 d8 : Nat × va_E} {idx : Nat} {y : MethodName} {bytes : ByteArray} {ml : Nat} {ret : Option FieldType} {rmc : Room} {p0 p1 p2 : Value} {a ci : Nat} {q : vw_C} {fs : List Value} (h : Ok x g cc own rm nL) (hc : Ct g y bytes ml ret rmc [c0, c1, c2, c3, c4, c5, c6, c7, c8] [.ref a, p0, p1, p2] none [d0, d1, d2, d3, d4, d5, d6, d7, d8]) (lk : LkV own idx y bytes ml ret 3) (hrm : RmOk rmc rm ml) (hcl : vwCl[ci]? = some q) (hq : y.cls = q.1) (h0 : c0 = (a, .inr (ci, fs))) (hW : (st.map fun v => v.category).sum ≤ 8) (hd : decode cc pc = .ok (.invokevirtual idx, 3)) (k : vM x (pc + 3) lv (st) (w0 :: d0 :: d1 :: d2 :: d3 :: d4 :: d5 :: d6 :: d7 :: d8 :: wt)) : vM x pc lv (p2 :: p1 :: p0 :: .ref a :: st) (w0 :: c0 :: c1 :: c2 :: c3 :: c4 :: c5 :: c6 :: c7 :: c8 :: wt) := v_callV (As := [p0, p1, p2]) (rest := st) h hc lk hrm hcl hq (by rw [h0]; rfl) rfl [1, 2, 3, 4, 5, 6, 7, 8, 9] rfl (by decide) hW hd rfl k
theorem lk_X7_231 : LkV RX7 231 yX3_renew cX3_renew 5 none 3 := ⟨ml_X7_231, mn_X3_renew, mv_X3_renew, mi_X3, mc_X3_renew, ⟨by decide, by decide, by decide +kernel⟩⟩
theorem cw_V_0_1_i {x : vX} {g : vG} {cc : ByteArray} {own : String} {rm : Room} {nL pc : Nat} {lv : List (Option Value)} {st : List Value} {wt : va_W} {c0 d0 : Nat × va_E} {idx : Nat} {y : MethodName} {bytes : ByteArray} {ml : Nat} {ret : Option FieldType} {rmc : Room} {r : Int32} {p0 : Value} {a ci : Nat} {q : vw_C} {fs : List Value} (h : Ok x g cc own rm nL) (hc : Ct g y bytes ml ret rmc [c0] [.ref a, p0] (some (.int r)) [d0]) (lk : LkV own idx y bytes ml ret 1) (hrm : RmOk rmc rm ml) (hcl : vwCl[ci]? = some q) (hq : y.cls = q.1) (h0 : c0 = (a, .inr (ci, fs))) (hW : (st.map fun v => v.category).sum ≤ 8) (hd : decode cc pc = .ok (.invokevirtual idx, 3)) (k : vM x (pc + 3) lv (.int r :: st) (d0 :: wt)) : vM x pc lv (p0 :: .ref a :: st) (c0 :: wt) := v_callV (As := [p0]) (rest := st) h hc lk hrm hcl hq (by rw [h0]; rfl) rfl [0] rfl (by decide) hW hd rfl k
theorem lk_X7_74 : LkV RX7 74 yX7_faulty cX7_faulty 2 (some .int) 1 := ⟨ml_X7_74, mn_X7_faulty, mv_X7_faulty, mi_X7, mc_X7_faulty, ⟨by decide, by decide, by decide +kernel⟩⟩
theorem lk_X7_238 : LkV RX7 238 yX3_hasRow cX3_hasRow 2 (some .boolean) 1 := ⟨ml_X7_238, mn_X3_hasRow, mv_X3_hasRow, mi_X3, mc_X3_hasRow, ⟨by decide, by decide, by decide +kernel⟩⟩
theorem cw_V_1_2_3_4_5_6_7_8_9_3_i {x : vX} {g : vG} {cc : ByteArray} {own : String} {rm : Room} {nL pc : Nat} {lv : List (Option Value)} {st : List Value} {w0 : Nat × va_E} {wt : va_W} {c0 c1 c2 c3 c4 c5 c6 c7 c8 d0 d1 d2 d3 d4 d5 d6 d7 d8 : Nat × va_E} {idx : Nat} {y : MethodName} {bytes : ByteArray} {ml : Nat} {ret : Option FieldType} {rmc : Room} {r : Int32} {p0 p1 p2 : Value} {a ci : Nat} {q : vw_C} {fs : List Value} (h : Ok x g cc own rm nL) (hc : Ct g y bytes ml ret rmc [c0, c1, c2, c3, c4, c5, c6, c7, c8] [.ref a, p0, p1, p2] (some (.int r)) [d0, d1, d2, d3, d4, d5, d6, d7, d8]) (lk : LkV own idx y bytes ml ret 3) (hrm : RmOk rmc rm ml) (hcl : vwCl[ci]? = some q) (hq : y.cls = q.1) (h0 : c0 = (a, .inr (ci, fs))) (hW : (st.map fun v => v.category).sum ≤ 8) (hd : decode cc pc = .ok (.invokevirtual idx, 3)) (k : vM x (pc + 3) lv (.int r :: st) (w0 :: d0 :: d1 :: d2 :: d3 :: d4 :: d5 :: d6 :: d7 :: d8 :: wt)) : vM x pc lv (p2 :: p1 :: p0 :: .ref a :: st) (w0 :: c0 :: c1 :: c2 :: c3 :: c4 :: c5 :: c6 :: c7 :: c8 :: wt) := v_callV (As := [p0, p1, p2]) (rest := st) h hc lk hrm hcl hq (by rw [h0]; rfl) rfl [1, 2, 3, 4, 5, 6, 7, 8, 9] rfl (by decide) hW hd rfl k
theorem lk_X7_241 : LkV RX7 241 yX3_hasCells cX3_hasCells 4 (some .boolean) 3 := ⟨ml_X7_241, mn_X3_hasCells, mv_X3_hasCells, mi_X3, mc_X3_hasCells, ⟨by decide, by decide, by decide +kernel⟩⟩
theorem lk_X7_244 : LkV RX7 244 yX3_setCell cX3_setCell 4 none 3 := ⟨ml_X7_244, mn_X3_setCell, mv_X3_setCell, mi_X3, mc_X3_setCell, ⟨by decide, by decide, by decide +kernel⟩⟩
set_option maxRecDepth 20000 in
set_option maxHeartbeats 2000000 in
theorem c_X7_commonDivisor {g : vG} {a : Nat} {b : Nat} (ha : a < 2 ^ 31) (hb : b < 2 ^ 31) : Ct g yX7_commonDivisor cX7_commonDivisor 3 (some .int) (rmOf 0 0) [] [.int (nI a), .int (nI b)] (some (.int (nI (cmd a b b)))) [] := by
  refine Ct.ofV RX7 rfl (by decide +kernel) rfl rfl rfl (Nat.le_of_ble_eq_true rfl) (List.forall_mem_cons.mpr ⟨rfl, (List.forall_mem_cons.mpr ⟨rfl, (fun _ h9 => absurd h9 List.not_mem_nil)⟩)⟩) (fun x h hr => ?_)
  show vM x 0 [some (.int (nI a)), some (.int (nI b)), none] [] []
  refine v_iload_n1 h dX7_commonDivisor_0 ?_
  refine v_istore_n2 h (Nat.le_of_ble_eq_true rfl) dX7_commonDivisor_1 ?_
  have L2 : ∀ (k2 : Nat) (d : Nat), d = k2 → (d ≤ b) → (cmd a b b = cmd a b d) → vM x 2 [some (.int (nI a)), some (.int (nI b)), some (.int (nI d))] [] [] := by
    intro k2
    induction k2 using Nat.strongRecOn with
    | _ k2 ih2 =>
      intro d hm2 hd h1
      refine v_iload_n2 h dX7_commonDivisor_2 ?_
      refine v_iconst h (v := nI 1) dX7_commonDivisor_3 (by decide) ?_
      refine v_icmp_leN h dX7_commonDivisor_4 (tgt := 27) (by decide) (by omega) (by omega) (fun c4 => ?_) (fun c4 => ?_)
      · refine v_iconst h (v := nI 1) dX7_commonDivisor_27 (by decide) ?_
        exact v_iret h hr dX7_commonDivisor_28 (by rw [h1]; rcases (show d = 0 ∨ d = 1 by omega) with rfl | rfl <;> rfl) rfl
      · obtain ⟨d9, rfl⟩ : ∃ d9, d = d9 + 1 := ⟨d - 1, by omega⟩
        refine v_iload_n0 h dX7_commonDivisor_7 ?_
        refine v_iload_n2 h dX7_commonDivisor_8 ?_
        refine v_iremN h dX7_commonDivisor_9 (by omega) (by omega) (by omega) ?_
        refine v_if_neN h dX7_commonDivisor_10 (tgt := 21) (by decide) (by exact Nat.lt_of_le_of_lt (Nat.mod_le _ _) ha) (fun c10 => ?_) (fun c10 => ?_)
        · have g9 : ¬ (a % (d9 + 1) = 0 ∧ b % (d9 + 1) = 0) := fun z => by rw [z.1] at c10; exact Nat.lt_irrefl _ c10
          refine v_idecN2 h (Nat.le_of_ble_eq_true rfl) dX7_commonDivisor_21 ?_
          refine v_goto h dX7_commonDivisor_24 (tgt := 2) (by decide) ?_
          exact vM.fg (ih2 _ (by omega) d9 rfl (by first | assumption | rfl | omega) (by rw [h1, cmd, if_neg (by omega), if_neg g9])) ⟨rfl, rfl, rfl, trivial⟩
        · refine v_iload_n1 h dX7_commonDivisor_13 ?_
          refine v_iload_n2 h dX7_commonDivisor_14 ?_
          refine v_iremN h dX7_commonDivisor_15 (by omega) (by omega) (by omega) ?_
          refine v_if_neN h dX7_commonDivisor_16 (tgt := 21) (by decide) (by exact Nat.lt_of_le_of_lt (Nat.mod_le _ _) hb) (fun c16 => ?_) (fun c16 => ?_)
          · have g9 : ¬ (a % (d9 + 1) = 0 ∧ b % (d9 + 1) = 0) := fun z => by rw [z.2] at c16; exact Nat.lt_irrefl _ c16
            refine v_idecN2 h (Nat.le_of_ble_eq_true rfl) dX7_commonDivisor_21 ?_
            refine v_goto h dX7_commonDivisor_24 (tgt := 2) (by decide) ?_
            exact vM.fg (ih2 _ (by omega) d9 rfl (by first | assumption | rfl | omega) (by rw [h1, cmd, if_neg (by omega), if_neg g9])) ⟨rfl, rfl, rfl, trivial⟩
          · refine v_iload_n2 h dX7_commonDivisor_19 ?_
            exact v_iret h hr dX7_commonDivisor_20 (by rw [h1, cmd, if_neg (by omega), if_pos ⟨c10, c16⟩]) rfl
  exact vM.fg (L2 _ b rfl (by first | assumption | rfl | omega) (by rfl)) ⟨rfl, rfl, rfl, trivial⟩
def P_X7_odds (g : vG) (b0 y0 s0 o0 r0 t0 t1 h0 h1 h2 e0 e1 e2 e3 : Nat) (tr : Int32) (fl : Nat) (n : Nat) (w : Nat → Nat) (hn : Nat) (kd : Nat → Nat) (pt : Nat → Nat) (ec : Nat) (el : Nat → Nat) (ea : Nat → Nat) (eo : Nat → Nat) (p0 : Int32) (p1 : Int32) : Option Value → va_W → Prop := fun r wo => ∃ ec' : Nat, ∃ el' : Nat → Nat, ∃ ea' : Nat → Nat, (∀ z, el' z < 2 ^ 8) ∧ (∀ z, ea' z < 2 ^ 8) ∧ r = some (.long (s_odds n w hn kd pt p0 p1)) ∧ wo = [(b0, .inr (6, [.ref t0, .ref h0, .ref y0, .ref s0, .ref e0, .ref o0, .ref r0, .int tr, .int (nI fl)])), (t0, .inr (5, [.int (nI n), .ref t1])), (t1, .inl (gI g, 8, .inl (fun z9 => nI (w z9)))), (h0, .inr (1, [.int (nI hn), .ref h1, .ref h2])), (h1, .inl (gI g, 6, .inl (fun z9 => nI (kd z9)))), (h2, .inl (gI g, 6, .inl (fun z9 => nI (pt z9)))), (e0, .inr (4, [.int (nI ec'), .ref e1, .ref e2, .ref e3])), (e1, .inl (gI g, 8, .inl (fun z9 => nI (el' z9)))), (e2, .inl (gI g, 8, .inl (fun z9 => nI (ea' z9)))), (e3, .inl (gI g, 256, .inl (fun z9 => nI (eo z9))))]
theorem P_X7_odds_mk {g : vG} {b0 y0 s0 o0 r0 t0 t1 h0 h1 h2 e0 e1 e2 e3 : Nat} {tr : Int32} {fl : Nat} {n : Nat} {w : Nat → Nat} {hn : Nat} {kd : Nat → Nat} {pt : Nat → Nat} {ec : Nat} {el : Nat → Nat} {ea : Nat → Nat} {eo : Nat → Nat} {p0 : Int32} {p1 : Int32} {ec' : Nat} {el' : Nat → Nat} {ea' : Nat → Nat} {q : Int64} (hs : s_odds n w hn kd pt p0 p1 = q) (hb0 : ∀ z, el' z < 2 ^ 8) (hb1 : ∀ z, ea' z < 2 ^ 8) : P_X7_odds g b0 y0 s0 o0 r0 t0 t1 h0 h1 h2 e0 e1 e2 e3 tr fl n w hn kd pt ec el ea eo p0 p1 (some (.long q)) [(b0, .inr (6, [.ref t0, .ref h0, .ref y0, .ref s0, .ref e0, .ref o0, .ref r0, .int tr, .int (nI fl)])), (t0, .inr (5, [.int (nI n), .ref t1])), (t1, .inl (gI g, 8, .inl (fun z9 => nI (w z9)))), (h0, .inr (1, [.int (nI hn), .ref h1, .ref h2])), (h1, .inl (gI g, 6, .inl (fun z9 => nI (kd z9)))), (h2, .inl (gI g, 6, .inl (fun z9 => nI (pt z9)))), (e0, .inr (4, [.int (nI ec'), .ref e1, .ref e2, .ref e3])), (e1, .inl (gI g, 8, .inl (fun z9 => nI (el' z9)))), (e2, .inl (gI g, 8, .inl (fun z9 => nI (ea' z9)))), (e3, .inl (gI g, 256, .inl (fun z9 => nI (eo z9))))] := by subst hs; exact ⟨_, _, _, hb0, hb1, rfl, rfl⟩
set_option maxRecDepth 20000 in
set_option maxHeartbeats 4000000 in
theorem c_X7_odds {g : vG} {b0 y0 s0 o0 r0 t0 t1 h0 h1 h2 e0 e1 e2 e3 : Nat} {tr : Int32} {fl : Nat} {n : Nat} {w : Nat → Nat} {hn : Nat} {kd : Nat → Nat} {pt : Nat → Nat} {ec : Nat} {el : Nat → Nat} {ea : Nat → Nat} {eo : Nat → Nat} {p0 : Int32} {p1 : Int32} (hT : wfT n w) (hH : wfH hn kd pt) (hn2 : hn = 0 ∨ 2 ≤ n) (hel : ∀ z, el z < 2 ^ 8) (hea : ∀ z, ea z < 2 ^ 8) : CtP g yX7_odds cX7_odds 6 (some .long) (rmOf 5 114) [(b0, .inr (6, [.ref t0, .ref h0, .ref y0, .ref s0, .ref e0, .ref o0, .ref r0, .int tr, .int (nI fl)])), (t0, .inr (5, [.int (nI n), .ref t1])), (t1, .inl (gI g, 8, .inl (fun z9 => nI (w z9)))), (h0, .inr (1, [.int (nI hn), .ref h1, .ref h2])), (h1, .inl (gI g, 6, .inl (fun z9 => nI (kd z9)))), (h2, .inl (gI g, 6, .inl (fun z9 => nI (pt z9)))), (e0, .inr (4, [.int (nI ec), .ref e1, .ref e2, .ref e3])), (e1, .inl (gI g, 8, .inl (fun z9 => nI (el z9)))), (e2, .inl (gI g, 8, .inl (fun z9 => nI (ea z9)))), (e3, .inl (gI g, 256, .inl (fun z9 => nI (eo z9))))] [.ref b0, .int p0, .int p1] (P_X7_odds g b0 y0 s0 o0 r0 t0 t1 h0 h1 h2 e0 e1 e2 e3 tr fl n w hn kd pt ec el ea eo p0 p1) := by
  refine CtP.ofV RX7 rfl (by decide +kernel) rfl rfl (Nat.le_of_ble_eq_true rfl) (List.forall_mem_cons.mpr ⟨rfl, (List.forall_mem_cons.mpr ⟨rfl, (List.forall_mem_cons.mpr ⟨rfl, (fun _ h9 => absurd h9 List.not_mem_nil)⟩)⟩)⟩) (fun x h hr => ?_)
  show vM x 0 [some (.ref b0), some (.int p0), some (.int p1), none, none, none] [] [(b0, .inr (6, [.ref t0, .ref h0, .ref y0, .ref s0, .ref e0, .ref o0, .ref r0, .int tr, .int (nI fl)])), (t0, .inr (5, [.int (nI n), .ref t1])), (t1, .inl (gI g, 8, .inl (fun z9 => nI (w z9)))), (h0, .inr (1, [.int (nI hn), .ref h1, .ref h2])), (h1, .inl (gI g, 6, .inl (fun z9 => nI (kd z9)))), (h2, .inl (gI g, 6, .inl (fun z9 => nI (pt z9)))), (e0, .inr (4, [.int (nI ec), .ref e1, .ref e2, .ref e3])), (e1, .inl (gI g, 8, .inl (fun z9 => nI (el z9)))), (e2, .inl (gI g, 8, .inl (fun z9 => nI (ea z9)))), (e3, .inl (gI g, 256, .inl (fun z9 => nI (eo z9))))]
  have ht1 := hT.1; have ht2 := hT.2.1; have ht3 := hT.2.2; have hh1 := hH.1; have hh2 := hH.2.1; have hh3 := hH.2.2.1; have hh4 := hH.2.2.2
  refine v_aload_n0 h dX7_odds_0 ?_
  refine v_get h mw_X7 0 rfl rfl 1 (by decide) mf_X7_21 rfl dX7_odds_1 ?_
  refine v_iload_n1 h dX7_odds_4 ?_
  refine cw_V_3_4_5_1_i (ci := 1) h (c_X1_has (g := g) (by first | assumption | omega)) lk_X7_111 ⟨rfl, rfl, (Nat.le_of_ble_eq_true rfl), (Nat.le_of_ble_eq_true rfl)⟩ rfl rfl rfl (Nat.le_of_ble_eq_true rfl) dX7_odds_5 ?_
  refine v_if_eqB h dX7_odds_8 (tgt := 18) (by decide) (fun c8 => ?_) (fun c8 => ?_)
  · have e8 := rN_f c8
    refine v_ldc2 h mk2_X7_223 dX7_odds_18 ?_
    exact v_lretP h hr dX7_odds_21 (P_X7_odds_mk (q := _) (by simp only [s_odds, e8]) (by first | assumption | exact lay8l (by assumption) (by assumption) | exact lay8a (by assumption) (by assumption)) (by first | assumption | exact lay8l (by assumption) (by assumption) | exact lay8a (by assumption) (by assumption))) rfl
  · obtain ⟨j0, hj0, rfl⟩ := inR_of c8 (by omega)
    have e8 := rN_N hj0 (by omega)
    refine v_iload_n2 h dX7_odds_11 ?_
    refine cw_S_e_1_i h (c_X7_isFirstOrSecond (g := g)) lk_X7_112 ⟨rfl, rfl, (Nat.le_of_ble_eq_true rfl), (Nat.le_of_ble_eq_true rfl)⟩ (Nat.le_of_ble_eq_true rfl) dX7_odds_12 ?_
    refine v_if_neB h dX7_odds_15 (tgt := 22) (by decide) (fun c15 => ?_) (fun c15 => ?_)
    · obtain ⟨j1, hj1a, hj1, rfl⟩ := wi_of c15 (by decide) (by decide)
      have e15 := rW_N hj1a hj1 (by decide)
      refine v_aload_n0 h dX7_odds_22 ?_
      refine v_get h mw_X7 0 rfl rfl 4 (by decide) mf_X7_42 rfl dX7_odds_23 ?_
      refine v_aload_n0 h dX7_odds_26 ?_
      refine v_get h mw_X7 0 rfl rfl 1 (by decide) mf_X7_21 rfl dX7_odds_27 ?_
      refine v_iload_n1 h dX7_odds_30 ?_
      refine v_aload_n0 h dX7_odds_31 ?_
      refine v_get h mw_X7 0 rfl rfl 0 (by decide) mf_X7_14 rfl dX7_odds_32 ?_
      refine cw_V_6_7_8_9_3_4_5_1_2_3_v (ci := 4) h (c_X4_lay (g := g) (by first | assumption | omega) (by first | assumption | omega) (by first | assumption | omega)) lk_X7_125 ⟨rfl, rfl, (Nat.le_of_ble_eq_true rfl), (Nat.le_of_ble_eq_true rfl)⟩ rfl rfl rfl (Nat.le_of_ble_eq_true rfl) dX7_odds_35 ?_
      refine v_aload_n0 h dX7_odds_38 ?_
      refine v_get h mw_X7 0 rfl rfl 4 (by decide) mf_X7_42 rfl dX7_odds_39 ?_
      refine cw_V_6_7_8_9_0_i (ci := 4) h (c_X4_countTold (g := g) (by first | assumption | omega) (by exact lay8l hel ht1)) lk_X7_225 ⟨rfl, rfl, (Nat.le_of_ble_eq_true rfl), (Nat.le_of_ble_eq_true rfl)⟩ rfl rfl rfl (Nat.le_of_ble_eq_true rfl) dX7_odds_42 ?_
      rw [toldN_lay]
      refine v_istore_n3 h (Nat.le_of_ble_eq_true rfl) dX7_odds_45 ?_
      refine v_aload_n0 h dX7_odds_46 ?_
      refine v_get h mw_X7 0 rfl rfl 0 (by decide) mf_X7_14 rfl dX7_odds_47 ?_
      refine cw_V_1_2_0_i (ci := 5) h (c_X6_count (g := g)) lk_X7_92 ⟨rfl, rfl, (Nat.le_of_ble_eq_true rfl), (Nat.le_of_ble_eq_true rfl)⟩ rfl rfl rfl (Nat.le_of_ble_eq_true rfl) dX7_odds_50 ?_
      refine v_aload_n0 h dX7_odds_53 ?_
      refine v_get h mw_X7 0 rfl rfl 0 (by decide) mf_X7_14 rfl dX7_odds_54 ?_
      refine cw_V_1_2_0_i (ci := 5) h (c_X6_count (g := g)) lk_X7_92 ⟨rfl, rfl, (Nat.le_of_ble_eq_true rfl), (Nat.le_of_ble_eq_true rfl)⟩ rfl rfl rfl (Nat.le_of_ble_eq_true rfl) dX7_odds_57 ?_
      refine v_iconst h (v := nI 1) dX7_odds_60 (by decide) ?_
      refine v_isubN h dX7_odds_61 (by omega) ?_
      refine v_imulN h dX7_odds_62 ?_
      refine v_iconst h (v := nI 2) dX7_odds_63 (by decide) ?_
      refine v_idivN h dX7_odds_64 (by exact Nat.lt_of_le_of_lt (Nat.mul_le_mul ht1 (show n - 1 ≤ 7 by omega)) (by decide)) (by decide) (by decide) ?_
      refine v_istore4 h (Nat.le_of_ble_eq_true rfl) dX7_odds_65 ?_
      have hn9 : n * (n - 1) ≤ 8 * 7 := Nat.mul_le_mul ht1 (by omega)
      have ht9 := toldN_le (el := (ligS (kd j0) (pt j0) w n)) (n := n)
      have hc9 := cmd_le (a := (toldN (ligS (kd j0) (pt j0) w n) n)) (b := (n * (n - 1) / 2)) (n * (n - 1) / 2)
      have hc8 := cmd_pos (a := (toldN (ligS (kd j0) (pt j0) w n) n)) (b := (n * (n - 1) / 2)) (n * (n - 1) / 2)
      refine v_iload_n3 h dX7_odds_67 ?_
      refine v_iload4 h dX7_odds_68 ?_
      refine cw_S_e_2_i h (c_X7_commonDivisor (g := g) (by omega) (by omega)) lk_X7_228 ⟨rfl, rfl, (Nat.le_of_ble_eq_true rfl), (Nat.le_of_ble_eq_true rfl)⟩ (Nat.le_of_ble_eq_true rfl) dX7_odds_70 ?_
      refine v_istore5 h (Nat.le_of_ble_eq_true rfl) dX7_odds_73 ?_
      refine v_iload5 h dX7_odds_75 ?_
      refine v_iconst h (v := nI 1) dX7_odds_77 (by decide) ?_
      refine v_icmp_geN h dX7_odds_78 (tgt := 85) (by decide) (by omega) (by omega) (fun c78 => ?_) (fun c78 => ?_)
      · refine v_iload_n2 h dX7_odds_85 ?_
        refine v_if_neN h dX7_odds_86 (tgt := 97) (by decide) (by omega) (fun c86 => ?_) (fun c86 => ?_)
        · refine v_iload4 h dX7_odds_97 ?_
          refine v_iload5 h dX7_odds_99 ?_
          refine v_idivN h dX7_odds_101 (by omega) (by omega) (by omega) ?_
          refine v_i2l h dX7_odds_102 ?_
          exact v_lretP h hr dX7_odds_103 (P_X7_odds_mk (q := _) (by simp only [s_odds, e8, e15, if_neg (show ¬ j1 = 0 by omega)]) (by first | assumption | exact lay8l (by assumption) (by assumption) | exact lay8a (by assumption) (by assumption)) (by first | assumption | exact lay8l (by assumption) (by assumption) | exact lay8a (by assumption) (by assumption))) rfl
        · refine v_iload_n3 h dX7_odds_89 ?_
          refine v_iload5 h dX7_odds_90 ?_
          refine v_idivN h dX7_odds_92 (by omega) (by omega) (by omega) ?_
          refine v_i2l h dX7_odds_93 ?_
          refine v_goto h dX7_odds_94 (tgt := 103) (by decide) ?_
          exact v_lretP h hr dX7_odds_103 (P_X7_odds_mk (q := _) (by simp only [s_odds, e8, e15, if_pos c86]) (by first | assumption | exact lay8l (by assumption) (by assumption) | exact lay8a (by assumption) (by assumption)) (by first | assumption | exact lay8l (by assumption) (by assumption) | exact lay8a (by assumption) (by assumption))) rfl
      · omega
    · have e15 := wi_no c15
      refine v_ldc2 h mk2_X7_223 dX7_odds_18 ?_
      exact v_lretP h hr dX7_odds_21 (P_X7_odds_mk (q := _) (by simp only [s_odds, e8, e15]) (by first | assumption | exact lay8l (by assumption) (by assumption) | exact lay8a (by assumption) (by assumption)) (by first | assumption | exact lay8l (by assumption) (by assumption) | exact lay8a (by assumption) (by assumption))) rfl
def P_X7_sheet (g : vG) (b0 t0 h0 y0 e0 o0 r0 s0 s1 s2 s3 s4 : Nat) (rr : Nat → Nat) (tr : Int32) (fl : Nat) (fil : Nat → Bool) (srt : Nat → Nat) (len : Nat → Nat) (cc : Nat → Nat → Int32) (p0 : Int32) (p1 : Int32) (p2 : Int32) : Option Value → va_W → Prop := fun r wo => r = some (.int (s_sheet fil srt len cc p0 p1 p2).1) ∧ wo = [(b0, .inr (6, [.ref t0, .ref h0, .ref y0, .ref s0, .ref e0, .ref o0, .ref r0, .int tr, .int (nI ((s_sheet fil srt len cc p0 p1 p2).2.1))])), (s0, .inr (3, [.ref s1, .ref s2, .ref s3, .ref s4])), (s1, .inl (gZ g, 4, .inl (fun z9 => nI (bN (((s_sheet fil srt len cc p0 p1 p2).2.2.1) z9))))), (s2, .inl (gI g, 4, .inl (fun z9 => nI (((s_sheet fil srt len cc p0 p1 p2).2.2.2.1) z9)))), (s3, .inl (gI g, 4, .inl (fun z9 => nI (((s_sheet fil srt len cc p0 p1 p2).2.2.2.2.1) z9)))), (s4, .inl (gA g, 4, .inr (.inr (.inr (.inr (fun i => if i < 4 then some (rr i) else none)))))), (rr 0, .inl (gI g, 40, .inl (((s_sheet fil srt len cc p0 p1 p2).2.2.2.2.2) 0))), (rr 1, .inl (gI g, 40, .inl (((s_sheet fil srt len cc p0 p1 p2).2.2.2.2.2) 1))), (rr 2, .inl (gI g, 40, .inl (((s_sheet fil srt len cc p0 p1 p2).2.2.2.2.2) 2))), (rr 3, .inl (gI g, 40, .inl (((s_sheet fil srt len cc p0 p1 p2).2.2.2.2.2) 3)))]
theorem P_X7_sheet_mk {g : vG} {b0 t0 h0 y0 e0 o0 r0 s0 s1 s2 s3 s4 : Nat} {rr : Nat → Nat} {tr : Int32} {fl : Nat} {fil : Nat → Bool} {srt : Nat → Nat} {len : Nat → Nat} {cc : Nat → Nat → Int32} {p0 : Int32} {p1 : Int32} {p2 : Int32}  {q : Int32 × (Nat) × (Nat → Bool) × (Nat → Nat) × (Nat → Nat) × (Nat → Nat → Int32)} (hs : s_sheet fil srt len cc p0 p1 p2 = q)  : P_X7_sheet g b0 t0 h0 y0 e0 o0 r0 s0 s1 s2 s3 s4 rr tr fl fil srt len cc p0 p1 p2 (some (.int q.1)) [(b0, .inr (6, [.ref t0, .ref h0, .ref y0, .ref s0, .ref e0, .ref o0, .ref r0, .int tr, .int (nI q.2.1)])), (s0, .inr (3, [.ref s1, .ref s2, .ref s3, .ref s4])), (s1, .inl (gZ g, 4, .inl (fun z9 => nI (bN (q.2.2.1 z9))))), (s2, .inl (gI g, 4, .inl (fun z9 => nI (q.2.2.2.1 z9)))), (s3, .inl (gI g, 4, .inl (fun z9 => nI (q.2.2.2.2.1 z9)))), (s4, .inl (gA g, 4, .inr (.inr (.inr (.inr (fun i => if i < 4 then some (rr i) else none)))))), (rr 0, .inl (gI g, 40, .inl (q.2.2.2.2.2 0))), (rr 1, .inl (gI g, 40, .inl (q.2.2.2.2.2 1))), (rr 2, .inl (gI g, 40, .inl (q.2.2.2.2.2 2))), (rr 3, .inl (gI g, 40, .inl (q.2.2.2.2.2 3)))] := by subst hs; exact ⟨rfl, rfl⟩
set_option maxRecDepth 20000 in
set_option maxHeartbeats 4000000 in
theorem c_X7_sheet {g : vG} {b0 t0 h0 y0 e0 o0 r0 s0 s1 s2 s3 s4 : Nat} {rr : Nat → Nat} {tr : Int32} {fl : Nat} {fil : Nat → Bool} {srt : Nat → Nat} {len : Nat → Nat} {cc : Nat → Nat → Int32} {p0 : Int32} {p1 : Int32} {p2 : Int32} (hsr : ∀ k, srt k ≤ 2) (hln : ∀ k, len k ≤ 40) : CtP g yX7_sheet cX7_sheet 4 (some .int) (rmOf 2 45) [(b0, .inr (6, [.ref t0, .ref h0, .ref y0, .ref s0, .ref e0, .ref o0, .ref r0, .int tr, .int (nI fl)])), (s0, .inr (3, [.ref s1, .ref s2, .ref s3, .ref s4])), (s1, .inl (gZ g, 4, .inl (fun z9 => nI (bN (fil z9))))), (s2, .inl (gI g, 4, .inl (fun z9 => nI (srt z9)))), (s3, .inl (gI g, 4, .inl (fun z9 => nI (len z9)))), (s4, .inl (gA g, 4, .inr (.inr (.inr (.inr (fun i => if i < 4 then some (rr i) else none)))))), (rr 0, .inl (gI g, 40, .inl (cc 0))), (rr 1, .inl (gI g, 40, .inl (cc 1))), (rr 2, .inl (gI g, 40, .inl (cc 2))), (rr 3, .inl (gI g, 40, .inl (cc 3)))] [.ref b0, .int p0, .int p1, .int p2] (P_X7_sheet g b0 t0 h0 y0 e0 o0 r0 s0 s1 s2 s3 s4 rr tr fl fil srt len cc p0 p1 p2) := by
  refine CtP.ofV RX7 rfl (by decide +kernel) rfl rfl (Nat.le_of_ble_eq_true rfl) (List.forall_mem_cons.mpr ⟨rfl, (List.forall_mem_cons.mpr ⟨rfl, (List.forall_mem_cons.mpr ⟨rfl, (List.forall_mem_cons.mpr ⟨rfl, (fun _ h9 => absurd h9 List.not_mem_nil)⟩)⟩)⟩)⟩) (fun x h hr => ?_)
  show vM x 0 [some (.ref b0), some (.int p0), some (.int p1), some (.int p2)] [] [(b0, .inr (6, [.ref t0, .ref h0, .ref y0, .ref s0, .ref e0, .ref o0, .ref r0, .int tr, .int (nI fl)])), (s0, .inr (3, [.ref s1, .ref s2, .ref s3, .ref s4])), (s1, .inl (gZ g, 4, .inl (fun z9 => nI (bN (fil z9))))), (s2, .inl (gI g, 4, .inl (fun z9 => nI (srt z9)))), (s3, .inl (gI g, 4, .inl (fun z9 => nI (len z9)))), (s4, .inl (gA g, 4, .inr (.inr (.inr (.inr (fun i => if i < 4 then some (rr i) else none)))))), (rr 0, .inl (gI g, 40, .inl (cc 0))), (rr 1, .inl (gI g, 40, .inl (cc 1))), (rr 2, .inl (gI g, 40, .inl (cc 2))), (rr 3, .inl (gI g, 40, .inl (cc 3)))]
  refine v_aload_n0 h dX7_sheet_0 ?_
  refine v_iconst h (v := nI 0) dX7_sheet_1 (by decide) ?_
  refine pf_X7_60_at0 h dX7_sheet_2 ?_
  refine v_aload_n0 h dX7_sheet_5 ?_
  refine v_get h mw_X7 0 rfl rfl 3 (by decide) mf_X7_35 rfl dX7_sheet_6 ?_
  refine v_iload_n1 h dX7_sheet_9 ?_
  refine cw_V_1_2_3_4_5_6_7_8_9_1_i (ci := 3) h (c_X3_has (g := g)) lk_X7_63 ⟨rfl, rfl, (Nat.le_of_ble_eq_true rfl), (Nat.le_of_ble_eq_true rfl)⟩ rfl rfl rfl (Nat.le_of_ble_eq_true rfl) dX7_sheet_10 ?_
  refine v_if_neB h dX7_sheet_13 (tgt := 18) (by decide) (fun c13 => ?_) (fun c13 => ?_)
  · obtain ⟨j0, hj0, rfl⟩ := inR_of c13 (by omega)
    have e13 := rN_N hj0 (by omega)
    refine v_iload_n2 h dX7_sheet_18 ?_
    refine cw_S_e_1_i h (c_X7_isSort (g := g)) lk_X7_67 ⟨rfl, rfl, (Nat.le_of_ble_eq_true rfl), (Nat.le_of_ble_eq_true rfl)⟩ (Nat.le_of_ble_eq_true rfl) dX7_sheet_19 ?_
    refine v_if_eqB h dX7_sheet_22 (tgt := 31) (by decide) (fun c22 => ?_) (fun c22 => ?_)
    · have e22 := wi_no c22
      refine v_bipush h (v := -2) dX7_sheet_31 (by decide) ?_
      exact v_iretP h hr dX7_sheet_33 (P_X7_sheet_mk (q := (-2, 0, fil, srt, len, cc)) (by simp only [s_sheet, e13, e22]) ) rfl
    · obtain ⟨j1, hj1a, hj1, rfl⟩ := wi_of c22 (by decide) (by decide)
      have e22 := rW_N hj1a hj1 (by decide)
      refine v_iload_n3 h dX7_sheet_25 ?_
      refine v_bipush h (v := nI 40) dX7_sheet_26 (by decide) ?_
      refine v_icmp_le h dX7_sheet_28 (tgt := 34) (by decide) (fun c28 => ?_) (fun c28 => ?_)
      · refine v_iload_n3 h dX7_sheet_34 ?_
        refine v_if_ge h dX7_sheet_35 (tgt := 44) (by decide) (fun c35 => ?_) (fun c35 => ?_)
        · obtain ⟨j2, -, hj2, rfl⟩ := rW_of (a := 0) (b := 40) c35 c28 (by decide) (by decide)
          refine v_aload_n0 h dX7_sheet_44 ?_
          refine v_get h mw_X7 0 rfl rfl 3 (by decide) mf_X7_35 rfl dX7_sheet_45 ?_
          refine v_iload_n1 h dX7_sheet_48 ?_
          refine v_iload_n2 h dX7_sheet_49 ?_
          refine v_iload_n3 h dX7_sheet_50 ?_
          refine cw_V_1_2_3_4_5_6_7_8_9_3_v (ci := 3) h (c_X3_renew (g := g) (by first | assumption | omega) (by first | assumption | omega)) lk_X7_231 ⟨rfl, rfl, (Nat.le_of_ble_eq_true rfl), (Nat.le_of_ble_eq_true rfl)⟩ rfl rfl rfl (Nat.le_of_ble_eq_true rfl) dX7_sheet_51 ?_
          refine v_iconst h (v := nI 1) dX7_sheet_54 (by decide) ?_
          exact v_iretP h hr dX7_sheet_55 (P_X7_sheet_mk (q := (nI 1, 0, upB fil j0 true, up srt j0 j1, up len j0 j2, rnw cc j0 j2)) (by simp only [s_sheet, e13, e22, if_neg (Int32.not_lt.mpr c28), if_neg (nI_pos (show j2 < 2 ^ 31 by omega)), tn_N (show j2 < 2 ^ 31 by omega)]) ) rfl
        · refine v_aload_n0 h dX7_sheet_38 ?_
          refine v_iconst h (v := nI 4) dX7_sheet_39 (by decide) ?_
          refine cw_V_0_1_i (ci := 6) h (c_X7_faulty (g := g)) lk_X7_74 ⟨rfl, rfl, (Nat.le_of_ble_eq_true rfl), (Nat.le_of_ble_eq_true rfl)⟩ rfl rfl rfl (Nat.le_of_ble_eq_true rfl) dX7_sheet_40 ?_
          exact v_iretP h hr dX7_sheet_43 (P_X7_sheet_mk (q := (-10 - nI 4, 4, fil, srt, len, cc)) (by simp only [s_sheet, e13, e22, if_neg (Int32.not_lt.mpr c28), if_pos (Int32.not_le.mp c35)]) ) rfl
      · refine v_bipush h (v := -2) dX7_sheet_31 (by decide) ?_
        exact v_iretP h hr dX7_sheet_33 (P_X7_sheet_mk (q := (-2, 0, fil, srt, len, cc)) (by simp only [s_sheet, e13, e22, if_pos (Int32.not_le.mp c28)]) ) rfl
  · have e13 := rN_f c13
    refine v_iconst h (v := -1) dX7_sheet_16 (by decide) ?_
    exact v_iretP h hr dX7_sheet_17 (P_X7_sheet_mk (q := (-1, 0, fil, srt, len, cc)) (by simp only [s_sheet, e13]) ) rfl
def P_X7_put (g : vG) (b0 t0 h0 y0 e0 o0 r0 s0 s1 s2 s3 s4 : Nat) (rr : Nat → Nat) (tr : Int32) (fl : Nat) (fil : Nat → Bool) (srt : Nat → Nat) (len : Nat → Nat) (cc : Nat → Nat → Int32) (p0 : Int32) (p1 : Int32) (p2 : Int32) : Option Value → va_W → Prop := fun r wo => r = some (.int (s_put fil srt len cc p0 p1 p2).1) ∧ wo = [(b0, .inr (6, [.ref t0, .ref h0, .ref y0, .ref s0, .ref e0, .ref o0, .ref r0, .int tr, .int (nI ((s_put fil srt len cc p0 p1 p2).2.1))])), (s0, .inr (3, [.ref s1, .ref s2, .ref s3, .ref s4])), (s1, .inl (gZ g, 4, .inl (fun z9 => nI (bN (fil z9))))), (s2, .inl (gI g, 4, .inl (fun z9 => nI (srt z9)))), (s3, .inl (gI g, 4, .inl (fun z9 => nI (len z9)))), (s4, .inl (gA g, 4, .inr (.inr (.inr (.inr (fun i => if i < 4 then some (rr i) else none)))))), (rr 0, .inl (gI g, 40, .inl (((s_put fil srt len cc p0 p1 p2).2.2) 0))), (rr 1, .inl (gI g, 40, .inl (((s_put fil srt len cc p0 p1 p2).2.2) 1))), (rr 2, .inl (gI g, 40, .inl (((s_put fil srt len cc p0 p1 p2).2.2) 2))), (rr 3, .inl (gI g, 40, .inl (((s_put fil srt len cc p0 p1 p2).2.2) 3)))]
theorem P_X7_put_mk {g : vG} {b0 t0 h0 y0 e0 o0 r0 s0 s1 s2 s3 s4 : Nat} {rr : Nat → Nat} {tr : Int32} {fl : Nat} {fil : Nat → Bool} {srt : Nat → Nat} {len : Nat → Nat} {cc : Nat → Nat → Int32} {p0 : Int32} {p1 : Int32} {p2 : Int32}  {q : Int32 × (Nat) × (Nat → Nat → Int32)} (hs : s_put fil srt len cc p0 p1 p2 = q)  : P_X7_put g b0 t0 h0 y0 e0 o0 r0 s0 s1 s2 s3 s4 rr tr fl fil srt len cc p0 p1 p2 (some (.int q.1)) [(b0, .inr (6, [.ref t0, .ref h0, .ref y0, .ref s0, .ref e0, .ref o0, .ref r0, .int tr, .int (nI q.2.1)])), (s0, .inr (3, [.ref s1, .ref s2, .ref s3, .ref s4])), (s1, .inl (gZ g, 4, .inl (fun z9 => nI (bN (fil z9))))), (s2, .inl (gI g, 4, .inl (fun z9 => nI (srt z9)))), (s3, .inl (gI g, 4, .inl (fun z9 => nI (len z9)))), (s4, .inl (gA g, 4, .inr (.inr (.inr (.inr (fun i => if i < 4 then some (rr i) else none)))))), (rr 0, .inl (gI g, 40, .inl (q.2.2 0))), (rr 1, .inl (gI g, 40, .inl (q.2.2 1))), (rr 2, .inl (gI g, 40, .inl (q.2.2 2))), (rr 3, .inl (gI g, 40, .inl (q.2.2 3)))] := by subst hs; exact ⟨rfl, rfl⟩
set_option maxRecDepth 20000 in
set_option maxHeartbeats 4000000 in
theorem c_X7_put {g : vG} {b0 t0 h0 y0 e0 o0 r0 s0 s1 s2 s3 s4 : Nat} {rr : Nat → Nat} {tr : Int32} {fl : Nat} {fil : Nat → Bool} {srt : Nat → Nat} {len : Nat → Nat} {cc : Nat → Nat → Int32} {p0 : Int32} {p1 : Int32} {p2 : Int32} (hsr : ∀ k, srt k ≤ 2) (hln : ∀ k, len k ≤ 40) : CtP g yX7_put cX7_put 4 (some .int) (rmOf 3 67) [(b0, .inr (6, [.ref t0, .ref h0, .ref y0, .ref s0, .ref e0, .ref o0, .ref r0, .int tr, .int (nI fl)])), (s0, .inr (3, [.ref s1, .ref s2, .ref s3, .ref s4])), (s1, .inl (gZ g, 4, .inl (fun z9 => nI (bN (fil z9))))), (s2, .inl (gI g, 4, .inl (fun z9 => nI (srt z9)))), (s3, .inl (gI g, 4, .inl (fun z9 => nI (len z9)))), (s4, .inl (gA g, 4, .inr (.inr (.inr (.inr (fun i => if i < 4 then some (rr i) else none)))))), (rr 0, .inl (gI g, 40, .inl (cc 0))), (rr 1, .inl (gI g, 40, .inl (cc 1))), (rr 2, .inl (gI g, 40, .inl (cc 2))), (rr 3, .inl (gI g, 40, .inl (cc 3)))] [.ref b0, .int p0, .int p1, .int p2] (P_X7_put g b0 t0 h0 y0 e0 o0 r0 s0 s1 s2 s3 s4 rr tr fl fil srt len cc p0 p1 p2) := by
  refine CtP.ofV RX7 rfl (by decide +kernel) rfl rfl (Nat.le_of_ble_eq_true rfl) (List.forall_mem_cons.mpr ⟨rfl, (List.forall_mem_cons.mpr ⟨rfl, (List.forall_mem_cons.mpr ⟨rfl, (List.forall_mem_cons.mpr ⟨rfl, (fun _ h9 => absurd h9 List.not_mem_nil)⟩)⟩)⟩)⟩) (fun x h hr => ?_)
  show vM x 0 [some (.ref b0), some (.int p0), some (.int p1), some (.int p2)] [] [(b0, .inr (6, [.ref t0, .ref h0, .ref y0, .ref s0, .ref e0, .ref o0, .ref r0, .int tr, .int (nI fl)])), (s0, .inr (3, [.ref s1, .ref s2, .ref s3, .ref s4])), (s1, .inl (gZ g, 4, .inl (fun z9 => nI (bN (fil z9))))), (s2, .inl (gI g, 4, .inl (fun z9 => nI (srt z9)))), (s3, .inl (gI g, 4, .inl (fun z9 => nI (len z9)))), (s4, .inl (gA g, 4, .inr (.inr (.inr (.inr (fun i => if i < 4 then some (rr i) else none)))))), (rr 0, .inl (gI g, 40, .inl (cc 0))), (rr 1, .inl (gI g, 40, .inl (cc 1))), (rr 2, .inl (gI g, 40, .inl (cc 2))), (rr 3, .inl (gI g, 40, .inl (cc 3)))]
  refine v_aload_n0 h dX7_put_0 ?_
  refine v_iconst h (v := nI 0) dX7_put_1 (by decide) ?_
  refine pf_X7_60_at0 h dX7_put_2 ?_
  refine v_aload_n0 h dX7_put_5 ?_
  refine v_get h mw_X7 0 rfl rfl 3 (by decide) mf_X7_35 rfl dX7_put_6 ?_
  refine v_iload_n1 h dX7_put_9 ?_
  refine cw_V_1_2_3_4_5_6_7_8_9_1_i (ci := 3) h (c_X3_has (g := g)) lk_X7_63 ⟨rfl, rfl, (Nat.le_of_ble_eq_true rfl), (Nat.le_of_ble_eq_true rfl)⟩ rfl rfl rfl (Nat.le_of_ble_eq_true rfl) dX7_put_10 ?_
  refine v_if_neB h dX7_put_13 (tgt := 18) (by decide) (fun c13 => ?_) (fun c13 => ?_)
  · obtain ⟨j0, hj0, rfl⟩ := inR_of c13 (by omega)
    have e13 := rN_N hj0 (by omega)
    refine v_aload_n0 h dX7_put_18 ?_
    refine v_get h mw_X7 0 rfl rfl 3 (by decide) mf_X7_35 rfl dX7_put_19 ?_
    refine v_iload_n1 h dX7_put_22 ?_
    refine cw_V_1_2_3_4_5_6_7_8_9_1_i (ci := 3) h (c_X3_hasRow (g := g) (by first | assumption | omega)) lk_X7_238 ⟨rfl, rfl, (Nat.le_of_ble_eq_true rfl), (Nat.le_of_ble_eq_true rfl)⟩ rfl rfl rfl (Nat.le_of_ble_eq_true rfl) dX7_put_23 ?_
    refine v_if_neB h dX7_put_26 (tgt := 35) (by decide) (fun c26 => ?_) (fun c26 => ?_)
    · refine v_aload_n0 h dX7_put_35 ?_
      refine v_get h mw_X7 0 rfl rfl 3 (by decide) mf_X7_35 rfl dX7_put_36 ?_
      refine v_iload_n1 h dX7_put_39 ?_
      refine v_iload_n2 h dX7_put_40 ?_
      refine v_iconst h (v := nI 1) dX7_put_41 (by decide) ?_
      refine cw_V_1_2_3_4_5_6_7_8_9_3_i (ci := 3) h (c_X3_hasCells (g := g) (by first | assumption | omega)) lk_X7_241 ⟨rfl, rfl, (Nat.le_of_ble_eq_true rfl), (Nat.le_of_ble_eq_true rfl)⟩ rfl rfl rfl (Nat.le_of_ble_eq_true rfl) dX7_put_42 ?_
      refine v_if_neB h dX7_put_45 (tgt := 54) (by decide) (fun c45 => ?_) (fun c45 => ?_)
      · rw [c26] at c45
        obtain ⟨j1, hj1, rfl⟩ := hcB_1 (hln j0) c45
        have hl9 := hln j0
        have e45 := rN_N hj1 (by omega)
        refine v_aload_n0 h dX7_put_54 ?_
        refine v_get h mw_X7 0 rfl rfl 3 (by decide) mf_X7_35 rfl dX7_put_55 ?_
        refine v_iload_n1 h dX7_put_58 ?_
        refine v_iload_n2 h dX7_put_59 ?_
        refine v_iload_n3 h dX7_put_60 ?_
        refine cw_V_1_2_3_4_5_6_7_8_9_3_v (ci := 3) h (c_X3_setCell (g := g) (by first | assumption | omega) (by first | assumption | omega) (by exact hln j0) (by first | assumption | omega) (by exact hsr j0)) lk_X7_244 ⟨rfl, rfl, (Nat.le_of_ble_eq_true rfl), (Nat.le_of_ble_eq_true rfl)⟩ rfl rfl rfl (Nat.le_of_ble_eq_true rfl) dX7_put_61 ?_
        refine v_iconst h (v := nI 1) dX7_put_64 (by decide) ?_
        exact v_iretP h hr dX7_put_65 (P_X7_put_mk (q := (nI 1, 0, upr cc j0 (upd (cc j0) j1 (cutV (srt j0) p2)))) (by simp only [s_put, e13, if_neg (show ¬ fil j0 = false by rw [c26]; decide), e45]) ) rfl
      · rw [c26] at c45
        have e45 := hcB_0 (hln j0) c45
        refine v_aload_n0 h dX7_put_48 ?_
        refine v_iconst h (v := nI 3) dX7_put_49 (by decide) ?_
        refine cw_V_0_1_i (ci := 6) h (c_X7_faulty (g := g)) lk_X7_74 ⟨rfl, rfl, (Nat.le_of_ble_eq_true rfl), (Nat.le_of_ble_eq_true rfl)⟩ rfl rfl rfl (Nat.le_of_ble_eq_true rfl) dX7_put_50 ?_
        exact v_iretP h hr dX7_put_53 (P_X7_put_mk (q := (-10 - nI 3, 3, cc)) (by simp only [s_put, e13, if_neg (show ¬ fil j0 = false by rw [c26]; decide), e45]) ) rfl
    · refine v_aload_n0 h dX7_put_29 ?_
      refine v_iconst h (v := nI 1) dX7_put_30 (by decide) ?_
      refine cw_V_0_1_i (ci := 6) h (c_X7_faulty (g := g)) lk_X7_74 ⟨rfl, rfl, (Nat.le_of_ble_eq_true rfl), (Nat.le_of_ble_eq_true rfl)⟩ rfl rfl rfl (Nat.le_of_ble_eq_true rfl) dX7_put_31 ?_
      exact v_iretP h hr dX7_put_34 (P_X7_put_mk (q := (-10 - nI 1, 1, cc)) (by simp only [s_put, e13, if_pos c26]) ) rfl
  · have e13 := rN_f c13
    refine v_iconst h (v := -1) dX7_put_16 (by decide) ?_
    exact v_iretP h hr dX7_put_17 (P_X7_put_mk (q := (-1, 0, cc)) (by simp only [s_put, e13]) ) rfl
