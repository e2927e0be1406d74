theorem cw_S_0_1_2_3_4_5_6_7_8_3_i {x : vX} {g : vG} {cc : ByteArray} {own : String} {rm : Room} {nL pc : Nat} {lv : List (Option Value)} {st : List Value} {wt : va_W} {c0 c1 c2 c3 c4 c5 c6 c7 c8 d0 d1 d2 d3 d4 d5 d6 d7 d8 : Nat × va_E} {idx : Nat} {y : MethodName} {bytes : ByteArray} {ml : Nat} {ret : Option FieldType} {rmc : Room} {r : Int32} {p0 p1 p2 : Value} (h : Ok x g cc own rm nL) (hc : Ct g y bytes ml ret rmc [c0, c1, c2, c3, c4, c5, c6, c7, c8] [p0, p1, p2] (some (.int r)) [d0, d1, d2, d3, d4, d5, d6, d7, d8]) (lk : LkS own idx y bytes ml ret 3) (hrm : RmOk rmc rm ml) (hW : (st.map fun v => v.category).sum ≤ 8) (hd : decode cc pc = .ok (.invokestatic idx, 3)) (k : vM x (pc + 3) lv (.int r :: st) (d0 :: d1 :: d2 :: d3 :: d4 :: d5 :: d6 :: d7 :: d8 :: wt)) : vM x pc lv (p2 :: p1 :: p0 :: st) (c0 :: c1 :: c2 :: c3 :: c4 :: c5 :: c6 :: c7 :: c8 :: wt) := v_callS (As := [p0, p1, p2]) (rest := st) h hc lk hrm rfl [0, 1, 2, 3, 4, 5, 6, 7, 8] rfl (by decide) hW hd rfl k
theorem lk_X5_21 : LkS RX5 21 yX5_number cX5_number 5 (some .int) 3 := ⟨ml_X5_21, ms_X5_number, mi_X5, mc_X5_number, ⟨by decide, by decide, by decide +kernel⟩⟩
theorem cw_S_0_1_2_3_4_5_6_7_8_4_i {x : vX} {g : vG} {cc : ByteArray} {own : String} {rm : Room} {nL pc : Nat} {lv : List (Option Value)} {st : List Value} {wt : va_W} {c0 c1 c2 c3 c4 c5 c6 c7 c8 d0 d1 d2 d3 d4 d5 d6 d7 d8 : Nat × va_E} {idx : Nat} {y : MethodName} {bytes : ByteArray} {ml : Nat} {ret : Option FieldType} {rmc : Room} {r : Int32} {p0 p1 p2 p3 : Value} (h : Ok x g cc own rm nL) (hc : Ct g y bytes ml ret rmc [c0, c1, c2, c3, c4, c5, c6, c7, c8] [p0, p1, p2, p3] (some (.int r)) [d0, d1, d2, d3, d4, d5, d6, d7, d8]) (lk : LkS own idx y bytes ml ret 4) (hrm : RmOk rmc rm ml) (hW : (st.map fun v => v.category).sum ≤ 8) (hd : decode cc pc = .ok (.invokestatic idx, 3)) (k : vM x (pc + 3) lv (.int r :: st) (d0 :: d1 :: d2 :: d3 :: d4 :: d5 :: d6 :: d7 :: d8 :: wt)) : vM x pc lv (p3 :: p2 :: p1 :: p0 :: st) (c0 :: c1 :: c2 :: c3 :: c4 :: c5 :: c6 :: c7 :: c8 :: wt) := v_callS (As := [p0, p1, p2, p3]) (rest := st) h hc lk hrm rfl [0, 1, 2, 3, 4, 5, 6, 7, 8] rfl (by decide) hW hd rfl k
theorem lk_X5_9 : LkS RX5 9 yX5_goesOn cX5_goesOn 6 (some .boolean) 4 := ⟨ml_X5_9, ms_X5_goesOn, mi_X5, mc_X5_goesOn, ⟨by decide, by decide, by decide +kernel⟩⟩
theorem cw_V_9_10_0_v {x : vX} {g : vG} {cc : ByteArray} {own : String} {rm : Room} {nL pc : Nat} {lv : List (Option Value)} {st : List Value} {w0 w1 w2 w3 w4 w5 w6 w7 w8 : Nat × va_E} {wt : va_W} {c0 c1 d0 d1 : Nat × va_E} {idx : Nat} {y : MethodName} {bytes : ByteArray} {ml : Nat} {ret : Option FieldType} {rmc : Room} {a ci : Nat} {q : vw_C} {fs : List Value} (h : Ok x g cc own rm nL) (hc : Ct g y bytes ml ret rmc [c0, c1] [.ref a] none [d0, d1]) (lk : LkV own idx y bytes ml ret 0) (hrm : RmOk rmc rm ml) (hcl : vwCl[ci]? = some q) (hq : y.cls = q.1) (h0 : c0 = (a, .inr (ci, fs))) (hW : (st.map fun v => v.category).sum ≤ 8) (hd : decode cc pc = .ok (.invokevirtual idx, 3)) (k : vM x (pc + 3) lv (st) (w0 :: w1 :: w2 :: w3 :: w4 :: w5 :: w6 :: w7 :: w8 :: d0 :: d1 :: wt)) : vM x pc lv (.ref a :: st) (w0 :: w1 :: w2 :: w3 :: w4 :: w5 :: w6 :: w7 :: w8 :: c0 :: c1 :: wt) := v_callV (As := []) (rest := st) h hc lk hrm hcl hq (by rw [h0]; rfl) rfl [9, 10] rfl (by decide) hW hd rfl k
theorem lk_X5_25 : LkV RX5 25 yX6_clear cX6_clear 1 none 0 := ⟨ml_X5_25, mn_X6_clear, mv_X6_clear, mi_X6, mc_X6_clear, ⟨by decide, by decide, by decide +kernel⟩⟩
theorem cw_V_9_10_1_v {x : vX} {g : vG} {cc : ByteArray} {own : String} {rm : Room} {nL pc : Nat} {lv : List (Option Value)} {st : List Value} {w0 w1 w2 w3 w4 w5 w6 w7 w8 : Nat × va_E} {wt : va_W} {c0 c1 d0 d1 : Nat × va_E} {idx : Nat} {y : MethodName} {bytes : ByteArray} {ml : Nat} {ret : Option FieldType} {rmc : Room} {p0 : Value} {a ci : Nat} {q : vw_C} {fs : List Value} (h : Ok x g cc own rm nL) (hc : Ct g y bytes ml ret rmc [c0, c1] [.ref a, p0] none [d0, d1]) (lk : LkV own idx y bytes ml ret 1) (hrm : RmOk rmc rm ml) (hcl : vwCl[ci]? = some q) (hq : y.cls = q.1) (h0 : c0 = (a, .inr (ci, fs))) (hW : (st.map fun v => v.category).sum ≤ 8) (hd : decode cc pc = .ok (.invokevirtual idx, 3)) (k : vM x (pc + 3) lv (st) (w0 :: w1 :: w2 :: w3 :: w4 :: w5 :: w6 :: w7 :: w8 :: d0 :: d1 :: wt)) : vM x pc lv (p0 :: .ref a :: st) (w0 :: w1 :: w2 :: w3 :: w4 :: w5 :: w6 :: w7 :: w8 :: c0 :: c1 :: wt) := v_callV (As := [p0]) (rest := st) h hc lk hrm hcl hq (by rw [h0]; rfl) rfl [9, 10] rfl (by decide) hW hd rfl k
theorem lk_X5_30 : LkV RX5 30 yX6_add cX6_add 2 none 1 := ⟨ml_X5_30, mn_X6_add, mv_X6_add, mi_X6, mc_X6_add, ⟨by decide, by decide, by decide +kernel⟩⟩
set_option maxRecDepth 20000 in
set_option maxHeartbeats 2000000 in
theorem c_X5_goesOn {g : vG} {s0 s1 s2 s3 s4 : Nat} {rr : Nat → Nat} {fil : Nat → Bool} {srt : Nat → Nat} {len : Nat → Nat} {cc : Nat → Nat → Int32} {k : Nat} {i : Nat} {p : Nat} (hk : k < 4) (hfk : fil k = true) (hlk : len k ≤ 40) (hi : i + p < len k) (hpv : ∀ z, z < p → goB (fun z => cc k (i + z)) z = true) : Ct g yX5_goesOn cX5_goesOn 6 (some .boolean) (rmOf 4 90) [(s0, .inr (3, [.ref s1, .ref s2, .ref s3, .ref s4])), (s1, .inl (gZ g, 4, .inl (fun z9 => nI (bN (fil z9))))), (s2, .inl (gI g, 4, .inl (fun z9 => nI (srt z9)))), (s3, .inl (gI g, 4, .inl (fun z9 => nI (len z9)))), (s4, .inl (gA g, 4, .inr (.inr (.inr (.inr (fun i => if i < 4 then some (rr i) else none)))))), (rr 0, .inl (gI g, 40, .inl (cc 0))), (rr 1, .inl (gI g, 40, .inl (cc 1))), (rr 2, .inl (gI g, 40, .inl (cc 2))), (rr 3, .inl (gI g, 40, .inl (cc 3)))] [.ref s0, .int (nI k), .int (nI i), .int (nI p)] (some (.int (nI (bN (goB (fun z => cc k (i + z)) p))))) [(s0, .inr (3, [.ref s1, .ref s2, .ref s3, .ref s4])), (s1, .inl (gZ g, 4, .inl (fun z9 => nI (bN (fil z9))))), (s2, .inl (gI g, 4, .inl (fun z9 => nI (srt z9)))), (s3, .inl (gI g, 4, .inl (fun z9 => nI (len z9)))), (s4, .inl (gA g, 4, .inr (.inr (.inr (.inr (fun i => if i < 4 then some (rr i) else none)))))), (rr 0, .inl (gI g, 40, .inl (cc 0))), (rr 1, .inl (gI g, 40, .inl (cc 1))), (rr 2, .inl (gI g, 40, .inl (cc 2))), (rr 3, .inl (gI g, 40, .inl (cc 3)))] := by
  refine Ct.ofV RX5 rfl (by decide +kernel) rfl rfl rfl (Nat.le_of_ble_eq_true rfl) (List.forall_mem_cons.mpr ⟨rfl, (List.forall_mem_cons.mpr ⟨rfl, (List.forall_mem_cons.mpr ⟨rfl, (List.forall_mem_cons.mpr ⟨rfl, (fun _ h9 => absurd h9 List.not_mem_nil)⟩)⟩)⟩)⟩) (fun x h hr => ?_)
  show vM x 0 [some (.ref s0), some (.int (nI k)), some (.int (nI i)), some (.int (nI p)), none, none] [] [(s0, .inr (3, [.ref s1, .ref s2, .ref s3, .ref s4])), (s1, .inl (gZ g, 4, .inl (fun z9 => nI (bN (fil z9))))), (s2, .inl (gI g, 4, .inl (fun z9 => nI (srt z9)))), (s3, .inl (gI g, 4, .inl (fun z9 => nI (len z9)))), (s4, .inl (gA g, 4, .inr (.inr (.inr (.inr (fun i => if i < 4 then some (rr i) else none)))))), (rr 0, .inl (gI g, 40, .inl (cc 0))), (rr 1, .inl (gI g, 40, .inl (cc 1))), (rr 2, .inl (gI g, 40, .inl (cc 2))), (rr 3, .inl (gI g, 40, .inl (cc 3)))]
  refine v_aload_n0 h dX5_goesOn_0 ?_
  refine v_iload_n1 h dX5_goesOn_1 ?_
  refine v_iload_n2 h dX5_goesOn_2 ?_
  refine v_iload_n3 h dX5_goesOn_3 ?_
  refine v_iaddN h dX5_goesOn_4 ?_
  refine cw_V_0_1_2_3_4_5_6_7_8_2_i (ci := 3) h (c_X3_cellOf (g := g) (by first | assumption | omega) (by first | assumption | omega) (by first | assumption | omega) (by first | assumption | omega)) lk_X5_15 ⟨rfl, rfl, (Nat.le_of_ble_eq_true rfl), (Nat.le_of_ble_eq_true rfl)⟩ rfl rfl rfl (Nat.le_of_ble_eq_true rfl) dX5_goesOn_5 ?_
  refine v_istore4 h (Nat.le_of_ble_eq_true rfl) dX5_goesOn_8 ?_
  refine v_iload_n3 h dX5_goesOn_10 ?_
  refine v_iconst h (v := nI 4) dX5_goesOn_11 (by decide) ?_
  refine v_iremN h dX5_goesOn_12 (by omega) (by omega) (by omega) ?_
  refine v_istore5 h (Nat.le_of_ble_eq_true rfl) dX5_goesOn_13 ?_
  refine v_iload5 h dX5_goesOn_15 ?_
  refine v_iconst h (v := nI 3) dX5_goesOn_17 (by decide) ?_
  refine v_icmp_neN h dX5_goesOn_18 (tgt := 40) (by decide) (by omega) (by omega) (fun c18 => ?_) (fun c18 => ?_)
  · refine v_iload4 h dX5_goesOn_40 ?_
    refine v_bipush h (v := nI 48) dX5_goesOn_42 (by decide) ?_
    refine v_icmp_lt h dX5_goesOn_44 (tgt := 54) (by decide) (fun c44 => ?_) (fun c44 => ?_)
    · refine v_iconst h (v := nI 0) dX5_goesOn_54 (by decide) ?_
      exact v_zret (v := false) h hr dX5_goesOn_55 (by rw [goB_d c18]; exact (decide_eq_false (fun z => by first | exact z.1 c44 | exact z.2.1 (Int32.not_le.mp c51))).symm) rfl
    · refine v_iload4 h dX5_goesOn_47 ?_
      refine v_bipush h (v := nI 57) dX5_goesOn_49 (by decide) ?_
      refine v_icmp_le h dX5_goesOn_51 (tgt := 56) (by decide) (fun c51 => ?_) (fun c51 => ?_)
      · refine v_iload5 h dX5_goesOn_56 ?_
        refine v_iconst h (v := nI 2) dX5_goesOn_58 (by decide) ?_
        refine v_icmp_neN h dX5_goesOn_59 (tgt := 75) (by decide) (by omega) (by omega) (fun c59 => ?_) (fun c59 => ?_)
        · refine v_iconst h (v := nI 1) dX5_goesOn_75 (by decide) ?_
          refine v_goto h dX5_goesOn_76 (tgt := 80) (by decide) ?_
          exact v_zret (v := true) h hr dX5_goesOn_80 (by first | (rw [goB_d c18]; exact (decide_eq_true (by exact ⟨c44, Int32.not_lt.mpr c51, fun _ => by omega⟩)).symm) | (rw [goB_d c18]; exact (decide_eq_false (fun z => z.2.2 (by omega) (by omega))).symm)) rfl
        · refine v_aload_n0 h dX5_goesOn_62 ?_
          refine v_iload_n1 h dX5_goesOn_63 ?_
          refine v_iload_n2 h dX5_goesOn_64 ?_
          refine v_iload_n3 h dX5_goesOn_65 ?_
          refine v_iaddN h dX5_goesOn_66 ?_
          refine v_iconst h (v := nI 2) dX5_goesOn_67 (by decide) ?_
          refine v_isubN h dX5_goesOn_68 (by omega) ?_
          have hd9 : ∀ z, z < 3 → cc k (i + p - 2 + z) = nI (48 + dv (cc k (i + p - 2 + z))) ∧ dv (cc k (i + p - 2 + z)) ≤ 9 := by
            intro z hz
            rcases (show z = 0 ∨ z = 1 ∨ z = 2 by omega) with rfl | rfl | rfl
            · have h9 := goB_dig (s := fun z => cc k (i + z)) (q := p - 2) (by omega) (hpv _ (by omega))
              rw [show i + p - 2 + 0 = i + (p - 2) by omega]; exact h9
            · have h9 := goB_dig (s := fun z => cc k (i + z)) (q := p - 1) (by omega) (hpv _ (by omega))
              rw [show i + p - 2 + 1 = i + (p - 1) by omega]; exact h9
            · rw [show i + p - 2 + 2 = i + p by omega]; exact dv_ok c44 (Int32.not_lt.mpr c51)
          refine cw_S_0_1_2_3_4_5_6_7_8_3_i h (c_X5_number (g := g) (by first | assumption | omega) (by first | assumption | omega) (by first | assumption | omega) (by first | assumption | omega) (by exact hd9)) lk_X5_21 ⟨rfl, rfl, (Nat.le_of_ble_eq_true rfl), (Nat.le_of_ble_eq_true rfl)⟩ (Nat.le_of_ble_eq_true rfl) dX5_goesOn_69 ?_
          rw [numV_sh (c := cc k) (i := i) (p := p - 2) (m := i + p - 2) (by omega)]
          have hv9 : numV (fun z => cc k (i + z)) (p - 2) ≤ 999 := numV_b (fun z hz => by have := (hd9 z hz).2; rw [show i + (p - 2 + z) = i + p - 2 + z by omega]; exact this)
          refine v_if_eqN h dX5_goesOn_72 (tgt := 79) (by decide) (by exact Nat.lt_of_le_of_lt hv9 (by decide)) (fun c72 => ?_) (fun c72 => ?_)
          · refine v_iconst h (v := nI 0) dX5_goesOn_79 (by decide) ?_
            exact v_zret (v := false) h hr dX5_goesOn_80 (by first | (rw [goB_d c18]; exact (decide_eq_true (by exact ⟨c44, Int32.not_lt.mpr c51, fun _ => by omega⟩)).symm) | (rw [goB_d c18]; exact (decide_eq_false (fun z => z.2.2 (by omega) (by omega))).symm)) rfl
          · refine v_iconst h (v := nI 1) dX5_goesOn_75 (by decide) ?_
            refine v_goto h dX5_goesOn_76 (tgt := 80) (by decide) ?_
            exact v_zret (v := true) h hr dX5_goesOn_80 (by first | (rw [goB_d c18]; exact (decide_eq_true (by exact ⟨c44, Int32.not_lt.mpr c51, fun _ => by omega⟩)).symm) | (rw [goB_d c18]; exact (decide_eq_false (fun z => z.2.2 (by omega) (by omega))).symm)) rfl
      · refine v_iconst h (v := nI 0) dX5_goesOn_54 (by decide) ?_
        exact v_zret (v := false) h hr dX5_goesOn_55 (by rw [goB_d c18]; exact (decide_eq_false (fun z => by first | exact z.1 c44 | exact z.2.1 (Int32.not_le.mp c51))).symm) rfl
  · refine v_iload4 h dX5_goesOn_21 ?_
    refine v_bipush h (v := nI 59) dX5_goesOn_23 (by decide) ?_
    refine v_icmp_ne h dX5_goesOn_25 (tgt := 38) (by decide) (fun c25 => ?_) (fun c25 => ?_)
    · refine v_iconst h (v := nI 0) dX5_goesOn_38 (by decide) ?_
      exact v_zret (v := false) h hr dX5_goesOn_39 (by first | (rw [goB_3 c18]; exact (decide_eq_true (by exact ⟨c25, by omega⟩)).symm) | (rw [goB_3 c18]; exact (decide_eq_false (fun z => by first | exact c25 z.1 | exact absurd z.2 (by omega))).symm)) rfl
    · refine v_iload_n3 h dX5_goesOn_28 ?_
      refine v_bipush h (v := nI 31) dX5_goesOn_29 (by decide) ?_
      refine v_icmp_geN h dX5_goesOn_31 (tgt := 38) (by decide) (by omega) (by omega) (fun c31 => ?_) (fun c31 => ?_)
      · refine v_iconst h (v := nI 0) dX5_goesOn_38 (by decide) ?_
        exact v_zret (v := false) h hr dX5_goesOn_39 (by first | (rw [goB_3 c18]; exact (decide_eq_true (by exact ⟨c25, by omega⟩)).symm) | (rw [goB_3 c18]; exact (decide_eq_false (fun z => by first | exact c25 z.1 | exact absurd z.2 (by omega))).symm)) rfl
      · refine v_iconst h (v := nI 1) dX5_goesOn_34 (by decide) ?_
        refine v_goto h dX5_goesOn_35 (tgt := 39) (by decide) ?_
        exact v_zret (v := true) h hr dX5_goesOn_39 (by first | (rw [goB_3 c18]; exact (decide_eq_true (by exact ⟨c25, by omega⟩)).symm) | (rw [goB_3 c18]; exact (decide_eq_false (fun z => by first | exact c25 z.1 | exact absurd z.2 (by omega))).symm)) rfl
set_option maxRecDepth 20000 in
set_option maxHeartbeats 2000000 in
theorem c_X5_firstFault {g : vG} {s0 s1 s2 s3 s4 : Nat} {rr : Nat → Nat} {fil : Nat → Bool} {srt : Nat → Nat} {len : Nat → Nat} {cc : Nat → Nat → Int32} {k : Nat} {i : Nat} {m : Nat} (hk : k < 4) (hfk : fil k = true) (hlk : len k ≤ 40) (hi : i + m ≤ len k) : Ct g yX5_firstFault cX5_firstFault 6 (some .int) (rmOf 5 115) [(s0, .inr (3, [.ref s1, .ref s2, .ref s3, .ref s4])), (s1, .inl (gZ g, 4, .inl (fun z9 => nI (bN (fil z9))))), (s2, .inl (gI g, 4, .inl (fun z9 => nI (srt z9)))), (s3, .inl (gI g, 4, .inl (fun z9 => nI (len z9)))), (s4, .inl (gA g, 4, .inr (.inr (.inr (.inr (fun i => if i < 4 then some (rr i) else none)))))), (rr 0, .inl (gI g, 40, .inl (cc 0))), (rr 1, .inl (gI g, 40, .inl (cc 1))), (rr 2, .inl (gI g, 40, .inl (cc 2))), (rr 3, .inl (gI g, 40, .inl (cc 3)))] [.ref s0, .int (nI k), .int (nI i), .int (nI m)] (some (.int (ffS (fun z => cc k (i + z)) m))) [(s0, .inr (3, [.ref s1, .ref s2, .ref s3, .ref s4])), (s1, .inl (gZ g, 4, .inl (fun z9 => nI (bN (fil z9))))), (s2, .inl (gI g, 4, .inl (fun z9 => nI (srt z9)))), (s3, .inl (gI g, 4, .inl (fun z9 => nI (len z9)))), (s4, .inl (gA g, 4, .inr (.inr (.inr (.inr (fun i => if i < 4 then some (rr i) else none)))))), (rr 0, .inl (gI g, 40, .inl (cc 0))), (rr 1, .inl (gI g, 40, .inl (cc 1))), (rr 2, .inl (gI g, 40, .inl (cc 2))), (rr 3, .inl (gI g, 40, .inl (cc 3)))] := by
  refine Ct.ofV RX5 rfl (by decide +kernel) rfl rfl rfl (Nat.le_of_ble_eq_true rfl) (List.forall_mem_cons.mpr ⟨rfl, (List.forall_mem_cons.mpr ⟨rfl, (List.forall_mem_cons.mpr ⟨rfl, (List.forall_mem_cons.mpr ⟨rfl, (fun _ h9 => absurd h9 List.not_mem_nil)⟩)⟩)⟩)⟩) (fun x h hr => ?_)
  show vM x 0 [some (.ref s0), some (.int (nI k)), some (.int (nI i)), some (.int (nI m)), none, none] [] [(s0, .inr (3, [.ref s1, .ref s2, .ref s3, .ref s4])), (s1, .inl (gZ g, 4, .inl (fun z9 => nI (bN (fil z9))))), (s2, .inl (gI g, 4, .inl (fun z9 => nI (srt z9)))), (s3, .inl (gI g, 4, .inl (fun z9 => nI (len z9)))), (s4, .inl (gA g, 4, .inr (.inr (.inr (.inr (fun i => if i < 4 then some (rr i) else none)))))), (rr 0, .inl (gI g, 40, .inl (cc 0))), (rr 1, .inl (gI g, 40, .inl (cc 1))), (rr 2, .inl (gI g, 40, .inl (cc 2))), (rr 3, .inl (gI g, 40, .inl (cc 3)))]
  refine v_iconst h (v := nI 0) dX5_firstFault_0 (by decide) ?_
  refine v_istore4 h (Nat.le_of_ble_eq_true rfl) dX5_firstFault_1 ?_
  have L3 : ∀ (k3 : Nat) (p : Nat), m - p = k3 → (p ≤ m) → (fstTo (fun q => !goB (fun z => cc k (i + z)) q) p = none) → vM x 3 [some (.ref s0), some (.int (nI k)), some (.int (nI i)), some (.int (nI m)), some (.int (nI p)), none] [] [(s0, .inr (3, [.ref s1, .ref s2, .ref s3, .ref s4])), (s1, .inl (gZ g, 4, .inl (fun z9 => nI (bN (fil z9))))), (s2, .inl (gI g, 4, .inl (fun z9 => nI (srt z9)))), (s3, .inl (gI g, 4, .inl (fun z9 => nI (len z9)))), (s4, .inl (gA g, 4, .inr (.inr (.inr (.inr (fun i => if i < 4 then some (rr i) else none)))))), (rr 0, .inl (gI g, 40, .inl (cc 0))), (rr 1, .inl (gI g, 40, .inl (cc 1))), (rr 2, .inl (gI g, 40, .inl (cc 2))), (rr 3, .inl (gI g, 40, .inl (cc 3)))] := by
    intro k3
    induction k3 using Nat.strongRecOn with
    | _ k3 ih3 =>
      intro p hm3 hp h1
      refine v_iload4 h dX5_firstFault_3 ?_
      refine v_iload_n3 h dX5_firstFault_5 ?_
      refine v_icmp_geN h dX5_firstFault_6 (tgt := 29) (by decide) (by omega) (by omega) (fun c6 => ?_) (fun c6 => ?_)
      · have e6 : m = p := by omega
        subst e6
        refine v_iload_n3 h dX5_firstFault_29 ?_
        refine v_iconst h (v := nI 4) dX5_firstFault_30 (by decide) ?_
        refine v_iremN h dX5_firstFault_31 (by omega) (by omega) (by omega) ?_
        refine v_iconst h (v := nI 3) dX5_firstFault_32 (by decide) ?_
        refine v_icmp_neN h dX5_firstFault_33 (tgt := 40) (by decide) (by omega) (by omega) (fun c33 => ?_) (fun c33 => ?_)
        · refine v_iconst h (v := nI 0) dX5_firstFault_40 (by decide) ?_
          refine v_istore4 h (Nat.le_of_ble_eq_true rfl) dX5_firstFault_41 ?_
          refine v_iload_n3 h dX5_firstFault_43 ?_
          refine v_bipush h (v := nI 7) dX5_firstFault_44 (by decide) ?_
          refine v_icmp_ltN h dX5_firstFault_46 (tgt := 53) (by decide) (by omega) (by omega) (fun c46 => ?_) (fun c46 => ?_)
          · refine v_iconst h (v := nI 0) dX5_firstFault_53 (by decide) ?_
            refine v_istore5 h (Nat.le_of_ble_eq_true rfl) dX5_firstFault_54 ?_
            refine v_iload4 h dX5_firstFault_56 ?_
            refine v_if_eqN h dX5_firstFault_58 (tgt := 70) (by decide) (by decide) (fun _ => ?_) (fun c9 => absurd c9 (by decide))
            refine v_iload_n3 h dX5_firstFault_70 ?_
            exact v_iret h hr dX5_firstFault_71 (by rw [ffS, h1]; simp only; first | rw [if_pos (by omega)] | rw [if_neg (by omega)]) rfl
          · refine v_iconst h (v := nI 1) dX5_firstFault_49 (by decide) ?_
            refine v_goto h dX5_firstFault_50 (tgt := 54) (by decide) ?_
            refine v_istore5 h (Nat.le_of_ble_eq_true rfl) dX5_firstFault_54 ?_
            refine v_iload4 h dX5_firstFault_56 ?_
            refine v_if_eqN h dX5_firstFault_58 (tgt := 70) (by decide) (by decide) (fun _ => ?_) (fun c9 => absurd c9 (by decide))
            refine v_iload_n3 h dX5_firstFault_70 ?_
            exact v_iret h hr dX5_firstFault_71 (by rw [ffS, h1]; simp only; first | rw [if_pos (by omega)] | rw [if_neg (by omega)]) rfl
        · refine v_iconst h (v := nI 1) dX5_firstFault_36 (by decide) ?_
          refine v_goto h dX5_firstFault_37 (tgt := 41) (by decide) ?_
          refine v_istore4 h (Nat.le_of_ble_eq_true rfl) dX5_firstFault_41 ?_
          refine v_iload_n3 h dX5_firstFault_43 ?_
          refine v_bipush h (v := nI 7) dX5_firstFault_44 (by decide) ?_
          refine v_icmp_ltN h dX5_firstFault_46 (tgt := 53) (by decide) (by omega) (by omega) (fun c46 => ?_) (fun c46 => ?_)
          · refine v_iconst h (v := nI 0) dX5_firstFault_53 (by decide) ?_
            refine v_istore5 h (Nat.le_of_ble_eq_true rfl) dX5_firstFault_54 ?_
            refine v_iload4 h dX5_firstFault_56 ?_
            refine v_if_eqN h dX5_firstFault_58 (tgt := 70) (by decide) (by decide) (fun c9 => absurd c9 (by decide)) (fun _ => ?_)
            refine v_iload5 h dX5_firstFault_61 ?_
            refine v_if_eqN h dX5_firstFault_63 (tgt := 70) (by decide) (by decide) (fun _ => ?_) (fun c9 => absurd c9 (by decide))
            refine v_iload_n3 h dX5_firstFault_70 ?_
            exact v_iret h hr dX5_firstFault_71 (by rw [ffS, h1]; simp only; first | rw [if_pos (by omega)] | rw [if_neg (by omega)]) rfl
          · refine v_iconst h (v := nI 1) dX5_firstFault_49 (by decide) ?_
            refine v_goto h dX5_firstFault_50 (tgt := 54) (by decide) ?_
            refine v_istore5 h (Nat.le_of_ble_eq_true rfl) dX5_firstFault_54 ?_
            refine v_iload4 h dX5_firstFault_56 ?_
            refine v_if_eqN h dX5_firstFault_58 (tgt := 70) (by decide) (by decide) (fun c9 => absurd c9 (by decide)) (fun _ => ?_)
            refine v_iload5 h dX5_firstFault_61 ?_
            refine v_if_eqN h dX5_firstFault_63 (tgt := 70) (by decide) (by decide) (fun c9 => absurd c9 (by decide)) (fun _ => ?_)
            refine v_iconst h (v := -1) dX5_firstFault_66 (by decide) ?_
            refine v_goto h dX5_firstFault_67 (tgt := 71) (by decide) ?_
            exact v_iret h hr dX5_firstFault_71 (by rw [ffS, h1]; simp only; first | rw [if_pos (by omega)] | rw [if_neg (by omega)]) rfl
      · refine v_aload_n0 h dX5_firstFault_9 ?_
        refine v_iload_n1 h dX5_firstFault_10 ?_
        refine v_iload_n2 h dX5_firstFault_11 ?_
        refine v_iload4 h dX5_firstFault_12 ?_
        refine cw_S_0_1_2_3_4_5_6_7_8_4_i h (c_X5_goesOn (g := g) (by first | assumption | omega) (by first | assumption | omega) (by first | assumption | omega) (by first | assumption | omega) (by exact fun z hz => by simpa using fst_none.mp h1 z hz)) lk_X5_9 ⟨rfl, rfl, (Nat.le_of_ble_eq_true rfl), (Nat.le_of_ble_eq_true rfl)⟩ (Nat.le_of_ble_eq_true rfl) dX5_firstFault_14 ?_
        refine v_if_neB h dX5_firstFault_17 (tgt := 23) (by decide) (fun c17 => ?_) (fun c17 => ?_)
        · refine v_iincN4 h (Nat.le_of_ble_eq_true rfl) dX5_firstFault_23 ?_
          refine v_goto h dX5_firstFault_26 (tgt := 3) (by decide) ?_
          exact vM.fg (ih3 _ (by omega) (p + 1) rfl (by first | assumption | rfl | omega) (by exact fst_step h1 (by rw [c17]; rfl))) ⟨rfl, rfl, rfl, rfl, rfl, trivial⟩
        · refine v_iload4 h dX5_firstFault_20 ?_
          exact v_iret h hr dX5_firstFault_22 (by rw [ffS, fst_hit h1 (by rw [c17]; rfl) (by omega)]) rfl
  exact vM.fg (L3 _ 0 rfl (by first | assumption | rfl | omega) (by first | assumption | rfl | omega)) ⟨rfl, rfl, rfl, rfl, rfl, trivial⟩
set_option maxRecDepth 20000 in
set_option maxHeartbeats 2000000 in
theorem c_X5_read {g : vG} {s0 s1 s2 s3 s4 t0 t1 : Nat} {rr : Nat → Nat} {fil : Nat → Bool} {srt : Nat → Nat} {len : Nat → Nat} {cc : Nat → Nat → Int32} {n : Nat} {w : Nat → Nat} {k : Nat} {i : Nat} {m : Nat} (hk : k < 4) (hfk : fil k = true) (hlk : len k ≤ 40) (hi : i + m ≤ len k) (hm1 : m % 4 = 3) (hm2 : m ≤ 31) (hg : ∀ z, z < m → goB (fun z => cc k (i + z)) z = true) : Ct g yX5_read cX5_read 6 none (rmOf 4 90) [(s0, .inr (3, [.ref s1, .ref s2, .ref s3, .ref s4])), (s1, .inl (gZ g, 4, .inl (fun z9 => nI (bN (fil z9))))), (s2, .inl (gI g, 4, .inl (fun z9 => nI (srt z9)))), (s3, .inl (gI g, 4, .inl (fun z9 => nI (len z9)))), (s4, .inl (gA g, 4, .inr (.inr (.inr (.inr (fun i => if i < 4 then some (rr i) else none)))))), (rr 0, .inl (gI g, 40, .inl (cc 0))), (rr 1, .inl (gI g, 40, .inl (cc 1))), (rr 2, .inl (gI g, 40, .inl (cc 2))), (rr 3, .inl (gI g, 40, .inl (cc 3))), (t0, .inr (5, [.int (nI n), .ref t1])), (t1, .inl (gI g, 8, .inl (fun z9 => nI (w z9))))] [.ref s0, .int (nI k), .int (nI i), .int (nI m), .ref t0] none [(s0, .inr (3, [.ref s1, .ref s2, .ref s3, .ref s4])), (s1, .inl (gZ g, 4, .inl (fun z9 => nI (bN (fil z9))))), (s2, .inl (gI g, 4, .inl (fun z9 => nI (srt z9)))), (s3, .inl (gI g, 4, .inl (fun z9 => nI (len z9)))), (s4, .inl (gA g, 4, .inr (.inr (.inr (.inr (fun i => if i < 4 then some (rr i) else none)))))), (rr 0, .inl (gI g, 40, .inl (cc 0))), (rr 1, .inl (gI g, 40, .inl (cc 1))), (rr 2, .inl (gI g, 40, .inl (cc 2))), (rr 3, .inl (gI g, 40, .inl (cc 3))), (t0, .inr (5, [.int (nI ((m + 1) / 4)), .ref t1])), (t1, .inl (gI g, 8, .inl (fun z9 => nI ((layF w ((m + 1) / 4) (fun q => numV (fun z => cc k (i + z)) (4 * q))) z9))))] := by
  refine Ct.ofV RX5 rfl (by decide +kernel) rfl rfl rfl (Nat.le_of_ble_eq_true rfl) (List.forall_mem_cons.mpr ⟨rfl, (List.forall_mem_cons.mpr ⟨rfl, (List.forall_mem_cons.mpr ⟨rfl, (List.forall_mem_cons.mpr ⟨rfl, (List.forall_mem_cons.mpr ⟨rfl, (fun _ h9 => absurd h9 List.not_mem_nil)⟩)⟩)⟩)⟩)⟩) (fun x h hr => ?_)
  show vM x 0 [some (.ref s0), some (.int (nI k)), some (.int (nI i)), some (.int (nI m)), some (.ref t0), none] [] [(s0, .inr (3, [.ref s1, .ref s2, .ref s3, .ref s4])), (s1, .inl (gZ g, 4, .inl (fun z9 => nI (bN (fil z9))))), (s2, .inl (gI g, 4, .inl (fun z9 => nI (srt z9)))), (s3, .inl (gI g, 4, .inl (fun z9 => nI (len z9)))), (s4, .inl (gA g, 4, .inr (.inr (.inr (.inr (fun i => if i < 4 then some (rr i) else none)))))), (rr 0, .inl (gI g, 40, .inl (cc 0))), (rr 1, .inl (gI g, 40, .inl (cc 1))), (rr 2, .inl (gI g, 40, .inl (cc 2))), (rr 3, .inl (gI g, 40, .inl (cc 3))), (t0, .inr (5, [.int (nI n), .ref t1])), (t1, .inl (gI g, 8, .inl (fun z9 => nI (w z9))))]
  refine v_aload4 h dX5_read_0 ?_
  refine cw_V_9_10_0_v (ci := 5) h (c_X6_clear (g := g)) lk_X5_25 ⟨rfl, rfl, (Nat.le_of_ble_eq_true rfl), (Nat.le_of_ble_eq_true rfl)⟩ rfl rfl rfl (Nat.le_of_ble_eq_true rfl) dX5_read_2 ?_
  refine v_iconst h (v := nI 0) dX5_read_5 (by decide) ?_
  refine v_istore5 h (Nat.le_of_ble_eq_true rfl) dX5_read_6 ?_
  have L8 : ∀ (k8 : Nat) (q : Nat), m + 1 - 4 * q = k8 → (4 * q ≤ m + 1) → vM x 8 [some (.ref s0), some (.int (nI k)), some (.int (nI i)), some (.int (nI m)), some (.ref t0), some (.int (nI (4 * q)))] [] [(s0, .inr (3, [.ref s1, .ref s2, .ref s3, .ref s4])), (s1, .inl (gZ g, 4, .inl (fun z9 => nI (bN (fil z9))))), (s2, .inl (gI g, 4, .inl (fun z9 => nI (srt z9)))), (s3, .inl (gI g, 4, .inl (fun z9 => nI (len z9)))), (s4, .inl (gA g, 4, .inr (.inr (.inr (.inr (fun i => if i < 4 then some (rr i) else none)))))), (rr 0, .inl (gI g, 40, .inl (cc 0))), (rr 1, .inl (gI g, 40, .inl (cc 1))), (rr 2, .inl (gI g, 40, .inl (cc 2))), (rr 3, .inl (gI g, 40, .inl (cc 3))), (t0, .inr (5, [.int (nI q), .ref t1])), (t1, .inl (gI g, 8, .inl (fun z9 => nI ((layF w q (fun q => numV (fun z => cc k (i + z)) (4 * q))) z9))))] := by
    intro k8
    induction k8 using Nat.strongRecOn with
    | _ k8 ih8 =>
      intro q hm8 hq
      refine v_iload5 h dX5_read_8 ?_
      refine v_iload_n3 h dX5_read_10 ?_
      refine v_icmp_geN h dX5_read_11 (tgt := 34) (by decide) (by omega) (by omega) (fun c11 => ?_) (fun c11 => ?_)
      · exact v_vret h hr dX5_read_34 (by rw [show q = (m + 1) / 4 by omega])
      · refine v_aload4 h dX5_read_14 ?_
        refine v_aload_n0 h dX5_read_16 ?_
        refine v_iload_n1 h dX5_read_17 ?_
        refine v_iload_n2 h dX5_read_18 ?_
        refine v_iload5 h dX5_read_19 ?_
        refine v_iaddN h dX5_read_21 ?_
        refine cw_S_0_1_2_3_4_5_6_7_8_3_i h (c_X5_number (g := g) (by first | assumption | omega) (by first | assumption | omega) (by first | assumption | omega) (by first | assumption | omega) (by intro z hz; have h9 := goB_dig (s := fun z => cc k (i + z)) (q := 4 * q + z) (by omega) (hg _ (by omega)); rw [show i + 4 * q + z = i + (4 * q + z) by omega]; exact h9)) lk_X5_21 ⟨rfl, rfl, (Nat.le_of_ble_eq_true rfl), (Nat.le_of_ble_eq_true rfl)⟩ (Nat.le_of_ble_eq_true rfl) dX5_read_22 ?_
        refine cw_V_9_10_1_v (ci := 5) h (c_X6_add (g := g) (by first | assumption | omega)) lk_X5_30 ⟨rfl, rfl, (Nat.le_of_ble_eq_true rfl), (Nat.le_of_ble_eq_true rfl)⟩ rfl rfl rfl (Nat.le_of_ble_eq_true rfl) dX5_read_25 ?_
        refine v_iinc5by4 h (Nat.le_of_ble_eq_true rfl) dX5_read_28 ?_
        refine v_goto h dX5_read_31 (tgt := 8) (by decide) ?_
        exact vM.le rfl rfl (by rw [layF_succ (F := fun q => numV (fun z => cc k (i + z)) (4 * q)) (numV_sh (c := cc k) (i := i) (p := 4 * q) rfl).symm]) (vM.fg (ih8 _ (by omega) (q + 1) rfl (by first | assumption | rfl | omega)) ⟨rfl, rfl, rfl, rfl, rfl, rfl, trivial⟩)
  exact vM.le rfl rfl (by rw [layF_0]) (vM.fg (L8 _ 0 rfl (by first | assumption | rfl | omega)) ⟨rfl, rfl, rfl, rfl, rfl, rfl, trivial⟩)
