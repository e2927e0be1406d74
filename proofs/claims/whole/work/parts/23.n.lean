theorem lk_X8_178 : LkV RX8 178 yX8_sumOf cX8_sumOf 4 (some .int) 1 := ⟨ml_X8_178, mn_X8_sumOf, mv_X8_sumOf, mi_X8, mc_X8_sumOf, ⟨by decide, by decide, by decide +kernel⟩⟩
theorem lk_X8_149 : LkS RX8 149 yX8_bits cX8_bits 3 (some .int) 1 := ⟨ml_X8_149, ms_X8_bits, mi_X8, mc_X8_bits, ⟨by decide, by decide, by decide +kernel⟩⟩
theorem lk_X8_181 : LkV RX8 181 yX8_areEven cX8_areEven 4 (some .boolean) 3 := ⟨ml_X8_181, mn_X8_areEven, mv_X8_areEven, mi_X8, mc_X8_areEven, ⟨by decide, by decide, by decide +kernel⟩⟩
theorem lk_X8_152 : LkV RX8 152 yX8_isCrowd cX8_isCrowd 4 (some .boolean) 2 := ⟨ml_X8_152, mn_X8_isCrowd, mv_X8_isCrowd, mi_X8, mc_X8_isCrowd, ⟨by decide, by decide, by decide +kernel⟩⟩
theorem lk_X8_156 : LkV RX8 156 yX8_greatest cX8_greatest 3 (some .int) 2 := ⟨ml_X8_156, mn_X8_greatest, mv_X8_greatest, mi_X8, mc_X8_greatest, ⟨by decide, by decide, by decide +kernel⟩⟩
theorem lk_X8_159 : LkV RX8 159 yX8_least cX8_least 6 (some .int) 2 := ⟨ml_X8_159, mn_X8_least, mv_X8_least, mi_X8, mc_X8_least, ⟨by decide, by decide, by decide +kernel⟩⟩
theorem v_iastN_at15 {x : vX} {g : vG} {cc : ByteArray} {own : String} {rm : Room} {nL pc : Nat} {lv : List (Option Value)} {st : List Value} {w0 w1 w2 w3 w4 w5 w6 w7 w8 w9 w10 w11 w12 w13 w14 : Nat × va_E} {wt : va_W} {n b i v : Nat} {w : Nat → Nat} (h : Ok x g cc own rm nL) (hi : i < n) (hn : n < 2 ^ 31) (hd : decode cc pc = .ok (.iastore, 1)) (k : vM x (pc + 1) lv st (w0 :: w1 :: w2 :: w3 :: w4 :: w5 :: w6 :: w7 :: w8 :: w9 :: w10 :: w11 :: w12 :: w13 :: w14 :: (b, .inl (gI g, n, .inl (fun j => nI (up w i v j)))) :: wt)) : vM x pc lv (.int (nI v) :: .int (nI i) :: .ref b :: st) (w0 :: w1 :: w2 :: w3 :: w4 :: w5 :: w6 :: w7 :: w8 :: w9 :: w10 :: w11 :: w12 :: w13 :: w14 :: (b, .inl (gI g, n, .inl (fun j => nI (w j)))) :: wt) := v_iastN h 15 rfl hi hn hd rfl k
theorem cw_V_0_1_2_3_4_5_6_7_8_9_10_11_12_13_14_15_16_2_v {x : vX} {g : vG} {cc : ByteArray} {own : String} {rm : Room} {nL pc : Nat} {lv : List (Option Value)} {st : List Value} {wt : va_W} {c0 c1 c2 c3 c4 c5 c6 c7 c8 c9 c10 c11 c12 c13 c14 c15 c16 d0 d1 d2 d3 d4 d5 d6 d7 d8 d9 d10 d11 d12 d13 d14 d15 d16 : Nat × va_E} {idx : Nat} {y : MethodName} {bytes : ByteArray} {ml : Nat} {ret : Option FieldType} {rmc : Room} {p0 p1 : Value} {a ci : Nat} {q : vw_C} {fs : List Value} (h : Ok x g cc own rm nL) (hc : Ct g y bytes ml ret rmc [c0, c1, c2, c3, c4, c5, c6, c7, c8, c9, c10, c11, c12, c13, c14, c15, c16] [.ref a, p0, p1] none [d0, d1, d2, d3, d4, d5, d6, d7, d8, d9, d10, d11, d12, d13, d14, d15, d16]) (lk : LkV own idx y bytes ml ret 2) (hrm : RmOk rmc rm ml) (hcl : vwCl[ci]? = some q) (hq : y.cls = q.1) (h0 : c0 = (a, .inr (ci, fs))) (hW : (st.map fun v => v.category).sum ≤ 8) (hd : decode cc pc = .ok (.invokevirtual idx, 3)) (k : vM x (pc + 3) lv (st) (d0 :: d1 :: d2 :: d3 :: d4 :: d5 :: d6 :: d7 :: d8 :: d9 :: d10 :: d11 :: d12 :: d13 :: d14 :: d15 :: d16 :: wt)) : vM x pc lv (p1 :: p0 :: .ref a :: st) (c0 :: c1 :: c2 :: c3 :: c4 :: c5 :: c6 :: c7 :: c8 :: c9 :: c10 :: c11 :: c12 :: c13 :: c14 :: c15 :: c16 :: wt) := v_callV (As := [p0, p1]) (rest := st) h hc lk hrm hcl hq (by rw [h0]; rfl) rfl [0, 1, 2, 3, 4, 5, 6, 7, 8, 9, 10, 11, 12, 13, 14, 15, 16] rfl (by decide) hW hd rfl k
theorem lk_X8_169 : LkV RX8 169 yX8_exchange cX8_exchange 4 none 2 := ⟨ml_X8_169, mn_X8_exchange, mv_X8_exchange, mi_X8, mc_X8_exchange, ⟨by decide, by decide, by decide +kernel⟩⟩
set_option maxRecDepth 20000 in
set_option maxHeartbeats 2000000 in
theorem c_X8_sumOf {g : vG} {m0 m1 m2 m3 m4 m5 m6 m7 m8 m9 m10 m11 m12 m13 m14 m15 m16 : Nat} {fl : Nat} {tr : Int32} {msrt : Nat → Int32} {len : Nat → Nat} {mc : Nat → Int32} {n : Nat} {w : Nat → Nat} {atp : Nat} {rt : Nat} {rwt : Nat → Nat} {hn : Nat} {kd : Nat → Nat} {pt : Nat → Nat} {far : Nat → Int32} {sn : Nat} {sb : Nat → Nat} {sf : Nat → Nat} {ss : Nat → Nat} {sw : Nat → Nat} {ways : Nat → Nat} {chain : Nat → Nat} {row : Nat → Nat} {best : Nat → Nat} {a : Nat} (hT : wfT n w) (ha : a < 2 ^ 31) : Ct g yX8_sumOf cX8_sumOf 4 (some .int) (rmOf 0 0) [(m0, .inr (7, [.int (nI fl), .int tr, .ref m1, .ref m2, .ref m3, .int (nI n), .ref m4, .int (nI atp), .int (nI rt), .ref m5, .int (nI hn), .ref m6, .ref m7, .ref m8, .int (nI sn), .ref m9, .ref m10, .ref m11, .ref m12, .ref m13, .ref m14, .ref m15, .ref m16])), (m1, .inl (gI g, 4, .inl msrt)), (m2, .inl (gI g, 4, .inl (fun z9 => nI (len z9)))), (m3, .inl (gI g, 160, .inl mc)), (m4, .inl (gI g, 8, .inl (fun z9 => nI (w z9)))), (m5, .inl (gI g, 8, .inl (fun z9 => nI (rwt z9)))), (m6, .inl (gI g, 6, .inl (fun z9 => nI (kd z9)))), (m7, .inl (gI g, 6, .inl (fun z9 => nI (pt z9)))), (m8, .inl (gI g, 8, .inl far)), (m9, .inl (gI g, 10, .inl (fun z9 => nI (sb z9)))), (m10, .inl (gI g, 10, .inl (fun z9 => nI (sf z9)))), (m11, .inl (gI g, 10, .inl (fun z9 => nI (ss z9)))), (m12, .inl (gI g, 10, .inl (fun z9 => nI (sw z9)))), (m13, .inl (gI g, 256, .inl (fun z9 => nI (ways z9)))), (m14, .inl (gI g, 8, .inl (fun z9 => nI (chain z9)))), (m15, .inl (gI g, 5, .inl (fun z9 => nI (row z9)))), (m16, .inl (gI g, 5, .inl (fun z9 => nI (best z9))))] [.ref m0, .int (nI a)] (some (.int (nI (sumTo (fun z => if (a).testBit z then w z else 0) n)))) [(m0, .inr (7, [.int (nI fl), .int tr, .ref m1, .ref m2, .ref m3, .int (nI n), .ref m4, .int (nI atp), .int (nI rt), .ref m5, .int (nI hn), .ref m6, .ref m7, .ref m8, .int (nI sn), .ref m9, .ref m10, .ref m11, .ref m12, .ref m13, .ref m14, .ref m15, .ref m16])), (m1, .inl (gI g, 4, .inl msrt)), (m2, .inl (gI g, 4, .inl (fun z9 => nI (len z9)))), (m3, .inl (gI g, 160, .inl mc)), (m4, .inl (gI g, 8, .inl (fun z9 => nI (w z9)))), (m5, .inl (gI g, 8, .inl (fun z9 => nI (rwt z9)))), (m6, .inl (gI g, 6, .inl (fun z9 => nI (kd z9)))), (m7, .inl (gI g, 6, .inl (fun z9 => nI (pt z9)))), (m8, .inl (gI g, 8, .inl far)), (m9, .inl (gI g, 10, .inl (fun z9 => nI (sb z9)))), (m10, .inl (gI g, 10, .inl (fun z9 => nI (sf z9)))), (m11, .inl (gI g, 10, .inl (fun z9 => nI (ss z9)))), (m12, .inl (gI g, 10, .inl (fun z9 => nI (sw z9)))), (m13, .inl (gI g, 256, .inl (fun z9 => nI (ways z9)))), (m14, .inl (gI g, 8, .inl (fun z9 => nI (chain z9)))), (m15, .inl (gI g, 5, .inl (fun z9 => nI (row z9)))), (m16, .inl (gI g, 5, .inl (fun z9 => nI (best z9))))] := by
  refine Ct.ofV RX8 rfl (by decide +kernel) rfl rfl rfl (Nat.le_of_ble_eq_true rfl) (List.forall_mem_cons.mpr ⟨rfl, (List.forall_mem_cons.mpr ⟨rfl, (fun _ h9 => absurd h9 List.not_mem_nil)⟩)⟩) (fun x h hr => ?_)
  show vM x 0 [some (.ref m0), some (.int (nI a)), none, none] [] [(m0, .inr (7, [.int (nI fl), .int tr, .ref m1, .ref m2, .ref m3, .int (nI n), .ref m4, .int (nI atp), .int (nI rt), .ref m5, .int (nI hn), .ref m6, .ref m7, .ref m8, .int (nI sn), .ref m9, .ref m10, .ref m11, .ref m12, .ref m13, .ref m14, .ref m15, .ref m16])), (m1, .inl (gI g, 4, .inl msrt)), (m2, .inl (gI g, 4, .inl (fun z9 => nI (len z9)))), (m3, .inl (gI g, 160, .inl mc)), (m4, .inl (gI g, 8, .inl (fun z9 => nI (w z9)))), (m5, .inl (gI g, 8, .inl (fun z9 => nI (rwt z9)))), (m6, .inl (gI g, 6, .inl (fun z9 => nI (kd z9)))), (m7, .inl (gI g, 6, .inl (fun z9 => nI (pt z9)))), (m8, .inl (gI g, 8, .inl far)), (m9, .inl (gI g, 10, .inl (fun z9 => nI (sb z9)))), (m10, .inl (gI g, 10, .inl (fun z9 => nI (sf z9)))), (m11, .inl (gI g, 10, .inl (fun z9 => nI (ss z9)))), (m12, .inl (gI g, 10, .inl (fun z9 => nI (sw z9)))), (m13, .inl (gI g, 256, .inl (fun z9 => nI (ways z9)))), (m14, .inl (gI g, 8, .inl (fun z9 => nI (chain z9)))), (m15, .inl (gI g, 5, .inl (fun z9 => nI (row z9)))), (m16, .inl (gI g, 5, .inl (fun z9 => nI (best z9))))]
  have ht1 := hT.1; have ht2 := hT.2.1; have ht3 := hT.2.2
  refine v_iconst h (v := nI 0) dX8_sumOf_0 (by decide) ?_
  refine v_istore_n2 h (Nat.le_of_ble_eq_true rfl) dX8_sumOf_1 ?_
  refine v_iconst h (v := nI 0) dX8_sumOf_2 (by decide) ?_
  refine v_istore_n3 h (Nat.le_of_ble_eq_true rfl) dX8_sumOf_3 ?_
  have L4 : ∀ (k4 : Nat) (i : Nat), n - i = k4 → (i ≤ n) → vM x 4 [some (.ref m0), some (.int (nI a)), some (.int (nI (sumTo (fun z => if (a).testBit z then w z else 0) i))), some (.int (nI i))] [] [(m0, .inr (7, [.int (nI fl), .int tr, .ref m1, .ref m2, .ref m3, .int (nI n), .ref m4, .int (nI atp), .int (nI rt), .ref m5, .int (nI hn), .ref m6, .ref m7, .ref m8, .int (nI sn), .ref m9, .ref m10, .ref m11, .ref m12, .ref m13, .ref m14, .ref m15, .ref m16])), (m1, .inl (gI g, 4, .inl msrt)), (m2, .inl (gI g, 4, .inl (fun z9 => nI (len z9)))), (m3, .inl (gI g, 160, .inl mc)), (m4, .inl (gI g, 8, .inl (fun z9 => nI (w z9)))), (m5, .inl (gI g, 8, .inl (fun z9 => nI (rwt z9)))), (m6, .inl (gI g, 6, .inl (fun z9 => nI (kd z9)))), (m7, .inl (gI g, 6, .inl (fun z9 => nI (pt z9)))), (m8, .inl (gI g, 8, .inl far)), (m9, .inl (gI g, 10, .inl (fun z9 => nI (sb z9)))), (m10, .inl (gI g, 10, .inl (fun z9 => nI (sf z9)))), (m11, .inl (gI g, 10, .inl (fun z9 => nI (ss z9)))), (m12, .inl (gI g, 10, .inl (fun z9 => nI (sw z9)))), (m13, .inl (gI g, 256, .inl (fun z9 => nI (ways z9)))), (m14, .inl (gI g, 8, .inl (fun z9 => nI (chain z9)))), (m15, .inl (gI g, 5, .inl (fun z9 => nI (row z9)))), (m16, .inl (gI g, 5, .inl (fun z9 => nI (best z9))))] := by
    intro k4
    induction k4 using Nat.strongRecOn with
    | _ k4 ih4 =>
      intro i hm4 hi
      refine v_iload_n3 h dX8_sumOf_4 ?_
      refine v_aload_n0 h dX8_sumOf_5 ?_
      refine v_get h mw_X8 0 rfl rfl 5 (by decide) mf_X8_68 rfl dX8_sumOf_6 ?_
      refine v_icmp_geN h dX8_sumOf_9 (tgt := 40) (by decide) (by omega) (by omega) (fun c9 => ?_) (fun c9 => ?_)
      · refine v_iload_n2 h dX8_sumOf_40 ?_
        exact v_iret h hr dX8_sumOf_41 (by rw [show i = n by omega]) rfl
      · refine v_iload_n2 h dX8_sumOf_12 ?_
        refine v_iload_n1 h dX8_sumOf_13 ?_
        refine v_iload_n3 h dX8_sumOf_14 ?_
        refine v_ishrN h dX8_sumOf_15 (by omega) (by omega) ?_
        refine v_iconst h (v := nI 1) dX8_sumOf_16 (by decide) ?_
        refine v_iandN h dX8_sumOf_17 ?_
        refine v_iconst h (v := nI 1) dX8_sumOf_18 (by decide) ?_
        refine v_icmp_neN h dX8_sumOf_19 (tgt := 31) (by decide) (by first | exact and1_lt _ | decide) (by first | exact and1_lt _ | decide) (fun c19 => ?_) (fun c19 => ?_)
        · refine v_iconst h (v := nI 0) dX8_sumOf_31 (by decide) ?_
          refine v_iaddN h dX8_sumOf_32 ?_
          refine v_istore_n2 h (Nat.le_of_ble_eq_true rfl) dX8_sumOf_33 ?_
          refine v_iincN3 h (Nat.le_of_ble_eq_true rfl) dX8_sumOf_34 ?_
          refine v_goto h dX8_sumOf_37 (tgt := 4) (by decide) ?_
          exact vM.fg (ih4 _ (by omega) (i + 1) rfl (by first | assumption | rfl | omega)) ⟨rfl, rfl, (by first | (rw [sumTo, if_pos (testBit_of c19)]; done) | (rw [sumTo, if_neg (by rw [testBit_no c19]; decide)]; done)), rfl, trivial⟩
        · refine v_aload_n0 h dX8_sumOf_22 ?_
          refine v_get h mw_X8 0 rfl rfl 6 (by decide) mf_X8_19 rfl dX8_sumOf_23 ?_
          refine v_iload_n3 h dX8_sumOf_26 ?_
          refine v_ialdN h 4 rfl (by omega) (Nat.le_of_ble_eq_true rfl) dX8_sumOf_27 ?_
          refine v_goto h dX8_sumOf_28 (tgt := 32) (by decide) ?_
          refine v_iaddN h dX8_sumOf_32 ?_
          refine v_istore_n2 h (Nat.le_of_ble_eq_true rfl) dX8_sumOf_33 ?_
          refine v_iincN3 h (Nat.le_of_ble_eq_true rfl) dX8_sumOf_34 ?_
          refine v_goto h dX8_sumOf_37 (tgt := 4) (by decide) ?_
          exact vM.fg (ih4 _ (by omega) (i + 1) rfl (by first | assumption | rfl | omega)) ⟨rfl, rfl, (by first | (rw [sumTo, if_pos (testBit_of c19)]; done) | (rw [sumTo, if_neg (by rw [testBit_no c19]; decide)]; done)), rfl, trivial⟩
  exact vM.fg (L4 _ 0 rfl (by first | assumption | rfl | omega)) ⟨rfl, rfl, rfl, rfl, trivial⟩
set_option maxRecDepth 20000 in
set_option maxHeartbeats 2000000 in
theorem c_X8_areEven {g : vG} {m0 m1 m2 m3 m4 m5 m6 m7 m8 m9 m10 m11 m12 m13 m14 m15 m16 : Nat} {fl : Nat} {tr : Int32} {msrt : Nat → Int32} {len : Nat → Nat} {mc : Nat → Int32} {n : Nat} {w : Nat → Nat} {atp : Nat} {rt : Nat} {rwt : Nat → Nat} {hn : Nat} {kd : Nat → Nat} {pt : Nat → Nat} {far : Nat → Int32} {sn : Nat} {sb : Nat → Nat} {sf : Nat → Nat} {ss : Nat → Nat} {sw : Nat → Nat} {ways : Nat → Nat} {chain : Nat → Nat} {row : Nat → Nat} {best : Nat → Nat} {j : Nat} {a : Nat} {b : Nat} (hT : wfT n w) (hH : wfH hn kd pt) (hj : j < hn) (ha : a < 2 ^ 31) (hb : b < 2 ^ 31) : Ct g yX8_areEven cX8_areEven 4 (some .boolean) (rmOf 2 45) [(m0, .inr (7, [.int (nI fl), .int tr, .ref m1, .ref m2, .ref m3, .int (nI n), .ref m4, .int (nI atp), .int (nI rt), .ref m5, .int (nI hn), .ref m6, .ref m7, .ref m8, .int (nI sn), .ref m9, .ref m10, .ref m11, .ref m12, .ref m13, .ref m14, .ref m15, .ref m16])), (m1, .inl (gI g, 4, .inl msrt)), (m2, .inl (gI g, 4, .inl (fun z9 => nI (len z9)))), (m3, .inl (gI g, 160, .inl mc)), (m4, .inl (gI g, 8, .inl (fun z9 => nI (w z9)))), (m5, .inl (gI g, 8, .inl (fun z9 => nI (rwt z9)))), (m6, .inl (gI g, 6, .inl (fun z9 => nI (kd z9)))), (m7, .inl (gI g, 6, .inl (fun z9 => nI (pt z9)))), (m8, .inl (gI g, 8, .inl far)), (m9, .inl (gI g, 10, .inl (fun z9 => nI (sb z9)))), (m10, .inl (gI g, 10, .inl (fun z9 => nI (sf z9)))), (m11, .inl (gI g, 10, .inl (fun z9 => nI (ss z9)))), (m12, .inl (gI g, 10, .inl (fun z9 => nI (sw z9)))), (m13, .inl (gI g, 256, .inl (fun z9 => nI (ways z9)))), (m14, .inl (gI g, 8, .inl (fun z9 => nI (chain z9)))), (m15, .inl (gI g, 5, .inl (fun z9 => nI (row z9)))), (m16, .inl (gI g, 5, .inl (fun z9 => nI (best z9))))] [.ref m0, .int (nI j), .int (nI a), .int (nI b)] (some (.int (nI (bN (alk (kd j) (pt j) (sumTo (fun z => if (a).testBit z then w z else 0) n) (sumTo (fun z => if (b).testBit z then w z else 0) n)))))) [(m0, .inr (7, [.int (nI fl), .int tr, .ref m1, .ref m2, .ref m3, .int (nI n), .ref m4, .int (nI atp), .int (nI rt), .ref m5, .int (nI hn), .ref m6, .ref m7, .ref m8, .int (nI sn), .ref m9, .ref m10, .ref m11, .ref m12, .ref m13, .ref m14, .ref m15, .ref m16])), (m1, .inl (gI g, 4, .inl msrt)), (m2, .inl (gI g, 4, .inl (fun z9 => nI (len z9)))), (m3, .inl (gI g, 160, .inl mc)), (m4, .inl (gI g, 8, .inl (fun z9 => nI (w z9)))), (m5, .inl (gI g, 8, .inl (fun z9 => nI (rwt z9)))), (m6, .inl (gI g, 6, .inl (fun z9 => nI (kd z9)))), (m7, .inl (gI g, 6, .inl (fun z9 => nI (pt z9)))), (m8, .inl (gI g, 8, .inl far)), (m9, .inl (gI g, 10, .inl (fun z9 => nI (sb z9)))), (m10, .inl (gI g, 10, .inl (fun z9 => nI (sf z9)))), (m11, .inl (gI g, 10, .inl (fun z9 => nI (ss z9)))), (m12, .inl (gI g, 10, .inl (fun z9 => nI (sw z9)))), (m13, .inl (gI g, 256, .inl (fun z9 => nI (ways z9)))), (m14, .inl (gI g, 8, .inl (fun z9 => nI (chain z9)))), (m15, .inl (gI g, 5, .inl (fun z9 => nI (row z9)))), (m16, .inl (gI g, 5, .inl (fun z9 => nI (best z9))))] := by
  refine Ct.ofV RX8 rfl (by decide +kernel) rfl rfl rfl (Nat.le_of_ble_eq_true rfl) (List.forall_mem_cons.mpr ⟨rfl, (List.forall_mem_cons.mpr ⟨rfl, (List.forall_mem_cons.mpr ⟨rfl, (List.forall_mem_cons.mpr ⟨rfl, (fun _ h9 => absurd h9 List.not_mem_nil)⟩)⟩)⟩)⟩) (fun x h hr => ?_)
  show vM x 0 [some (.ref m0), some (.int (nI j)), some (.int (nI a)), some (.int (nI b))] [] [(m0, .inr (7, [.int (nI fl), .int tr, .ref m1, .ref m2, .ref m3, .int (nI n), .ref m4, .int (nI atp), .int (nI rt), .ref m5, .int (nI hn), .ref m6, .ref m7, .ref m8, .int (nI sn), .ref m9, .ref m10, .ref m11, .ref m12, .ref m13, .ref m14, .ref m15, .ref m16])), (m1, .inl (gI g, 4, .inl msrt)), (m2, .inl (gI g, 4, .inl (fun z9 => nI (len z9)))), (m3, .inl (gI g, 160, .inl mc)), (m4, .inl (gI g, 8, .inl (fun z9 => nI (w z9)))), (m5, .inl (gI g, 8, .inl (fun z9 => nI (rwt z9)))), (m6, .inl (gI g, 6, .inl (fun z9 => nI (kd z9)))), (m7, .inl (gI g, 6, .inl (fun z9 => nI (pt z9)))), (m8, .inl (gI g, 8, .inl far)), (m9, .inl (gI g, 10, .inl (fun z9 => nI (sb z9)))), (m10, .inl (gI g, 10, .inl (fun z9 => nI (sf z9)))), (m11, .inl (gI g, 10, .inl (fun z9 => nI (ss z9)))), (m12, .inl (gI g, 10, .inl (fun z9 => nI (sw z9)))), (m13, .inl (gI g, 256, .inl (fun z9 => nI (ways z9)))), (m14, .inl (gI g, 8, .inl (fun z9 => nI (chain z9)))), (m15, .inl (gI g, 5, .inl (fun z9 => nI (row z9)))), (m16, .inl (gI g, 5, .inl (fun z9 => nI (best z9))))]
  have ht1 := hT.1; have ht2 := hT.2.1; have ht3 := hT.2.2; have hh1 := hH.1; have hh2 := hH.2.1; have hh3 := hH.2.2.1; have hh4 := hH.2.2.2
  refine v_aload_n0 h dX8_areEven_0 ?_
  refine v_iload_n1 h dX8_areEven_1 ?_
  refine v_aload_n0 h dX8_areEven_2 ?_
  refine v_iload_n2 h dX8_areEven_3 ?_
  refine cw_V_0_1_2_3_4_5_6_7_8_9_10_11_12_13_14_15_16_1_i (ci := 7) h (c_X8_sumOf (g := g) (by first | assumption | omega) (by first | assumption | omega)) lk_X8_178 ⟨rfl, rfl, (Nat.le_of_ble_eq_true rfl), (Nat.le_of_ble_eq_true rfl)⟩ rfl rfl rfl (Nat.le_of_ble_eq_true rfl) dX8_areEven_4 ?_
  refine v_aload_n0 h dX8_areEven_7 ?_
  refine v_iload_n3 h dX8_areEven_8 ?_
  refine cw_V_0_1_2_3_4_5_6_7_8_9_10_11_12_13_14_15_16_1_i (ci := 7) h (c_X8_sumOf (g := g) (by first | assumption | omega) (by first | assumption | omega)) lk_X8_178 ⟨rfl, rfl, (Nat.le_of_ble_eq_true rfl), (Nat.le_of_ble_eq_true rfl)⟩ rfl rfl rfl (Nat.le_of_ble_eq_true rfl) dX8_areEven_9 ?_
  refine cw_V_0_1_2_3_4_5_6_7_8_9_10_11_12_13_14_15_16_3_i (ci := 7) h (c_X8_isTold (g := g) (by first | assumption | omega) (by first | assumption | omega) (by exact sumW_le ht2 ht1) (by exact sumW_le ht2 ht1)) lk_X8_113 ⟨rfl, rfl, (Nat.le_of_ble_eq_true rfl), (Nat.le_of_ble_eq_true rfl)⟩ rfl rfl rfl (Nat.le_of_ble_eq_true rfl) dX8_areEven_12 ?_
  refine v_if_neB h dX8_areEven_15 (tgt := 40) (by decide) (fun c15 => ?_) (fun c15 => ?_)
  · refine v_iconst h (v := nI 0) dX8_areEven_40 (by decide) ?_
    exact v_zret (v := false) h hr dX8_areEven_41 (by first | exact (alk_t c15 c33).symm | exact (alk_f1 c15).symm | exact (alk_f2 c33).symm) rfl
  · refine v_aload_n0 h dX8_areEven_18 ?_
    refine v_iload_n1 h dX8_areEven_19 ?_
    refine v_aload_n0 h dX8_areEven_20 ?_
    refine v_iload_n3 h dX8_areEven_21 ?_
    refine cw_V_0_1_2_3_4_5_6_7_8_9_10_11_12_13_14_15_16_1_i (ci := 7) h (c_X8_sumOf (g := g) (by first | assumption | omega) (by first | assumption | omega)) lk_X8_178 ⟨rfl, rfl, (Nat.le_of_ble_eq_true rfl), (Nat.le_of_ble_eq_true rfl)⟩ rfl rfl rfl (Nat.le_of_ble_eq_true rfl) dX8_areEven_22 ?_
    refine v_aload_n0 h dX8_areEven_25 ?_
    refine v_iload_n2 h dX8_areEven_26 ?_
    refine cw_V_0_1_2_3_4_5_6_7_8_9_10_11_12_13_14_15_16_1_i (ci := 7) h (c_X8_sumOf (g := g) (by first | assumption | omega) (by first | assumption | omega)) lk_X8_178 ⟨rfl, rfl, (Nat.le_of_ble_eq_true rfl), (Nat.le_of_ble_eq_true rfl)⟩ rfl rfl rfl (Nat.le_of_ble_eq_true rfl) dX8_areEven_27 ?_
    refine cw_V_0_1_2_3_4_5_6_7_8_9_10_11_12_13_14_15_16_3_i (ci := 7) h (c_X8_isTold (g := g) (by first | assumption | omega) (by first | assumption | omega) (by exact sumW_le ht2 ht1) (by exact sumW_le ht2 ht1)) lk_X8_113 ⟨rfl, rfl, (Nat.le_of_ble_eq_true rfl), (Nat.le_of_ble_eq_true rfl)⟩ rfl rfl rfl (Nat.le_of_ble_eq_true rfl) dX8_areEven_30 ?_
    refine v_if_neB h dX8_areEven_33 (tgt := 40) (by decide) (fun c33 => ?_) (fun c33 => ?_)
    · refine v_iconst h (v := nI 0) dX8_areEven_40 (by decide) ?_
      exact v_zret (v := false) h hr dX8_areEven_41 (by first | exact (alk_t c15 c33).symm | exact (alk_f1 c15).symm | exact (alk_f2 c33).symm) rfl
    · refine v_iconst h (v := nI 1) dX8_areEven_36 (by decide) ?_
      refine v_goto h dX8_areEven_37 (tgt := 41) (by decide) ?_
      exact v_zret (v := true) h hr dX8_areEven_41 (by first | exact (alk_t c15 c33).symm | exact (alk_f1 c15).symm | exact (alk_f2 c33).symm) rfl
def P_X8_even (g : vG) (m0 m1 m2 m3 m4 m5 m6 m7 m8 m9 m10 m11 m12 m13 m14 m15 m16 : Nat) (fl : Nat) (tr : Int32) (msrt : Nat → Int32) (len : Nat → Nat) (mc : Nat → Int32) (n : Nat) (w : Nat → Nat) (atp : Nat) (rt : Nat) (rwt : Nat → Nat) (hn : Nat) (kd : Nat → Nat) (pt : Nat → Nat) (far : Nat → Int32) (sn : Nat) (sb : Nat → Nat) (sf : Nat → Nat) (ss : Nat → Nat) (sw : Nat → Nat) (ways : Nat → Nat) (chain : Nat → Nat) (row : Nat → Nat) (best : Nat → Nat) (p0 : Int32) (p1 : Int32) : Option Value → va_W → Prop := fun r wo => r = some (.int (s_even n w hn kd pt p0 p1)) ∧ wo = [(m0, .inr (7, [.int (nI fl), .int tr, .ref m1, .ref m2, .ref m3, .int (nI n), .ref m4, .int (nI atp), .int (nI rt), .ref m5, .int (nI hn), .ref m6, .ref m7, .ref m8, .int (nI sn), .ref m9, .ref m10, .ref m11, .ref m12, .ref m13, .ref m14, .ref m15, .ref m16])), (m1, .inl (gI g, 4, .inl msrt)), (m2, .inl (gI g, 4, .inl (fun z9 => nI (len z9)))), (m3, .inl (gI g, 160, .inl mc)), (m4, .inl (gI g, 8, .inl (fun z9 => nI (w z9)))), (m5, .inl (gI g, 8, .inl (fun z9 => nI (rwt z9)))), (m6, .inl (gI g, 6, .inl (fun z9 => nI (kd z9)))), (m7, .inl (gI g, 6, .inl (fun z9 => nI (pt z9)))), (m8, .inl (gI g, 8, .inl far)), (m9, .inl (gI g, 10, .inl (fun z9 => nI (sb z9)))), (m10, .inl (gI g, 10, .inl (fun z9 => nI (sf z9)))), (m11, .inl (gI g, 10, .inl (fun z9 => nI (ss z9)))), (m12, .inl (gI g, 10, .inl (fun z9 => nI (sw z9)))), (m13, .inl (gI g, 256, .inl (fun z9 => nI (ways z9)))), (m14, .inl (gI g, 8, .inl (fun z9 => nI (chain z9)))), (m15, .inl (gI g, 5, .inl (fun z9 => nI (row z9)))), (m16, .inl (gI g, 5, .inl (fun z9 => nI (best z9))))]
theorem P_X8_even_mk {g : vG} {m0 m1 m2 m3 m4 m5 m6 m7 m8 m9 m10 m11 m12 m13 m14 m15 m16 : Nat} {fl : Nat} {tr : Int32} {msrt : Nat → Int32} {len : Nat → Nat} {mc : Nat → Int32} {n : Nat} {w : Nat → Nat} {atp : Nat} {rt : Nat} {rwt : Nat → Nat} {hn : Nat} {kd : Nat → Nat} {pt : Nat → Nat} {far : Nat → Int32} {sn : Nat} {sb : Nat → Nat} {sf : Nat → Nat} {ss : Nat → Nat} {sw : Nat → Nat} {ways : Nat → Nat} {chain : Nat → Nat} {row : Nat → Nat} {best : Nat → Nat} {p0 : Int32} {p1 : Int32}  {q : Int32} (hs : s_even n w hn kd pt p0 p1 = q)  : P_X8_even g m0 m1 m2 m3 m4 m5 m6 m7 m8 m9 m10 m11 m12 m13 m14 m15 m16 fl tr msrt len mc n w atp rt rwt hn kd pt far sn sb sf ss sw ways chain row best p0 p1 (some (.int q)) [(m0, .inr (7, [.int (nI fl), .int tr, .ref m1, .ref m2, .ref m3, .int (nI n), .ref m4, .int (nI atp), .int (nI rt), .ref m5, .int (nI hn), .ref m6, .ref m7, .ref m8, .int (nI sn), .ref m9, .ref m10, .ref m11, .ref m12, .ref m13, .ref m14, .ref m15, .ref m16])), (m1, .inl (gI g, 4, .inl msrt)), (m2, .inl (gI g, 4, .inl (fun z9 => nI (len z9)))), (m3, .inl (gI g, 160, .inl mc)), (m4, .inl (gI g, 8, .inl (fun z9 => nI (w z9)))), (m5, .inl (gI g, 8, .inl (fun z9 => nI (rwt z9)))), (m6, .inl (gI g, 6, .inl (fun z9 => nI (kd z9)))), (m7, .inl (gI g, 6, .inl (fun z9 => nI (pt z9)))), (m8, .inl (gI g, 8, .inl far)), (m9, .inl (gI g, 10, .inl (fun z9 => nI (sb z9)))), (m10, .inl (gI g, 10, .inl (fun z9 => nI (sf z9)))), (m11, .inl (gI g, 10, .inl (fun z9 => nI (ss z9)))), (m12, .inl (gI g, 10, .inl (fun z9 => nI (sw z9)))), (m13, .inl (gI g, 256, .inl (fun z9 => nI (ways z9)))), (m14, .inl (gI g, 8, .inl (fun z9 => nI (chain z9)))), (m15, .inl (gI g, 5, .inl (fun z9 => nI (row z9)))), (m16, .inl (gI g, 5, .inl (fun z9 => nI (best z9))))] := by subst hs; exact ⟨rfl, rfl⟩
set_option maxRecDepth 20000 in
set_option maxHeartbeats 4000000 in
theorem c_X8_even {g : vG} {m0 m1 m2 m3 m4 m5 m6 m7 m8 m9 m10 m11 m12 m13 m14 m15 m16 : Nat} {fl : Nat} {tr : Int32} {msrt : Nat → Int32} {len : Nat → Nat} {mc : Nat → Int32} {n : Nat} {w : Nat → Nat} {atp : Nat} {rt : Nat} {rwt : Nat → Nat} {hn : Nat} {kd : Nat → Nat} {pt : Nat → Nat} {far : Nat → Int32} {sn : Nat} {sb : Nat → Nat} {sf : Nat → Nat} {ss : Nat → Nat} {sw : Nat → Nat} {ways : Nat → Nat} {chain : Nat → Nat} {row : Nat → Nat} {best : Nat → Nat} {p0 : Int32} {p1 : Int32} (hT : wfT n w) (hH : wfH hn kd pt) (hn2 : hn = 0 ∨ 2 ≤ n) : CtP g yX8_even cX8_even 8 (some .int) (rmOf 3 68) [(m0, .inr (7, [.int (nI fl), .int tr, .ref m1, .ref m2, .ref m3, .int (nI n), .ref m4, .int (nI atp), .int (nI rt), .ref m5, .int (nI hn), .ref m6, .ref m7, .ref m8, .int (nI sn), .ref m9, .ref m10, .ref m11, .ref m12, .ref m13, .ref m14, .ref m15, .ref m16])), (m1, .inl (gI g, 4, .inl msrt)), (m2, .inl (gI g, 4, .inl (fun z9 => nI (len z9)))), (m3, .inl (gI g, 160, .inl mc)), (m4, .inl (gI g, 8, .inl (fun z9 => nI (w z9)))), (m5, .inl (gI g, 8, .inl (fun z9 => nI (rwt z9)))), (m6, .inl (gI g, 6, .inl (fun z9 => nI (kd z9)))), (m7, .inl (gI g, 6, .inl (fun z9 => nI (pt z9)))), (m8, .inl (gI g, 8, .inl far)), (m9, .inl (gI g, 10, .inl (fun z9 => nI (sb z9)))), (m10, .inl (gI g, 10, .inl (fun z9 => nI (sf z9)))), (m11, .inl (gI g, 10, .inl (fun z9 => nI (ss z9)))), (m12, .inl (gI g, 10, .inl (fun z9 => nI (sw z9)))), (m13, .inl (gI g, 256, .inl (fun z9 => nI (ways z9)))), (m14, .inl (gI g, 8, .inl (fun z9 => nI (chain z9)))), (m15, .inl (gI g, 5, .inl (fun z9 => nI (row z9)))), (m16, .inl (gI g, 5, .inl (fun z9 => nI (best z9))))] [.ref m0, .int p0, .int p1] (P_X8_even g m0 m1 m2 m3 m4 m5 m6 m7 m8 m9 m10 m11 m12 m13 m14 m15 m16 fl tr msrt len mc n w atp rt rwt hn kd pt far sn sb sf ss sw ways chain row best p0 p1) := by
  refine CtP.ofV RX8 rfl (by decide +kernel) rfl rfl (Nat.le_of_ble_eq_true rfl) (List.forall_mem_cons.mpr ⟨rfl, (List.forall_mem_cons.mpr ⟨rfl, (List.forall_mem_cons.mpr ⟨rfl, (fun _ h9 => absurd h9 List.not_mem_nil)⟩)⟩)⟩) (fun x h hr => ?_)
  show vM x 0 [some (.ref m0), some (.int p0), some (.int p1), none, none, none, none, none] [] [(m0, .inr (7, [.int (nI fl), .int tr, .ref m1, .ref m2, .ref m3, .int (nI n), .ref m4, .int (nI atp), .int (nI rt), .ref m5, .int (nI hn), .ref m6, .ref m7, .ref m8, .int (nI sn), .ref m9, .ref m10, .ref m11, .ref m12, .ref m13, .ref m14, .ref m15, .ref m16])), (m1, .inl (gI g, 4, .inl msrt)), (m2, .inl (gI g, 4, .inl (fun z9 => nI (len z9)))), (m3, .inl (gI g, 160, .inl mc)), (m4, .inl (gI g, 8, .inl (fun z9 => nI (w z9)))), (m5, .inl (gI g, 8, .inl (fun z9 => nI (rwt z9)))), (m6, .inl (gI g, 6, .inl (fun z9 => nI (kd z9)))), (m7, .inl (gI g, 6, .inl (fun z9 => nI (pt z9)))), (m8, .inl (gI g, 8, .inl far)), (m9, .inl (gI g, 10, .inl (fun z9 => nI (sb z9)))), (m10, .inl (gI g, 10, .inl (fun z9 => nI (sf z9)))), (m11, .inl (gI g, 10, .inl (fun z9 => nI (ss z9)))), (m12, .inl (gI g, 10, .inl (fun z9 => nI (sw z9)))), (m13, .inl (gI g, 256, .inl (fun z9 => nI (ways z9)))), (m14, .inl (gI g, 8, .inl (fun z9 => nI (chain z9)))), (m15, .inl (gI g, 5, .inl (fun z9 => nI (row z9)))), (m16, .inl (gI g, 5, .inl (fun z9 => nI (best z9))))]
  have ht1 := hT.1; have ht2 := hT.2.1; have ht3 := hT.2.2; have hh1 := hH.1; have hh2 := hH.2.1; have hh3 := hH.2.2.1; have hh4 := hH.2.2.2; have hp8 := pow8' ht1
  refine v_aload_n0 h dX8_even_0 ?_
  refine v_iload_n1 h dX8_even_1 ?_
  refine cw_V_0_1_2_3_4_5_6_7_8_9_10_11_12_13_14_15_16_1_i (ci := 7) h (c_X8_isHand (g := g)) lk_X8_107 ⟨rfl, rfl, (Nat.le_of_ble_eq_true rfl), (Nat.le_of_ble_eq_true rfl)⟩ rfl rfl rfl (Nat.le_of_ble_eq_true rfl) dX8_even_2 ?_
  refine v_if_neB h dX8_even_5 (tgt := 10) (by decide) (fun c5 => ?_) (fun c5 => ?_)
  · obtain ⟨j0, hj0, rfl⟩ := inR_of c5 (by omega)
    have e5 := rN_N hj0 (by omega)
    refine v_iload_n2 h dX8_even_10 ?_
    refine v_iconst h (v := nI 0) dX8_even_11 (by decide) ?_
    refine v_iconst h (v := nI 1) dX8_even_12 (by decide) ?_
    refine cw_S_e_3_i h (c_X8_within (g := g)) lk_X8_64 ⟨rfl, rfl, (Nat.le_of_ble_eq_true rfl), (Nat.le_of_ble_eq_true rfl)⟩ (Nat.le_of_ble_eq_true rfl) dX8_even_13 ?_
    refine v_if_neB h dX8_even_16 (tgt := 22) (by decide) (fun c16 => ?_) (fun c16 => ?_)
    · obtain ⟨j1, hj1a, hj1, rfl⟩ := wi_of c16 (by decide) (by decide)
      have e16 := rW_N hj1a hj1 (by decide)
      refine v_bipush h (v := -9) dX8_even_22 (by decide) ?_
      refine v_istore_n3 h (Nat.le_of_ble_eq_true rfl) dX8_even_24 ?_
      refine v_bipush h (v := -9) dX8_even_25 (by decide) ?_
      refine v_istore4 h (Nat.le_of_ble_eq_true rfl) dX8_even_27 ?_
      refine v_iconst h (v := nI 0) dX8_even_29 (by decide) ?_
      refine v_istore5 h (Nat.le_of_ble_eq_true rfl) dX8_even_30 ?_
      refine v_iconst h (v := nI 1) dX8_even_32 (by decide) ?_
      refine v_istore6 h (Nat.le_of_ble_eq_true rfl) dX8_even_33 ?_
      have L35 : ∀ (k35 : Nat) (a : Nat), 2 ^ n - a = k35 → (a ≤ 2 ^ n - 1) → vM x 35 [some (.ref m0), some (.int (nI j0)), some (.int (nI j1)), some (.int ((evO w kd pt n j0 a).1)), some (.int ((evO w kd pt n j0 a).2.1)), some (.int (nI ((evO w kd pt n j0 a).2.2))), some (.int (nI (a + 1))), none] [] [(m0, .inr (7, [.int (nI fl), .int tr, .ref m1, .ref m2, .ref m3, .int (nI n), .ref m4, .int (nI atp), .int (nI rt), .ref m5, .int (nI hn), .ref m6, .ref m7, .ref m8, .int (nI sn), .ref m9, .ref m10, .ref m11, .ref m12, .ref m13, .ref m14, .ref m15, .ref m16])), (m1, .inl (gI g, 4, .inl msrt)), (m2, .inl (gI g, 4, .inl (fun z9 => nI (len z9)))), (m3, .inl (gI g, 160, .inl mc)), (m4, .inl (gI g, 8, .inl (fun z9 => nI (w z9)))), (m5, .inl (gI g, 8, .inl (fun z9 => nI (rwt z9)))), (m6, .inl (gI g, 6, .inl (fun z9 => nI (kd z9)))), (m7, .inl (gI g, 6, .inl (fun z9 => nI (pt z9)))), (m8, .inl (gI g, 8, .inl far)), (m9, .inl (gI g, 10, .inl (fun z9 => nI (sb z9)))), (m10, .inl (gI g, 10, .inl (fun z9 => nI (sf z9)))), (m11, .inl (gI g, 10, .inl (fun z9 => nI (ss z9)))), (m12, .inl (gI g, 10, .inl (fun z9 => nI (sw z9)))), (m13, .inl (gI g, 256, .inl (fun z9 => nI (ways z9)))), (m14, .inl (gI g, 8, .inl (fun z9 => nI (chain z9)))), (m15, .inl (gI g, 5, .inl (fun z9 => nI (row z9)))), (m16, .inl (gI g, 5, .inl (fun z9 => nI (best z9))))] := by
        intro k35
        induction k35 using Nat.strongRecOn with
        | _ k35 ih35 =>
          intro a hm35 ha
          refine v_iload6 h dX8_even_35 ?_
          refine v_iconst h (v := nI 1) dX8_even_37 (by decide) ?_
          refine v_aload_n0 h dX8_even_38 ?_
          refine v_get h mw_X8 0 rfl rfl 5 (by decide) mf_X8_68 rfl dX8_even_39 ?_
          refine v_ishlN h dX8_even_42 (by omega) ?_
          refine v_icmp_geN h dX8_even_43 (tgt := 131) (by decide) (by omega) (by omega) (fun c43 => ?_) (fun c43 => ?_)
          · have e47 : 2 ^ n - 1 = a := by have := pow_pos' n; omega
            refine v_iload_n2 h dX8_even_131 ?_
            refine v_if_neN h dX8_even_132 (tgt := 139) (by decide) (by omega) (fun c132 => ?_) (fun c132 => ?_)
            · refine v_iload4 h dX8_even_139 ?_
              exact v_iretP h hr dX8_even_141 (P_X8_even_mk (q := _) (by simp only [s_even, e5, e16, e47, if_neg (show ¬ j1 = 0 by omega)]) ) rfl
            · refine v_iload_n3 h dX8_even_135 ?_
              refine v_goto h dX8_even_136 (tgt := 141) (by decide) ?_
              exact v_iretP h hr dX8_even_141 (P_X8_even_mk (q := _) (by simp only [s_even, e5, e16, e47, if_pos c132]) ) rfl
          · refine v_iload6 h dX8_even_46 ?_
            refine v_iconst h (v := nI 1) dX8_even_48 (by decide) ?_
            refine v_iaddN h dX8_even_49 ?_
            refine v_istore7 h (Nat.le_of_ble_eq_true rfl) dX8_even_50 ?_
            have L52 : ∀ (k52 : Nat) (b : Nat), 2 ^ n - b = k52 → (b ≤ 2 ^ n - 1 - (a + 1)) → vM x 52 [some (.ref m0), some (.int (nI j0)), some (.int (nI j1)), some (.int ((evI w kd pt n j0 (a + 1) (evO w kd pt n j0 a) b).1)), some (.int ((evI w kd pt n j0 (a + 1) (evO w kd pt n j0 a) b).2.1)), some (.int (nI ((evI w kd pt n j0 (a + 1) (evO w kd pt n j0 a) b).2.2))), some (.int (nI (a + 1))), some (.int (nI (a + 1 + 1 + b)))] [] [(m0, .inr (7, [.int (nI fl), .int tr, .ref m1, .ref m2, .ref m3, .int (nI n), .ref m4, .int (nI atp), .int (nI rt), .ref m5, .int (nI hn), .ref m6, .ref m7, .ref m8, .int (nI sn), .ref m9, .ref m10, .ref m11, .ref m12, .ref m13, .ref m14, .ref m15, .ref m16])), (m1, .inl (gI g, 4, .inl msrt)), (m2, .inl (gI g, 4, .inl (fun z9 => nI (len z9)))), (m3, .inl (gI g, 160, .inl mc)), (m4, .inl (gI g, 8, .inl (fun z9 => nI (w z9)))), (m5, .inl (gI g, 8, .inl (fun z9 => nI (rwt z9)))), (m6, .inl (gI g, 6, .inl (fun z9 => nI (kd z9)))), (m7, .inl (gI g, 6, .inl (fun z9 => nI (pt z9)))), (m8, .inl (gI g, 8, .inl far)), (m9, .inl (gI g, 10, .inl (fun z9 => nI (sb z9)))), (m10, .inl (gI g, 10, .inl (fun z9 => nI (sf z9)))), (m11, .inl (gI g, 10, .inl (fun z9 => nI (ss z9)))), (m12, .inl (gI g, 10, .inl (fun z9 => nI (sw z9)))), (m13, .inl (gI g, 256, .inl (fun z9 => nI (ways z9)))), (m14, .inl (gI g, 8, .inl (fun z9 => nI (chain z9)))), (m15, .inl (gI g, 5, .inl (fun z9 => nI (row z9)))), (m16, .inl (gI g, 5, .inl (fun z9 => nI (best z9))))] := by
              intro k52
              induction k52 using Nat.strongRecOn with
              | _ k52 ih52 =>
                intro b hm52 hb
                refine v_iload7 h dX8_even_52 ?_
                refine v_iconst h (v := nI 1) dX8_even_54 (by decide) ?_
                refine v_aload_n0 h dX8_even_55 ?_
                refine v_get h mw_X8 0 rfl rfl 5 (by decide) mf_X8_68 rfl dX8_even_56 ?_
                refine v_ishlN h dX8_even_59 (by omega) ?_
                refine v_icmp_geN h dX8_even_60 (tgt := 125) (by decide) (by omega) (by omega) (fun c60 => ?_) (fun c60 => ?_)
                · have e78 : 2 ^ n - 1 - (a + 1) = b := by omega
                  rw [show (evI w kd pt n j0 (a + 1) (evO w kd pt n j0 a) b) = evO w kd pt n j0 (a + 1) by rw [evO, e78]]
                  refine v_iincN6 h (Nat.le_of_ble_eq_true rfl) dX8_even_125 ?_
                  refine v_goto h dX8_even_128 (tgt := 35) (by decide) ?_
                  exact vM.fg (ih35 _ (by omega) (a + 1) rfl (by first | assumption | rfl | omega)) ⟨rfl, rfl, rfl, rfl, rfl, rfl, rfl, trivial⟩
                · refine v_iload6 h dX8_even_63 ?_
                  refine v_iload7 h dX8_even_65 ?_
                  refine v_iandN h dX8_even_67 ?_
                  refine v_if_neN h dX8_even_68 (tgt := 119) (by decide) (by exact Nat.lt_of_le_of_lt Nat.and_le_left (by omega)) (fun c68 => ?_) (fun c68 => ?_)
                  · have g9 : (evI w kd pt n j0 (a + 1) (evO w kd pt n j0 a) (b + 1)) = (evI w kd pt n j0 (a + 1) (evO w kd pt n j0 a) b) := if_neg (fun z => by have := z.1; omega)
                    refine v_iincN7 h (Nat.le_of_ble_eq_true rfl) dX8_even_119 ?_
                    refine v_goto h dX8_even_122 (tgt := 52) (by decide) ?_
                    exact vM.fg (ih52 _ (by omega) (b + 1) rfl (by first | assumption | rfl | omega)) ⟨rfl, rfl, rfl, (by exact congrArg (fun y => some (Value.int y)) (congrArg Prod.fst g9).symm), (by exact congrArg (fun y => some (Value.int y)) (congrArg (fun y => y.2.1) g9).symm), (by exact congrArg (fun y => some (Value.int (nI y))) (by rw [g9]; all_goals exact (popN_or c68).symm)), rfl, rfl, trivial⟩
                  · refine v_iload6 h dX8_even_71 ?_
                    refine cw_S_e_1_i h (c_X8_bits (g := g) (by first | assumption | omega)) lk_X8_149 ⟨rfl, rfl, (Nat.le_of_ble_eq_true rfl), (Nat.le_of_ble_eq_true rfl)⟩ (Nat.le_of_ble_eq_true rfl) dX8_even_73 ?_
                    refine v_iload7 h dX8_even_76 ?_
                    refine cw_S_e_1_i h (c_X8_bits (g := g) (by first | assumption | omega)) lk_X8_149 ⟨rfl, rfl, (Nat.le_of_ble_eq_true rfl), (Nat.le_of_ble_eq_true rfl)⟩ (Nat.le_of_ble_eq_true rfl) dX8_even_78 ?_
                    refine v_iaddN h dX8_even_81 ?_
                    refine v_iload5 h dX8_even_82 ?_
                    refine v_icmp_leN h dX8_even_84 (tgt := 119) (by decide) (by first | (have := popN_le (a + 1); have := popN_le (a + 1 + 1 + b); omega) | exact Nat.lt_of_le_of_lt (evI_le (evO_le a) b) (by decide)) (by first | (have := popN_le (a + 1); have := popN_le (a + 1 + 1 + b); omega) | exact Nat.lt_of_le_of_lt (evI_le (evO_le a) b) (by decide)) (fun c84 => ?_) (fun c84 => ?_)
                    · rw [← popN_or c68] at c84
                      have g9 : (evI w kd pt n j0 (a + 1) (evO w kd pt n j0 a) (b + 1)) = (evI w kd pt n j0 (a + 1) (evO w kd pt n j0 a) b) := if_neg (fun z => by have := z.2.1; omega)
                      refine v_iincN7 h (Nat.le_of_ble_eq_true rfl) dX8_even_119 ?_
                      refine v_goto h dX8_even_122 (tgt := 52) (by decide) ?_
                      exact vM.fg (ih52 _ (by omega) (b + 1) rfl (by first | assumption | rfl | omega)) ⟨rfl, rfl, rfl, (by exact congrArg (fun y => some (Value.int y)) (congrArg Prod.fst g9).symm), (by exact congrArg (fun y => some (Value.int y)) (congrArg (fun y => y.2.1) g9).symm), (by exact congrArg (fun y => some (Value.int (nI y))) (by rw [g9]; all_goals exact (popN_or c68).symm)), rfl, rfl, trivial⟩
                    · rw [← popN_or c68] at c84
                      refine v_aload_n0 h dX8_even_87 ?_
                      refine v_iload_n1 h dX8_even_88 ?_
                      refine v_iload6 h dX8_even_89 ?_
                      refine v_iload7 h dX8_even_91 ?_
                      refine cw_V_0_1_2_3_4_5_6_7_8_9_10_11_12_13_14_15_16_3_i (ci := 7) h (c_X8_areEven (g := g) (by first | assumption | omega) (by first | assumption | omega) (by first | assumption | omega) (by omega) (by omega)) lk_X8_181 ⟨rfl, rfl, (Nat.le_of_ble_eq_true rfl), (Nat.le_of_ble_eq_true rfl)⟩ rfl rfl rfl (Nat.le_of_ble_eq_true rfl) dX8_even_93 ?_
                      refine v_if_eqB h dX8_even_96 (tgt := 119) (by decide) (fun c96 => ?_) (fun c96 => ?_)
                      · have g9 : (evI w kd pt n j0 (a + 1) (evO w kd pt n j0 a) (b + 1)) = (evI w kd pt n j0 (a + 1) (evO w kd pt n j0 a) b) := if_neg (fun z => by rw [c96] at z; cases z.2.2)
                        refine v_iincN7 h (Nat.le_of_ble_eq_true rfl) dX8_even_119 ?_
                        refine v_goto h dX8_even_122 (tgt := 52) (by decide) ?_
                        exact vM.fg (ih52 _ (by omega) (b + 1) rfl (by first | assumption | rfl | omega)) ⟨rfl, rfl, rfl, (by exact congrArg (fun y => some (Value.int y)) (congrArg Prod.fst g9).symm), (by exact congrArg (fun y => some (Value.int y)) (congrArg (fun y => y.2.1) g9).symm), (by exact congrArg (fun y => some (Value.int (nI y))) (by rw [g9]; all_goals exact (popN_or c68).symm)), rfl, rfl, trivial⟩
                      · have g9 : (evI w kd pt n j0 (a + 1) (evO w kd pt n j0 a) (b + 1)) = (nI (a + 1), nI (a + 1 + 1 + b), popN ((a + 1) ||| (a + 1 + 1 + b))) := if_pos ⟨c68, c84, c96⟩
                        refine v_iload6 h dX8_even_99 ?_
                        refine cw_S_e_1_i h (c_X8_bits (g := g) (by first | assumption | omega)) lk_X8_149 ⟨rfl, rfl, (Nat.le_of_ble_eq_true rfl), (Nat.le_of_ble_eq_true rfl)⟩ (Nat.le_of_ble_eq_true rfl) dX8_even_101 ?_
                        refine v_iload7 h dX8_even_104 ?_
                        refine cw_S_e_1_i h (c_X8_bits (g := g) (by first | assumption | omega)) lk_X8_149 ⟨rfl, rfl, (Nat.le_of_ble_eq_true rfl), (Nat.le_of_ble_eq_true rfl)⟩ (Nat.le_of_ble_eq_true rfl) dX8_even_106 ?_
                        refine v_iaddN h dX8_even_109 ?_
                        refine v_istore5 h (Nat.le_of_ble_eq_true rfl) dX8_even_110 ?_
                        refine v_iload6 h dX8_even_112 ?_
                        refine v_istore_n3 h (Nat.le_of_ble_eq_true rfl) dX8_even_114 ?_
                        refine v_iload7 h dX8_even_115 ?_
                        refine v_istore4 h (Nat.le_of_ble_eq_true rfl) dX8_even_117 ?_
                        refine v_iincN7 h (Nat.le_of_ble_eq_true rfl) dX8_even_119 ?_
                        refine v_goto h dX8_even_122 (tgt := 52) (by decide) ?_
                        exact vM.fg (ih52 _ (by omega) (b + 1) rfl (by first | assumption | rfl | omega)) ⟨rfl, rfl, rfl, (by exact congrArg (fun y => some (Value.int y)) (congrArg Prod.fst g9).symm), (by exact congrArg (fun y => some (Value.int y)) (congrArg (fun y => y.2.1) g9).symm), (by exact congrArg (fun y => some (Value.int (nI y))) (by rw [g9]; all_goals exact (popN_or c68).symm)), rfl, rfl, trivial⟩
            exact vM.fg (L52 _ 0 rfl (by first | assumption | rfl | omega)) ⟨rfl, rfl, rfl, rfl, rfl, rfl, rfl, rfl, trivial⟩
      exact vM.fg (L35 _ 0 rfl (by first | assumption | rfl | omega)) ⟨rfl, rfl, rfl, rfl, rfl, rfl, rfl, trivial⟩
    · have e16 := wi_no c16
      refine v_bipush h (v := -2) dX8_even_19 (by decide) ?_
      exact v_iretP h hr dX8_even_21 (P_X8_even_mk (q := _) (by simp only [s_even, e5, e16]) ) rfl
  · have e5 := rN_f c5
    refine v_iconst h (v := -1) dX8_even_8 (by decide) ?_
    exact v_iretP h hr dX8_even_9 (P_X8_even_mk (q := _) (by simp only [s_even, e5]) ) rfl
set_option maxRecDepth 20000 in
set_option maxHeartbeats 2000000 in
theorem c_X8_isCrowd {g : vG} {m0 m1 m2 m3 m4 m5 m6 m7 m8 m9 m10 m11 m12 m13 m14 m15 m16 : Nat} {fl : Nat} {tr : Int32} {msrt : Nat → Int32} {len : Nat → Nat} {mc : Nat → Int32} {n : Nat} {w : Nat → Nat} {atp : Nat} {rt : Nat} {rwt : Nat → Nat} {hn : Nat} {kd : Nat → Nat} {pt : Nat → Nat} {far : Nat → Int32} {sn : Nat} {sb : Nat → Nat} {sf : Nat → Nat} {ss : Nat → Nat} {sw : Nat → Nat} {ways : Nat → Nat} {chain : Nat → Nat} {row : Nat → Nat} {best : Nat → Nat} {j : Nat} {a : Nat} (hT : wfT n w) (hH : wfH hn kd pt) (hj : j < hn) (ha : a < 2 ^ 8) : Ct g yX8_isCrowd cX8_isCrowd 4 (some .boolean) (rmOf 5 115) [(m0, .inr (7, [.int (nI fl), .int tr, .ref m1, .ref m2, .ref m3, .int (nI n), .ref m4, .int (nI atp), .int (nI rt), .ref m5, .int (nI hn), .ref m6, .ref m7, .ref m8, .int (nI sn), .ref m9, .ref m10, .ref m11, .ref m12, .ref m13, .ref m14, .ref m15, .ref m16])), (m1, .inl (gI g, 4, .inl msrt)), (m2, .inl (gI g, 4, .inl (fun z9 => nI (len z9)))), (m3, .inl (gI g, 160, .inl mc)), (m4, .inl (gI g, 8, .inl (fun z9 => nI (w z9)))), (m5, .inl (gI g, 8, .inl (fun z9 => nI (rwt z9)))), (m6, .inl (gI g, 6, .inl (fun z9 => nI (kd z9)))), (m7, .inl (gI g, 6, .inl (fun z9 => nI (pt z9)))), (m8, .inl (gI g, 8, .inl far)), (m9, .inl (gI g, 10, .inl (fun z9 => nI (sb z9)))), (m10, .inl (gI g, 10, .inl (fun z9 => nI (sf z9)))), (m11, .inl (gI g, 10, .inl (fun z9 => nI (ss z9)))), (m12, .inl (gI g, 10, .inl (fun z9 => nI (sw z9)))), (m13, .inl (gI g, 256, .inl (fun z9 => nI (ways z9)))), (m14, .inl (gI g, 8, .inl (fun z9 => nI (chain z9)))), (m15, .inl (gI g, 5, .inl (fun z9 => nI (row z9)))), (m16, .inl (gI g, 5, .inl (fun z9 => nI (best z9))))] [.ref m0, .int (nI j), .int (nI a)] (some (.int (nI (bN (allAlk (alkS (kd j) (pt j) w n) n a))))) [(m0, .inr (7, [.int (nI fl), .int tr, .ref m1, .ref m2, .ref m3, .int (nI n), .ref m4, .int (nI atp), .int (nI rt), .ref m5, .int (nI hn), .ref m6, .ref m7, .ref m8, .int (nI sn), .ref m9, .ref m10, .ref m11, .ref m12, .ref m13, .ref m14, .ref m15, .ref m16])), (m1, .inl (gI g, 4, .inl msrt)), (m2, .inl (gI g, 4, .inl (fun z9 => nI (len z9)))), (m3, .inl (gI g, 160, .inl mc)), (m4, .inl (gI g, 8, .inl (fun z9 => nI (w z9)))), (m5, .inl (gI g, 8, .inl (fun z9 => nI (rwt z9)))), (m6, .inl (gI g, 6, .inl (fun z9 => nI (kd z9)))), (m7, .inl (gI g, 6, .inl (fun z9 => nI (pt z9)))), (m8, .inl (gI g, 8, .inl far)), (m9, .inl (gI g, 10, .inl (fun z9 => nI (sb z9)))), (m10, .inl (gI g, 10, .inl (fun z9 => nI (sf z9)))), (m11, .inl (gI g, 10, .inl (fun z9 => nI (ss z9)))), (m12, .inl (gI g, 10, .inl (fun z9 => nI (sw z9)))), (m13, .inl (gI g, 256, .inl (fun z9 => nI (ways z9)))), (m14, .inl (gI g, 8, .inl (fun z9 => nI (chain z9)))), (m15, .inl (gI g, 5, .inl (fun z9 => nI (row z9)))), (m16, .inl (gI g, 5, .inl (fun z9 => nI (best z9))))] := by
  refine Ct.ofV RX8 rfl (by decide +kernel) rfl rfl rfl (Nat.le_of_ble_eq_true rfl) (List.forall_mem_cons.mpr ⟨rfl, (List.forall_mem_cons.mpr ⟨rfl, (List.forall_mem_cons.mpr ⟨rfl, (fun _ h9 => absurd h9 List.not_mem_nil)⟩)⟩)⟩) (fun x h hr => ?_)
  show vM x 0 [some (.ref m0), some (.int (nI j)), some (.int (nI a)), none] [] [(m0, .inr (7, [.int (nI fl), .int tr, .ref m1, .ref m2, .ref m3, .int (nI n), .ref m4, .int (nI atp), .int (nI rt), .ref m5, .int (nI hn), .ref m6, .ref m7, .ref m8, .int (nI sn), .ref m9, .ref m10, .ref m11, .ref m12, .ref m13, .ref m14, .ref m15, .ref m16])), (m1, .inl (gI g, 4, .inl msrt)), (m2, .inl (gI g, 4, .inl (fun z9 => nI (len z9)))), (m3, .inl (gI g, 160, .inl mc)), (m4, .inl (gI g, 8, .inl (fun z9 => nI (w z9)))), (m5, .inl (gI g, 8, .inl (fun z9 => nI (rwt z9)))), (m6, .inl (gI g, 6, .inl (fun z9 => nI (kd z9)))), (m7, .inl (gI g, 6, .inl (fun z9 => nI (pt z9)))), (m8, .inl (gI g, 8, .inl far)), (m9, .inl (gI g, 10, .inl (fun z9 => nI (sb z9)))), (m10, .inl (gI g, 10, .inl (fun z9 => nI (sf z9)))), (m11, .inl (gI g, 10, .inl (fun z9 => nI (ss z9)))), (m12, .inl (gI g, 10, .inl (fun z9 => nI (sw z9)))), (m13, .inl (gI g, 256, .inl (fun z9 => nI (ways z9)))), (m14, .inl (gI g, 8, .inl (fun z9 => nI (chain z9)))), (m15, .inl (gI g, 5, .inl (fun z9 => nI (row z9)))), (m16, .inl (gI g, 5, .inl (fun z9 => nI (best z9))))]
  have ht1 := hT.1; have ht2 := hT.2.1; have ht3 := hT.2.2
  refine v_iconst h (v := nI 0) dX8_isCrowd_0 (by decide) ?_
  refine v_istore_n3 h (Nat.le_of_ble_eq_true rfl) dX8_isCrowd_1 ?_
  have L2 : ∀ (k2 : Nat) (i : Nat), n - i = k2 → (i ≤ n) → (allTo (fun z => !(a.testBit z && !decide (sdiff a (alkS (kd j) (pt j) w n z) = 0))) i = true) → vM x 2 [some (.ref m0), some (.int (nI j)), some (.int (nI a)), some (.int (nI i))] [] [(m0, .inr (7, [.int (nI fl), .int tr, .ref m1, .ref m2, .ref m3, .int (nI n), .ref m4, .int (nI atp), .int (nI rt), .ref m5, .int (nI hn), .ref m6, .ref m7, .ref m8, .int (nI sn), .ref m9, .ref m10, .ref m11, .ref m12, .ref m13, .ref m14, .ref m15, .ref m16])), (m1, .inl (gI g, 4, .inl msrt)), (m2, .inl (gI g, 4, .inl (fun z9 => nI (len z9)))), (m3, .inl (gI g, 160, .inl mc)), (m4, .inl (gI g, 8, .inl (fun z9 => nI (w z9)))), (m5, .inl (gI g, 8, .inl (fun z9 => nI (rwt z9)))), (m6, .inl (gI g, 6, .inl (fun z9 => nI (kd z9)))), (m7, .inl (gI g, 6, .inl (fun z9 => nI (pt z9)))), (m8, .inl (gI g, 8, .inl far)), (m9, .inl (gI g, 10, .inl (fun z9 => nI (sb z9)))), (m10, .inl (gI g, 10, .inl (fun z9 => nI (sf z9)))), (m11, .inl (gI g, 10, .inl (fun z9 => nI (ss z9)))), (m12, .inl (gI g, 10, .inl (fun z9 => nI (sw z9)))), (m13, .inl (gI g, 256, .inl (fun z9 => nI (ways z9)))), (m14, .inl (gI g, 8, .inl (fun z9 => nI (chain z9)))), (m15, .inl (gI g, 5, .inl (fun z9 => nI (row z9)))), (m16, .inl (gI g, 5, .inl (fun z9 => nI (best z9))))] := by
    intro k2
    induction k2 using Nat.strongRecOn with
    | _ k2 ih2 =>
      intro i hm2 hi h1
      refine v_iload_n3 h dX8_isCrowd_2 ?_
      refine v_aload_n0 h dX8_isCrowd_3 ?_
      refine v_get h mw_X8 0 rfl rfl 5 (by decide) mf_X8_68 rfl dX8_isCrowd_4 ?_
      refine v_icmp_geN h dX8_isCrowd_7 (tgt := 39) (by decide) (by omega) (by omega) (fun c7 => ?_) (fun c7 => ?_)
      · refine v_iconst h (v := nI 1) dX8_isCrowd_39 (by decide) ?_
        exact v_zret (v := true) h hr dX8_isCrowd_40 (by rw [allAlk, show n = i by omega]; rw [show n = i by omega] at h1; exact h1.symm) rfl
      · refine v_iload_n2 h dX8_isCrowd_10 ?_
        refine v_iload_n3 h dX8_isCrowd_11 ?_
        refine v_ishrN h dX8_isCrowd_12 (by omega) (by omega) ?_
        refine v_iconst h (v := nI 1) dX8_isCrowd_13 (by decide) ?_
        refine v_iandN h dX8_isCrowd_14 ?_
        refine v_iconst h (v := nI 1) dX8_isCrowd_15 (by decide) ?_
        refine v_icmp_neN h dX8_isCrowd_16 (tgt := 33) (by decide) (by first | exact and1_lt _ | decide) (by first | exact and1_lt _ | decide) (fun c16 => ?_) (fun c16 => ?_)
        · refine v_iincN3 h (Nat.le_of_ble_eq_true rfl) dX8_isCrowd_33 ?_
          refine v_goto h dX8_isCrowd_36 (tgt := 2) (by decide) ?_
          exact vM.fg (ih2 _ (by omega) (i + 1) rfl (by first | assumption | rfl | omega) (by first | (rw [allTo, h1]; simp [testBit_no c16]; done) | (rw [allTo, h1]; simp [sd_of g28]; done))) ⟨rfl, rfl, rfl, rfl, trivial⟩
        · refine v_aload_n0 h dX8_isCrowd_19 ?_
          refine v_iload_n1 h dX8_isCrowd_20 ?_
          refine v_iload_n3 h dX8_isCrowd_21 ?_
          refine cw_V_0_1_2_3_4_5_6_7_8_9_10_11_12_13_14_15_16_2_i (ci := 7) h (c_X8_alikeTo (g := g) (by first | assumption | omega) (by first | assumption | omega) (by first | assumption | omega) (by first | assumption | omega)) lk_X8_122 ⟨rfl, rfl, (Nat.le_of_ble_eq_true rfl), (Nat.le_of_ble_eq_true rfl)⟩ rfl rfl rfl (Nat.le_of_ble_eq_true rfl) dX8_isCrowd_22 ?_
          refine v_iload_n2 h dX8_isCrowd_25 ?_
          refine v_iandN h dX8_isCrowd_26 ?_
          refine v_iload_n2 h dX8_isCrowd_27 ?_
          refine v_icmp_eqN h dX8_isCrowd_28 (tgt := 33) (by decide) (by first | omega | exact Nat.lt_of_le_of_lt Nat.and_le_right (by omega)) (by first | omega | exact Nat.lt_of_le_of_lt Nat.and_le_right (by omega)) (fun c28 => ?_) (fun c28 => ?_)
          · have g28 := c28
            refine v_iincN3 h (Nat.le_of_ble_eq_true rfl) dX8_isCrowd_33 ?_
            refine v_goto h dX8_isCrowd_36 (tgt := 2) (by decide) ?_
            exact vM.fg (ih2 _ (by omega) (i + 1) rfl (by first | assumption | rfl | omega) (by first | (rw [allTo, h1]; simp [testBit_no c16]; done) | (rw [allTo, h1]; simp [sd_of g28]; done))) ⟨rfl, rfl, rfl, rfl, trivial⟩
          · refine v_iconst h (v := nI 0) dX8_isCrowd_31 (by decide) ?_
            exact v_zret (v := false) h hr dX8_isCrowd_32 (by exact (allTo_no (p := fun z => !(a.testBit z && !decide (sdiff a (alkS (kd j) (pt j) w n z) = 0))) (j := i) (by omega) (by simp [testBit_of c16]; exact sd_no c28)).symm) rfl
  exact vM.fg (L2 _ 0 rfl (by first | assumption | rfl | omega) (by first | assumption | rfl | omega)) ⟨rfl, rfl, rfl, rfl, trivial⟩
def P_X8_crowd (g : vG) (m0 m1 m2 m3 m4 m5 m6 m7 m8 m9 m10 m11 m12 m13 m14 m15 m16 : Nat) (fl : Nat) (tr : Int32) (msrt : Nat → Int32) (len : Nat → Nat) (mc : Nat → Int32) (n : Nat) (w : Nat → Nat) (atp : Nat) (rt : Nat) (rwt : Nat → Nat) (hn : Nat) (kd : Nat → Nat) (pt : Nat → Nat) (far : Nat → Int32) (sn : Nat) (sb : Nat → Nat) (sf : Nat → Nat) (ss : Nat → Nat) (sw : Nat → Nat) (ways : Nat → Nat) (chain : Nat → Nat) (row : Nat → Nat) (best : Nat → Nat) (p0 : Int32) : Option Value → va_W → Prop := fun r wo => r = some (.int (s_crowd n w hn kd pt p0)) ∧ wo = [(m0, .inr (7, [.int (nI fl), .int tr, .ref m1, .ref m2, .ref m3, .int (nI n), .ref m4, .int (nI atp), .int (nI rt), .ref m5, .int (nI hn), .ref m6, .ref m7, .ref m8, .int (nI sn), .ref m9, .ref m10, .ref m11, .ref m12, .ref m13, .ref m14, .ref m15, .ref m16])), (m1, .inl (gI g, 4, .inl msrt)), (m2, .inl (gI g, 4, .inl (fun z9 => nI (len z9)))), (m3, .inl (gI g, 160, .inl mc)), (m4, .inl (gI g, 8, .inl (fun z9 => nI (w z9)))), (m5, .inl (gI g, 8, .inl (fun z9 => nI (rwt z9)))), (m6, .inl (gI g, 6, .inl (fun z9 => nI (kd z9)))), (m7, .inl (gI g, 6, .inl (fun z9 => nI (pt z9)))), (m8, .inl (gI g, 8, .inl far)), (m9, .inl (gI g, 10, .inl (fun z9 => nI (sb z9)))), (m10, .inl (gI g, 10, .inl (fun z9 => nI (sf z9)))), (m11, .inl (gI g, 10, .inl (fun z9 => nI (ss z9)))), (m12, .inl (gI g, 10, .inl (fun z9 => nI (sw z9)))), (m13, .inl (gI g, 256, .inl (fun z9 => nI (ways z9)))), (m14, .inl (gI g, 8, .inl (fun z9 => nI (chain z9)))), (m15, .inl (gI g, 5, .inl (fun z9 => nI (row z9)))), (m16, .inl (gI g, 5, .inl (fun z9 => nI (best z9))))]
theorem P_X8_crowd_mk {g : vG} {m0 m1 m2 m3 m4 m5 m6 m7 m8 m9 m10 m11 m12 m13 m14 m15 m16 : Nat} {fl : Nat} {tr : Int32} {msrt : Nat → Int32} {len : Nat → Nat} {mc : Nat → Int32} {n : Nat} {w : Nat → Nat} {atp : Nat} {rt : Nat} {rwt : Nat → Nat} {hn : Nat} {kd : Nat → Nat} {pt : Nat → Nat} {far : Nat → Int32} {sn : Nat} {sb : Nat → Nat} {sf : Nat → Nat} {ss : Nat → Nat} {sw : Nat → Nat} {ways : Nat → Nat} {chain : Nat → Nat} {row : Nat → Nat} {best : Nat → Nat} {p0 : Int32}  {q : Int32} (hs : s_crowd n w hn kd pt p0 = q)  : P_X8_crowd g m0 m1 m2 m3 m4 m5 m6 m7 m8 m9 m10 m11 m12 m13 m14 m15 m16 fl tr msrt len mc n w atp rt rwt hn kd pt far sn sb sf ss sw ways chain row best p0 (some (.int q)) [(m0, .inr (7, [.int (nI fl), .int tr, .ref m1, .ref m2, .ref m3, .int (nI n), .ref m4, .int (nI atp), .int (nI rt), .ref m5, .int (nI hn), .ref m6, .ref m7, .ref m8, .int (nI sn), .ref m9, .ref m10, .ref m11, .ref m12, .ref m13, .ref m14, .ref m15, .ref m16])), (m1, .inl (gI g, 4, .inl msrt)), (m2, .inl (gI g, 4, .inl (fun z9 => nI (len z9)))), (m3, .inl (gI g, 160, .inl mc)), (m4, .inl (gI g, 8, .inl (fun z9 => nI (w z9)))), (m5, .inl (gI g, 8, .inl (fun z9 => nI (rwt z9)))), (m6, .inl (gI g, 6, .inl (fun z9 => nI (kd z9)))), (m7, .inl (gI g, 6, .inl (fun z9 => nI (pt z9)))), (m8, .inl (gI g, 8, .inl far)), (m9, .inl (gI g, 10, .inl (fun z9 => nI (sb z9)))), (m10, .inl (gI g, 10, .inl (fun z9 => nI (sf z9)))), (m11, .inl (gI g, 10, .inl (fun z9 => nI (ss z9)))), (m12, .inl (gI g, 10, .inl (fun z9 => nI (sw z9)))), (m13, .inl (gI g, 256, .inl (fun z9 => nI (ways z9)))), (m14, .inl (gI g, 8, .inl (fun z9 => nI (chain z9)))), (m15, .inl (gI g, 5, .inl (fun z9 => nI (row z9)))), (m16, .inl (gI g, 5, .inl (fun z9 => nI (best z9))))] := by subst hs; exact ⟨rfl, rfl⟩
set_option maxRecDepth 20000 in
set_option maxHeartbeats 4000000 in
theorem c_X8_crowd {g : vG} {m0 m1 m2 m3 m4 m5 m6 m7 m8 m9 m10 m11 m12 m13 m14 m15 m16 : Nat} {fl : Nat} {tr : Int32} {msrt : Nat → Int32} {len : Nat → Nat} {mc : Nat → Int32} {n : Nat} {w : Nat → Nat} {atp : Nat} {rt : Nat} {rwt : Nat → Nat} {hn : Nat} {kd : Nat → Nat} {pt : Nat → Nat} {far : Nat → Int32} {sn : Nat} {sb : Nat → Nat} {sf : Nat → Nat} {ss : Nat → Nat} {sw : Nat → Nat} {ways : Nat → Nat} {chain : Nat → Nat} {row : Nat → Nat} {best : Nat → Nat} {p0 : Int32} (hT : wfT n w) (hH : wfH hn kd pt) : CtP g yX8_crowd cX8_crowd 4 (some .int) (rmOf 6 138) [(m0, .inr (7, [.int (nI fl), .int tr, .ref m1, .ref m2, .ref m3, .int (nI n), .ref m4, .int (nI atp), .int (nI rt), .ref m5, .int (nI hn), .ref m6, .ref m7, .ref m8, .int (nI sn), .ref m9, .ref m10, .ref m11, .ref m12, .ref m13, .ref m14, .ref m15, .ref m16])), (m1, .inl (gI g, 4, .inl msrt)), (m2, .inl (gI g, 4, .inl (fun z9 => nI (len z9)))), (m3, .inl (gI g, 160, .inl mc)), (m4, .inl (gI g, 8, .inl (fun z9 => nI (w z9)))), (m5, .inl (gI g, 8, .inl (fun z9 => nI (rwt z9)))), (m6, .inl (gI g, 6, .inl (fun z9 => nI (kd z9)))), (m7, .inl (gI g, 6, .inl (fun z9 => nI (pt z9)))), (m8, .inl (gI g, 8, .inl far)), (m9, .inl (gI g, 10, .inl (fun z9 => nI (sb z9)))), (m10, .inl (gI g, 10, .inl (fun z9 => nI (sf z9)))), (m11, .inl (gI g, 10, .inl (fun z9 => nI (ss z9)))), (m12, .inl (gI g, 10, .inl (fun z9 => nI (sw z9)))), (m13, .inl (gI g, 256, .inl (fun z9 => nI (ways z9)))), (m14, .inl (gI g, 8, .inl (fun z9 => nI (chain z9)))), (m15, .inl (gI g, 5, .inl (fun z9 => nI (row z9)))), (m16, .inl (gI g, 5, .inl (fun z9 => nI (best z9))))] [.ref m0, .int p0] (P_X8_crowd g m0 m1 m2 m3 m4 m5 m6 m7 m8 m9 m10 m11 m12 m13 m14 m15 m16 fl tr msrt len mc n w atp rt rwt hn kd pt far sn sb sf ss sw ways chain row best p0) := by
  refine CtP.ofV RX8 rfl (by decide +kernel) rfl rfl (Nat.le_of_ble_eq_true rfl) (List.forall_mem_cons.mpr ⟨rfl, (List.forall_mem_cons.mpr ⟨rfl, (fun _ h9 => absurd h9 List.not_mem_nil)⟩)⟩) (fun x h hr => ?_)
  show vM x 0 [some (.ref m0), some (.int p0), none, none] [] [(m0, .inr (7, [.int (nI fl), .int tr, .ref m1, .ref m2, .ref m3, .int (nI n), .ref m4, .int (nI atp), .int (nI rt), .ref m5, .int (nI hn), .ref m6, .ref m7, .ref m8, .int (nI sn), .ref m9, .ref m10, .ref m11, .ref m12, .ref m13, .ref m14, .ref m15, .ref m16])), (m1, .inl (gI g, 4, .inl msrt)), (m2, .inl (gI g, 4, .inl (fun z9 => nI (len z9)))), (m3, .inl (gI g, 160, .inl mc)), (m4, .inl (gI g, 8, .inl (fun z9 => nI (w z9)))), (m5, .inl (gI g, 8, .inl (fun z9 => nI (rwt z9)))), (m6, .inl (gI g, 6, .inl (fun z9 => nI (kd z9)))), (m7, .inl (gI g, 6, .inl (fun z9 => nI (pt z9)))), (m8, .inl (gI g, 8, .inl far)), (m9, .inl (gI g, 10, .inl (fun z9 => nI (sb z9)))), (m10, .inl (gI g, 10, .inl (fun z9 => nI (sf z9)))), (m11, .inl (gI g, 10, .inl (fun z9 => nI (ss z9)))), (m12, .inl (gI g, 10, .inl (fun z9 => nI (sw z9)))), (m13, .inl (gI g, 256, .inl (fun z9 => nI (ways z9)))), (m14, .inl (gI g, 8, .inl (fun z9 => nI (chain z9)))), (m15, .inl (gI g, 5, .inl (fun z9 => nI (row z9)))), (m16, .inl (gI g, 5, .inl (fun z9 => nI (best z9))))]
  have ht1 := hT.1; have ht2 := hT.2.1; have ht3 := hT.2.2; have hh1 := hH.1; have hh2 := hH.2.1; have hh3 := hH.2.2.1; have hh4 := hH.2.2.2; have hp8 := pow8' ht1; have hp1 := pow_pos' n
  refine v_aload_n0 h dX8_crowd_0 ?_
  refine v_iload_n1 h dX8_crowd_1 ?_
  refine cw_V_0_1_2_3_4_5_6_7_8_9_10_11_12_13_14_15_16_1_i (ci := 7) h (c_X8_isHand (g := g)) lk_X8_107 ⟨rfl, rfl, (Nat.le_of_ble_eq_true rfl), (Nat.le_of_ble_eq_true rfl)⟩ rfl rfl rfl (Nat.le_of_ble_eq_true rfl) dX8_crowd_2 ?_
  refine v_if_neB h dX8_crowd_5 (tgt := 10) (by decide) (fun c5 => ?_) (fun c5 => ?_)
  · obtain ⟨j0, hj0, rfl⟩ := inR_of c5 (by omega)
    have e5 := rN_N hj0 (by omega)
    refine v_iconst h (v := nI 0) dX8_crowd_10 (by decide) ?_
    refine v_istore_n2 h (Nat.le_of_ble_eq_true rfl) dX8_crowd_11 ?_
    refine v_iconst h (v := nI 1) dX8_crowd_12 (by decide) ?_
    refine v_istore_n3 h (Nat.le_of_ble_eq_true rfl) dX8_crowd_13 ?_
    have L14 : ∀ (k14 : Nat) (k : Nat), 2 ^ n - k = k14 → (k ≤ 2 ^ n - 1) → vM x 14 [some (.ref m0), some (.int (nI j0)), some (.int (nI (bstS (allAlk (alkS (kd j0) (pt j0) w n) n) k))), some (.int (nI (k + 1)))] [] [(m0, .inr (7, [.int (nI fl), .int tr, .ref m1, .ref m2, .ref m3, .int (nI n), .ref m4, .int (nI atp), .int (nI rt), .ref m5, .int (nI hn), .ref m6, .ref m7, .ref m8, .int (nI sn), .ref m9, .ref m10, .ref m11, .ref m12, .ref m13, .ref m14, .ref m15, .ref m16])), (m1, .inl (gI g, 4, .inl msrt)), (m2, .inl (gI g, 4, .inl (fun z9 => nI (len z9)))), (m3, .inl (gI g, 160, .inl mc)), (m4, .inl (gI g, 8, .inl (fun z9 => nI (w z9)))), (m5, .inl (gI g, 8, .inl (fun z9 => nI (rwt z9)))), (m6, .inl (gI g, 6, .inl (fun z9 => nI (kd z9)))), (m7, .inl (gI g, 6, .inl (fun z9 => nI (pt z9)))), (m8, .inl (gI g, 8, .inl far)), (m9, .inl (gI g, 10, .inl (fun z9 => nI (sb z9)))), (m10, .inl (gI g, 10, .inl (fun z9 => nI (sf z9)))), (m11, .inl (gI g, 10, .inl (fun z9 => nI (ss z9)))), (m12, .inl (gI g, 10, .inl (fun z9 => nI (sw z9)))), (m13, .inl (gI g, 256, .inl (fun z9 => nI (ways z9)))), (m14, .inl (gI g, 8, .inl (fun z9 => nI (chain z9)))), (m15, .inl (gI g, 5, .inl (fun z9 => nI (row z9)))), (m16, .inl (gI g, 5, .inl (fun z9 => nI (best z9))))] := by
      intro k14
      induction k14 using Nat.strongRecOn with
      | _ k14 ih14 =>
        intro k hm14 hk
        refine v_iload_n3 h dX8_crowd_14 ?_
        refine v_iconst h (v := nI 1) dX8_crowd_15 (by decide) ?_
        refine v_aload_n0 h dX8_crowd_16 ?_
        refine v_get h mw_X8 0 rfl rfl 5 (by decide) mf_X8_68 rfl dX8_crowd_17 ?_
        refine v_ishlN h dX8_crowd_20 (by omega) ?_
        refine v_icmp_geN h dX8_crowd_21 (tgt := 52) (by decide) (by omega) (by omega) (fun c21 => ?_) (fun c21 => ?_)
        · obtain rfl : k = 2 ^ n - 1 := by omega
          refine v_iload_n2 h dX8_crowd_52 ?_
          exact v_iretP h hr dX8_crowd_53 (P_X8_crowd_mk (q := _) (by simp only [s_crowd, e5]) ) rfl
        · refine v_iload_n3 h dX8_crowd_24 ?_
          refine cw_S_e_1_i h (c_X8_bits (g := g) (by first | assumption | omega)) lk_X8_149 ⟨rfl, rfl, (Nat.le_of_ble_eq_true rfl), (Nat.le_of_ble_eq_true rfl)⟩ (Nat.le_of_ble_eq_true rfl) dX8_crowd_25 ?_
          refine v_iload_n2 h dX8_crowd_28 ?_
          refine cw_S_e_1_i h (c_X8_bits (g := g) (by have := bstS_le (allAlk (alkS (kd j0) (pt j0) w n) n) k; omega)) lk_X8_149 ⟨rfl, rfl, (Nat.le_of_ble_eq_true rfl), (Nat.le_of_ble_eq_true rfl)⟩ (Nat.le_of_ble_eq_true rfl) dX8_crowd_29 ?_
          refine v_icmp_leN h dX8_crowd_32 (tgt := 46) (by decide) (by have := popN_le (k + 1); have := popN_le (bstS (allAlk (alkS (kd j0) (pt j0) w n) n) k); omega) (by have := popN_le (k + 1); have := popN_le (bstS (allAlk (alkS (kd j0) (pt j0) w n) n) k); omega) (fun c32 => ?_) (fun c32 => ?_)
          · refine v_iincN3 h (Nat.le_of_ble_eq_true rfl) dX8_crowd_46 ?_
            refine v_goto h dX8_crowd_49 (tgt := 14) (by decide) ?_
            exact vM.fg (ih14 _ (by omega) (k + 1) rfl (by first | assumption | rfl | omega)) ⟨rfl, rfl, (by first | (rw [bstS, if_pos ⟨c32, c41⟩]; done) | (rw [bstS, if_neg (fun z => by omega)]; done) | (rw [bstS, if_neg (fun z => by rw [c41] at z; cases z.2)])), rfl, trivial⟩
          · refine v_aload_n0 h dX8_crowd_35 ?_
            refine v_iload_n1 h dX8_crowd_36 ?_
            refine v_iload_n3 h dX8_crowd_37 ?_
            refine cw_V_0_1_2_3_4_5_6_7_8_9_10_11_12_13_14_15_16_2_i (ci := 7) h (c_X8_isCrowd (g := g) (by first | assumption | omega) (by first | assumption | omega) (by first | assumption | omega) (by omega)) lk_X8_152 ⟨rfl, rfl, (Nat.le_of_ble_eq_true rfl), (Nat.le_of_ble_eq_true rfl)⟩ rfl rfl rfl (Nat.le_of_ble_eq_true rfl) dX8_crowd_38 ?_
            refine v_if_eqB h dX8_crowd_41 (tgt := 46) (by decide) (fun c41 => ?_) (fun c41 => ?_)
            · refine v_iincN3 h (Nat.le_of_ble_eq_true rfl) dX8_crowd_46 ?_
              refine v_goto h dX8_crowd_49 (tgt := 14) (by decide) ?_
              exact vM.fg (ih14 _ (by omega) (k + 1) rfl (by first | assumption | rfl | omega)) ⟨rfl, rfl, (by first | (rw [bstS, if_pos ⟨c32, c41⟩]; done) | (rw [bstS, if_neg (fun z => by omega)]; done) | (rw [bstS, if_neg (fun z => by rw [c41] at z; cases z.2)])), rfl, trivial⟩
            · refine v_iload_n3 h dX8_crowd_44 ?_
              refine v_istore_n2 h (Nat.le_of_ble_eq_true rfl) dX8_crowd_45 ?_
              refine v_iincN3 h (Nat.le_of_ble_eq_true rfl) dX8_crowd_46 ?_
              refine v_goto h dX8_crowd_49 (tgt := 14) (by decide) ?_
              exact vM.fg (ih14 _ (by omega) (k + 1) rfl (by first | assumption | rfl | omega)) ⟨rfl, rfl, (by first | (rw [bstS, if_pos ⟨c32, c41⟩]; done) | (rw [bstS, if_neg (fun z => by omega)]; done) | (rw [bstS, if_neg (fun z => by rw [c41] at z; cases z.2)])), rfl, trivial⟩
    exact vM.fg (L14 _ 0 rfl (by first | assumption | rfl | omega)) ⟨rfl, rfl, rfl, rfl, trivial⟩
  · have e5 := rN_f c5
    refine v_iconst h (v := -1) dX8_crowd_8 (by decide) ?_
    exact v_iretP h hr dX8_crowd_9 (P_X8_crowd_mk (q := _) (by simp only [s_crowd, e5]) ) rfl
def P_X8_measure (g : vG) (m0 m1 m2 m3 m4 m5 m6 m7 m8 m9 m10 m11 m12 m13 m14 m15 m16 : Nat) (fl : Nat) (tr : Int32) (msrt : Nat → Int32) (len : Nat → Nat) (mc : Nat → Int32) (n : Nat) (w : Nat → Nat) (atp : Nat) (rt : Nat) (rwt : Nat → Nat) (hn : Nat) (kd : Nat → Nat) (pt : Nat → Nat) (far : Nat → Int32) (sn : Nat) (sb : Nat → Nat) (sf : Nat → Nat) (ss : Nat → Nat) (sw : Nat → Nat) (ways : Nat → Nat) (chain : Nat → Nat) (row : Nat → Nat) (best : Nat → Nat) (p0 : Int32) (p1 : Int32) : Option Value → va_W → Prop := fun r wo => r = some (.int (s_measure n w hn kd pt p0 p1)) ∧ wo = [(m0, .inr (7, [.int (nI fl), .int tr, .ref m1, .ref m2, .ref m3, .int (nI n), .ref m4, .int (nI atp), .int (nI rt), .ref m5, .int (nI hn), .ref m6, .ref m7, .ref m8, .int (nI sn), .ref m9, .ref m10, .ref m11, .ref m12, .ref m13, .ref m14, .ref m15, .ref m16])), (m1, .inl (gI g, 4, .inl msrt)), (m2, .inl (gI g, 4, .inl (fun z9 => nI (len z9)))), (m3, .inl (gI g, 160, .inl mc)), (m4, .inl (gI g, 8, .inl (fun z9 => nI (w z9)))), (m5, .inl (gI g, 8, .inl (fun z9 => nI (rwt z9)))), (m6, .inl (gI g, 6, .inl (fun z9 => nI (kd z9)))), (m7, .inl (gI g, 6, .inl (fun z9 => nI (pt z9)))), (m8, .inl (gI g, 8, .inl far)), (m9, .inl (gI g, 10, .inl (fun z9 => nI (sb z9)))), (m10, .inl (gI g, 10, .inl (fun z9 => nI (sf z9)))), (m11, .inl (gI g, 10, .inl (fun z9 => nI (ss z9)))), (m12, .inl (gI g, 10, .inl (fun z9 => nI (sw z9)))), (m13, .inl (gI g, 256, .inl (fun z9 => nI (ways z9)))), (m14, .inl (gI g, 8, .inl (fun z9 => nI (chain z9)))), (m15, .inl (gI g, 5, .inl (fun z9 => nI (row z9)))), (m16, .inl (gI g, 5, .inl (fun z9 => nI (best z9))))]
theorem P_X8_measure_mk {g : vG} {m0 m1 m2 m3 m4 m5 m6 m7 m8 m9 m10 m11 m12 m13 m14 m15 m16 : Nat} {fl : Nat} {tr : Int32} {msrt : Nat → Int32} {len : Nat → Nat} {mc : Nat → Int32} {n : Nat} {w : Nat → Nat} {atp : Nat} {rt : Nat} {rwt : Nat → Nat} {hn : Nat} {kd : Nat → Nat} {pt : Nat → Nat} {far : Nat → Int32} {sn : Nat} {sb : Nat → Nat} {sf : Nat → Nat} {ss : Nat → Nat} {sw : Nat → Nat} {ways : Nat → Nat} {chain : Nat → Nat} {row : Nat → Nat} {best : Nat → Nat} {p0 : Int32} {p1 : Int32}  {q : Int32} (hs : s_measure n w hn kd pt p0 p1 = q)  : P_X8_measure g m0 m1 m2 m3 m4 m5 m6 m7 m8 m9 m10 m11 m12 m13 m14 m15 m16 fl tr msrt len mc n w atp rt rwt hn kd pt far sn sb sf ss sw ways chain row best p0 p1 (some (.int q)) [(m0, .inr (7, [.int (nI fl), .int tr, .ref m1, .ref m2, .ref m3, .int (nI n), .ref m4, .int (nI atp), .int (nI rt), .ref m5, .int (nI hn), .ref m6, .ref m7, .ref m8, .int (nI sn), .ref m9, .ref m10, .ref m11, .ref m12, .ref m13, .ref m14, .ref m15, .ref m16])), (m1, .inl (gI g, 4, .inl msrt)), (m2, .inl (gI g, 4, .inl (fun z9 => nI (len z9)))), (m3, .inl (gI g, 160, .inl mc)), (m4, .inl (gI g, 8, .inl (fun z9 => nI (w z9)))), (m5, .inl (gI g, 8, .inl (fun z9 => nI (rwt z9)))), (m6, .inl (gI g, 6, .inl (fun z9 => nI (kd z9)))), (m7, .inl (gI g, 6, .inl (fun z9 => nI (pt z9)))), (m8, .inl (gI g, 8, .inl far)), (m9, .inl (gI g, 10, .inl (fun z9 => nI (sb z9)))), (m10, .inl (gI g, 10, .inl (fun z9 => nI (sf z9)))), (m11, .inl (gI g, 10, .inl (fun z9 => nI (ss z9)))), (m12, .inl (gI g, 10, .inl (fun z9 => nI (sw z9)))), (m13, .inl (gI g, 256, .inl (fun z9 => nI (ways z9)))), (m14, .inl (gI g, 8, .inl (fun z9 => nI (chain z9)))), (m15, .inl (gI g, 5, .inl (fun z9 => nI (row z9)))), (m16, .inl (gI g, 5, .inl (fun z9 => nI (best z9))))] := by subst hs; exact ⟨rfl, rfl⟩
set_option maxRecDepth 20000 in
set_option maxHeartbeats 4000000 in
theorem c_X8_measure {g : vG} {m0 m1 m2 m3 m4 m5 m6 m7 m8 m9 m10 m11 m12 m13 m14 m15 m16 : Nat} {fl : Nat} {tr : Int32} {msrt : Nat → Int32} {len : Nat → Nat} {mc : Nat → Int32} {n : Nat} {w : Nat → Nat} {atp : Nat} {rt : Nat} {rwt : Nat → Nat} {hn : Nat} {kd : Nat → Nat} {pt : Nat → Nat} {far : Nat → Int32} {sn : Nat} {sb : Nat → Nat} {sf : Nat → Nat} {ss : Nat → Nat} {sw : Nat → Nat} {ways : Nat → Nat} {chain : Nat → Nat} {row : Nat → Nat} {best : Nat → Nat} {p0 : Int32} {p1 : Int32} (hT : wfT n w) (hH : wfH hn kd pt) (hn2 : hn = 0 ∨ 2 ≤ n) : CtP g yX8_measure cX8_measure 7 (some .int) (rmOf 5 115) [(m0, .inr (7, [.int (nI fl), .int tr, .ref m1, .ref m2, .ref m3, .int (nI n), .ref m4, .int (nI atp), .int (nI rt), .ref m5, .int (nI hn), .ref m6, .ref m7, .ref m8, .int (nI sn), .ref m9, .ref m10, .ref m11, .ref m12, .ref m13, .ref m14, .ref m15, .ref m16])), (m1, .inl (gI g, 4, .inl msrt)), (m2, .inl (gI g, 4, .inl (fun z9 => nI (len z9)))), (m3, .inl (gI g, 160, .inl mc)), (m4, .inl (gI g, 8, .inl (fun z9 => nI (w z9)))), (m5, .inl (gI g, 8, .inl (fun z9 => nI (rwt z9)))), (m6, .inl (gI g, 6, .inl (fun z9 => nI (kd z9)))), (m7, .inl (gI g, 6, .inl (fun z9 => nI (pt z9)))), (m8, .inl (gI g, 8, .inl far)), (m9, .inl (gI g, 10, .inl (fun z9 => nI (sb z9)))), (m10, .inl (gI g, 10, .inl (fun z9 => nI (sf z9)))), (m11, .inl (gI g, 10, .inl (fun z9 => nI (ss z9)))), (m12, .inl (gI g, 10, .inl (fun z9 => nI (sw z9)))), (m13, .inl (gI g, 256, .inl (fun z9 => nI (ways z9)))), (m14, .inl (gI g, 8, .inl (fun z9 => nI (chain z9)))), (m15, .inl (gI g, 5, .inl (fun z9 => nI (row z9)))), (m16, .inl (gI g, 5, .inl (fun z9 => nI (best z9))))] [.ref m0, .int p0, .int p1] (P_X8_measure g m0 m1 m2 m3 m4 m5 m6 m7 m8 m9 m10 m11 m12 m13 m14 m15 m16 fl tr msrt len mc n w atp rt rwt hn kd pt far sn sb sf ss sw ways chain row best p0 p1) := by
  refine CtP.ofV RX8 rfl (by decide +kernel) rfl rfl (Nat.le_of_ble_eq_true rfl) (List.forall_mem_cons.mpr ⟨rfl, (List.forall_mem_cons.mpr ⟨rfl, (List.forall_mem_cons.mpr ⟨rfl, (fun _ h9 => absurd h9 List.not_mem_nil)⟩)⟩)⟩) (fun x h hr => ?_)
  show vM x 0 [some (.ref m0), some (.int p0), some (.int p1), none, none, none, none] [] [(m0, .inr (7, [.int (nI fl), .int tr, .ref m1, .ref m2, .ref m3, .int (nI n), .ref m4, .int (nI atp), .int (nI rt), .ref m5, .int (nI hn), .ref m6, .ref m7, .ref m8, .int (nI sn), .ref m9, .ref m10, .ref m11, .ref m12, .ref m13, .ref m14, .ref m15, .ref m16])), (m1, .inl (gI g, 4, .inl msrt)), (m2, .inl (gI g, 4, .inl (fun z9 => nI (len z9)))), (m3, .inl (gI g, 160, .inl mc)), (m4, .inl (gI g, 8, .inl (fun z9 => nI (w z9)))), (m5, .inl (gI g, 8, .inl (fun z9 => nI (rwt z9)))), (m6, .inl (gI g, 6, .inl (fun z9 => nI (kd z9)))), (m7, .inl (gI g, 6, .inl (fun z9 => nI (pt z9)))), (m8, .inl (gI g, 8, .inl far)), (m9, .inl (gI g, 10, .inl (fun z9 => nI (sb z9)))), (m10, .inl (gI g, 10, .inl (fun z9 => nI (sf z9)))), (m11, .inl (gI g, 10, .inl (fun z9 => nI (ss z9)))), (m12, .inl (gI g, 10, .inl (fun z9 => nI (sw z9)))), (m13, .inl (gI g, 256, .inl (fun z9 => nI (ways z9)))), (m14, .inl (gI g, 8, .inl (fun z9 => nI (chain z9)))), (m15, .inl (gI g, 5, .inl (fun z9 => nI (row z9)))), (m16, .inl (gI g, 5, .inl (fun z9 => nI (best z9))))]
  have ht1 := hT.1; have ht2 := hT.2.1; have ht3 := hT.2.2; have hh1 := hH.1; have hh2 := hH.2.1; have hh3 := hH.2.2.1; have hh4 := hH.2.2.2
  refine v_aload_n0 h dX8_measure_0 ?_
  refine v_iload_n1 h dX8_measure_1 ?_
  refine cw_V_0_1_2_3_4_5_6_7_8_9_10_11_12_13_14_15_16_1_i (ci := 7) h (c_X8_isHand (g := g)) lk_X8_107 ⟨rfl, rfl, (Nat.le_of_ble_eq_true rfl), (Nat.le_of_ble_eq_true rfl)⟩ rfl rfl rfl (Nat.le_of_ble_eq_true rfl) dX8_measure_2 ?_
  refine v_if_neB h dX8_measure_5 (tgt := 10) (by decide) (fun c5 => ?_) (fun c5 => ?_)
  · obtain ⟨j0, hj0, rfl⟩ := inR_of c5 (by omega)
    have e5 := rN_N hj0 (by omega)
    refine v_iload_n2 h dX8_measure_10 ?_
    refine v_iconst h (v := nI 0) dX8_measure_11 (by decide) ?_
    refine v_iconst h (v := nI 1) dX8_measure_12 (by decide) ?_
    refine cw_S_e_3_i h (c_X8_within (g := g)) lk_X8_64 ⟨rfl, rfl, (Nat.le_of_ble_eq_true rfl), (Nat.le_of_ble_eq_true rfl)⟩ (Nat.le_of_ble_eq_true rfl) dX8_measure_13 ?_
    refine v_if_neB h dX8_measure_16 (tgt := 22) (by decide) (fun c16 => ?_) (fun c16 => ?_)
    · obtain ⟨j1, hj1a, hj1, rfl⟩ := wi_of c16 (by decide) (by decide)
      have e16 := rW_N hj1a hj1 (by decide)
      refine v_iconst h (v := nI 0) dX8_measure_22 (by decide) ?_
      refine v_istore_n3 h (Nat.le_of_ble_eq_true rfl) dX8_measure_23 ?_
      refine v_iconst h (v := -1) dX8_measure_24 (by decide) ?_
      refine v_istore4 h (Nat.le_of_ble_eq_true rfl) dX8_measure_25 ?_
      refine v_iconst h (v := nI 0) dX8_measure_27 (by decide) ?_
      refine v_istore5 h (Nat.le_of_ble_eq_true rfl) dX8_measure_28 ?_
      have L30 : ∀ (k30 : Nat) (k : Nat), n - k = k30 → (k ≤ n) → vM x 30 [some (.ref m0), some (.int (nI j0)), some (.int (nI j1)), some (.int (nI (msK (fun x => popN ((alkS (kd j0) (pt j0) w n) x) - 1) (k - 1)))), some (.int (mzI (fun x => popN ((alkS (kd j0) (pt j0) w n) x) - 1) k)), some (.int (nI k)), none] [] [(m0, .inr (7, [.int (nI fl), .int tr, .ref m1, .ref m2, .ref m3, .int (nI n), .ref m4, .int (nI atp), .int (nI rt), .ref m5, .int (nI hn), .ref m6, .ref m7, .ref m8, .int (nI sn), .ref m9, .ref m10, .ref m11, .ref m12, .ref m13, .ref m14, .ref m15, .ref m16])), (m1, .inl (gI g, 4, .inl msrt)), (m2, .inl (gI g, 4, .inl (fun z9 => nI (len z9)))), (m3, .inl (gI g, 160, .inl mc)), (m4, .inl (gI g, 8, .inl (fun z9 => nI (w z9)))), (m5, .inl (gI g, 8, .inl (fun z9 => nI (rwt z9)))), (m6, .inl (gI g, 6, .inl (fun z9 => nI (kd z9)))), (m7, .inl (gI g, 6, .inl (fun z9 => nI (pt z9)))), (m8, .inl (gI g, 8, .inl far)), (m9, .inl (gI g, 10, .inl (fun z9 => nI (sb z9)))), (m10, .inl (gI g, 10, .inl (fun z9 => nI (sf z9)))), (m11, .inl (gI g, 10, .inl (fun z9 => nI (ss z9)))), (m12, .inl (gI g, 10, .inl (fun z9 => nI (sw z9)))), (m13, .inl (gI g, 256, .inl (fun z9 => nI (ways z9)))), (m14, .inl (gI g, 8, .inl (fun z9 => nI (chain z9)))), (m15, .inl (gI g, 5, .inl (fun z9 => nI (row z9)))), (m16, .inl (gI g, 5, .inl (fun z9 => nI (best z9))))] := by
        intro k30
        induction k30 using Nat.strongRecOn with
        | _ k30 ih30 =>
          intro k hm30 hk
          have hf : ∀ j, (fun x => popN ((alkS (kd j0) (pt j0) w n) x) - 1) j < 2 ^ 30 := fun j => by have := popN_le (alkS (kd j0) (pt j0) w n j); show _ - 1 < _; omega
          refine v_iload5 h dX8_measure_30 ?_
          refine v_aload_n0 h dX8_measure_32 ?_
          refine v_get h mw_X8 0 rfl rfl 5 (by decide) mf_X8_68 rfl dX8_measure_33 ?_
          refine v_icmp_geN h dX8_measure_36 (tgt := 73) (by decide) (by omega) (by omega) (fun c36 => ?_) (fun c36 => ?_)
          · obtain ⟨z, rfl⟩ : ∃ z, k = z + 1 := ⟨k - 1, by omega⟩
            obtain rfl : n = z + 1 := by omega
            refine v_iload_n2 h dX8_measure_73 ?_
            refine v_if_neN h dX8_measure_74 (tgt := 81) (by decide) (by omega) (fun c74 => ?_) (fun c74 => ?_)
            · refine v_iload4 h dX8_measure_81 ?_
              exact v_iretP h hr dX8_measure_83 (P_X8_measure_mk (q := _) (by simp only [s_measure, e5, e16, (show mzI (fun x => popN (alkS (kd j0) (pt j0) w (z + 1) x) - 1) (z + 1) = nI ((fun x => popN (alkS (kd j0) (pt j0) w (z + 1) x) - 1) (msK (fun x => popN (alkS (kd j0) (pt j0) w (z + 1) x) - 1) z)) from rfl), Nat.add_sub_cancel, if_neg (show ¬ j1 = 0 by omega)]) ) rfl
            · refine v_iload_n3 h dX8_measure_77 ?_
              refine v_goto h dX8_measure_78 (tgt := 83) (by decide) ?_
              exact v_iretP h hr dX8_measure_83 (P_X8_measure_mk (q := _) (by simp only [s_measure, e5, e16, (show mzI (fun x => popN (alkS (kd j0) (pt j0) w (z + 1) x) - 1) (z + 1) = nI ((fun x => popN (alkS (kd j0) (pt j0) w (z + 1) x) - 1) (msK (fun x => popN (alkS (kd j0) (pt j0) w (z + 1) x) - 1) z)) from rfl), Nat.add_sub_cancel, if_pos c74]) ) rfl
          · refine v_aload_n0 h dX8_measure_39 ?_
            refine v_iload_n1 h dX8_measure_40 ?_
            refine v_iload5 h dX8_measure_41 ?_
            refine cw_V_0_1_2_3_4_5_6_7_8_9_10_11_12_13_14_15_16_2_i (ci := 7) h (c_X8_alikeTo (g := g) (by first | assumption | omega) (by first | assumption | omega) (by first | assumption | omega) (by first | assumption | omega)) lk_X8_122 ⟨rfl, rfl, (Nat.le_of_ble_eq_true rfl), (Nat.le_of_ble_eq_true rfl)⟩ rfl rfl rfl (Nat.le_of_ble_eq_true rfl) dX8_measure_43 ?_
            refine cw_S_e_1_i h (c_X8_bits (g := g) (by exact b8 (alk8 ht1))) lk_X8_149 ⟨rfl, rfl, (Nat.le_of_ble_eq_true rfl), (Nat.le_of_ble_eq_true rfl)⟩ (Nat.le_of_ble_eq_true rfl) dX8_measure_46 ?_
            refine v_iconst h (v := nI 1) dX8_measure_49 (by decide) ?_
            refine v_isubN h dX8_measure_50 (by exact popN_pos (i := k) (by omega) (by rw [alkS_bit, decide_eq_true (show k < n by omega), alk_self]; rfl)) ?_
            refine v_istore6 h (Nat.le_of_ble_eq_true rfl) dX8_measure_51 ?_
            refine v_iload6 h dX8_measure_53 ?_
            refine v_iload4 h dX8_measure_55 ?_
            refine v_icmp_le h dX8_measure_57 (tgt := 67) (by decide) (fun c57 => ?_) (fun c57 => ?_)
            · have g9 := mz_same hf c57
              refine v_iincN5 h (Nat.le_of_ble_eq_true rfl) dX8_measure_67 ?_
              refine v_goto h dX8_measure_70 (tgt := 30) (by decide) ?_
              exact vM.fg (ih30 _ (by omega) (k + 1) rfl (by first | assumption | rfl | omega)) ⟨rfl, rfl, rfl, (by exact congrArg (fun y => some (Value.int (nI y))) (by rw [Nat.add_sub_cancel]; first | exact g9.1.symm | exact g9.1)), (by exact congrArg (fun y => some (Value.int y)) g9.2.symm), rfl, trivial⟩
            · have g9 := mz_next hf c57
              refine v_iload6 h dX8_measure_60 ?_
              refine v_istore4 h (Nat.le_of_ble_eq_true rfl) dX8_measure_62 ?_
              refine v_iload5 h dX8_measure_64 ?_
              refine v_istore_n3 h (Nat.le_of_ble_eq_true rfl) dX8_measure_66 ?_
              refine v_iincN5 h (Nat.le_of_ble_eq_true rfl) dX8_measure_67 ?_
              refine v_goto h dX8_measure_70 (tgt := 30) (by decide) ?_
              exact vM.fg (ih30 _ (by omega) (k + 1) rfl (by first | assumption | rfl | omega)) ⟨rfl, rfl, rfl, (by exact congrArg (fun y => some (Value.int (nI y))) (by rw [Nat.add_sub_cancel]; first | exact g9.1.symm | exact g9.1)), (by exact congrArg (fun y => some (Value.int y)) g9.2.symm), rfl, trivial⟩
      exact vM.fg (L30 _ 0 rfl (by first | assumption | rfl | omega)) ⟨rfl, rfl, rfl, rfl, rfl, rfl, trivial⟩
    · have e16 := wi_no c16
      refine v_bipush h (v := -2) dX8_measure_19 (by decide) ?_
      exact v_iretP h hr dX8_measure_21 (P_X8_measure_mk (q := _) (by simp only [s_measure, e5, e16]) ) rfl
  · have e5 := rN_f c5
    refine v_iconst h (v := -1) dX8_measure_8 (by decide) ?_
    exact v_iretP h hr dX8_measure_9 (P_X8_measure_mk (q := _) (by simp only [s_measure, e5]) ) rfl
set_option maxRecDepth 20000 in
set_option maxHeartbeats 2000000 in
theorem c_X8_greatest {g : vG} {m0 m1 m2 m3 m4 m5 m6 m7 m8 m9 m10 m11 m12 m13 m14 m15 m16 : Nat} {fl : Nat} {tr : Int32} {msrt : Nat → Int32} {len : Nat → Nat} {mc : Nat → Int32} {n : Nat} {w : Nat → Nat} {atp : Nat} {rt : Nat} {rwt : Nat → Nat} {hn : Nat} {kd : Nat → Nat} {pt : Nat → Nat} {far : Nat → Int32} {sn : Nat} {sb : Nat → Nat} {sf : Nat → Nat} {ss : Nat → Nat} {sw : Nat → Nat} {ways : Nat → Nat} {chain : Nat → Nat} {row : Nat → Nat} {best : Nat → Nat} {j : Nat} {v : Nat} (hH : wfH hn kd pt) (hj : j < hn) (hv1 : 1 ≤ v) (hv : v ≤ 99999) : Ct g yX8_greatest cX8_greatest 3 (some .int) (rmOf 1 21) [(m0, .inr (7, [.int (nI fl), .int tr, .ref m1, .ref m2, .ref m3, .int (nI n), .ref m4, .int (nI atp), .int (nI rt), .ref m5, .int (nI hn), .ref m6, .ref m7, .ref m8, .int (nI sn), .ref m9, .ref m10, .ref m11, .ref m12, .ref m13, .ref m14, .ref m15, .ref m16])), (m1, .inl (gI g, 4, .inl msrt)), (m2, .inl (gI g, 4, .inl (fun z9 => nI (len z9)))), (m3, .inl (gI g, 160, .inl mc)), (m4, .inl (gI g, 8, .inl (fun z9 => nI (w z9)))), (m5, .inl (gI g, 8, .inl (fun z9 => nI (rwt z9)))), (m6, .inl (gI g, 6, .inl (fun z9 => nI (kd z9)))), (m7, .inl (gI g, 6, .inl (fun z9 => nI (pt z9)))), (m8, .inl (gI g, 8, .inl far)), (m9, .inl (gI g, 10, .inl (fun z9 => nI (sb z9)))), (m10, .inl (gI g, 10, .inl (fun z9 => nI (sf z9)))), (m11, .inl (gI g, 10, .inl (fun z9 => nI (ss z9)))), (m12, .inl (gI g, 10, .inl (fun z9 => nI (sw z9)))), (m13, .inl (gI g, 256, .inl (fun z9 => nI (ways z9)))), (m14, .inl (gI g, 8, .inl (fun z9 => nI (chain z9)))), (m15, .inl (gI g, 5, .inl (fun z9 => nI (row z9)))), (m16, .inl (gI g, 5, .inl (fun z9 => nI (best z9))))] [.ref m0, .int (nI j), .int (nI v)] (some (.int (nI (grtN (kd j) (pt j) v)))) [(m0, .inr (7, [.int (nI fl), .int tr, .ref m1, .ref m2, .ref m3, .int (nI n), .ref m4, .int (nI atp), .int (nI rt), .ref m5, .int (nI hn), .ref m6, .ref m7, .ref m8, .int (nI sn), .ref m9, .ref m10, .ref m11, .ref m12, .ref m13, .ref m14, .ref m15, .ref m16])), (m1, .inl (gI g, 4, .inl msrt)), (m2, .inl (gI g, 4, .inl (fun z9 => nI (len z9)))), (m3, .inl (gI g, 160, .inl mc)), (m4, .inl (gI g, 8, .inl (fun z9 => nI (w z9)))), (m5, .inl (gI g, 8, .inl (fun z9 => nI (rwt z9)))), (m6, .inl (gI g, 6, .inl (fun z9 => nI (kd z9)))), (m7, .inl (gI g, 6, .inl (fun z9 => nI (pt z9)))), (m8, .inl (gI g, 8, .inl far)), (m9, .inl (gI g, 10, .inl (fun z9 => nI (sb z9)))), (m10, .inl (gI g, 10, .inl (fun z9 => nI (sf z9)))), (m11, .inl (gI g, 10, .inl (fun z9 => nI (ss z9)))), (m12, .inl (gI g, 10, .inl (fun z9 => nI (sw z9)))), (m13, .inl (gI g, 256, .inl (fun z9 => nI (ways z9)))), (m14, .inl (gI g, 8, .inl (fun z9 => nI (chain z9)))), (m15, .inl (gI g, 5, .inl (fun z9 => nI (row z9)))), (m16, .inl (gI g, 5, .inl (fun z9 => nI (best z9))))] := by
  refine Ct.ofV RX8 rfl (by decide +kernel) rfl rfl rfl (Nat.le_of_ble_eq_true rfl) (List.forall_mem_cons.mpr ⟨rfl, (List.forall_mem_cons.mpr ⟨rfl, (List.forall_mem_cons.mpr ⟨rfl, (fun _ h9 => absurd h9 List.not_mem_nil)⟩)⟩)⟩) (fun x h hr => ?_)
  show vM x 0 [some (.ref m0), some (.int (nI j)), some (.int (nI v))] [] [(m0, .inr (7, [.int (nI fl), .int tr, .ref m1, .ref m2, .ref m3, .int (nI n), .ref m4, .int (nI atp), .int (nI rt), .ref m5, .int (nI hn), .ref m6, .ref m7, .ref m8, .int (nI sn), .ref m9, .ref m10, .ref m11, .ref m12, .ref m13, .ref m14, .ref m15, .ref m16])), (m1, .inl (gI g, 4, .inl msrt)), (m2, .inl (gI g, 4, .inl (fun z9 => nI (len z9)))), (m3, .inl (gI g, 160, .inl mc)), (m4, .inl (gI g, 8, .inl (fun z9 => nI (w z9)))), (m5, .inl (gI g, 8, .inl (fun z9 => nI (rwt z9)))), (m6, .inl (gI g, 6, .inl (fun z9 => nI (kd z9)))), (m7, .inl (gI g, 6, .inl (fun z9 => nI (pt z9)))), (m8, .inl (gI g, 8, .inl far)), (m9, .inl (gI g, 10, .inl (fun z9 => nI (sb z9)))), (m10, .inl (gI g, 10, .inl (fun z9 => nI (sf z9)))), (m11, .inl (gI g, 10, .inl (fun z9 => nI (ss z9)))), (m12, .inl (gI g, 10, .inl (fun z9 => nI (sw z9)))), (m13, .inl (gI g, 256, .inl (fun z9 => nI (ways z9)))), (m14, .inl (gI g, 8, .inl (fun z9 => nI (chain z9)))), (m15, .inl (gI g, 5, .inl (fun z9 => nI (row z9)))), (m16, .inl (gI g, 5, .inl (fun z9 => nI (best z9))))]
  have hh1 := hH.1; have hh2 := hH.2.1; have hh3 := hH.2.2.1; have hh4 := hH.2.2.2; have ht8 := times_pos (k := kd j) (hh4 j hj); have ht9 := times_le (k := kd j) (hh3 j)
  refine v_aload_n0 h dX8_greatest_0 ?_
  refine v_get h mw_X8 0 rfl rfl 11 (by decide) mf_X8_25 rfl dX8_greatest_1 ?_
  refine v_iload_n1 h dX8_greatest_4 ?_
  refine v_ialdN h 6 rfl (by omega) (Nat.le_of_ble_eq_true rfl) dX8_greatest_5 ?_
  refine v_iconst h (v := nI 2) dX8_greatest_6 (by decide) ?_
  refine v_icmp_neN h dX8_greatest_7 (tgt := 24) (by decide) (by first | omega | (have := hh2 j; omega)) (by first | omega | (have := hh2 j; omega)) (fun c7 => ?_) (fun c7 => ?_)
  · refine v_iload_n2 h dX8_greatest_24 ?_
    refine v_iload_n2 h dX8_greatest_25 ?_
    refine v_aload_n0 h dX8_greatest_26 ?_
    refine v_iload_n1 h dX8_greatest_27 ?_
    refine cw_V_0_1_2_3_4_5_6_7_8_9_10_11_12_13_14_15_16_1_i (ci := 7) h (c_X8_times (g := g) (by first | assumption | omega) (by first | assumption | omega)) lk_X8_110 ⟨rfl, rfl, (Nat.le_of_ble_eq_true rfl), (Nat.le_of_ble_eq_true rfl)⟩ rfl rfl rfl (Nat.le_of_ble_eq_true rfl) dX8_greatest_28 ?_
    refine v_idivN h dX8_greatest_31 (by omega) (by omega) (by omega) ?_
    refine v_iaddN h dX8_greatest_32 ?_
    exact v_iret h hr dX8_greatest_33 (by first | rw [grtN, if_pos (by omega)] | rw [grtN, if_neg (by omega)]) rfl
  · refine v_iload_n2 h dX8_greatest_10 ?_
    refine v_iload_n2 h dX8_greatest_11 ?_
    refine v_iconst h (v := nI 1) dX8_greatest_12 (by decide) ?_
    refine v_isubN h dX8_greatest_13 (by omega) ?_
    refine v_aload_n0 h dX8_greatest_14 ?_
    refine v_iload_n1 h dX8_greatest_15 ?_
    refine cw_V_0_1_2_3_4_5_6_7_8_9_10_11_12_13_14_15_16_1_i (ci := 7) h (c_X8_times (g := g) (by first | assumption | omega) (by first | assumption | omega)) lk_X8_110 ⟨rfl, rfl, (Nat.le_of_ble_eq_true rfl), (Nat.le_of_ble_eq_true rfl)⟩ rfl rfl rfl (Nat.le_of_ble_eq_true rfl) dX8_greatest_16 ?_
    refine v_idivN h dX8_greatest_19 (by omega) (by omega) (by omega) ?_
    refine v_iaddN h dX8_greatest_20 ?_
    refine v_goto h dX8_greatest_21 (tgt := 33) (by decide) ?_
    exact v_iret h hr dX8_greatest_33 (by first | rw [grtN, if_pos (by omega)] | rw [grtN, if_neg (by omega)]) rfl
set_option maxRecDepth 20000 in
set_option maxHeartbeats 2000000 in
theorem c_X8_least {g : vG} {m0 m1 m2 m3 m4 m5 m6 m7 m8 m9 m10 m11 m12 m13 m14 m15 m16 : Nat} {fl : Nat} {tr : Int32} {msrt : Nat → Int32} {len : Nat → Nat} {mc : Nat → Int32} {n : Nat} {w : Nat → Nat} {atp : Nat} {rt : Nat} {rwt : Nat → Nat} {hn : Nat} {kd : Nat → Nat} {pt : Nat → Nat} {far : Nat → Int32} {sn : Nat} {sb : Nat → Nat} {sf : Nat → Nat} {ss : Nat → Nat} {sw : Nat → Nat} {ways : Nat → Nat} {chain : Nat → Nat} {row : Nat → Nat} {best : Nat → Nat} {j : Nat} {v : Nat} (hH : wfH hn kd pt) (hj : j < hn) (hv1 : 1 ≤ v) (hv : v ≤ 99999) : Ct g yX8_least cX8_least 6 (some .int) (rmOf 1 21) [(m0, .inr (7, [.int (nI fl), .int tr, .ref m1, .ref m2, .ref m3, .int (nI n), .ref m4, .int (nI atp), .int (nI rt), .ref m5, .int (nI hn), .ref m6, .ref m7, .ref m8, .int (nI sn), .ref m9, .ref m10, .ref m11, .ref m12, .ref m13, .ref m14, .ref m15, .ref m16])), (m1, .inl (gI g, 4, .inl msrt)), (m2, .inl (gI g, 4, .inl (fun z9 => nI (len z9)))), (m3, .inl (gI g, 160, .inl mc)), (m4, .inl (gI g, 8, .inl (fun z9 => nI (w z9)))), (m5, .inl (gI g, 8, .inl (fun z9 => nI (rwt z9)))), (m6, .inl (gI g, 6, .inl (fun z9 => nI (kd z9)))), (m7, .inl (gI g, 6, .inl (fun z9 => nI (pt z9)))), (m8, .inl (gI g, 8, .inl far)), (m9, .inl (gI g, 10, .inl (fun z9 => nI (sb z9)))), (m10, .inl (gI g, 10, .inl (fun z9 => nI (sf z9)))), (m11, .inl (gI g, 10, .inl (fun z9 => nI (ss z9)))), (m12, .inl (gI g, 10, .inl (fun z9 => nI (sw z9)))), (m13, .inl (gI g, 256, .inl (fun z9 => nI (ways z9)))), (m14, .inl (gI g, 8, .inl (fun z9 => nI (chain z9)))), (m15, .inl (gI g, 5, .inl (fun z9 => nI (row z9)))), (m16, .inl (gI g, 5, .inl (fun z9 => nI (best z9))))] [.ref m0, .int (nI j), .int (nI v)] (some (.int (nI (leaN (kd j) (pt j) v)))) [(m0, .inr (7, [.int (nI fl), .int tr, .ref m1, .ref m2, .ref m3, .int (nI n), .ref m4, .int (nI atp), .int (nI rt), .ref m5, .int (nI hn), .ref m6, .ref m7, .ref m8, .int (nI sn), .ref m9, .ref m10, .ref m11, .ref m12, .ref m13, .ref m14, .ref m15, .ref m16])), (m1, .inl (gI g, 4, .inl msrt)), (m2, .inl (gI g, 4, .inl (fun z9 => nI (len z9)))), (m3, .inl (gI g, 160, .inl mc)), (m4, .inl (gI g, 8, .inl (fun z9 => nI (w z9)))), (m5, .inl (gI g, 8, .inl (fun z9 => nI (rwt z9)))), (m6, .inl (gI g, 6, .inl (fun z9 => nI (kd z9)))), (m7, .inl (gI g, 6, .inl (fun z9 => nI (pt z9)))), (m8, .inl (gI g, 8, .inl far)), (m9, .inl (gI g, 10, .inl (fun z9 => nI (sb z9)))), (m10, .inl (gI g, 10, .inl (fun z9 => nI (sf z9)))), (m11, .inl (gI g, 10, .inl (fun z9 => nI (ss z9)))), (m12, .inl (gI g, 10, .inl (fun z9 => nI (sw z9)))), (m13, .inl (gI g, 256, .inl (fun z9 => nI (ways z9)))), (m14, .inl (gI g, 8, .inl (fun z9 => nI (chain z9)))), (m15, .inl (gI g, 5, .inl (fun z9 => nI (row z9)))), (m16, .inl (gI g, 5, .inl (fun z9 => nI (best z9))))] := by
  refine Ct.ofV RX8 rfl (by decide +kernel) rfl rfl rfl (Nat.le_of_ble_eq_true rfl) (List.forall_mem_cons.mpr ⟨rfl, (List.forall_mem_cons.mpr ⟨rfl, (List.forall_mem_cons.mpr ⟨rfl, (fun _ h9 => absurd h9 List.not_mem_nil)⟩)⟩)⟩) (fun x h hr => ?_)
  show vM x 0 [some (.ref m0), some (.int (nI j)), some (.int (nI v)), none, none, none] [] [(m0, .inr (7, [.int (nI fl), .int tr, .ref m1, .ref m2, .ref m3, .int (nI n), .ref m4, .int (nI atp), .int (nI rt), .ref m5, .int (nI hn), .ref m6, .ref m7, .ref m8, .int (nI sn), .ref m9, .ref m10, .ref m11, .ref m12, .ref m13, .ref m14, .ref m15, .ref m16])), (m1, .inl (gI g, 4, .inl msrt)), (m2, .inl (gI g, 4, .inl (fun z9 => nI (len z9)))), (m3, .inl (gI g, 160, .inl mc)), (m4, .inl (gI g, 8, .inl (fun z9 => nI (w z9)))), (m5, .inl (gI g, 8, .inl (fun z9 => nI (rwt z9)))), (m6, .inl (gI g, 6, .inl (fun z9 => nI (kd z9)))), (m7, .inl (gI g, 6, .inl (fun z9 => nI (pt z9)))), (m8, .inl (gI g, 8, .inl far)), (m9, .inl (gI g, 10, .inl (fun z9 => nI (sb z9)))), (m10, .inl (gI g, 10, .inl (fun z9 => nI (sf z9)))), (m11, .inl (gI g, 10, .inl (fun z9 => nI (ss z9)))), (m12, .inl (gI g, 10, .inl (fun z9 => nI (sw z9)))), (m13, .inl (gI g, 256, .inl (fun z9 => nI (ways z9)))), (m14, .inl (gI g, 8, .inl (fun z9 => nI (chain z9)))), (m15, .inl (gI g, 5, .inl (fun z9 => nI (row z9)))), (m16, .inl (gI g, 5, .inl (fun z9 => nI (best z9))))]
  have hh1 := hH.1; have hh2 := hH.2.1; have hh3 := hH.2.2.1; have hh4 := hH.2.2.2; have ht8 := times_pos (k := kd j) (hh4 j hj); have ht9 := times_le (k := kd j) (hh3 j); have hlp := leaN_pos (k := kd j) (hh4 j hj) hv1; have hvt := Nat.mul_le_mul hv ht9
  refine v_aload_n0 h dX8_least_0 ?_
  refine v_iload_n1 h dX8_least_1 ?_
  refine cw_V_0_1_2_3_4_5_6_7_8_9_10_11_12_13_14_15_16_1_i (ci := 7) h (c_X8_times (g := g) (by first | assumption | omega) (by first | assumption | omega)) lk_X8_110 ⟨rfl, rfl, (Nat.le_of_ble_eq_true rfl), (Nat.le_of_ble_eq_true rfl)⟩ rfl rfl rfl (Nat.le_of_ble_eq_true rfl) dX8_least_2 ?_
  refine v_iconst h (v := nI 1) dX8_least_5 (by decide) ?_
  refine v_iaddN h dX8_least_6 ?_
  refine v_istore_n3 h (Nat.le_of_ble_eq_true rfl) dX8_least_7 ?_
  refine v_iload_n2 h dX8_least_8 ?_
  refine v_aload_n0 h dX8_least_9 ?_
  refine v_iload_n1 h dX8_least_10 ?_
  refine cw_V_0_1_2_3_4_5_6_7_8_9_10_11_12_13_14_15_16_1_i (ci := 7) h (c_X8_times (g := g) (by first | assumption | omega) (by first | assumption | omega)) lk_X8_110 ⟨rfl, rfl, (Nat.le_of_ble_eq_true rfl), (Nat.le_of_ble_eq_true rfl)⟩ rfl rfl rfl (Nat.le_of_ble_eq_true rfl) dX8_least_11 ?_
  refine v_imulN h dX8_least_14 ?_
  refine v_istore4 h (Nat.le_of_ble_eq_true rfl) dX8_least_15 ?_
  refine v_aload_n0 h dX8_least_17 ?_
  refine v_get h mw_X8 0 rfl rfl 11 (by decide) mf_X8_25 rfl dX8_least_18 ?_
  refine v_iload_n1 h dX8_least_21 ?_
  refine v_ialdN h 6 rfl (by omega) (Nat.le_of_ble_eq_true rfl) dX8_least_22 ?_
  refine v_iconst h (v := nI 2) dX8_least_23 (by decide) ?_
  refine v_icmp_neN h dX8_least_24 (tgt := 36) (by decide) (by have := hh2 j; omega) (by have := hh2 j; omega) (fun c24 => ?_) (fun c24 => ?_)
  · refine v_iload4 h dX8_least_36 ?_
    refine v_iload_n3 h dX8_least_38 ?_
    refine v_iaddN h dX8_least_39 ?_
    refine v_iconst h (v := nI 1) dX8_least_40 (by decide) ?_
    refine v_isubN h dX8_least_41 (by omega) ?_
    refine v_iload_n3 h dX8_least_42 ?_
    refine v_idivN h dX8_least_43 (by omega) (by omega) (by omega) ?_
    have hl9 : leaN (kd j) (pt j) v ≤ v := leaN_le (hh4 j hj) hv1
    refine vM.top (v := .int (nI (leaN (kd j) (pt j) v))) (congrArg (fun y => Value.int (nI y)) (by first | (rw [leaN, if_pos (by omega)]; done) | (rw [leaN, if_neg (by omega), ← Nat.add_assoc, Nat.add_sub_cancel]; done))) ?_
    refine v_istore5 h (Nat.le_of_ble_eq_true rfl) dX8_least_44 ?_
    refine v_iload5 h dX8_least_46 ?_
    refine v_iconst h (v := nI 1) dX8_least_48 (by decide) ?_
    refine v_icmp_geN h dX8_least_49 (tgt := 56) (by decide) (by first | omega | (have := hh2 j; omega)) (by first | omega | (have := hh2 j; omega)) (fun c49 => ?_) (fun c49 => ?_)
    · refine v_iload5 h dX8_least_56 ?_
      exact v_iret h hr dX8_least_58 rfl rfl
    · omega
  · refine v_iload4 h dX8_least_27 ?_
    refine v_iload_n3 h dX8_least_29 ?_
    refine v_idivN h dX8_least_30 (by omega) (by omega) (by omega) ?_
    refine v_iconst h (v := nI 1) dX8_least_31 (by decide) ?_
    refine v_iaddN h dX8_least_32 ?_
    refine v_goto h dX8_least_33 (tgt := 44) (by decide) ?_
    have hl9 : leaN (kd j) (pt j) v ≤ v := leaN_le (hh4 j hj) hv1
    refine vM.top (v := .int (nI (leaN (kd j) (pt j) v))) (congrArg (fun y => Value.int (nI y)) (by first | (rw [leaN, if_pos (by omega)]; done) | (rw [leaN, if_neg (by omega), ← Nat.add_assoc, Nat.add_sub_cancel]; done))) ?_
    refine v_istore5 h (Nat.le_of_ble_eq_true rfl) dX8_least_44 ?_
    refine v_iload5 h dX8_least_46 ?_
    refine v_iconst h (v := nI 1) dX8_least_48 (by decide) ?_
    refine v_icmp_geN h dX8_least_49 (tgt := 56) (by decide) (by first | omega | (have := hh2 j; omega)) (by first | omega | (have := hh2 j; omega)) (fun c49 => ?_) (fun c49 => ?_)
    · refine v_iload5 h dX8_least_56 ?_
      exact v_iret h hr dX8_least_58 rfl rfl
    · omega
set_option maxRecDepth 20000 in
set_option maxHeartbeats 2000000 in
theorem c_X8_copied {g : vG} {m0 m1 m2 m3 m4 m5 m6 m7 m8 m9 m10 m11 m12 m13 m14 m15 m16 : Nat} {fl : Nat} {tr : Int32} {msrt : Nat → Int32} {len : Nat → Nat} {mc : Nat → Int32} {n : Nat} {w : Nat → Nat} {atp : Nat} {rt : Nat} {rwt : Nat → Nat} {hn : Nat} {kd : Nat → Nat} {pt : Nat → Nat} {far : Nat → Int32} {sn : Nat} {sb : Nat → Nat} {sf : Nat → Nat} {ss : Nat → Nat} {sw : Nat → Nat} {ways : Nat → Nat} {chain : Nat → Nat} {row : Nat → Nat} {best : Nat → Nat} {v : Nat} {y9 : Nat} {u9 : Nat} (hH : wfH hn kd pt) (hm5 : y9 ≤ 5) (hrw : ∀ z, z < y9 → row z < hn) (hu : u9 ≤ 2) (hv1 : 1 ≤ v) (hv : v ≤ 999) : Ct g yX8_copied cX8_copied 7 (some .int) (rmOf 2 46) [(m0, .inr (7, [.int (nI fl), .int tr, .ref m1, .ref m2, .ref m3, .int (nI n), .ref m4, .int (nI atp), .int (nI rt), .ref m5, .int (nI hn), .ref m6, .ref m7, .ref m8, .int (nI sn), .ref m9, .ref m10, .ref m11, .ref m12, .ref m13, .ref m14, .ref m15, .ref m16])), (m1, .inl (gI g, 4, .inl msrt)), (m2, .inl (gI g, 4, .inl (fun z9 => nI (len z9)))), (m3, .inl (gI g, 160, .inl mc)), (m4, .inl (gI g, 8, .inl (fun z9 => nI (w z9)))), (m5, .inl (gI g, 8, .inl (fun z9 => nI (rwt z9)))), (m6, .inl (gI g, 6, .inl (fun z9 => nI (kd z9)))), (m7, .inl (gI g, 6, .inl (fun z9 => nI (pt z9)))), (m8, .inl (gI g, 8, .inl far)), (m9, .inl (gI g, 10, .inl (fun z9 => nI (sb z9)))), (m10, .inl (gI g, 10, .inl (fun z9 => nI (sf z9)))), (m11, .inl (gI g, 10, .inl (fun z9 => nI (ss z9)))), (m12, .inl (gI g, 10, .inl (fun z9 => nI (sw z9)))), (m13, .inl (gI g, 256, .inl (fun z9 => nI (ways z9)))), (m14, .inl (gI g, 8, .inl (fun z9 => nI (chain z9)))), (m15, .inl (gI g, 5, .inl (fun z9 => nI (row z9)))), (m16, .inl (gI g, 5, .inl (fun z9 => nI (best z9))))] [.ref m0, .int (nI v), .int (nI y9), .int (nI u9)] (some (.int (nI (if u9 = 0 then grtK kd pt row v y9 else if u9 = 1 then leaK kd pt row v y9 else spdN kd pt v y9 row)))) [(m0, .inr (7, [.int (nI fl), .int tr, .ref m1, .ref m2, .ref m3, .int (nI n), .ref m4, .int (nI atp), .int (nI rt), .ref m5, .int (nI hn), .ref m6, .ref m7, .ref m8, .int (nI sn), .ref m9, .ref m10, .ref m11, .ref m12, .ref m13, .ref m14, .ref m15, .ref m16])), (m1, .inl (gI g, 4, .inl msrt)), (m2, .inl (gI g, 4, .inl (fun z9 => nI (len z9)))), (m3, .inl (gI g, 160, .inl mc)), (m4, .inl (gI g, 8, .inl (fun z9 => nI (w z9)))), (m5, .inl (gI g, 8, .inl (fun z9 => nI (rwt z9)))), (m6, .inl (gI g, 6, .inl (fun z9 => nI (kd z9)))), (m7, .inl (gI g, 6, .inl (fun z9 => nI (pt z9)))), (m8, .inl (gI g, 8, .inl far)), (m9, .inl (gI g, 10, .inl (fun z9 => nI (sb z9)))), (m10, .inl (gI g, 10, .inl (fun z9 => nI (sf z9)))), (m11, .inl (gI g, 10, .inl (fun z9 => nI (ss z9)))), (m12, .inl (gI g, 10, .inl (fun z9 => nI (sw z9)))), (m13, .inl (gI g, 256, .inl (fun z9 => nI (ways z9)))), (m14, .inl (gI g, 8, .inl (fun z9 => nI (chain z9)))), (m15, .inl (gI g, 5, .inl (fun z9 => nI (row z9)))), (m16, .inl (gI g, 5, .inl (fun z9 => nI (best z9))))] := by
  refine Ct.ofV RX8 rfl (by decide +kernel) rfl rfl rfl (Nat.le_of_ble_eq_true rfl) (List.forall_mem_cons.mpr ⟨rfl, (List.forall_mem_cons.mpr ⟨rfl, (List.forall_mem_cons.mpr ⟨rfl, (List.forall_mem_cons.mpr ⟨rfl, (fun _ h9 => absurd h9 List.not_mem_nil)⟩)⟩)⟩)⟩) (fun x h hr => ?_)
  show vM x 0 [some (.ref m0), some (.int (nI v)), some (.int (nI y9)), some (.int (nI u9)), none, none, none] [] [(m0, .inr (7, [.int (nI fl), .int tr, .ref m1, .ref m2, .ref m3, .int (nI n), .ref m4, .int (nI atp), .int (nI rt), .ref m5, .int (nI hn), .ref m6, .ref m7, .ref m8, .int (nI sn), .ref m9, .ref m10, .ref m11, .ref m12, .ref m13, .ref m14, .ref m15, .ref m16])), (m1, .inl (gI g, 4, .inl msrt)), (m2, .inl (gI g, 4, .inl (fun z9 => nI (len z9)))), (m3, .inl (gI g, 160, .inl mc)), (m4, .inl (gI g, 8, .inl (fun z9 => nI (w z9)))), (m5, .inl (gI g, 8, .inl (fun z9 => nI (rwt z9)))), (m6, .inl (gI g, 6, .inl (fun z9 => nI (kd z9)))), (m7, .inl (gI g, 6, .inl (fun z9 => nI (pt z9)))), (m8, .inl (gI g, 8, .inl far)), (m9, .inl (gI g, 10, .inl (fun z9 => nI (sb z9)))), (m10, .inl (gI g, 10, .inl (fun z9 => nI (sf z9)))), (m11, .inl (gI g, 10, .inl (fun z9 => nI (ss z9)))), (m12, .inl (gI g, 10, .inl (fun z9 => nI (sw z9)))), (m13, .inl (gI g, 256, .inl (fun z9 => nI (ways z9)))), (m14, .inl (gI g, 8, .inl (fun z9 => nI (chain z9)))), (m15, .inl (gI g, 5, .inl (fun z9 => nI (row z9)))), (m16, .inl (gI g, 5, .inl (fun z9 => nI (best z9))))]
  have hh1 := hH.1; have hh2 := hH.2.1; have hh3 := hH.2.2.1; have hh4 := hH.2.2.2
  refine v_iload_n1 h dX8_copied_0 ?_
  refine v_istore4 h (Nat.le_of_ble_eq_true rfl) dX8_copied_1 ?_
  refine v_iload_n1 h dX8_copied_3 ?_
  refine v_istore5 h (Nat.le_of_ble_eq_true rfl) dX8_copied_4 ?_
  refine v_iconst h (v := nI 0) dX8_copied_6 (by decide) ?_
  refine v_istore6 h (Nat.le_of_ble_eq_true rfl) dX8_copied_7 ?_
  have L9 : ∀ (k9 : Nat) (i : Nat), y9 - i = k9 → (i ≤ y9) → vM x 9 [some (.ref m0), some (.int (nI v)), some (.int (nI y9)), some (.int (nI u9)), some (.int (nI (grtK kd pt row v i))), some (.int (nI (leaK kd pt row v i))), some (.int (nI i))] [] [(m0, .inr (7, [.int (nI fl), .int tr, .ref m1, .ref m2, .ref m3, .int (nI n), .ref m4, .int (nI atp), .int (nI rt), .ref m5, .int (nI hn), .ref m6, .ref m7, .ref m8, .int (nI sn), .ref m9, .ref m10, .ref m11, .ref m12, .ref m13, .ref m14, .ref m15, .ref m16])), (m1, .inl (gI g, 4, .inl msrt)), (m2, .inl (gI g, 4, .inl (fun z9 => nI (len z9)))), (m3, .inl (gI g, 160, .inl mc)), (m4, .inl (gI g, 8, .inl (fun z9 => nI (w z9)))), (m5, .inl (gI g, 8, .inl (fun z9 => nI (rwt z9)))), (m6, .inl (gI g, 6, .inl (fun z9 => nI (kd z9)))), (m7, .inl (gI g, 6, .inl (fun z9 => nI (pt z9)))), (m8, .inl (gI g, 8, .inl far)), (m9, .inl (gI g, 10, .inl (fun z9 => nI (sb z9)))), (m10, .inl (gI g, 10, .inl (fun z9 => nI (sf z9)))), (m11, .inl (gI g, 10, .inl (fun z9 => nI (ss z9)))), (m12, .inl (gI g, 10, .inl (fun z9 => nI (sw z9)))), (m13, .inl (gI g, 256, .inl (fun z9 => nI (ways z9)))), (m14, .inl (gI g, 8, .inl (fun z9 => nI (chain z9)))), (m15, .inl (gI g, 5, .inl (fun z9 => nI (row z9)))), (m16, .inl (gI g, 5, .inl (fun z9 => nI (best z9))))] := by
    intro k9
    induction k9 using Nat.strongRecOn with
    | _ k9 ih9 =>
      intro i hm9 hi
      refine v_iload6 h dX8_copied_9 ?_
      refine v_iload_n2 h dX8_copied_11 ?_
      refine v_icmp_geN h dX8_copied_12 (tgt := 51) (by decide) (by omega) (by omega) (fun c12 => ?_) (fun c12 => ?_)
      · obtain rfl : y9 = i := by omega
        refine v_iload_n3 h dX8_copied_51 ?_
        refine v_if_neN h dX8_copied_52 (tgt := 60) (by decide) (by omega) (fun c52 => ?_) (fun c52 => ?_)
        · refine v_iload_n3 h dX8_copied_60 ?_
          refine v_iconst h (v := nI 1) dX8_copied_61 (by decide) ?_
          refine v_icmp_neN h dX8_copied_62 (tgt := 70) (by decide) (by omega) (by omega) (fun c62 => ?_) (fun c62 => ?_)
          · refine v_iload4 h dX8_copied_70 ?_
            refine v_iload5 h dX8_copied_72 ?_
            refine v_isubN h dX8_copied_74 (by exact spd_le (fun z hz => hh4 _ (hrw z hz)) hv1) ?_
            exact v_iret h hr dX8_copied_75 (by first | (rw [if_pos c52]; done) | (rw [if_neg (by omega), if_pos c62]; done) | (rw [if_neg (by omega), if_neg (by omega)]; rfl)) rfl
          · refine v_iload5 h dX8_copied_65 ?_
            refine v_goto h dX8_copied_67 (tgt := 75) (by decide) ?_
            exact v_iret h hr dX8_copied_75 (by first | (rw [if_pos c52]; done) | (rw [if_neg (by omega), if_pos c62]; done) | (rw [if_neg (by omega), if_neg (by omega)]; rfl)) rfl
        · refine v_iload4 h dX8_copied_55 ?_
          refine v_goto h dX8_copied_57 (tgt := 75) (by decide) ?_
          exact v_iret h hr dX8_copied_75 (by first | (rw [if_pos c52]; done) | (rw [if_neg (by omega), if_pos c62]; done) | (rw [if_neg (by omega), if_neg (by omega)]; rfl)) rfl
      · refine v_aload_n0 h dX8_copied_15 ?_
        refine v_aload_n0 h dX8_copied_16 ?_
        refine v_get h mw_X8 0 rfl rfl 21 (by decide) mf_X8_52 rfl dX8_copied_17 ?_
        refine v_iload6 h dX8_copied_20 ?_
        refine v_ialdN h 15 rfl (by omega) (Nat.le_of_ble_eq_true rfl) dX8_copied_22 ?_
        refine v_iload4 h dX8_copied_23 ?_
        refine cw_V_0_1_2_3_4_5_6_7_8_9_10_11_12_13_14_15_16_2_i (ci := 7) h (c_X8_greatest (g := g) (by first | assumption | omega) (by exact hrw i (by omega)) (by exact Nat.le_trans hv1 (grtK_ge i)) (by have := grtK_b (kd := kd) (pt := pt) (rw := row) (k := i) hv (by omega); omega)) lk_X8_156 ⟨rfl, rfl, (Nat.le_of_ble_eq_true rfl), (Nat.le_of_ble_eq_true rfl)⟩ rfl rfl rfl (Nat.le_of_ble_eq_true rfl) dX8_copied_25 ?_
        refine v_istore4 h (Nat.le_of_ble_eq_true rfl) dX8_copied_28 ?_
        refine v_aload_n0 h dX8_copied_30 ?_
        refine v_aload_n0 h dX8_copied_31 ?_
        refine v_get h mw_X8 0 rfl rfl 21 (by decide) mf_X8_52 rfl dX8_copied_32 ?_
        refine v_iload6 h dX8_copied_35 ?_
        refine v_ialdN h 15 rfl (by omega) (Nat.le_of_ble_eq_true rfl) dX8_copied_37 ?_
        refine v_iload5 h dX8_copied_38 ?_
        refine cw_V_0_1_2_3_4_5_6_7_8_9_10_11_12_13_14_15_16_2_i (ci := 7) h (c_X8_least (g := g) (by first | assumption | omega) (by exact hrw i (by omega)) (by exact (leaK_le (n := y9) (fun z hz => hh4 _ (hrw z hz)) hv1 i (by omega)).2) (by have := (leaK_le (kd := kd) (n := y9) (fun z hz => hh4 _ (hrw z hz)) hv1 i (by omega)).1; omega)) lk_X8_159 ⟨rfl, rfl, (Nat.le_of_ble_eq_true rfl), (Nat.le_of_ble_eq_true rfl)⟩ rfl rfl rfl (Nat.le_of_ble_eq_true rfl) dX8_copied_40 ?_
        refine v_istore5 h (Nat.le_of_ble_eq_true rfl) dX8_copied_43 ?_
        refine v_iincN6 h (Nat.le_of_ble_eq_true rfl) dX8_copied_45 ?_
        refine v_goto h dX8_copied_48 (tgt := 9) (by decide) ?_
        exact vM.fg (ih9 _ (by omega) (i + 1) rfl (by first | assumption | rfl | omega)) ⟨rfl, rfl, rfl, rfl, rfl, rfl, rfl, trivial⟩
  exact vM.fg (L9 _ 0 rfl (by first | assumption | rfl | omega)) ⟨rfl, rfl, rfl, rfl, rfl, rfl, rfl, trivial⟩
set_option maxRecDepth 20000 in
set_option maxHeartbeats 2000000 in
theorem c_X8_exchange {g : vG} {m0 m1 m2 m3 m4 m5 m6 m7 m8 m9 m10 m11 m12 m13 m14 m15 m16 : Nat} {fl : Nat} {tr : Int32} {msrt : Nat → Int32} {len : Nat → Nat} {mc : Nat → Int32} {n : Nat} {w : Nat → Nat} {atp : Nat} {rt : Nat} {rwt : Nat → Nat} {hn : Nat} {kd : Nat → Nat} {pt : Nat → Nat} {far : Nat → Int32} {sn : Nat} {sb : Nat → Nat} {sf : Nat → Nat} {ss : Nat → Nat} {sw : Nat → Nat} {ways : Nat → Nat} {chain : Nat → Nat} {row : Nat → Nat} {best : Nat → Nat} {a : Nat} {b : Nat} (ha : a < 5) (hb : b < 5) : Ct g yX8_exchange cX8_exchange 4 none (rmOf 0 0) [(m0, .inr (7, [.int (nI fl), .int tr, .ref m1, .ref m2, .ref m3, .int (nI n), .ref m4, .int (nI atp), .int (nI rt), .ref m5, .int (nI hn), .ref m6, .ref m7, .ref m8, .int (nI sn), .ref m9, .ref m10, .ref m11, .ref m12, .ref m13, .ref m14, .ref m15, .ref m16])), (m1, .inl (gI g, 4, .inl msrt)), (m2, .inl (gI g, 4, .inl (fun z9 => nI (len z9)))), (m3, .inl (gI g, 160, .inl mc)), (m4, .inl (gI g, 8, .inl (fun z9 => nI (w z9)))), (m5, .inl (gI g, 8, .inl (fun z9 => nI (rwt z9)))), (m6, .inl (gI g, 6, .inl (fun z9 => nI (kd z9)))), (m7, .inl (gI g, 6, .inl (fun z9 => nI (pt z9)))), (m8, .inl (gI g, 8, .inl far)), (m9, .inl (gI g, 10, .inl (fun z9 => nI (sb z9)))), (m10, .inl (gI g, 10, .inl (fun z9 => nI (sf z9)))), (m11, .inl (gI g, 10, .inl (fun z9 => nI (ss z9)))), (m12, .inl (gI g, 10, .inl (fun z9 => nI (sw z9)))), (m13, .inl (gI g, 256, .inl (fun z9 => nI (ways z9)))), (m14, .inl (gI g, 8, .inl (fun z9 => nI (chain z9)))), (m15, .inl (gI g, 5, .inl (fun z9 => nI (row z9)))), (m16, .inl (gI g, 5, .inl (fun z9 => nI (best z9))))] [.ref m0, .int (nI a), .int (nI b)] none [(m0, .inr (7, [.int (nI fl), .int tr, .ref m1, .ref m2, .ref m3, .int (nI n), .ref m4, .int (nI atp), .int (nI rt), .ref m5, .int (nI hn), .ref m6, .ref m7, .ref m8, .int (nI sn), .ref m9, .ref m10, .ref m11, .ref m12, .ref m13, .ref m14, .ref m15, .ref m16])), (m1, .inl (gI g, 4, .inl msrt)), (m2, .inl (gI g, 4, .inl (fun z9 => nI (len z9)))), (m3, .inl (gI g, 160, .inl mc)), (m4, .inl (gI g, 8, .inl (fun z9 => nI (w z9)))), (m5, .inl (gI g, 8, .inl (fun z9 => nI (rwt z9)))), (m6, .inl (gI g, 6, .inl (fun z9 => nI (kd z9)))), (m7, .inl (gI g, 6, .inl (fun z9 => nI (pt z9)))), (m8, .inl (gI g, 8, .inl far)), (m9, .inl (gI g, 10, .inl (fun z9 => nI (sb z9)))), (m10, .inl (gI g, 10, .inl (fun z9 => nI (sf z9)))), (m11, .inl (gI g, 10, .inl (fun z9 => nI (ss z9)))), (m12, .inl (gI g, 10, .inl (fun z9 => nI (sw z9)))), (m13, .inl (gI g, 256, .inl (fun z9 => nI (ways z9)))), (m14, .inl (gI g, 8, .inl (fun z9 => nI (chain z9)))), (m15, .inl (gI g, 5, .inl (fun z9 => nI ((exw row a b) z9)))), (m16, .inl (gI g, 5, .inl (fun z9 => nI (best z9))))] := by
  refine Ct.ofV RX8 rfl (by decide +kernel) rfl rfl rfl (Nat.le_of_ble_eq_true rfl) (List.forall_mem_cons.mpr ⟨rfl, (List.forall_mem_cons.mpr ⟨rfl, (List.forall_mem_cons.mpr ⟨rfl, (fun _ h9 => absurd h9 List.not_mem_nil)⟩)⟩)⟩) (fun x h hr => ?_)
  show vM x 0 [some (.ref m0), some (.int (nI a)), some (.int (nI b)), none] [] [(m0, .inr (7, [.int (nI fl), .int tr, .ref m1, .ref m2, .ref m3, .int (nI n), .ref m4, .int (nI atp), .int (nI rt), .ref m5, .int (nI hn), .ref m6, .ref m7, .ref m8, .int (nI sn), .ref m9, .ref m10, .ref m11, .ref m12, .ref m13, .ref m14, .ref m15, .ref m16])), (m1, .inl (gI g, 4, .inl msrt)), (m2, .inl (gI g, 4, .inl (fun z9 => nI (len z9)))), (m3, .inl (gI g, 160, .inl mc)), (m4, .inl (gI g, 8, .inl (fun z9 => nI (w z9)))), (m5, .inl (gI g, 8, .inl (fun z9 => nI (rwt z9)))), (m6, .inl (gI g, 6, .inl (fun z9 => nI (kd z9)))), (m7, .inl (gI g, 6, .inl (fun z9 => nI (pt z9)))), (m8, .inl (gI g, 8, .inl far)), (m9, .inl (gI g, 10, .inl (fun z9 => nI (sb z9)))), (m10, .inl (gI g, 10, .inl (fun z9 => nI (sf z9)))), (m11, .inl (gI g, 10, .inl (fun z9 => nI (ss z9)))), (m12, .inl (gI g, 10, .inl (fun z9 => nI (sw z9)))), (m13, .inl (gI g, 256, .inl (fun z9 => nI (ways z9)))), (m14, .inl (gI g, 8, .inl (fun z9 => nI (chain z9)))), (m15, .inl (gI g, 5, .inl (fun z9 => nI (row z9)))), (m16, .inl (gI g, 5, .inl (fun z9 => nI (best z9))))]
  refine v_aload_n0 h dX8_exchange_0 ?_
  refine v_get h mw_X8 0 rfl rfl 21 (by decide) mf_X8_52 rfl dX8_exchange_1 ?_
  refine v_iload_n1 h dX8_exchange_4 ?_
  refine v_ialdN h 15 rfl (by omega) (Nat.le_of_ble_eq_true rfl) dX8_exchange_5 ?_
  refine v_istore_n3 h (Nat.le_of_ble_eq_true rfl) dX8_exchange_6 ?_
  refine v_aload_n0 h dX8_exchange_7 ?_
  refine v_get h mw_X8 0 rfl rfl 21 (by decide) mf_X8_52 rfl dX8_exchange_8 ?_
  refine v_iload_n1 h dX8_exchange_11 ?_
  refine v_aload_n0 h dX8_exchange_12 ?_
  refine v_get h mw_X8 0 rfl rfl 21 (by decide) mf_X8_52 rfl dX8_exchange_13 ?_
  refine v_iload_n2 h dX8_exchange_16 ?_
  refine v_ialdN h 15 rfl (by omega) (Nat.le_of_ble_eq_true rfl) dX8_exchange_17 ?_
  refine v_iastN_at15 h (by omega) (Nat.le_of_ble_eq_true rfl) dX8_exchange_18 ?_
  refine v_aload_n0 h dX8_exchange_19 ?_
  refine v_get h mw_X8 0 rfl rfl 21 (by decide) mf_X8_52 rfl dX8_exchange_20 ?_
  refine v_iload_n2 h dX8_exchange_23 ?_
  refine v_iload_n3 h dX8_exchange_24 ?_
  refine v_iastN_at15 h (by omega) (Nat.le_of_ble_eq_true rfl) dX8_exchange_25 ?_
  exact v_vret h hr dX8_exchange_26 rfl
set_option maxRecDepth 20000 in
set_option maxHeartbeats 2000000 in
theorem c_X8_nextRow {g : vG} {m0 m1 m2 m3 m4 m5 m6 m7 m8 m9 m10 m11 m12 m13 m14 m15 m16 : Nat} {fl : Nat} {tr : Int32} {msrt : Nat → Int32} {len : Nat → Nat} {mc : Nat → Int32} {n : Nat} {w : Nat → Nat} {atp : Nat} {rt : Nat} {rwt : Nat → Nat} {hn : Nat} {kd : Nat → Nat} {pt : Nat → Nat} {far : Nat → Int32} {sn : Nat} {sb : Nat → Nat} {sf : Nat → Nat} {ss : Nat → Nat} {sw : Nat → Nat} {ways : Nat → Nat} {chain : Nat → Nat} {row : Nat → Nat} {best : Nat → Nat} {y9 : Nat} (hm5 : y9 ≤ 5) (hm1 : 1 ≤ y9) (hr6 : ∀ z, z < y9 → row z < 6) : Ct g yX8_nextRow cX8_nextRow 6 (some .boolean) (rmOf 1 23) [(m0, .inr (7, [.int (nI fl), .int tr, .ref m1, .ref m2, .ref m3, .int (nI n), .ref m4, .int (nI atp), .int (nI rt), .ref m5, .int (nI hn), .ref m6, .ref m7, .ref m8, .int (nI sn), .ref m9, .ref m10, .ref m11, .ref m12, .ref m13, .ref m14, .ref m15, .ref m16])), (m1, .inl (gI g, 4, .inl msrt)), (m2, .inl (gI g, 4, .inl (fun z9 => nI (len z9)))), (m3, .inl (gI g, 160, .inl mc)), (m4, .inl (gI g, 8, .inl (fun z9 => nI (w z9)))), (m5, .inl (gI g, 8, .inl (fun z9 => nI (rwt z9)))), (m6, .inl (gI g, 6, .inl (fun z9 => nI (kd z9)))), (m7, .inl (gI g, 6, .inl (fun z9 => nI (pt z9)))), (m8, .inl (gI g, 8, .inl far)), (m9, .inl (gI g, 10, .inl (fun z9 => nI (sb z9)))), (m10, .inl (gI g, 10, .inl (fun z9 => nI (sf z9)))), (m11, .inl (gI g, 10, .inl (fun z9 => nI (ss z9)))), (m12, .inl (gI g, 10, .inl (fun z9 => nI (sw z9)))), (m13, .inl (gI g, 256, .inl (fun z9 => nI (ways z9)))), (m14, .inl (gI g, 8, .inl (fun z9 => nI (chain z9)))), (m15, .inl (gI g, 5, .inl (fun z9 => nI (row z9)))), (m16, .inl (gI g, 5, .inl (fun z9 => nI (best z9))))] [.ref m0, .int (nI y9)] (some (.int (nI (bN ((nxt y9 row).isSome))))) [(m0, .inr (7, [.int (nI fl), .int tr, .ref m1, .ref m2, .ref m3, .int (nI n), .ref m4, .int (nI atp), .int (nI rt), .ref m5, .int (nI hn), .ref m6, .ref m7, .ref m8, .int (nI sn), .ref m9, .ref m10, .ref m11, .ref m12, .ref m13, .ref m14, .ref m15, .ref m16])), (m1, .inl (gI g, 4, .inl msrt)), (m2, .inl (gI g, 4, .inl (fun z9 => nI (len z9)))), (m3, .inl (gI g, 160, .inl mc)), (m4, .inl (gI g, 8, .inl (fun z9 => nI (w z9)))), (m5, .inl (gI g, 8, .inl (fun z9 => nI (rwt z9)))), (m6, .inl (gI g, 6, .inl (fun z9 => nI (kd z9)))), (m7, .inl (gI g, 6, .inl (fun z9 => nI (pt z9)))), (m8, .inl (gI g, 8, .inl far)), (m9, .inl (gI g, 10, .inl (fun z9 => nI (sb z9)))), (m10, .inl (gI g, 10, .inl (fun z9 => nI (sf z9)))), (m11, .inl (gI g, 10, .inl (fun z9 => nI (ss z9)))), (m12, .inl (gI g, 10, .inl (fun z9 => nI (sw z9)))), (m13, .inl (gI g, 256, .inl (fun z9 => nI (ways z9)))), (m14, .inl (gI g, 8, .inl (fun z9 => nI (chain z9)))), (m15, .inl (gI g, 5, .inl (fun z9 => nI (((nxt y9 row).getD row) z9)))), (m16, .inl (gI g, 5, .inl (fun z9 => nI (best z9))))] := by
  refine Ct.ofV RX8 rfl (by decide +kernel) rfl rfl rfl (Nat.le_of_ble_eq_true rfl) (List.forall_mem_cons.mpr ⟨rfl, (List.forall_mem_cons.mpr ⟨rfl, (fun _ h9 => absurd h9 List.not_mem_nil)⟩)⟩) (fun x h hr => ?_)
  show vM x 0 [some (.ref m0), some (.int (nI y9)), none, none, none, none] [] [(m0, .inr (7, [.int (nI fl), .int tr, .ref m1, .ref m2, .ref m3, .int (nI n), .ref m4, .int (nI atp), .int (nI rt), .ref m5, .int (nI hn), .ref m6, .ref m7, .ref m8, .int (nI sn), .ref m9, .ref m10, .ref m11, .ref m12, .ref m13, .ref m14, .ref m15, .ref m16])), (m1, .inl (gI g, 4, .inl msrt)), (m2, .inl (gI g, 4, .inl (fun z9 => nI (len z9)))), (m3, .inl (gI g, 160, .inl mc)), (m4, .inl (gI g, 8, .inl (fun z9 => nI (w z9)))), (m5, .inl (gI g, 8, .inl (fun z9 => nI (rwt z9)))), (m6, .inl (gI g, 6, .inl (fun z9 => nI (kd z9)))), (m7, .inl (gI g, 6, .inl (fun z9 => nI (pt z9)))), (m8, .inl (gI g, 8, .inl far)), (m9, .inl (gI g, 10, .inl (fun z9 => nI (sb z9)))), (m10, .inl (gI g, 10, .inl (fun z9 => nI (sf z9)))), (m11, .inl (gI g, 10, .inl (fun z9 => nI (ss z9)))), (m12, .inl (gI g, 10, .inl (fun z9 => nI (sw z9)))), (m13, .inl (gI g, 256, .inl (fun z9 => nI (ways z9)))), (m14, .inl (gI g, 8, .inl (fun z9 => nI (chain z9)))), (m15, .inl (gI g, 5, .inl (fun z9 => nI (row z9)))), (m16, .inl (gI g, 5, .inl (fun z9 => nI (best z9))))]
  refine v_iload_n1 h dX8_nextRow_0 ?_
  refine v_iconst h (v := nI 2) dX8_nextRow_1 (by decide) ?_
  refine v_isub h dX8_nextRow_2 ?_
  refine v_istore_n2 h (Nat.le_of_ble_eq_true rfl) dX8_nextRow_3 ?_
  have L4 : ∀ (k4 : Nat) (k : Nat), k = k4 → (k + 1 ≤ y9) → (ris row (y9 - 1) = ris row k) → vM x 4 [some (.ref m0), some (.int (nI y9)), some (.int (nI k + Int32.ofInt (-1))), none, none, none] [] [(m0, .inr (7, [.int (nI fl), .int tr, .ref m1, .ref m2, .ref m3, .int (nI n), .ref m4, .int (nI atp), .int (nI rt), .ref m5, .int (nI hn), .ref m6, .ref m7, .ref m8, .int (nI sn), .ref m9, .ref m10, .ref m11, .ref m12, .ref m13, .ref m14, .ref m15, .ref m16])), (m1, .inl (gI g, 4, .inl msrt)), (m2, .inl (gI g, 4, .inl (fun z9 => nI (len z9)))), (m3, .inl (gI g, 160, .inl mc)), (m4, .inl (gI g, 8, .inl (fun z9 => nI (w z9)))), (m5, .inl (gI g, 8, .inl (fun z9 => nI (rwt z9)))), (m6, .inl (gI g, 6, .inl (fun z9 => nI (kd z9)))), (m7, .inl (gI g, 6, .inl (fun z9 => nI (pt z9)))), (m8, .inl (gI g, 8, .inl far)), (m9, .inl (gI g, 10, .inl (fun z9 => nI (sb z9)))), (m10, .inl (gI g, 10, .inl (fun z9 => nI (sf z9)))), (m11, .inl (gI g, 10, .inl (fun z9 => nI (ss z9)))), (m12, .inl (gI g, 10, .inl (fun z9 => nI (sw z9)))), (m13, .inl (gI g, 256, .inl (fun z9 => nI (ways z9)))), (m14, .inl (gI g, 8, .inl (fun z9 => nI (chain z9)))), (m15, .inl (gI g, 5, .inl (fun z9 => nI (row z9)))), (m16, .inl (gI g, 5, .inl (fun z9 => nI (best z9))))] := by
    intro k4
    induction k4 using Nat.strongRecOn with
    | _ k4 ih4 =>
      intro k hm4 hk h1
      rcases k with _ | k
      · have e9 : ris row (y9 - 1) = none := h1
        refine v_iload_n2 h dX8_nextRow_4 ?_
        refine v_if_lt h dX8_nextRow_5 (tgt := 31) (by decide) (fun c5 => ?_) (fun c5 => ?_)
        · refine v_iload_n2 h dX8_nextRow_31 ?_
          refine v_if_ge h dX8_nextRow_32 (tgt := 37) (by decide) (fun c32 => ?_) (fun c32 => ?_)
          · exact absurd c32 (by decide)
          · refine v_iconst h (v := nI 0) dX8_nextRow_35 (by decide) ?_
            exact v_zret (v := false) h hr dX8_nextRow_36 (by rw [nxt, e9]; rfl) (by rw [nxt, e9]; rfl)
        · exact absurd (by decide) c5
      · rw [show nI (k + 1) + Int32.ofInt (-1) = nI k from pk_m1 k]
        refine v_iload_n2 h dX8_nextRow_4 ?_
        refine v_if_ltN h dX8_nextRow_5 (by omega) (tgt := 31) (by decide) ?_
        refine v_aload_n0 h dX8_nextRow_8 ?_
        refine v_get h mw_X8 0 rfl rfl 21 (by decide) mf_X8_52 rfl dX8_nextRow_9 ?_
        refine v_iload_n2 h dX8_nextRow_12 ?_
        refine v_ialdN h 15 rfl (by omega) (Nat.le_of_ble_eq_true rfl) dX8_nextRow_13 ?_
        refine v_aload_n0 h dX8_nextRow_14 ?_
        refine v_get h mw_X8 0 rfl rfl 21 (by decide) mf_X8_52 rfl dX8_nextRow_15 ?_
        refine v_iload_n2 h dX8_nextRow_18 ?_
        refine v_iconst h (v := nI 1) dX8_nextRow_19 (by decide) ?_
        refine v_iaddN h dX8_nextRow_20 ?_
        refine v_ialdN h 15 rfl (by omega) (Nat.le_of_ble_eq_true rfl) dX8_nextRow_21 ?_
        refine v_icmp_ltN h dX8_nextRow_22 (tgt := 31) (by decide) (by first | (have := hr6 k (by omega); omega) | (have := hr6 (k + 1) (by omega); omega)) (by first | (have := hr6 k (by omega); omega) | (have := hr6 (k + 1) (by omega); omega)) (fun c22 => ?_) (fun c22 => ?_)
        · have e9 : ris row (y9 - 1) = some k := by rw [h1, ris, if_pos c22]
          refine v_iload_n2 h dX8_nextRow_31 ?_
          refine v_if_geN h dX8_nextRow_32 (by omega) (tgt := 37) (by decide) ?_
          refine v_iload_n1 h dX8_nextRow_37 ?_
          refine v_iconst h (v := nI 1) dX8_nextRow_38 (by decide) ?_
          refine v_isubN h dX8_nextRow_39 (by omega) ?_
          refine v_istore_n3 h (Nat.le_of_ble_eq_true rfl) dX8_nextRow_40 ?_
          have L41 : ∀ (k41 : Nat) (q : Nat), q = k41 → (q ≤ y9 - 1) → (k < q) → (gre row k (y9 - 1) = gre row k q) → vM x 41 [some (.ref m0), some (.int (nI y9)), some (.int (nI k)), some (.int (nI q)), none, none] [] [(m0, .inr (7, [.int (nI fl), .int tr, .ref m1, .ref m2, .ref m3, .int (nI n), .ref m4, .int (nI atp), .int (nI rt), .ref m5, .int (nI hn), .ref m6, .ref m7, .ref m8, .int (nI sn), .ref m9, .ref m10, .ref m11, .ref m12, .ref m13, .ref m14, .ref m15, .ref m16])), (m1, .inl (gI g, 4, .inl msrt)), (m2, .inl (gI g, 4, .inl (fun z9 => nI (len z9)))), (m3, .inl (gI g, 160, .inl mc)), (m4, .inl (gI g, 8, .inl (fun z9 => nI (w z9)))), (m5, .inl (gI g, 8, .inl (fun z9 => nI (rwt z9)))), (m6, .inl (gI g, 6, .inl (fun z9 => nI (kd z9)))), (m7, .inl (gI g, 6, .inl (fun z9 => nI (pt z9)))), (m8, .inl (gI g, 8, .inl far)), (m9, .inl (gI g, 10, .inl (fun z9 => nI (sb z9)))), (m10, .inl (gI g, 10, .inl (fun z9 => nI (sf z9)))), (m11, .inl (gI g, 10, .inl (fun z9 => nI (ss z9)))), (m12, .inl (gI g, 10, .inl (fun z9 => nI (sw z9)))), (m13, .inl (gI g, 256, .inl (fun z9 => nI (ways z9)))), (m14, .inl (gI g, 8, .inl (fun z9 => nI (chain z9)))), (m15, .inl (gI g, 5, .inl (fun z9 => nI (row z9)))), (m16, .inl (gI g, 5, .inl (fun z9 => nI (best z9))))] := by
            intro k41
            induction k41 using Nat.strongRecOn with
            | _ k41 ih41 =>
              intro q hm41 hq hkq hg
              refine v_aload_n0 h dX8_nextRow_41 ?_
              refine v_get h mw_X8 0 rfl rfl 21 (by decide) mf_X8_52 rfl dX8_nextRow_42 ?_
              refine v_iload_n3 h dX8_nextRow_45 ?_
              refine v_ialdN h 15 rfl (by omega) (Nat.le_of_ble_eq_true rfl) dX8_nextRow_46 ?_
              refine v_aload_n0 h dX8_nextRow_47 ?_
              refine v_get h mw_X8 0 rfl rfl 21 (by decide) mf_X8_52 rfl dX8_nextRow_48 ?_
              refine v_iload_n2 h dX8_nextRow_51 ?_
              refine v_ialdN h 15 rfl (by omega) (Nat.le_of_ble_eq_true rfl) dX8_nextRow_52 ?_
              refine v_icmp_gtN h dX8_nextRow_53 (tgt := 62) (by decide) (by first | (have := hr6 k (by omega); omega) | (have := hr6 q (by omega); omega)) (by first | (have := hr6 k (by omega); omega) | (have := hr6 q (by omega); omega)) (fun c53 => ?_) (fun c53 => ?_)
              · have e8 : gre row k (y9 - 1) = q := by
                  rw [hg]
                  obtain ⟨b, rfl⟩ : ∃ b, q = b + 1 := ⟨q - 1, by omega⟩
                  rw [gre, if_neg (by omega)]
                refine v_aload_n0 h dX8_nextRow_62 ?_
                refine v_iload_n2 h dX8_nextRow_63 ?_
                refine v_iload_n3 h dX8_nextRow_64 ?_
                refine cw_V_0_1_2_3_4_5_6_7_8_9_10_11_12_13_14_15_16_2_v (ci := 7) h (c_X8_exchange (g := g) (by first | assumption | omega) (by first | assumption | omega)) lk_X8_169 ⟨rfl, rfl, (Nat.le_of_ble_eq_true rfl), (Nat.le_of_ble_eq_true rfl)⟩ rfl rfl rfl (Nat.le_of_ble_eq_true rfl) dX8_nextRow_65 ?_
                refine v_iload_n2 h dX8_nextRow_68 ?_
                refine v_iconst h (v := nI 1) dX8_nextRow_69 (by decide) ?_
                refine v_iaddN h dX8_nextRow_70 ?_
                refine v_istore4 h (Nat.le_of_ble_eq_true rfl) dX8_nextRow_71 ?_
                refine v_iload_n1 h dX8_nextRow_73 ?_
                refine v_iconst h (v := nI 1) dX8_nextRow_74 (by decide) ?_
                refine v_isubN h dX8_nextRow_75 (by omega) ?_
                refine v_istore5 h (Nat.le_of_ble_eq_true rfl) dX8_nextRow_76 ?_
                have L78 : ∀ (k78 : Nat) (f lo hi : Nat) (u1 : Nat → Nat), hi - lo = k78 → (hi ≤ lo + f) → (lo ≤ 5) → (hi ≤ y9 - 1) → (rvs f u1 lo hi = rvs y9 (exw row k q) (k + 1) (y9 - 1)) → vM x 78 [some (.ref m0), some (.int (nI y9)), some (.int (nI k)), none, some (.int (nI lo)), some (.int (nI hi))] [] [(m0, .inr (7, [.int (nI fl), .int tr, .ref m1, .ref m2, .ref m3, .int (nI n), .ref m4, .int (nI atp), .int (nI rt), .ref m5, .int (nI hn), .ref m6, .ref m7, .ref m8, .int (nI sn), .ref m9, .ref m10, .ref m11, .ref m12, .ref m13, .ref m14, .ref m15, .ref m16])), (m1, .inl (gI g, 4, .inl msrt)), (m2, .inl (gI g, 4, .inl (fun z9 => nI (len z9)))), (m3, .inl (gI g, 160, .inl mc)), (m4, .inl (gI g, 8, .inl (fun z9 => nI (w z9)))), (m5, .inl (gI g, 8, .inl (fun z9 => nI (rwt z9)))), (m6, .inl (gI g, 6, .inl (fun z9 => nI (kd z9)))), (m7, .inl (gI g, 6, .inl (fun z9 => nI (pt z9)))), (m8, .inl (gI g, 8, .inl far)), (m9, .inl (gI g, 10, .inl (fun z9 => nI (sb z9)))), (m10, .inl (gI g, 10, .inl (fun z9 => nI (sf z9)))), (m11, .inl (gI g, 10, .inl (fun z9 => nI (ss z9)))), (m12, .inl (gI g, 10, .inl (fun z9 => nI (sw z9)))), (m13, .inl (gI g, 256, .inl (fun z9 => nI (ways z9)))), (m14, .inl (gI g, 8, .inl (fun z9 => nI (chain z9)))), (m15, .inl (gI g, 5, .inl (fun z9 => nI (u1 z9)))), (m16, .inl (gI g, 5, .inl (fun z9 => nI (best z9))))] := by
                  intro k78
                  induction k78 using Nat.strongRecOn with
                  | _ k78 ih78 =>
                    intro f lo hi u1 hm78 hf hlo hhi h3
                    refine v_iload4 h dX8_nextRow_78 ?_
                    refine v_iload5 h dX8_nextRow_80 ?_
                    refine v_icmp_geN h dX8_nextRow_82 (tgt := 102) (by decide) (by omega) (by omega) (fun c82 => ?_) (fun c82 => ?_)
                    · refine v_iconst h (v := nI 1) dX8_nextRow_102 (by decide) ?_
                      exact v_zret (v := true) h hr dX8_nextRow_103 (by rw [nxt, e9]; rfl) (by rw [nxt, e9]; rw [show u1 = rvs y9 (exw row k (gre row k (y9 - 1))) (k + 1) (y9 - 1) by rw [e8, ← h3, rvs_fuel _ _ _ _ (by omega)]]; rfl)
                    · obtain ⟨b, rfl⟩ : ∃ b, hi = b + 1 := ⟨hi - 1, by omega⟩
                      obtain ⟨f9, rfl⟩ : ∃ f9, f = f9 + 1 := ⟨f - 1, by omega⟩
                      refine v_aload_n0 h dX8_nextRow_85 ?_
                      refine v_iload4 h dX8_nextRow_86 ?_
                      refine v_iload5 h dX8_nextRow_88 ?_
                      refine cw_V_0_1_2_3_4_5_6_7_8_9_10_11_12_13_14_15_16_2_v (ci := 7) h (c_X8_exchange (g := g) (by first | assumption | omega) (by first | assumption | omega)) lk_X8_169 ⟨rfl, rfl, (Nat.le_of_ble_eq_true rfl), (Nat.le_of_ble_eq_true rfl)⟩ rfl rfl rfl (Nat.le_of_ble_eq_true rfl) dX8_nextRow_90 ?_
                      refine v_iincN4 h (Nat.le_of_ble_eq_true rfl) dX8_nextRow_93 ?_
                      refine v_idecN5 h (Nat.le_of_ble_eq_true rfl) dX8_nextRow_96 ?_
                      refine v_goto h dX8_nextRow_99 (tgt := 78) (by decide) ?_
                      exact vM.fg (ih78 _ (by omega) f9 (lo + 1) b _ rfl (by first | assumption | rfl | omega) (by first | assumption | rfl | omega) (by first | assumption | rfl | omega) (by rw [← h3, rvs, if_pos (by omega), Nat.add_sub_cancel])) ⟨rfl, rfl, rfl, rfl, rfl, trivial⟩
                exact vM.fg (L78 _ y9 (k + 1) (y9 - 1) _ rfl (by first | assumption | rfl | omega) (by first | assumption | rfl | omega) (by first | assumption | rfl | omega) (by rfl)) ⟨rfl, rfl, rfl, rfl, rfl, trivial⟩
              · obtain ⟨b, rfl⟩ : ∃ b, q = b + 1 := ⟨q - 1, by omega⟩
                have hb9 : b ≠ k := fun e => by subst e; omega
                refine v_idecN3 h (Nat.le_of_ble_eq_true rfl) dX8_nextRow_56 ?_
                refine v_goto h dX8_nextRow_59 (tgt := 41) (by decide) ?_
                exact vM.fg (ih41 _ (by omega) b rfl (by first | assumption | rfl | omega) (by first | assumption | rfl | omega) (by rw [hg, gre, if_pos (by omega)])) ⟨rfl, rfl, rfl, rfl, trivial⟩
          exact vM.fg (L41 _ (y9 - 1) rfl (by first | assumption | rfl | omega) (by first | assumption | rfl | omega) (by rfl)) ⟨rfl, rfl, rfl, rfl, trivial⟩
        · refine v_iinc2 h (Nat.le_of_ble_eq_true rfl) dX8_nextRow_25 ?_
          refine v_goto h dX8_nextRow_28 (tgt := 4) (by decide) ?_
          exact vM.fg (ih4 _ (by omega) k rfl (by first | assumption | rfl | omega) (by rw [h1, ris, if_neg (by omega)])) ⟨rfl, rfl, rfl, trivial⟩
  exact vM.fg (L4 _ (y9 - 1) rfl (by first | assumption | rfl | omega) (by rfl)) ⟨rfl, rfl, (by rw [show nI y9 - nI 2 = nI (y9 - 1) + Int32.ofInt (-1) from by rw [show y9 = (y9 - 1) + 1 by omega, Nat.add_sub_cancel, ← nI_1]; exact nI_m2 _]), trivial⟩
