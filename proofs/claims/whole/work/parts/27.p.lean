theorem v_iastF_at1 {x : vX} {g : vG} {cc : ByteArray} {own : String} {rm : Room} {nL pc : Nat} {lv : List (Option Value)} {st : List Value} {w0 : Nat × va_E} {wt : va_W} {n b i : Nat} {f : Nat → Int32} {v : Int32} (h : Ok x g cc own rm nL) (hi : i < n) (hn : n < 2 ^ 31) (hd : decode cc pc = .ok (.iastore, 1)) (k : vM x (pc + 1) lv st (w0 :: (b, .inl (gI g, n, .inl (upd f i v))) :: wt)) : vM x pc lv (.int v :: .int (nI i) :: .ref b :: st) (w0 :: (b, .inl (gI g, n, .inl f)) :: wt) := v_iastF h 1 rfl hi hn hd rfl k
theorem v_iastF_at3 {x : vX} {g : vG} {cc : ByteArray} {own : String} {rm : Room} {nL pc : Nat} {lv : List (Option Value)} {st : List Value} {w0 w1 w2 : Nat × va_E} {wt : va_W} {n b i : Nat} {f : Nat → Int32} {v : Int32} (h : Ok x g cc own rm nL) (hi : i < n) (hn : n < 2 ^ 31) (hd : decode cc pc = .ok (.iastore, 1)) (k : vM x (pc + 1) lv st (w0 :: w1 :: w2 :: (b, .inl (gI g, n, .inl (upd f i v))) :: wt)) : vM x pc lv (.int v :: .int (nI i) :: .ref b :: st) (w0 :: w1 :: w2 :: (b, .inl (gI g, n, .inl f)) :: wt) := v_iastF h 3 rfl hi hn hd rfl k
theorem cw_V_0_1_2_3_4_5_6_7_8_9_10_11_12_13_14_15_16_1_l {x : vX} {g : vG} {cc : ByteArray} {own : String} {rm : Room} {nL pc : Nat} {lv : List (Option Value)} {st : List Value} {wt : va_W} {c0 c1 c2 c3 c4 c5 c6 c7 c8 c9 c10 c11 c12 c13 c14 c15 c16 d0 d1 d2 d3 d4 d5 d6 d7 d8 d9 d10 d11 d12 d13 d14 d15 d16 : Nat × va_E} {idx : Nat} {y : MethodName} {bytes : ByteArray} {ml : Nat} {ret : Option FieldType} {rmc : Room} {r : Int64} {p0 : Value} {a ci : Nat} {q : vw_C} {fs : List Value} (h : Ok x g cc own rm nL) (hc : Ct g y bytes ml ret rmc [c0, c1, c2, c3, c4, c5, c6, c7, c8, c9, c10, c11, c12, c13, c14, c15, c16] [.ref a, p0] (some (.long r)) [d0, d1, d2, d3, d4, d5, d6, d7, d8, d9, d10, d11, d12, d13, d14, d15, d16]) (lk : LkV own idx y bytes ml ret 1) (hrm : RmOk rmc rm ml) (hcl : vwCl[ci]? = some q) (hq : y.cls = q.1) (h0 : c0 = (a, .inr (ci, fs))) (hW : (st.map fun v => v.category).sum ≤ 8) (hd : decode cc pc = .ok (.invokevirtual idx, 3)) (k : vM x (pc + 3) lv (.long r :: st) (d0 :: d1 :: d2 :: d3 :: d4 :: d5 :: d6 :: d7 :: d8 :: d9 :: d10 :: d11 :: d12 :: d13 :: d14 :: d15 :: d16 :: wt)) : vM x pc lv (p0 :: .ref a :: st) (c0 :: c1 :: c2 :: c3 :: c4 :: c5 :: c6 :: c7 :: c8 :: c9 :: c10 :: c11 :: c12 :: c13 :: c14 :: c15 :: c16 :: wt) := v_callV (As := [p0]) (rest := st) h hc lk hrm hcl hq (by rw [h0]; rfl) rfl [0, 1, 2, 3, 4, 5, 6, 7, 8, 9, 10, 11, 12, 13, 14, 15, 16] rfl (by decide) hW hd rfl k
theorem lk_X8_188 : LkV RX8 188 yX8_lost cX8_lost 2 (some .long) 1 := ⟨ml_X8_188, mn_X8_lost, mv_X8_lost, mi_X8, mc_X8_lost, ⟨by decide, by decide, by decide +kernel⟩⟩
def P_X8_sheet (g : vG) (m0 m1 m2 m3 m4 m5 m6 m7 m8 m9 m10 m11 m12 m13 m14 m15 m16 : Nat) (fl : Nat) (tr : Int32) (msrt : Nat → Int32) (len : Nat → Nat) (mc : Nat → Int32) (n : Nat) (w : Nat → Nat) (atp : Nat) (rt : Nat) (rwt : Nat → Nat) (hn : Nat) (kd : Nat → Nat) (pt : Nat → Nat) (far : Nat → Int32) (sn : Nat) (sb : Nat → Nat) (sf : Nat → Nat) (ss : Nat → Nat) (sw : Nat → Nat) (ways : Nat → Nat) (chain : Nat → Nat) (row : Nat → Nat) (best : Nat → Nat) (p0 : Int32) (p1 : Int32) (p2 : Int32) (fil : Nat → Bool) (srt : Nat → Nat) (cc : Nat → Nat → Int32) : Option Value → va_W → Prop := fun r wo => ∃ msrt' : Nat → Int32, ∃ mc' : Nat → Int32, (∀ k, k < 4 → msrt' k = if (s_sheet fil srt len cc p0 p1 p2).2.2.1 k = true then nI ((s_sheet fil srt len cc p0 p1 p2).2.2.2.1 k) else -9) ∧ (∀ k, k < 4 → (s_sheet fil srt len cc p0 p1 p2).2.2.1 k = true → ∀ j, j < (s_sheet fil srt len cc p0 p1 p2).2.2.2.2.1 k → mc' (40 * k + j) = (s_sheet fil srt len cc p0 p1 p2).2.2.2.2.2 k j) ∧ r = some (.int (s_sheet fil srt len cc p0 p1 p2).1) ∧ wo = [(m0, .inr (7, [.int (nI ((s_sheet fil srt len cc p0 p1 p2).2.1)), .int tr, .ref m1, .ref m2, .ref m3, .int (nI n), .ref m4, .int (nI atp), .int (nI rt), .ref m5, .int (nI hn), .ref m6, .ref m7, .ref m8, .int (nI sn), .ref m9, .ref m10, .ref m11, .ref m12, .ref m13, .ref m14, .ref m15, .ref m16])), (m1, .inl (gI g, 4, .inl msrt')), (m2, .inl (gI g, 4, .inl (fun z9 => nI (((s_sheet fil srt len cc p0 p1 p2).2.2.2.2.1) z9)))), (m3, .inl (gI g, 160, .inl mc')), (m4, .inl (gI g, 8, .inl (fun z9 => nI (w z9)))), (m5, .inl (gI g, 8, .inl (fun z9 => nI (rwt z9)))), (m6, .inl (gI g, 6, .inl (fun z9 => nI (kd z9)))), (m7, .inl (gI g, 6, .inl (fun z9 => nI (pt z9)))), (m8, .inl (gI g, 8, .inl far)), (m9, .inl (gI g, 10, .inl (fun z9 => nI (sb z9)))), (m10, .inl (gI g, 10, .inl (fun z9 => nI (sf z9)))), (m11, .inl (gI g, 10, .inl (fun z9 => nI (ss z9)))), (m12, .inl (gI g, 10, .inl (fun z9 => nI (sw z9)))), (m13, .inl (gI g, 256, .inl (fun z9 => nI (ways z9)))), (m14, .inl (gI g, 8, .inl (fun z9 => nI (chain z9)))), (m15, .inl (gI g, 5, .inl (fun z9 => nI (row z9)))), (m16, .inl (gI g, 5, .inl (fun z9 => nI (best z9))))]
theorem P_X8_sheet_mk {g : vG} {m0 m1 m2 m3 m4 m5 m6 m7 m8 m9 m10 m11 m12 m13 m14 m15 m16 : Nat} {fl : Nat} {tr : Int32} {msrt : Nat → Int32} {len : Nat → Nat} {mc : Nat → Int32} {n : Nat} {w : Nat → Nat} {atp : Nat} {rt : Nat} {rwt : Nat → Nat} {hn : Nat} {kd : Nat → Nat} {pt : Nat → Nat} {far : Nat → Int32} {sn : Nat} {sb : Nat → Nat} {sf : Nat → Nat} {ss : Nat → Nat} {sw : Nat → Nat} {ways : Nat → Nat} {chain : Nat → Nat} {row : Nat → Nat} {best : Nat → Nat} {p0 : Int32} {p1 : Int32} {p2 : Int32} {fil : Nat → Bool} {srt : Nat → Nat} {cc : Nat → Nat → Int32} {msrt' : Nat → Int32} {mc' : Nat → Int32} {q : Int32 × Nat × (Nat → Bool) × (Nat → Nat) × (Nat → Nat) × (Nat → Nat → Int32)} (hs : s_sheet fil srt len cc p0 p1 p2 = q) (hb0 : ∀ k, k < 4 → msrt' k = if (s_sheet fil srt len cc p0 p1 p2).2.2.1 k = true then nI ((s_sheet fil srt len cc p0 p1 p2).2.2.2.1 k) else -9) (hb1 : ∀ k, k < 4 → (s_sheet fil srt len cc p0 p1 p2).2.2.1 k = true → ∀ j, j < (s_sheet fil srt len cc p0 p1 p2).2.2.2.2.1 k → mc' (40 * k + j) = (s_sheet fil srt len cc p0 p1 p2).2.2.2.2.2 k j) : P_X8_sheet g m0 m1 m2 m3 m4 m5 m6 m7 m8 m9 m10 m11 m12 m13 m14 m15 m16 fl tr msrt len mc n w atp rt rwt hn kd pt far sn sb sf ss sw ways chain row best p0 p1 p2 fil srt cc (some (.int q.1)) [(m0, .inr (7, [.int (nI q.2.1), .int tr, .ref m1, .ref m2, .ref m3, .int (nI n), .ref m4, .int (nI atp), .int (nI rt), .ref m5, .int (nI hn), .ref m6, .ref m7, .ref m8, .int (nI sn), .ref m9, .ref m10, .ref m11, .ref m12, .ref m13, .ref m14, .ref m15, .ref m16])), (m1, .inl (gI g, 4, .inl msrt')), (m2, .inl (gI g, 4, .inl (fun z9 => nI (q.2.2.2.2.1 z9)))), (m3, .inl (gI g, 160, .inl mc')), (m4, .inl (gI g, 8, .inl (fun z9 => nI (w z9)))), (m5, .inl (gI g, 8, .inl (fun z9 => nI (rwt z9)))), (m6, .inl (gI g, 6, .inl (fun z9 => nI (kd z9)))), (m7, .inl (gI g, 6, .inl (fun z9 => nI (pt z9)))), (m8, .inl (gI g, 8, .inl far)), (m9, .inl (gI g, 10, .inl (fun z9 => nI (sb z9)))), (m10, .inl (gI g, 10, .inl (fun z9 => nI (sf z9)))), (m11, .inl (gI g, 10, .inl (fun z9 => nI (ss z9)))), (m12, .inl (gI g, 10, .inl (fun z9 => nI (sw z9)))), (m13, .inl (gI g, 256, .inl (fun z9 => nI (ways z9)))), (m14, .inl (gI g, 8, .inl (fun z9 => nI (chain z9)))), (m15, .inl (gI g, 5, .inl (fun z9 => nI (row z9)))), (m16, .inl (gI g, 5, .inl (fun z9 => nI (best z9))))] := by subst hs; exact ⟨_, _, hb0, hb1, rfl, rfl⟩
set_option maxRecDepth 20000 in
set_option maxHeartbeats 4000000 in
theorem c_X8_sheet {g : vG} {m0 m1 m2 m3 m4 m5 m6 m7 m8 m9 m10 m11 m12 m13 m14 m15 m16 : Nat} {fl : Nat} {tr : Int32} {msrt : Nat → Int32} {len : Nat → Nat} {mc : Nat → Int32} {n : Nat} {w : Nat → Nat} {atp : Nat} {rt : Nat} {rwt : Nat → Nat} {hn : Nat} {kd : Nat → Nat} {pt : Nat → Nat} {far : Nat → Int32} {sn : Nat} {sb : Nat → Nat} {sf : Nat → Nat} {ss : Nat → Nat} {sw : Nat → Nat} {ways : Nat → Nat} {chain : Nat → Nat} {row : Nat → Nat} {best : Nat → Nat} {p0 : Int32} {p1 : Int32} {p2 : Int32} {fil : Nat → Bool} {srt : Nat → Nat} {cc : Nat → Nat → Int32} (hsr : ∀ k, srt k ≤ 2) (hln : ∀ k, len k ≤ 40) (hms : ∀ k, k < 4 → msrt k = if fil k = true then nI (srt k) else -9) (hmc : ∀ k, k < 4 → fil k = true → ∀ j, j < len k → mc (40 * k + j) = cc k j) : CtP g yX8_sheet cX8_sheet 5 (some .int) (rmOf 2 42) [(m0, .inr (7, [.int (nI fl), .int tr, .ref m1, .ref m2, .ref m3, .int (nI n), .ref m4, .int (nI atp), .int (nI rt), .ref m5, .int (nI hn), .ref m6, .ref m7, .ref m8, .int (nI sn), .ref m9, .ref m10, .ref m11, .ref m12, .ref m13, .ref m14, .ref m15, .ref m16])), (m1, .inl (gI g, 4, .inl msrt)), (m2, .inl (gI g, 4, .inl (fun z9 => nI (len z9)))), (m3, .inl (gI g, 160, .inl mc)), (m4, .inl (gI g, 8, .inl (fun z9 => nI (w z9)))), (m5, .inl (gI g, 8, .inl (fun z9 => nI (rwt z9)))), (m6, .inl (gI g, 6, .inl (fun z9 => nI (kd z9)))), (m7, .inl (gI g, 6, .inl (fun z9 => nI (pt z9)))), (m8, .inl (gI g, 8, .inl far)), (m9, .inl (gI g, 10, .inl (fun z9 => nI (sb z9)))), (m10, .inl (gI g, 10, .inl (fun z9 => nI (sf z9)))), (m11, .inl (gI g, 10, .inl (fun z9 => nI (ss z9)))), (m12, .inl (gI g, 10, .inl (fun z9 => nI (sw z9)))), (m13, .inl (gI g, 256, .inl (fun z9 => nI (ways z9)))), (m14, .inl (gI g, 8, .inl (fun z9 => nI (chain z9)))), (m15, .inl (gI g, 5, .inl (fun z9 => nI (row z9)))), (m16, .inl (gI g, 5, .inl (fun z9 => nI (best z9))))] [.ref m0, .int p0, .int p1, .int p2] (P_X8_sheet g m0 m1 m2 m3 m4 m5 m6 m7 m8 m9 m10 m11 m12 m13 m14 m15 m16 fl tr msrt len mc n w atp rt rwt hn kd pt far sn sb sf ss sw ways chain row best p0 p1 p2 fil srt cc) := by
  refine CtP.ofV RX8 rfl (by decide +kernel) rfl rfl (Nat.le_of_ble_eq_true rfl) (List.forall_mem_cons.mpr ⟨rfl, (List.forall_mem_cons.mpr ⟨rfl, (List.forall_mem_cons.mpr ⟨rfl, (List.forall_mem_cons.mpr ⟨rfl, (fun _ h9 => absurd h9 List.not_mem_nil)⟩)⟩)⟩)⟩) (fun x h hr => ?_)
  show vM x 0 [some (.ref m0), some (.int p0), some (.int p1), some (.int p2), none] [] [(m0, .inr (7, [.int (nI fl), .int tr, .ref m1, .ref m2, .ref m3, .int (nI n), .ref m4, .int (nI atp), .int (nI rt), .ref m5, .int (nI hn), .ref m6, .ref m7, .ref m8, .int (nI sn), .ref m9, .ref m10, .ref m11, .ref m12, .ref m13, .ref m14, .ref m15, .ref m16])), (m1, .inl (gI g, 4, .inl msrt)), (m2, .inl (gI g, 4, .inl (fun z9 => nI (len z9)))), (m3, .inl (gI g, 160, .inl mc)), (m4, .inl (gI g, 8, .inl (fun z9 => nI (w z9)))), (m5, .inl (gI g, 8, .inl (fun z9 => nI (rwt z9)))), (m6, .inl (gI g, 6, .inl (fun z9 => nI (kd z9)))), (m7, .inl (gI g, 6, .inl (fun z9 => nI (pt z9)))), (m8, .inl (gI g, 8, .inl far)), (m9, .inl (gI g, 10, .inl (fun z9 => nI (sb z9)))), (m10, .inl (gI g, 10, .inl (fun z9 => nI (sf z9)))), (m11, .inl (gI g, 10, .inl (fun z9 => nI (ss z9)))), (m12, .inl (gI g, 10, .inl (fun z9 => nI (sw z9)))), (m13, .inl (gI g, 256, .inl (fun z9 => nI (ways z9)))), (m14, .inl (gI g, 8, .inl (fun z9 => nI (chain z9)))), (m15, .inl (gI g, 5, .inl (fun z9 => nI (row z9)))), (m16, .inl (gI g, 5, .inl (fun z9 => nI (best z9))))]
  refine v_aload_n0 h dX8_sheet_0 ?_
  refine v_iconst h (v := nI 0) dX8_sheet_1 (by decide) ?_
  refine pf_X8_58_at0 h dX8_sheet_2 ?_
  refine v_iload_n1 h dX8_sheet_5 ?_
  refine cw_S_e_1_i h (c_X8_isSheet (g := g)) lk_X8_71 ⟨rfl, rfl, (Nat.le_of_ble_eq_true rfl), (Nat.le_of_ble_eq_true rfl)⟩ (Nat.le_of_ble_eq_true rfl) dX8_sheet_6 ?_
  refine v_if_neB h dX8_sheet_9 (tgt := 14) (by decide) (fun c9 => ?_) (fun c9 => ?_)
  · obtain ⟨j0, -, hj0, rfl⟩ := wi_of c9 (by decide) (by decide)
    have e9 := rN_N (show j0 < 4 by omega) (by decide)
    refine v_iload_n2 h dX8_sheet_14 ?_
    refine cw_S_e_1_i h (c_X8_isSort (g := g)) lk_X8_75 ⟨rfl, rfl, (Nat.le_of_ble_eq_true rfl), (Nat.le_of_ble_eq_true rfl)⟩ (Nat.le_of_ble_eq_true rfl) dX8_sheet_15 ?_
    refine v_if_eqB h dX8_sheet_18 (tgt := 27) (by decide) (fun c18 => ?_) (fun c18 => ?_)
    · have e18 := wi_no c18
      refine v_bipush h (v := -2) dX8_sheet_27 (by decide) ?_
      exact v_iretP h hr dX8_sheet_29 (P_X8_sheet_mk (q := (-2, 0, fil, srt, len, cc)) (by simp only [s_sheet, e9, e18]) (by simp only [s_sheet, e9, e18]; exact hms) (by simp only [s_sheet, e9, e18]; exact hmc)) rfl
    · obtain ⟨j1, hj1a, hj1, rfl⟩ := wi_of c18 (by decide) (by decide)
      have e18 := rW_N hj1a hj1 (by decide)
      refine v_iload_n3 h dX8_sheet_21 ?_
      refine v_bipush h (v := nI 40) dX8_sheet_22 (by decide) ?_
      refine v_icmp_le h dX8_sheet_24 (tgt := 30) (by decide) (fun c24 => ?_) (fun c24 => ?_)
      · refine v_iload_n3 h dX8_sheet_30 ?_
        refine v_if_ge h dX8_sheet_31 (tgt := 40) (by decide) (fun c31 => ?_) (fun c31 => ?_)
        · obtain ⟨j2, -, hj2, rfl⟩ := rW_of (a := 0) (b := 40) c31 c24 (by decide) (by decide)
          refine v_aload_n0 h dX8_sheet_40 ?_
          refine v_get h mw_X8 0 rfl rfl 2 (by decide) mf_X8_9 rfl dX8_sheet_41 ?_
          refine v_iload_n1 h dX8_sheet_44 ?_
          refine v_iload_n2 h dX8_sheet_45 ?_
          refine v_iastF_at1 h (by omega) (Nat.le_of_ble_eq_true rfl) dX8_sheet_46 ?_
          refine v_aload_n0 h dX8_sheet_47 ?_
          refine v_get h mw_X8 0 rfl rfl 3 (by decide) mf_X8_13 rfl dX8_sheet_48 ?_
          refine v_iload_n1 h dX8_sheet_51 ?_
          refine v_iload_n3 h dX8_sheet_52 ?_
          refine v_iastN_at2 h (by omega) (Nat.le_of_ble_eq_true rfl) dX8_sheet_53 ?_
          refine v_iconst h (v := nI 0) dX8_sheet_54 (by decide) ?_
          refine v_istore4 h (Nat.le_of_ble_eq_true rfl) dX8_sheet_55 ?_
          have L57 : ∀ (k57 : Nat) (i : Nat), 40 - i = k57 → (i ≤ 40) → vM x 57 [some (.ref m0), some (.int (nI j0)), some (.int (nI j1)), some (.int (nI j2)), some (.int (nI i))] [] [(m0, .inr (7, [.int (nI 0), .int tr, .ref m1, .ref m2, .ref m3, .int (nI n), .ref m4, .int (nI atp), .int (nI rt), .ref m5, .int (nI hn), .ref m6, .ref m7, .ref m8, .int (nI sn), .ref m9, .ref m10, .ref m11, .ref m12, .ref m13, .ref m14, .ref m15, .ref m16])), (m1, .inl (gI g, 4, .inl (upd msrt j0 (nI j1)))), (m2, .inl (gI g, 4, .inl (fun z9 => nI ((up len j0 j2) z9)))), (m3, .inl (gI g, 160, .inl (clr mc (40 * j0) i))), (m4, .inl (gI g, 8, .inl (fun z9 => nI (w z9)))), (m5, .inl (gI g, 8, .inl (fun z9 => nI (rwt z9)))), (m6, .inl (gI g, 6, .inl (fun z9 => nI (kd z9)))), (m7, .inl (gI g, 6, .inl (fun z9 => nI (pt z9)))), (m8, .inl (gI g, 8, .inl far)), (m9, .inl (gI g, 10, .inl (fun z9 => nI (sb z9)))), (m10, .inl (gI g, 10, .inl (fun z9 => nI (sf z9)))), (m11, .inl (gI g, 10, .inl (fun z9 => nI (ss z9)))), (m12, .inl (gI g, 10, .inl (fun z9 => nI (sw z9)))), (m13, .inl (gI g, 256, .inl (fun z9 => nI (ways z9)))), (m14, .inl (gI g, 8, .inl (fun z9 => nI (chain z9)))), (m15, .inl (gI g, 5, .inl (fun z9 => nI (row z9)))), (m16, .inl (gI g, 5, .inl (fun z9 => nI (best z9))))] := by
            intro k57
            induction k57 using Nat.strongRecOn with
            | _ k57 ih57 =>
              intro i hm57 hi
              refine v_iload4 h dX8_sheet_57 ?_
              refine v_bipush h (v := nI 40) dX8_sheet_59 (by decide) ?_
              refine v_icmp_geN h dX8_sheet_61 (tgt := 83) (by decide) (by omega) (by omega) (fun c61 => ?_) (fun c61 => ?_)
              · obtain rfl : i = 40 := by omega
                refine v_iconst h (v := nI 1) dX8_sheet_83 (by decide) ?_
                exact v_iretP h hr dX8_sheet_84 (P_X8_sheet_mk (q := (nI 1, 0, upB fil j0 true, up srt j0 j1, up len j0 j2, rnw cc j0 j2)) (by simp only [s_sheet, e9, e18, if_neg (Int32.not_lt.mpr c24), if_neg (nI_pos (show j2 < 2 ^ 31 by omega)), tn_N (show j2 < 2 ^ 31 by omega)]) (by simp only [s_sheet, e9, e18, if_neg (Int32.not_lt.mpr c24), if_neg (nI_pos (show j2 < 2 ^ 31 by omega)), tn_N (show j2 < 2 ^ 31 by omega)]; exact hms_sheet hms) (by simp only [s_sheet, e9, e18, if_neg (Int32.not_lt.mpr c24), if_neg (nI_pos (show j2 < 2 ^ 31 by omega)), tn_N (show j2 < 2 ^ 31 by omega)]; exact hmc_sheet hln hmc (by omega))) rfl
              · refine v_aload_n0 h dX8_sheet_64 ?_
                refine v_get h mw_X8 0 rfl rfl 4 (by decide) mf_X8_16 rfl dX8_sheet_65 ?_
                refine v_bipush h (v := nI 40) dX8_sheet_68 (by decide) ?_
                refine v_iload_n1 h dX8_sheet_70 ?_
                refine v_imulN h dX8_sheet_71 ?_
                refine v_iload4 h dX8_sheet_72 ?_
                refine v_iaddN h dX8_sheet_74 ?_
                refine v_iconst h (v := nI 0) dX8_sheet_75 (by decide) ?_
                refine v_iastF_at3 h (by omega) (Nat.le_of_ble_eq_true rfl) dX8_sheet_76 ?_
                refine v_iincN4 h (Nat.le_of_ble_eq_true rfl) dX8_sheet_77 ?_
                refine v_goto h dX8_sheet_80 (tgt := 57) (by decide) ?_
                exact vM.le rfl rfl (by rw [clr_succ]) (vM.fg (ih57 _ (by omega) (i + 1) rfl (by first | assumption | rfl | omega)) ⟨rfl, rfl, rfl, rfl, rfl, trivial⟩)
          exact vM.le rfl rfl (by rw [clr_0]) (vM.fg (L57 _ 0 rfl (by first | assumption | rfl | omega)) ⟨rfl, rfl, rfl, rfl, rfl, trivial⟩)
        · refine v_aload_n0 h dX8_sheet_34 ?_
          refine v_iconst h (v := nI 4) dX8_sheet_35 (by decide) ?_
          refine cw_V_0_1_2_3_4_5_6_7_8_9_10_11_12_13_14_15_16_1_i (ci := 7) h (c_X8_fails (g := g)) lk_X8_82 ⟨rfl, rfl, (Nat.le_of_ble_eq_true rfl), (Nat.le_of_ble_eq_true rfl)⟩ rfl rfl rfl (Nat.le_of_ble_eq_true rfl) dX8_sheet_36 ?_
          exact v_iretP h hr dX8_sheet_39 (P_X8_sheet_mk (q := (-10 - nI 4, 4, fil, srt, len, cc)) (by simp only [s_sheet, e9, e18, if_neg (Int32.not_lt.mpr c24), if_pos (Int32.not_le.mp c31)]) (by simp only [s_sheet, e9, e18, if_neg (Int32.not_lt.mpr c24), if_pos (Int32.not_le.mp c31)]; exact hms) (by simp only [s_sheet, e9, e18, if_neg (Int32.not_lt.mpr c24), if_pos (Int32.not_le.mp c31)]; exact hmc)) rfl
      · refine v_bipush h (v := -2) dX8_sheet_27 (by decide) ?_
        exact v_iretP h hr dX8_sheet_29 (P_X8_sheet_mk (q := (-2, 0, fil, srt, len, cc)) (by simp only [s_sheet, e9, e18, if_pos (Int32.not_le.mp c24)]) (by simp only [s_sheet, e9, e18, if_pos (Int32.not_le.mp c24)]; exact hms) (by simp only [s_sheet, e9, e18, if_pos (Int32.not_le.mp c24)]; exact hmc)) rfl
  · have e9 := wi_rN c9
    refine v_iconst h (v := -1) dX8_sheet_12 (by decide) ?_
    exact v_iretP h hr dX8_sheet_13 (P_X8_sheet_mk (q := (-1, 0, fil, srt, len, cc)) (by simp only [s_sheet, e9]) (by simp only [s_sheet, e9]; exact hms) (by simp only [s_sheet, e9]; exact hmc)) rfl
def P_X8_lose (g : vG) (m0 m1 m2 m3 m4 m5 m6 m7 m8 m9 m10 m11 m12 m13 m14 m15 m16 : Nat) (fl : Nat) (tr : Int32) (msrt : Nat → Int32) (len : Nat → Nat) (mc : Nat → Int32) (n : Nat) (w : Nat → Nat) (atp : Nat) (rt : Nat) (rwt : Nat → Nat) (hn : Nat) (kd : Nat → Nat) (pt : Nat → Nat) (far : Nat → Int32) (sn : Nat) (sb : Nat → Nat) (sf : Nat → Nat) (ss : Nat → Nat) (sw : Nat → Nat) (ways : Nat → Nat) (chain : Nat → Nat) (row : Nat → Nat) (best : Nat → Nat) (p0 : Int32) (fil : Nat → Bool) (srt : Nat → Nat) : Option Value → va_W → Prop := fun r wo => ∃ msrt' : Nat → Int32, (∀ k, k < 4 → msrt' k = if (s_lose fil p0).2 k = true then nI (srt k) else -9) ∧ r = some (.int (s_lose fil p0).1) ∧ wo = [(m0, .inr (7, [.int (nI fl), .int tr, .ref m1, .ref m2, .ref m3, .int (nI n), .ref m4, .int (nI atp), .int (nI rt), .ref m5, .int (nI hn), .ref m6, .ref m7, .ref m8, .int (nI sn), .ref m9, .ref m10, .ref m11, .ref m12, .ref m13, .ref m14, .ref m15, .ref m16])), (m1, .inl (gI g, 4, .inl msrt')), (m2, .inl (gI g, 4, .inl (fun z9 => nI (len z9)))), (m3, .inl (gI g, 160, .inl mc)), (m4, .inl (gI g, 8, .inl (fun z9 => nI (w z9)))), (m5, .inl (gI g, 8, .inl (fun z9 => nI (rwt z9)))), (m6, .inl (gI g, 6, .inl (fun z9 => nI (kd z9)))), (m7, .inl (gI g, 6, .inl (fun z9 => nI (pt z9)))), (m8, .inl (gI g, 8, .inl far)), (m9, .inl (gI g, 10, .inl (fun z9 => nI (sb z9)))), (m10, .inl (gI g, 10, .inl (fun z9 => nI (sf z9)))), (m11, .inl (gI g, 10, .inl (fun z9 => nI (ss z9)))), (m12, .inl (gI g, 10, .inl (fun z9 => nI (sw z9)))), (m13, .inl (gI g, 256, .inl (fun z9 => nI (ways z9)))), (m14, .inl (gI g, 8, .inl (fun z9 => nI (chain z9)))), (m15, .inl (gI g, 5, .inl (fun z9 => nI (row z9)))), (m16, .inl (gI g, 5, .inl (fun z9 => nI (best z9))))]
theorem P_X8_lose_mk {g : vG} {m0 m1 m2 m3 m4 m5 m6 m7 m8 m9 m10 m11 m12 m13 m14 m15 m16 : Nat} {fl : Nat} {tr : Int32} {msrt : Nat → Int32} {len : Nat → Nat} {mc : Nat → Int32} {n : Nat} {w : Nat → Nat} {atp : Nat} {rt : Nat} {rwt : Nat → Nat} {hn : Nat} {kd : Nat → Nat} {pt : Nat → Nat} {far : Nat → Int32} {sn : Nat} {sb : Nat → Nat} {sf : Nat → Nat} {ss : Nat → Nat} {sw : Nat → Nat} {ways : Nat → Nat} {chain : Nat → Nat} {row : Nat → Nat} {best : Nat → Nat} {p0 : Int32} {fil : Nat → Bool} {srt : Nat → Nat} {msrt' : Nat → Int32} {q : Int32 × (Nat → Bool)} (hs : s_lose fil p0 = q) (hb0 : ∀ k, k < 4 → msrt' k = if (s_lose fil p0).2 k = true then nI (srt k) else -9) : P_X8_lose g m0 m1 m2 m3 m4 m5 m6 m7 m8 m9 m10 m11 m12 m13 m14 m15 m16 fl tr msrt len mc n w atp rt rwt hn kd pt far sn sb sf ss sw ways chain row best p0 fil srt (some (.int q.1)) [(m0, .inr (7, [.int (nI fl), .int tr, .ref m1, .ref m2, .ref m3, .int (nI n), .ref m4, .int (nI atp), .int (nI rt), .ref m5, .int (nI hn), .ref m6, .ref m7, .ref m8, .int (nI sn), .ref m9, .ref m10, .ref m11, .ref m12, .ref m13, .ref m14, .ref m15, .ref m16])), (m1, .inl (gI g, 4, .inl msrt')), (m2, .inl (gI g, 4, .inl (fun z9 => nI (len z9)))), (m3, .inl (gI g, 160, .inl mc)), (m4, .inl (gI g, 8, .inl (fun z9 => nI (w z9)))), (m5, .inl (gI g, 8, .inl (fun z9 => nI (rwt z9)))), (m6, .inl (gI g, 6, .inl (fun z9 => nI (kd z9)))), (m7, .inl (gI g, 6, .inl (fun z9 => nI (pt z9)))), (m8, .inl (gI g, 8, .inl far)), (m9, .inl (gI g, 10, .inl (fun z9 => nI (sb z9)))), (m10, .inl (gI g, 10, .inl (fun z9 => nI (sf z9)))), (m11, .inl (gI g, 10, .inl (fun z9 => nI (ss z9)))), (m12, .inl (gI g, 10, .inl (fun z9 => nI (sw z9)))), (m13, .inl (gI g, 256, .inl (fun z9 => nI (ways z9)))), (m14, .inl (gI g, 8, .inl (fun z9 => nI (chain z9)))), (m15, .inl (gI g, 5, .inl (fun z9 => nI (row z9)))), (m16, .inl (gI g, 5, .inl (fun z9 => nI (best z9))))] := by subst hs; exact ⟨_, hb0, rfl, rfl⟩
set_option maxRecDepth 20000 in
set_option maxHeartbeats 4000000 in
theorem c_X8_lose {g : vG} {m0 m1 m2 m3 m4 m5 m6 m7 m8 m9 m10 m11 m12 m13 m14 m15 m16 : Nat} {fl : Nat} {tr : Int32} {msrt : Nat → Int32} {len : Nat → Nat} {mc : Nat → Int32} {n : Nat} {w : Nat → Nat} {atp : Nat} {rt : Nat} {rwt : Nat → Nat} {hn : Nat} {kd : Nat → Nat} {pt : Nat → Nat} {far : Nat → Int32} {sn : Nat} {sb : Nat → Nat} {sf : Nat → Nat} {ss : Nat → Nat} {sw : Nat → Nat} {ways : Nat → Nat} {chain : Nat → Nat} {row : Nat → Nat} {best : Nat → Nat} {p0 : Int32} {fil : Nat → Bool} {srt : Nat → Nat} (hsr : ∀ k, srt k ≤ 2) (hms : ∀ k, k < 4 → msrt k = if fil k = true then nI (srt k) else -9) : CtP g yX8_lose cX8_lose 3 (some .int) (rmOf 2 42) [(m0, .inr (7, [.int (nI fl), .int tr, .ref m1, .ref m2, .ref m3, .int (nI n), .ref m4, .int (nI atp), .int (nI rt), .ref m5, .int (nI hn), .ref m6, .ref m7, .ref m8, .int (nI sn), .ref m9, .ref m10, .ref m11, .ref m12, .ref m13, .ref m14, .ref m15, .ref m16])), (m1, .inl (gI g, 4, .inl msrt)), (m2, .inl (gI g, 4, .inl (fun z9 => nI (len z9)))), (m3, .inl (gI g, 160, .inl mc)), (m4, .inl (gI g, 8, .inl (fun z9 => nI (w z9)))), (m5, .inl (gI g, 8, .inl (fun z9 => nI (rwt z9)))), (m6, .inl (gI g, 6, .inl (fun z9 => nI (kd z9)))), (m7, .inl (gI g, 6, .inl (fun z9 => nI (pt z9)))), (m8, .inl (gI g, 8, .inl far)), (m9, .inl (gI g, 10, .inl (fun z9 => nI (sb z9)))), (m10, .inl (gI g, 10, .inl (fun z9 => nI (sf z9)))), (m11, .inl (gI g, 10, .inl (fun z9 => nI (ss z9)))), (m12, .inl (gI g, 10, .inl (fun z9 => nI (sw z9)))), (m13, .inl (gI g, 256, .inl (fun z9 => nI (ways z9)))), (m14, .inl (gI g, 8, .inl (fun z9 => nI (chain z9)))), (m15, .inl (gI g, 5, .inl (fun z9 => nI (row z9)))), (m16, .inl (gI g, 5, .inl (fun z9 => nI (best z9))))] [.ref m0, .int p0] (P_X8_lose g m0 m1 m2 m3 m4 m5 m6 m7 m8 m9 m10 m11 m12 m13 m14 m15 m16 fl tr msrt len mc n w atp rt rwt hn kd pt far sn sb sf ss sw ways chain row best p0 fil srt) := by
  refine CtP.ofV RX8 rfl (by decide +kernel) rfl rfl (Nat.le_of_ble_eq_true rfl) (List.forall_mem_cons.mpr ⟨rfl, (List.forall_mem_cons.mpr ⟨rfl, (fun _ h9 => absurd h9 List.not_mem_nil)⟩)⟩) (fun x h hr => ?_)
  show vM x 0 [some (.ref m0), some (.int p0), none] [] [(m0, .inr (7, [.int (nI fl), .int tr, .ref m1, .ref m2, .ref m3, .int (nI n), .ref m4, .int (nI atp), .int (nI rt), .ref m5, .int (nI hn), .ref m6, .ref m7, .ref m8, .int (nI sn), .ref m9, .ref m10, .ref m11, .ref m12, .ref m13, .ref m14, .ref m15, .ref m16])), (m1, .inl (gI g, 4, .inl msrt)), (m2, .inl (gI g, 4, .inl (fun z9 => nI (len z9)))), (m3, .inl (gI g, 160, .inl mc)), (m4, .inl (gI g, 8, .inl (fun z9 => nI (w z9)))), (m5, .inl (gI g, 8, .inl (fun z9 => nI (rwt z9)))), (m6, .inl (gI g, 6, .inl (fun z9 => nI (kd z9)))), (m7, .inl (gI g, 6, .inl (fun z9 => nI (pt z9)))), (m8, .inl (gI g, 8, .inl far)), (m9, .inl (gI g, 10, .inl (fun z9 => nI (sb z9)))), (m10, .inl (gI g, 10, .inl (fun z9 => nI (sf z9)))), (m11, .inl (gI g, 10, .inl (fun z9 => nI (ss z9)))), (m12, .inl (gI g, 10, .inl (fun z9 => nI (sw z9)))), (m13, .inl (gI g, 256, .inl (fun z9 => nI (ways z9)))), (m14, .inl (gI g, 8, .inl (fun z9 => nI (chain z9)))), (m15, .inl (gI g, 5, .inl (fun z9 => nI (row z9)))), (m16, .inl (gI g, 5, .inl (fun z9 => nI (best z9))))]
  refine v_iload_n1 h dX8_lose_0 ?_
  refine cw_S_e_1_i h (c_X8_isSheet (g := g)) lk_X8_71 ⟨rfl, rfl, (Nat.le_of_ble_eq_true rfl), (Nat.le_of_ble_eq_true rfl)⟩ (Nat.le_of_ble_eq_true rfl) dX8_lose_1 ?_
  refine v_if_neB h dX8_lose_4 (tgt := 9) (by decide) (fun c4 => ?_) (fun c4 => ?_)
  · obtain ⟨j0, -, hj0, rfl⟩ := wi_of c4 (by decide) (by decide)
    have e4 := rN_N (show j0 < 4 by omega) (by decide)
    refine v_aload_n0 h dX8_lose_9 ?_
    refine v_get h mw_X8 0 rfl rfl 2 (by decide) mf_X8_9 rfl dX8_lose_10 ?_
    refine v_iload_n1 h dX8_lose_13 ?_
    refine v_ialdF h 1 rfl (by omega) (Nat.le_of_ble_eq_true rfl) dX8_lose_14 ?_
    refine v_bipush h (v := -9) dX8_lose_15 (by decide) ?_
    refine v_icmp_ne h dX8_lose_17 (tgt := 24) (by decide) (fun c17 => ?_) (fun c17 => ?_)
    · have e17 := (ms_t (hms j0 (by omega)) c17).1
      refine v_iconst h (v := nI 1) dX8_lose_24 (by decide) ?_
      refine v_istore_n2 h (Nat.le_of_ble_eq_true rfl) dX8_lose_25 ?_
      refine v_aload_n0 h dX8_lose_26 ?_
      refine v_get h mw_X8 0 rfl rfl 2 (by decide) mf_X8_9 rfl dX8_lose_27 ?_
      refine v_iload_n1 h dX8_lose_30 ?_
      refine v_bipush h (v := -9) dX8_lose_31 (by decide) ?_
      refine v_iastF_at1 h (by omega) (Nat.le_of_ble_eq_true rfl) dX8_lose_33 ?_
      refine v_iload_n2 h dX8_lose_34 ?_
      exact v_iretP h hr dX8_lose_35 (P_X8_lose_mk (q := (nI 1, upB fil j0 false)) (by simp only [s_lose, e4, e17, bN, if_true, Bool.false_eq_true, if_false]) (by simp only [s_lose, e4, e17]; exact hms_lose hms)) rfl
    · have e17 := ms_f (hsr j0) (hms j0 (by omega)) c17
      refine v_iconst h (v := nI 0) dX8_lose_20 (by decide) ?_
      refine v_goto h dX8_lose_21 (tgt := 25) (by decide) ?_
      refine v_istore_n2 h (Nat.le_of_ble_eq_true rfl) dX8_lose_25 ?_
      refine v_aload_n0 h dX8_lose_26 ?_
      refine v_get h mw_X8 0 rfl rfl 2 (by decide) mf_X8_9 rfl dX8_lose_27 ?_
      refine v_iload_n1 h dX8_lose_30 ?_
      refine v_bipush h (v := -9) dX8_lose_31 (by decide) ?_
      refine v_iastF_at1 h (by omega) (Nat.le_of_ble_eq_true rfl) dX8_lose_33 ?_
      refine v_iload_n2 h dX8_lose_34 ?_
      exact v_iretP h hr dX8_lose_35 (P_X8_lose_mk (q := (nI 0, upB fil j0 false)) (by simp only [s_lose, e4, e17, bN, if_true, Bool.false_eq_true, if_false]) (by simp only [s_lose, e4, e17]; exact hms_lose hms)) rfl
  · have e4 := wi_rN c4
    refine v_iconst h (v := -1) dX8_lose_7 (by decide) ?_
    exact v_iretP h hr dX8_lose_8 (P_X8_lose_mk (q := (-1, fil)) (by simp only [s_lose, e4]) (by simp only [s_lose, e4]; exact hms)) rfl
def P_X8_put (g : vG) (m0 m1 m2 m3 m4 m5 m6 m7 m8 m9 m10 m11 m12 m13 m14 m15 m16 : Nat) (fl : Nat) (tr : Int32) (msrt : Nat → Int32) (len : Nat → Nat) (mc : Nat → Int32) (n : Nat) (w : Nat → Nat) (atp : Nat) (rt : Nat) (rwt : Nat → Nat) (hn : Nat) (kd : Nat → Nat) (pt : Nat → Nat) (far : Nat → Int32) (sn : Nat) (sb : Nat → Nat) (sf : Nat → Nat) (ss : Nat → Nat) (sw : Nat → Nat) (ways : Nat → Nat) (chain : Nat → Nat) (row : Nat → Nat) (best : Nat → Nat) (p0 : Int32) (p1 : Int32) (p2 : Int32) (fil : Nat → Bool) (srt : Nat → Nat) (cc : Nat → Nat → Int32) : Option Value → va_W → Prop := fun r wo => ∃ mc' : Nat → Int32, (∀ k, k < 4 → fil k = true → ∀ j, j < len k → mc' (40 * k + j) = (s_put fil srt len cc p0 p1 p2).2.2 k j) ∧ r = some (.int (s_put fil srt len cc p0 p1 p2).1) ∧ wo = [(m0, .inr (7, [.int (nI ((s_put fil srt len cc p0 p1 p2).2.1)), .int tr, .ref m1, .ref m2, .ref m3, .int (nI n), .ref m4, .int (nI atp), .int (nI rt), .ref m5, .int (nI hn), .ref m6, .ref m7, .ref m8, .int (nI sn), .ref m9, .ref m10, .ref m11, .ref m12, .ref m13, .ref m14, .ref m15, .ref m16])), (m1, .inl (gI g, 4, .inl msrt)), (m2, .inl (gI g, 4, .inl (fun z9 => nI (len z9)))), (m3, .inl (gI g, 160, .inl mc')), (m4, .inl (gI g, 8, .inl (fun z9 => nI (w z9)))), (m5, .inl (gI g, 8, .inl (fun z9 => nI (rwt z9)))), (m6, .inl (gI g, 6, .inl (fun z9 => nI (kd z9)))), (m7, .inl (gI g, 6, .inl (fun z9 => nI (pt z9)))), (m8, .inl (gI g, 8, .inl far)), (m9, .inl (gI g, 10, .inl (fun z9 => nI (sb z9)))), (m10, .inl (gI g, 10, .inl (fun z9 => nI (sf z9)))), (m11, .inl (gI g, 10, .inl (fun z9 => nI (ss z9)))), (m12, .inl (gI g, 10, .inl (fun z9 => nI (sw z9)))), (m13, .inl (gI g, 256, .inl (fun z9 => nI (ways z9)))), (m14, .inl (gI g, 8, .inl (fun z9 => nI (chain z9)))), (m15, .inl (gI g, 5, .inl (fun z9 => nI (row z9)))), (m16, .inl (gI g, 5, .inl (fun z9 => nI (best z9))))]
theorem P_X8_put_mk {g : vG} {m0 m1 m2 m3 m4 m5 m6 m7 m8 m9 m10 m11 m12 m13 m14 m15 m16 : Nat} {fl : Nat} {tr : Int32} {msrt : Nat → Int32} {len : Nat → Nat} {mc : Nat → Int32} {n : Nat} {w : Nat → Nat} {atp : Nat} {rt : Nat} {rwt : Nat → Nat} {hn : Nat} {kd : Nat → Nat} {pt : Nat → Nat} {far : Nat → Int32} {sn : Nat} {sb : Nat → Nat} {sf : Nat → Nat} {ss : Nat → Nat} {sw : Nat → Nat} {ways : Nat → Nat} {chain : Nat → Nat} {row : Nat → Nat} {best : Nat → Nat} {p0 : Int32} {p1 : Int32} {p2 : Int32} {fil : Nat → Bool} {srt : Nat → Nat} {cc : Nat → Nat → Int32} {mc' : Nat → Int32} {q : Int32 × Nat × (Nat → Nat → Int32)} (hs : s_put fil srt len cc p0 p1 p2 = q) (hb0 : ∀ k, k < 4 → fil k = true → ∀ j, j < len k → mc' (40 * k + j) = (s_put fil srt len cc p0 p1 p2).2.2 k j) : P_X8_put g m0 m1 m2 m3 m4 m5 m6 m7 m8 m9 m10 m11 m12 m13 m14 m15 m16 fl tr msrt len mc n w atp rt rwt hn kd pt far sn sb sf ss sw ways chain row best p0 p1 p2 fil srt cc (some (.int q.1)) [(m0, .inr (7, [.int (nI q.2.1), .int tr, .ref m1, .ref m2, .ref m3, .int (nI n), .ref m4, .int (nI atp), .int (nI rt), .ref m5, .int (nI hn), .ref m6, .ref m7, .ref m8, .int (nI sn), .ref m9, .ref m10, .ref m11, .ref m12, .ref m13, .ref m14, .ref m15, .ref m16])), (m1, .inl (gI g, 4, .inl msrt)), (m2, .inl (gI g, 4, .inl (fun z9 => nI (len z9)))), (m3, .inl (gI g, 160, .inl mc')), (m4, .inl (gI g, 8, .inl (fun z9 => nI (w z9)))), (m5, .inl (gI g, 8, .inl (fun z9 => nI (rwt z9)))), (m6, .inl (gI g, 6, .inl (fun z9 => nI (kd z9)))), (m7, .inl (gI g, 6, .inl (fun z9 => nI (pt z9)))), (m8, .inl (gI g, 8, .inl far)), (m9, .inl (gI g, 10, .inl (fun z9 => nI (sb z9)))), (m10, .inl (gI g, 10, .inl (fun z9 => nI (sf z9)))), (m11, .inl (gI g, 10, .inl (fun z9 => nI (ss z9)))), (m12, .inl (gI g, 10, .inl (fun z9 => nI (sw z9)))), (m13, .inl (gI g, 256, .inl (fun z9 => nI (ways z9)))), (m14, .inl (gI g, 8, .inl (fun z9 => nI (chain z9)))), (m15, .inl (gI g, 5, .inl (fun z9 => nI (row z9)))), (m16, .inl (gI g, 5, .inl (fun z9 => nI (best z9))))] := by subst hs; exact ⟨_, hb0, rfl, rfl⟩
set_option maxRecDepth 20000 in
set_option maxHeartbeats 4000000 in
theorem c_X8_put {g : vG} {m0 m1 m2 m3 m4 m5 m6 m7 m8 m9 m10 m11 m12 m13 m14 m15 m16 : Nat} {fl : Nat} {tr : Int32} {msrt : Nat → Int32} {len : Nat → Nat} {mc : Nat → Int32} {n : Nat} {w : Nat → Nat} {atp : Nat} {rt : Nat} {rwt : Nat → Nat} {hn : Nat} {kd : Nat → Nat} {pt : Nat → Nat} {far : Nat → Int32} {sn : Nat} {sb : Nat → Nat} {sf : Nat → Nat} {ss : Nat → Nat} {sw : Nat → Nat} {ways : Nat → Nat} {chain : Nat → Nat} {row : Nat → Nat} {best : Nat → Nat} {p0 : Int32} {p1 : Int32} {p2 : Int32} {fil : Nat → Bool} {srt : Nat → Nat} {cc : Nat → Nat → Int32} (hsr : ∀ k, srt k ≤ 2) (hln : ∀ k, len k ≤ 40) (hms : ∀ k, k < 4 → msrt k = if fil k = true then nI (srt k) else -9) (hmc : ∀ k, k < 4 → fil k = true → ∀ j, j < len k → mc (40 * k + j) = cc k j) : CtP g yX8_put cX8_put 4 (some .int) (rmOf 2 42) [(m0, .inr (7, [.int (nI fl), .int tr, .ref m1, .ref m2, .ref m3, .int (nI n), .ref m4, .int (nI atp), .int (nI rt), .ref m5, .int (nI hn), .ref m6, .ref m7, .ref m8, .int (nI sn), .ref m9, .ref m10, .ref m11, .ref m12, .ref m13, .ref m14, .ref m15, .ref m16])), (m1, .inl (gI g, 4, .inl msrt)), (m2, .inl (gI g, 4, .inl (fun z9 => nI (len z9)))), (m3, .inl (gI g, 160, .inl mc)), (m4, .inl (gI g, 8, .inl (fun z9 => nI (w z9)))), (m5, .inl (gI g, 8, .inl (fun z9 => nI (rwt z9)))), (m6, .inl (gI g, 6, .inl (fun z9 => nI (kd z9)))), (m7, .inl (gI g, 6, .inl (fun z9 => nI (pt z9)))), (m8, .inl (gI g, 8, .inl far)), (m9, .inl (gI g, 10, .inl (fun z9 => nI (sb z9)))), (m10, .inl (gI g, 10, .inl (fun z9 => nI (sf z9)))), (m11, .inl (gI g, 10, .inl (fun z9 => nI (ss z9)))), (m12, .inl (gI g, 10, .inl (fun z9 => nI (sw z9)))), (m13, .inl (gI g, 256, .inl (fun z9 => nI (ways z9)))), (m14, .inl (gI g, 8, .inl (fun z9 => nI (chain z9)))), (m15, .inl (gI g, 5, .inl (fun z9 => nI (row z9)))), (m16, .inl (gI g, 5, .inl (fun z9 => nI (best z9))))] [.ref m0, .int p0, .int p1, .int p2] (P_X8_put g m0 m1 m2 m3 m4 m5 m6 m7 m8 m9 m10 m11 m12 m13 m14 m15 m16 fl tr msrt len mc n w atp rt rwt hn kd pt far sn sb sf ss sw ways chain row best p0 p1 p2 fil srt cc) := by
  refine CtP.ofV RX8 rfl (by decide +kernel) rfl rfl (Nat.le_of_ble_eq_true rfl) (List.forall_mem_cons.mpr ⟨rfl, (List.forall_mem_cons.mpr ⟨rfl, (List.forall_mem_cons.mpr ⟨rfl, (List.forall_mem_cons.mpr ⟨rfl, (fun _ h9 => absurd h9 List.not_mem_nil)⟩)⟩)⟩)⟩) (fun x h hr => ?_)
  show vM x 0 [some (.ref m0), some (.int p0), some (.int p1), some (.int p2)] [] [(m0, .inr (7, [.int (nI fl), .int tr, .ref m1, .ref m2, .ref m3, .int (nI n), .ref m4, .int (nI atp), .int (nI rt), .ref m5, .int (nI hn), .ref m6, .ref m7, .ref m8, .int (nI sn), .ref m9, .ref m10, .ref m11, .ref m12, .ref m13, .ref m14, .ref m15, .ref m16])), (m1, .inl (gI g, 4, .inl msrt)), (m2, .inl (gI g, 4, .inl (fun z9 => nI (len z9)))), (m3, .inl (gI g, 160, .inl mc)), (m4, .inl (gI g, 8, .inl (fun z9 => nI (w z9)))), (m5, .inl (gI g, 8, .inl (fun z9 => nI (rwt z9)))), (m6, .inl (gI g, 6, .inl (fun z9 => nI (kd z9)))), (m7, .inl (gI g, 6, .inl (fun z9 => nI (pt z9)))), (m8, .inl (gI g, 8, .inl far)), (m9, .inl (gI g, 10, .inl (fun z9 => nI (sb z9)))), (m10, .inl (gI g, 10, .inl (fun z9 => nI (sf z9)))), (m11, .inl (gI g, 10, .inl (fun z9 => nI (ss z9)))), (m12, .inl (gI g, 10, .inl (fun z9 => nI (sw z9)))), (m13, .inl (gI g, 256, .inl (fun z9 => nI (ways z9)))), (m14, .inl (gI g, 8, .inl (fun z9 => nI (chain z9)))), (m15, .inl (gI g, 5, .inl (fun z9 => nI (row z9)))), (m16, .inl (gI g, 5, .inl (fun z9 => nI (best z9))))]
  refine v_aload_n0 h dX8_put_0 ?_
  refine v_iconst h (v := nI 0) dX8_put_1 (by decide) ?_
  refine pf_X8_58_at0 h dX8_put_2 ?_
  refine v_iload_n1 h dX8_put_5 ?_
  refine cw_S_e_1_i h (c_X8_isSheet (g := g)) lk_X8_71 ⟨rfl, rfl, (Nat.le_of_ble_eq_true rfl), (Nat.le_of_ble_eq_true rfl)⟩ (Nat.le_of_ble_eq_true rfl) dX8_put_6 ?_
  refine v_if_neB h dX8_put_9 (tgt := 14) (by decide) (fun c9 => ?_) (fun c9 => ?_)
  · obtain ⟨j0, -, hj0, rfl⟩ := wi_of c9 (by decide) (by decide)
    have e9 := rN_N (show j0 < 4 by omega) (by decide)
    refine v_aload_n0 h dX8_put_14 ?_
    refine v_get h mw_X8 0 rfl rfl 2 (by decide) mf_X8_9 rfl dX8_put_15 ?_
    refine v_iload_n1 h dX8_put_18 ?_
    refine v_ialdF h 1 rfl (by omega) (Nat.le_of_ble_eq_true rfl) dX8_put_19 ?_
    refine v_bipush h (v := -9) dX8_put_20 (by decide) ?_
    refine v_icmp_ne h dX8_put_22 (tgt := 31) (by decide) (fun c22 => ?_) (fun c22 => ?_)
    · obtain ⟨hfk, hmk⟩ := ms_t (hms j0 (by omega)) c22
      have hl9 := hln j0
      have hs9 := hsr j0
      refine v_iload_n2 h dX8_put_31 ?_
      refine v_iconst h (v := nI 0) dX8_put_32 (by decide) ?_
      refine v_aload_n0 h dX8_put_33 ?_
      refine v_get h mw_X8 0 rfl rfl 3 (by decide) mf_X8_13 rfl dX8_put_34 ?_
      refine v_iload_n1 h dX8_put_37 ?_
      refine v_ialdN h 2 rfl (by omega) (Nat.le_of_ble_eq_true rfl) dX8_put_38 ?_
      refine v_iconst h (v := nI 1) dX8_put_39 (by decide) ?_
      refine v_isub h dX8_put_40 ?_
      refine cw_S_e_3_i h (c_X8_within (g := g)) lk_X8_64 ⟨rfl, rfl, (Nat.le_of_ble_eq_true rfl), (Nat.le_of_ble_eq_true rfl)⟩ (Nat.le_of_ble_eq_true rfl) dX8_put_41 ?_
      refine v_if_neB h dX8_put_44 (tgt := 53) (by decide) (fun c44 => ?_) (fun c44 => ?_)
      · obtain ⟨j1, hj1, rfl⟩ := wr_len hl9 c44
        have e44 := rN_N hj1 (by omega)
        refine v_aload_n0 h dX8_put_53 ?_
        refine v_get h mw_X8 0 rfl rfl 4 (by decide) mf_X8_16 rfl dX8_put_54 ?_
        refine v_bipush h (v := nI 40) dX8_put_57 (by decide) ?_
        refine v_iload_n1 h dX8_put_59 ?_
        refine v_imulN h dX8_put_60 ?_
        refine v_iload_n2 h dX8_put_61 ?_
        refine v_iaddN h dX8_put_62 ?_
        refine v_aload_n0 h dX8_put_63 ?_
        refine v_get h mw_X8 0 rfl rfl 2 (by decide) mf_X8_9 rfl dX8_put_64 ?_
        refine v_iload_n1 h dX8_put_67 ?_
        refine v_ialdF h 1 rfl (by omega) (Nat.le_of_ble_eq_true rfl) dX8_put_68 ?_
        refine v_if_ne h dX8_put_69 (tgt := 77) (by decide) (fun c69 => ?_) (fun c69 => ?_)
        · have g69 : ¬ srt j0 = 0 := fun z => c69 (by rw [hmk, z]; rfl)
          refine v_aload_n0 h dX8_put_77 ?_
          refine v_get h mw_X8 0 rfl rfl 2 (by decide) mf_X8_9 rfl dX8_put_78 ?_
          refine v_iload_n1 h dX8_put_81 ?_
          refine v_ialdF h 1 rfl (by omega) (Nat.le_of_ble_eq_true rfl) dX8_put_82 ?_
          refine v_iconst h (v := nI 1) dX8_put_83 (by decide) ?_
          refine v_icmp_ne h dX8_put_84 (tgt := 92) (by decide) (fun c84 => ?_) (fun c84 => ?_)
          · have g7 : p2 = cutV (srt j0) p2 := cut_2 g69 (fun z => c84 (by rw [hmk, z]))
            refine v_iload_n3 h dX8_put_92 ?_
            refine v_iastF_at3 h (by omega) (Nat.le_of_ble_eq_true rfl) dX8_put_93 ?_
            refine v_iconst h (v := nI 1) dX8_put_94 (by decide) ?_
            exact v_iretP h hr dX8_put_95 (P_X8_put_mk (q := (nI 1, 0, upr cc j0 (upd (cc j0) j1 (cutV (srt j0) p2)))) (by simp only [s_put, e9, if_neg (show ¬ fil j0 = false by rw [hfk]; decide), e44]) (by simp only [s_put, e9, if_neg (show ¬ fil j0 = false by rw [hfk]; decide), e44]; rw [← g7]; exact hmc_put hln hmc hj1)) rfl
          · have g7 : p2.toInt16.toInt32 = cutV (srt j0) p2 := cut_1 ((nI_eq (by omega) (by decide)).mp (hmk.symm.trans c84))
            refine v_iload_n3 h dX8_put_87 ?_
            refine v_i2s h dX8_put_88 ?_
            refine v_goto h dX8_put_89 (tgt := 93) (by decide) ?_
            refine v_iastF_at3 h (by omega) (Nat.le_of_ble_eq_true rfl) dX8_put_93 ?_
            refine v_iconst h (v := nI 1) dX8_put_94 (by decide) ?_
            exact v_iretP h hr dX8_put_95 (P_X8_put_mk (q := (nI 1, 0, upr cc j0 (upd (cc j0) j1 (cutV (srt j0) p2)))) (by simp only [s_put, e9, if_neg (show ¬ fil j0 = false by rw [hfk]; decide), e44]) (by simp only [s_put, e9, if_neg (show ¬ fil j0 = false by rw [hfk]; decide), e44]; rw [← g7]; exact hmc_put hln hmc hj1)) rfl
        · have g7 : p2.toInt8.toInt32 = cutV (srt j0) p2 := cut_0 ((nI_0e hs9).mp (by rw [← hmk]; exact c69))
          refine v_iload_n3 h dX8_put_72 ?_
          refine v_i2b h dX8_put_73 ?_
          refine v_goto h dX8_put_74 (tgt := 93) (by decide) ?_
          refine v_iastF_at3 h (by omega) (Nat.le_of_ble_eq_true rfl) dX8_put_93 ?_
          refine v_iconst h (v := nI 1) dX8_put_94 (by decide) ?_
          exact v_iretP h hr dX8_put_95 (P_X8_put_mk (q := (nI 1, 0, upr cc j0 (upd (cc j0) j1 (cutV (srt j0) p2)))) (by simp only [s_put, e9, if_neg (show ¬ fil j0 = false by rw [hfk]; decide), e44]) (by simp only [s_put, e9, if_neg (show ¬ fil j0 = false by rw [hfk]; decide), e44]; rw [← g7]; exact hmc_put hln hmc hj1)) rfl
      · have e44 := wr_lenf hl9 c44
        refine v_aload_n0 h dX8_put_47 ?_
        refine v_iconst h (v := nI 3) dX8_put_48 (by decide) ?_
        refine cw_V_0_1_2_3_4_5_6_7_8_9_10_11_12_13_14_15_16_1_i (ci := 7) h (c_X8_fails (g := g)) lk_X8_82 ⟨rfl, rfl, (Nat.le_of_ble_eq_true rfl), (Nat.le_of_ble_eq_true rfl)⟩ rfl rfl rfl (Nat.le_of_ble_eq_true rfl) dX8_put_49 ?_
        exact v_iretP h hr dX8_put_52 (P_X8_put_mk (q := (-10 - nI 3, 3, cc)) (by simp only [s_put, e9, if_neg (show ¬ fil j0 = false by rw [hfk]; decide), e44]) (by simp only [s_put, e9, if_neg (show ¬ fil j0 = false by rw [hfk]; decide), e44]; exact hmc)) rfl
    · have e22 := ms_f (hsr j0) (hms j0 (by omega)) c22
      refine v_aload_n0 h dX8_put_25 ?_
      refine v_iconst h (v := nI 1) dX8_put_26 (by decide) ?_
      refine cw_V_0_1_2_3_4_5_6_7_8_9_10_11_12_13_14_15_16_1_i (ci := 7) h (c_X8_fails (g := g)) lk_X8_82 ⟨rfl, rfl, (Nat.le_of_ble_eq_true rfl), (Nat.le_of_ble_eq_true rfl)⟩ rfl rfl rfl (Nat.le_of_ble_eq_true rfl) dX8_put_27 ?_
      exact v_iretP h hr dX8_put_30 (P_X8_put_mk (q := (-10 - nI 1, 1, cc)) (by simp only [s_put, e9, if_pos e22]) (by simp only [s_put, e9, if_pos e22]; exact hmc)) rfl
  · have e9 := wi_rN c9
    refine v_iconst h (v := -1) dX8_put_12 (by decide) ?_
    exact v_iretP h hr dX8_put_13 (P_X8_put_mk (q := (-1, 0, cc)) (by simp only [s_put, e9]) (by simp only [s_put, e9]; exact hmc)) rfl
def P_X8_cell (g : vG) (m0 m1 m2 m3 m4 m5 m6 m7 m8 m9 m10 m11 m12 m13 m14 m15 m16 : Nat) (fl : Nat) (tr : Int32) (msrt : Nat → Int32) (len : Nat → Nat) (mc : Nat → Int32) (n : Nat) (w : Nat → Nat) (atp : Nat) (rt : Nat) (rwt : Nat → Nat) (hn : Nat) (kd : Nat → Nat) (pt : Nat → Nat) (far : Nat → Int32) (sn : Nat) (sb : Nat → Nat) (sf : Nat → Nat) (ss : Nat → Nat) (sw : Nat → Nat) (ways : Nat → Nat) (chain : Nat → Nat) (row : Nat → Nat) (best : Nat → Nat) (p0 : Int32) (p1 : Int32) (p2 : Int32) (fil : Nat → Bool) (srt : Nat → Nat) (cc : Nat → Nat → Int32) : Option Value → va_W → Prop := fun r wo => r = some (.long (s_cell fil srt len cc p0 p1 p2).1) ∧ wo = [(m0, .inr (7, [.int (nI ((s_cell fil srt len cc p0 p1 p2).2)), .int tr, .ref m1, .ref m2, .ref m3, .int (nI n), .ref m4, .int (nI atp), .int (nI rt), .ref m5, .int (nI hn), .ref m6, .ref m7, .ref m8, .int (nI sn), .ref m9, .ref m10, .ref m11, .ref m12, .ref m13, .ref m14, .ref m15, .ref m16])), (m1, .inl (gI g, 4, .inl msrt)), (m2, .inl (gI g, 4, .inl (fun z9 => nI (len z9)))), (m3, .inl (gI g, 160, .inl mc)), (m4, .inl (gI g, 8, .inl (fun z9 => nI (w z9)))), (m5, .inl (gI g, 8, .inl (fun z9 => nI (rwt z9)))), (m6, .inl (gI g, 6, .inl (fun z9 => nI (kd z9)))), (m7, .inl (gI g, 6, .inl (fun z9 => nI (pt z9)))), (m8, .inl (gI g, 8, .inl far)), (m9, .inl (gI g, 10, .inl (fun z9 => nI (sb z9)))), (m10, .inl (gI g, 10, .inl (fun z9 => nI (sf z9)))), (m11, .inl (gI g, 10, .inl (fun z9 => nI (ss z9)))), (m12, .inl (gI g, 10, .inl (fun z9 => nI (sw z9)))), (m13, .inl (gI g, 256, .inl (fun z9 => nI (ways z9)))), (m14, .inl (gI g, 8, .inl (fun z9 => nI (chain z9)))), (m15, .inl (gI g, 5, .inl (fun z9 => nI (row z9)))), (m16, .inl (gI g, 5, .inl (fun z9 => nI (best z9))))]
theorem P_X8_cell_mk {g : vG} {m0 m1 m2 m3 m4 m5 m6 m7 m8 m9 m10 m11 m12 m13 m14 m15 m16 : Nat} {fl : Nat} {tr : Int32} {msrt : Nat → Int32} {len : Nat → Nat} {mc : Nat → Int32} {n : Nat} {w : Nat → Nat} {atp : Nat} {rt : Nat} {rwt : Nat → Nat} {hn : Nat} {kd : Nat → Nat} {pt : Nat → Nat} {far : Nat → Int32} {sn : Nat} {sb : Nat → Nat} {sf : Nat → Nat} {ss : Nat → Nat} {sw : Nat → Nat} {ways : Nat → Nat} {chain : Nat → Nat} {row : Nat → Nat} {best : Nat → Nat} {p0 : Int32} {p1 : Int32} {p2 : Int32} {fil : Nat → Bool} {srt : Nat → Nat} {cc : Nat → Nat → Int32}  {q : Int64 × (Nat)} (hs : s_cell fil srt len cc p0 p1 p2 = q)  : P_X8_cell g m0 m1 m2 m3 m4 m5 m6 m7 m8 m9 m10 m11 m12 m13 m14 m15 m16 fl tr msrt len mc n w atp rt rwt hn kd pt far sn sb sf ss sw ways chain row best p0 p1 p2 fil srt cc (some (.long q.1)) [(m0, .inr (7, [.int (nI q.2), .int tr, .ref m1, .ref m2, .ref m3, .int (nI n), .ref m4, .int (nI atp), .int (nI rt), .ref m5, .int (nI hn), .ref m6, .ref m7, .ref m8, .int (nI sn), .ref m9, .ref m10, .ref m11, .ref m12, .ref m13, .ref m14, .ref m15, .ref m16])), (m1, .inl (gI g, 4, .inl msrt)), (m2, .inl (gI g, 4, .inl (fun z9 => nI (len z9)))), (m3, .inl (gI g, 160, .inl mc)), (m4, .inl (gI g, 8, .inl (fun z9 => nI (w z9)))), (m5, .inl (gI g, 8, .inl (fun z9 => nI (rwt z9)))), (m6, .inl (gI g, 6, .inl (fun z9 => nI (kd z9)))), (m7, .inl (gI g, 6, .inl (fun z9 => nI (pt z9)))), (m8, .inl (gI g, 8, .inl far)), (m9, .inl (gI g, 10, .inl (fun z9 => nI (sb z9)))), (m10, .inl (gI g, 10, .inl (fun z9 => nI (sf z9)))), (m11, .inl (gI g, 10, .inl (fun z9 => nI (ss z9)))), (m12, .inl (gI g, 10, .inl (fun z9 => nI (sw z9)))), (m13, .inl (gI g, 256, .inl (fun z9 => nI (ways z9)))), (m14, .inl (gI g, 8, .inl (fun z9 => nI (chain z9)))), (m15, .inl (gI g, 5, .inl (fun z9 => nI (row z9)))), (m16, .inl (gI g, 5, .inl (fun z9 => nI (best z9))))] := by subst hs; exact ⟨rfl, rfl⟩
set_option maxRecDepth 20000 in
set_option maxHeartbeats 4000000 in
theorem c_X8_cell {g : vG} {m0 m1 m2 m3 m4 m5 m6 m7 m8 m9 m10 m11 m12 m13 m14 m15 m16 : Nat} {fl : Nat} {tr : Int32} {msrt : Nat → Int32} {len : Nat → Nat} {mc : Nat → Int32} {n : Nat} {w : Nat → Nat} {atp : Nat} {rt : Nat} {rwt : Nat → Nat} {hn : Nat} {kd : Nat → Nat} {pt : Nat → Nat} {far : Nat → Int32} {sn : Nat} {sb : Nat → Nat} {sf : Nat → Nat} {ss : Nat → Nat} {sw : Nat → Nat} {ways : Nat → Nat} {chain : Nat → Nat} {row : Nat → Nat} {best : Nat → Nat} {p0 : Int32} {p1 : Int32} {p2 : Int32} {fil : Nat → Bool} {srt : Nat → Nat} {cc : Nat → Nat → Int32} (hsr : ∀ k, srt k ≤ 2) (hln : ∀ k, len k ≤ 40) (hms : ∀ k, k < 4 → msrt k = if fil k = true then nI (srt k) else -9) (hmc : ∀ k, k < 4 → fil k = true → ∀ j, j < len k → mc (40 * k + j) = cc k j) : CtP g yX8_cell cX8_cell 4 (some .long) (rmOf 2 42) [(m0, .inr (7, [.int (nI fl), .int tr, .ref m1, .ref m2, .ref m3, .int (nI n), .ref m4, .int (nI atp), .int (nI rt), .ref m5, .int (nI hn), .ref m6, .ref m7, .ref m8, .int (nI sn), .ref m9, .ref m10, .ref m11, .ref m12, .ref m13, .ref m14, .ref m15, .ref m16])), (m1, .inl (gI g, 4, .inl msrt)), (m2, .inl (gI g, 4, .inl (fun z9 => nI (len z9)))), (m3, .inl (gI g, 160, .inl mc)), (m4, .inl (gI g, 8, .inl (fun z9 => nI (w z9)))), (m5, .inl (gI g, 8, .inl (fun z9 => nI (rwt z9)))), (m6, .inl (gI g, 6, .inl (fun z9 => nI (kd z9)))), (m7, .inl (gI g, 6, .inl (fun z9 => nI (pt z9)))), (m8, .inl (gI g, 8, .inl far)), (m9, .inl (gI g, 10, .inl (fun z9 => nI (sb z9)))), (m10, .inl (gI g, 10, .inl (fun z9 => nI (sf z9)))), (m11, .inl (gI g, 10, .inl (fun z9 => nI (ss z9)))), (m12, .inl (gI g, 10, .inl (fun z9 => nI (sw z9)))), (m13, .inl (gI g, 256, .inl (fun z9 => nI (ways z9)))), (m14, .inl (gI g, 8, .inl (fun z9 => nI (chain z9)))), (m15, .inl (gI g, 5, .inl (fun z9 => nI (row z9)))), (m16, .inl (gI g, 5, .inl (fun z9 => nI (best z9))))] [.ref m0, .int p0, .int p1, .int p2] (P_X8_cell g m0 m1 m2 m3 m4 m5 m6 m7 m8 m9 m10 m11 m12 m13 m14 m15 m16 fl tr msrt len mc n w atp rt rwt hn kd pt far sn sb sf ss sw ways chain row best p0 p1 p2 fil srt cc) := by
  refine CtP.ofV RX8 rfl (by decide +kernel) rfl rfl (Nat.le_of_ble_eq_true rfl) (List.forall_mem_cons.mpr ⟨rfl, (List.forall_mem_cons.mpr ⟨rfl, (List.forall_mem_cons.mpr ⟨rfl, (List.forall_mem_cons.mpr ⟨rfl, (fun _ h9 => absurd h9 List.not_mem_nil)⟩)⟩)⟩)⟩) (fun x h hr => ?_)
  show vM x 0 [some (.ref m0), some (.int p0), some (.int p1), some (.int p2)] [] [(m0, .inr (7, [.int (nI fl), .int tr, .ref m1, .ref m2, .ref m3, .int (nI n), .ref m4, .int (nI atp), .int (nI rt), .ref m5, .int (nI hn), .ref m6, .ref m7, .ref m8, .int (nI sn), .ref m9, .ref m10, .ref m11, .ref m12, .ref m13, .ref m14, .ref m15, .ref m16])), (m1, .inl (gI g, 4, .inl msrt)), (m2, .inl (gI g, 4, .inl (fun z9 => nI (len z9)))), (m3, .inl (gI g, 160, .inl mc)), (m4, .inl (gI g, 8, .inl (fun z9 => nI (w z9)))), (m5, .inl (gI g, 8, .inl (fun z9 => nI (rwt z9)))), (m6, .inl (gI g, 6, .inl (fun z9 => nI (kd z9)))), (m7, .inl (gI g, 6, .inl (fun z9 => nI (pt z9)))), (m8, .inl (gI g, 8, .inl far)), (m9, .inl (gI g, 10, .inl (fun z9 => nI (sb z9)))), (m10, .inl (gI g, 10, .inl (fun z9 => nI (sf z9)))), (m11, .inl (gI g, 10, .inl (fun z9 => nI (ss z9)))), (m12, .inl (gI g, 10, .inl (fun z9 => nI (sw z9)))), (m13, .inl (gI g, 256, .inl (fun z9 => nI (ways z9)))), (m14, .inl (gI g, 8, .inl (fun z9 => nI (chain z9)))), (m15, .inl (gI g, 5, .inl (fun z9 => nI (row z9)))), (m16, .inl (gI g, 5, .inl (fun z9 => nI (best z9))))]
  refine v_aload_n0 h dX8_cell_0 ?_
  refine v_iconst h (v := nI 0) dX8_cell_1 (by decide) ?_
  refine pf_X8_58_at0 h dX8_cell_2 ?_
  refine v_iload_n1 h dX8_cell_5 ?_
  refine cw_S_e_1_i h (c_X8_isSheet (g := g)) lk_X8_71 ⟨rfl, rfl, (Nat.le_of_ble_eq_true rfl), (Nat.le_of_ble_eq_true rfl)⟩ (Nat.le_of_ble_eq_true rfl) dX8_cell_6 ?_
  refine v_if_eqB h dX8_cell_9 (tgt := 19) (by decide) (fun c9 => ?_) (fun c9 => ?_)
  · have e9 := wi_rN c9
    refine v_ldc2 h mk2_X8_62 dX8_cell_19 ?_
    exact v_lretP h hr dX8_cell_22 (P_X8_cell_mk (q := (-9223372036854775808, 0)) (by simp only [s_cell, e9]) ) rfl
  · obtain ⟨j0, -, hj0, rfl⟩ := wi_of c9 (by decide) (by decide)
    have e9 := rN_N (show j0 < 4 by omega) (by decide)
    refine v_iload_n3 h dX8_cell_12 ?_
    refine cw_S_e_1_i h (c_X8_isSort (g := g)) lk_X8_75 ⟨rfl, rfl, (Nat.le_of_ble_eq_true rfl), (Nat.le_of_ble_eq_true rfl)⟩ (Nat.le_of_ble_eq_true rfl) dX8_cell_13 ?_
    refine v_if_neB h dX8_cell_16 (tgt := 23) (by decide) (fun c16 => ?_) (fun c16 => ?_)
    · obtain ⟨j1, hj1a, hj1, rfl⟩ := wi_of c16 (by decide) (by decide)
      have e16 := rW_N hj1a hj1 (by decide)
      refine v_aload_n0 h dX8_cell_23 ?_
      refine v_get h mw_X8 0 rfl rfl 2 (by decide) mf_X8_9 rfl dX8_cell_24 ?_
      refine v_iload_n1 h dX8_cell_27 ?_
      refine v_ialdF h 1 rfl (by omega) (Nat.le_of_ble_eq_true rfl) dX8_cell_28 ?_
      refine v_bipush h (v := -9) dX8_cell_29 (by decide) ?_
      refine v_icmp_eq h dX8_cell_31 (tgt := 50) (by decide) (fun c31 => ?_) (fun c31 => ?_)
      · have hs9 := hms j0 (by omega)
        refine v_aload_n0 h dX8_cell_50 ?_
        refine v_get h mw_X8 0 rfl rfl 2 (by decide) mf_X8_9 rfl dX8_cell_51 ?_
        refine v_iload_n1 h dX8_cell_54 ?_
        refine v_ialdF h 1 rfl (by omega) (Nat.le_of_ble_eq_true rfl) dX8_cell_55 ?_
        refine v_bipush h (v := -9) dX8_cell_56 (by decide) ?_
        refine v_icmp_ne h dX8_cell_58 (tgt := 67) (by decide) (fun c58 => ?_) (fun c58 => ?_)
        · have g56 : ¬ msrt j0 = -9 := c58
          have g57 : fil j0 = true ∧ nI (srt j0) = nI j1 := by first | exact absurd c31 c58 | exact ftk_mt hs9 c58 c41
          have hl9 := hln j0
          refine v_iload_n2 h dX8_cell_67 ?_
          refine v_iconst h (v := nI 0) dX8_cell_68 (by decide) ?_
          refine v_aload_n0 h dX8_cell_69 ?_
          refine v_get h mw_X8 0 rfl rfl 3 (by decide) mf_X8_13 rfl dX8_cell_70 ?_
          refine v_iload_n1 h dX8_cell_73 ?_
          refine v_ialdN h 2 rfl (by omega) (Nat.le_of_ble_eq_true rfl) dX8_cell_74 ?_
          refine v_iconst h (v := nI 1) dX8_cell_75 (by decide) ?_
          refine v_isub h dX8_cell_76 ?_
          refine cw_S_e_3_i h (c_X8_within (g := g)) lk_X8_64 ⟨rfl, rfl, (Nat.le_of_ble_eq_true rfl), (Nat.le_of_ble_eq_true rfl)⟩ (Nat.le_of_ble_eq_true rfl) dX8_cell_77 ?_
          refine v_if_neB h dX8_cell_80 (tgt := 89) (by decide) (fun c80 => ?_) (fun c80 => ?_)
          · obtain ⟨j2, hj2, rfl⟩ := wr_len hl9 c80
            have g58 := ftk_in g57.1 g57.2 hl9 hj2
            refine v_aload_n0 h dX8_cell_89 ?_
            refine v_get h mw_X8 0 rfl rfl 4 (by decide) mf_X8_16 rfl dX8_cell_90 ?_
            refine v_bipush h (v := nI 40) dX8_cell_93 (by decide) ?_
            refine v_iload_n1 h dX8_cell_95 ?_
            refine v_imulN h dX8_cell_96 ?_
            refine v_iload_n2 h dX8_cell_97 ?_
            refine v_iaddN h dX8_cell_98 ?_
            refine v_ialdF h 3 rfl (by omega) (Nat.le_of_ble_eq_true rfl) dX8_cell_99 ?_
            rw [hmc j0 (by omega) g57.1 j2 hj2]
            refine v_i2l h dX8_cell_100 ?_
            exact v_lretP h hr dX8_cell_101 (P_X8_cell_mk (q := ((cc j0 j2).toInt64, 0)) (by simp only [s_cell, e9, e16, g58, tn_N (show j2 < 2 ^ 31 by omega)]) ) rfl
          · have g58 := ftk_out g57.1 g57.2 hl9 (wr_lenf hl9 c80)
            refine v_aload_n0 h dX8_cell_83 ?_
            refine v_iconst h (v := nI 3) dX8_cell_84 (by decide) ?_
            refine cw_V_0_1_2_3_4_5_6_7_8_9_10_11_12_13_14_15_16_1_l (ci := 7) h (c_X8_lost (g := g)) lk_X8_188 ⟨rfl, rfl, (Nat.le_of_ble_eq_true rfl), (Nat.le_of_ble_eq_true rfl)⟩ rfl rfl rfl (Nat.le_of_ble_eq_true rfl) dX8_cell_85 ?_
            exact v_lretP h hr dX8_cell_88 (P_X8_cell_mk (q := (-9223372036854775808, 2 + 1)) (by simp only [s_cell, e9, e16, g58]) ) rfl
        · refine v_aload_n0 h dX8_cell_61 ?_
          refine v_iconst h (v := nI 1) dX8_cell_62 (by decide) ?_
          refine cw_V_0_1_2_3_4_5_6_7_8_9_10_11_12_13_14_15_16_1_l (ci := 7) h (c_X8_lost (g := g)) lk_X8_188 ⟨rfl, rfl, (Nat.le_of_ble_eq_true rfl), (Nat.le_of_ble_eq_true rfl)⟩ rfl rfl rfl (Nat.le_of_ble_eq_true rfl) dX8_cell_63 ?_
          exact v_lretP h hr dX8_cell_66 (P_X8_cell_mk (q := (-9223372036854775808, 0 + 1)) (by simp only [s_cell, e9, e16, (show ftk (fil j0) (srt j0) (len j0) (nI j1) p1 (nI 1) = 0 + 1 from (ftk_m1 (hsr j0) hs9 c58).symm)]) ) rfl
      · have hs9 := hms j0 (by omega)
        refine v_aload_n0 h dX8_cell_34 ?_
        refine v_get h mw_X8 0 rfl rfl 2 (by decide) mf_X8_9 rfl dX8_cell_35 ?_
        refine v_iload_n1 h dX8_cell_38 ?_
        refine v_ialdF h 1 rfl (by omega) (Nat.le_of_ble_eq_true rfl) dX8_cell_39 ?_
        refine v_iload_n3 h dX8_cell_40 ?_
        refine v_icmp_eq h dX8_cell_41 (tgt := 50) (by decide) (fun c41 => ?_) (fun c41 => ?_)
        · refine v_aload_n0 h dX8_cell_50 ?_
          refine v_get h mw_X8 0 rfl rfl 2 (by decide) mf_X8_9 rfl dX8_cell_51 ?_
          refine v_iload_n1 h dX8_cell_54 ?_
          refine v_ialdF h 1 rfl (by omega) (Nat.le_of_ble_eq_true rfl) dX8_cell_55 ?_
          refine v_bipush h (v := -9) dX8_cell_56 (by decide) ?_
          refine v_icmp_ne h dX8_cell_58 (tgt := 67) (by decide) (fun c58 => ?_) (fun c58 => ?_)
          · have g56 : ¬ msrt j0 = -9 := c58
            have g57 : fil j0 = true ∧ nI (srt j0) = nI j1 := by first | exact absurd c31 c58 | exact ftk_mt hs9 c58 c41
            have hl9 := hln j0
            refine v_iload_n2 h dX8_cell_67 ?_
            refine v_iconst h (v := nI 0) dX8_cell_68 (by decide) ?_
            refine v_aload_n0 h dX8_cell_69 ?_
            refine v_get h mw_X8 0 rfl rfl 3 (by decide) mf_X8_13 rfl dX8_cell_70 ?_
            refine v_iload_n1 h dX8_cell_73 ?_
            refine v_ialdN h 2 rfl (by omega) (Nat.le_of_ble_eq_true rfl) dX8_cell_74 ?_
            refine v_iconst h (v := nI 1) dX8_cell_75 (by decide) ?_
            refine v_isub h dX8_cell_76 ?_
            refine cw_S_e_3_i h (c_X8_within (g := g)) lk_X8_64 ⟨rfl, rfl, (Nat.le_of_ble_eq_true rfl), (Nat.le_of_ble_eq_true rfl)⟩ (Nat.le_of_ble_eq_true rfl) dX8_cell_77 ?_
            refine v_if_neB h dX8_cell_80 (tgt := 89) (by decide) (fun c80 => ?_) (fun c80 => ?_)
            · obtain ⟨j2, hj2, rfl⟩ := wr_len hl9 c80
              have g58 := ftk_in g57.1 g57.2 hl9 hj2
              refine v_aload_n0 h dX8_cell_89 ?_
              refine v_get h mw_X8 0 rfl rfl 4 (by decide) mf_X8_16 rfl dX8_cell_90 ?_
              refine v_bipush h (v := nI 40) dX8_cell_93 (by decide) ?_
              refine v_iload_n1 h dX8_cell_95 ?_
              refine v_imulN h dX8_cell_96 ?_
              refine v_iload_n2 h dX8_cell_97 ?_
              refine v_iaddN h dX8_cell_98 ?_
              refine v_ialdF h 3 rfl (by omega) (Nat.le_of_ble_eq_true rfl) dX8_cell_99 ?_
              rw [hmc j0 (by omega) g57.1 j2 hj2]
              refine v_i2l h dX8_cell_100 ?_
              exact v_lretP h hr dX8_cell_101 (P_X8_cell_mk (q := ((cc j0 j2).toInt64, 0)) (by simp only [s_cell, e9, e16, g58, tn_N (show j2 < 2 ^ 31 by omega)]) ) rfl
            · have g58 := ftk_out g57.1 g57.2 hl9 (wr_lenf hl9 c80)
              refine v_aload_n0 h dX8_cell_83 ?_
              refine v_iconst h (v := nI 3) dX8_cell_84 (by decide) ?_
              refine cw_V_0_1_2_3_4_5_6_7_8_9_10_11_12_13_14_15_16_1_l (ci := 7) h (c_X8_lost (g := g)) lk_X8_188 ⟨rfl, rfl, (Nat.le_of_ble_eq_true rfl), (Nat.le_of_ble_eq_true rfl)⟩ rfl rfl rfl (Nat.le_of_ble_eq_true rfl) dX8_cell_85 ?_
              exact v_lretP h hr dX8_cell_88 (P_X8_cell_mk (q := (-9223372036854775808, 2 + 1)) (by simp only [s_cell, e9, e16, g58]) ) rfl
          · refine v_aload_n0 h dX8_cell_61 ?_
            refine v_iconst h (v := nI 1) dX8_cell_62 (by decide) ?_
            refine cw_V_0_1_2_3_4_5_6_7_8_9_10_11_12_13_14_15_16_1_l (ci := 7) h (c_X8_lost (g := g)) lk_X8_188 ⟨rfl, rfl, (Nat.le_of_ble_eq_true rfl), (Nat.le_of_ble_eq_true rfl)⟩ rfl rfl rfl (Nat.le_of_ble_eq_true rfl) dX8_cell_63 ?_
            exact v_lretP h hr dX8_cell_66 (P_X8_cell_mk (q := (-9223372036854775808, 0 + 1)) (by simp only [s_cell, e9, e16, (show ftk (fil j0) (srt j0) (len j0) (nI j1) p1 (nI 1) = 0 + 1 from (ftk_m1 (hsr j0) hs9 c58).symm)]) ) rfl
        · refine v_aload_n0 h dX8_cell_44 ?_
          refine v_iconst h (v := nI 2) dX8_cell_45 (by decide) ?_
          refine cw_V_0_1_2_3_4_5_6_7_8_9_10_11_12_13_14_15_16_1_l (ci := 7) h (c_X8_lost (g := g)) lk_X8_188 ⟨rfl, rfl, (Nat.le_of_ble_eq_true rfl), (Nat.le_of_ble_eq_true rfl)⟩ rfl rfl rfl (Nat.le_of_ble_eq_true rfl) dX8_cell_46 ?_
          exact v_lretP h hr dX8_cell_49 (P_X8_cell_mk (q := (-9223372036854775808, 1 + 1)) (by simp only [s_cell, e9, e16, (show ftk (fil j0) (srt j0) (len j0) (nI j1) p1 (nI 1) = 1 + 1 from (ftk_m2 hs9 c31 c41).symm)]) ) rfl
    · have e16 := wi_no c16
      refine v_ldc2 h mk2_X8_62 dX8_cell_19 ?_
      exact v_lretP h hr dX8_cell_22 (P_X8_cell_mk (q := (-9223372036854775808, 0)) (by simp only [s_cell, e9, e16]) ) rfl
