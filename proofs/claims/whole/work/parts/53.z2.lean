theorem cw_S_e_3_l {x : vX} {g : vG} {cc : ByteArray} {own : String} {rm : Room} {nL pc : Nat} {lv : List (Option Value)} {st : List Value} {wt : va_W} {idx : Nat} {y : MethodName} {bytes : ByteArray} {ml : Nat} {ret : Option FieldType} {rmc : Room} {r : Int64} {p0 p1 p2 : Value} (h : Ok x g cc own rm nL) (hc : Ct g y bytes ml ret rmc [] [p0, p1, p2] (some (.long r)) []) (lk : LkS own idx y bytes ml ret 3) (hrm : RmOk rmc rm ml) (hW : (st.map fun v => v.category).sum ≤ 8) (hd : decode cc pc = .ok (.invokestatic idx, 3)) (k : vM x (pc + 3) lv (.long r :: st) (wt)) : vM x pc lv (p2 :: p1 :: p0 :: st) (wt) := v_callS (As := [p0, p1, p2]) (rest := st) h hc lk hrm rfl [] rfl (by decide) hW hd rfl k
theorem lk_X8_184 : LkS RX8 184 yX8_share cX8_share 11 (some .long) 3 := ⟨ml_X8_184, ms_X8_share, mi_X8, mc_X8_share, ⟨by decide, by decide, by decide +kernel⟩⟩
def P_X8_odds (g : vG) (m0 m1 m2 m3 m4 m5 m6 m7 m8 m9 m10 m11 m12 m13 m14 m15 m16 : Nat) (fl : Nat) (tr : Int32) (msrt : Nat → Int32) (len : Nat → Nat) (mc : Nat → Int32) (n : Nat) (w : Nat → Nat) (atp : Nat) (rt : Nat) (rwt : Nat → Nat) (hn : Nat) (kd : Nat → Nat) (pt : Nat → Nat) (far : Nat → Int32) (sn : Nat) (sb : Nat → Nat) (sf : Nat → Nat) (ss : Nat → Nat) (sw : Nat → Nat) (ways : Nat → Nat) (chain : Nat → Nat) (row : Nat → Nat) (best : Nat → Nat) (p0 : Int32) (p1 : Int32) : Option Value → va_W → Prop := fun r wo => r = some (.long (s_odds n w hn kd pt p0 p1)) ∧ wo = [(m0, .inr (7, [.int (nI fl), .int tr, .ref m1, .ref m2, .ref m3, .int (nI n), .ref m4, .int (nI atp), .int (nI rt), .ref m5, .int (nI hn), .ref m6, .ref m7, .ref m8, .int (nI sn), .ref m9, .ref m10, .ref m11, .ref m12, .ref m13, .ref m14, .ref m15, .ref m16])), (m1, .inl (gI g, 4, .inl msrt)), (m2, .inl (gI g, 4, .inl (fun z9 => nI (len z9)))), (m3, .inl (gI g, 160, .inl mc)), (m4, .inl (gI g, 8, .inl (fun z9 => nI (w z9)))), (m5, .inl (gI g, 8, .inl (fun z9 => nI (rwt z9)))), (m6, .inl (gI g, 6, .inl (fun z9 => nI (kd z9)))), (m7, .inl (gI g, 6, .inl (fun z9 => nI (pt z9)))), (m8, .inl (gI g, 8, .inl far)), (m9, .inl (gI g, 10, .inl (fun z9 => nI (sb z9)))), (m10, .inl (gI g, 10, .inl (fun z9 => nI (sf z9)))), (m11, .inl (gI g, 10, .inl (fun z9 => nI (ss z9)))), (m12, .inl (gI g, 10, .inl (fun z9 => nI (sw z9)))), (m13, .inl (gI g, 256, .inl (fun z9 => nI (ways z9)))), (m14, .inl (gI g, 8, .inl (fun z9 => nI (chain z9)))), (m15, .inl (gI g, 5, .inl (fun z9 => nI (row z9)))), (m16, .inl (gI g, 5, .inl (fun z9 => nI (best z9))))]
theorem P_X8_odds_mk {g : vG} {m0 m1 m2 m3 m4 m5 m6 m7 m8 m9 m10 m11 m12 m13 m14 m15 m16 : Nat} {fl : Nat} {tr : Int32} {msrt : Nat → Int32} {len : Nat → Nat} {mc : Nat → Int32} {n : Nat} {w : Nat → Nat} {atp : Nat} {rt : Nat} {rwt : Nat → Nat} {hn : Nat} {kd : Nat → Nat} {pt : Nat → Nat} {far : Nat → Int32} {sn : Nat} {sb : Nat → Nat} {sf : Nat → Nat} {ss : Nat → Nat} {sw : Nat → Nat} {ways : Nat → Nat} {chain : Nat → Nat} {row : Nat → Nat} {best : Nat → Nat} {p0 : Int32} {p1 : Int32}  {q : Int64} (hs : s_odds n w hn kd pt p0 p1 = q)  : P_X8_odds g m0 m1 m2 m3 m4 m5 m6 m7 m8 m9 m10 m11 m12 m13 m14 m15 m16 fl tr msrt len mc n w atp rt rwt hn kd pt far sn sb sf ss sw ways chain row best p0 p1 (some (.long q)) [(m0, .inr (7, [.int (nI fl), .int tr, .ref m1, .ref m2, .ref m3, .int (nI n), .ref m4, .int (nI atp), .int (nI rt), .ref m5, .int (nI hn), .ref m6, .ref m7, .ref m8, .int (nI sn), .ref m9, .ref m10, .ref m11, .ref m12, .ref m13, .ref m14, .ref m15, .ref m16])), (m1, .inl (gI g, 4, .inl msrt)), (m2, .inl (gI g, 4, .inl (fun z9 => nI (len z9)))), (m3, .inl (gI g, 160, .inl mc)), (m4, .inl (gI g, 8, .inl (fun z9 => nI (w z9)))), (m5, .inl (gI g, 8, .inl (fun z9 => nI (rwt z9)))), (m6, .inl (gI g, 6, .inl (fun z9 => nI (kd z9)))), (m7, .inl (gI g, 6, .inl (fun z9 => nI (pt z9)))), (m8, .inl (gI g, 8, .inl far)), (m9, .inl (gI g, 10, .inl (fun z9 => nI (sb z9)))), (m10, .inl (gI g, 10, .inl (fun z9 => nI (sf z9)))), (m11, .inl (gI g, 10, .inl (fun z9 => nI (ss z9)))), (m12, .inl (gI g, 10, .inl (fun z9 => nI (sw z9)))), (m13, .inl (gI g, 256, .inl (fun z9 => nI (ways z9)))), (m14, .inl (gI g, 8, .inl (fun z9 => nI (chain z9)))), (m15, .inl (gI g, 5, .inl (fun z9 => nI (row z9)))), (m16, .inl (gI g, 5, .inl (fun z9 => nI (best z9))))] := by subst hs; exact ⟨rfl, rfl⟩
set_option maxRecDepth 20000 in
set_option maxHeartbeats 4000000 in
theorem c_X8_odds {g : vG} {m0 m1 m2 m3 m4 m5 m6 m7 m8 m9 m10 m11 m12 m13 m14 m15 m16 : Nat} {fl : Nat} {tr : Int32} {msrt : Nat → Int32} {len : Nat → Nat} {mc : Nat → Int32} {n : Nat} {w : Nat → Nat} {atp : Nat} {rt : Nat} {rwt : Nat → Nat} {hn : Nat} {kd : Nat → Nat} {pt : Nat → Nat} {far : Nat → Int32} {sn : Nat} {sb : Nat → Nat} {sf : Nat → Nat} {ss : Nat → Nat} {sw : Nat → Nat} {ways : Nat → Nat} {chain : Nat → Nat} {row : Nat → Nat} {best : Nat → Nat} {p0 : Int32} {p1 : Int32} (hT : wfT n w) (hH : wfH hn kd pt) (hn2 : hn = 0 ∨ 2 ≤ n) : CtP g yX8_odds cX8_odds 6 (some .long) (rmOf 4 91) [(m0, .inr (7, [.int (nI fl), .int tr, .ref m1, .ref m2, .ref m3, .int (nI n), .ref m4, .int (nI atp), .int (nI rt), .ref m5, .int (nI hn), .ref m6, .ref m7, .ref m8, .int (nI sn), .ref m9, .ref m10, .ref m11, .ref m12, .ref m13, .ref m14, .ref m15, .ref m16])), (m1, .inl (gI g, 4, .inl msrt)), (m2, .inl (gI g, 4, .inl (fun z9 => nI (len z9)))), (m3, .inl (gI g, 160, .inl mc)), (m4, .inl (gI g, 8, .inl (fun z9 => nI (w z9)))), (m5, .inl (gI g, 8, .inl (fun z9 => nI (rwt z9)))), (m6, .inl (gI g, 6, .inl (fun z9 => nI (kd z9)))), (m7, .inl (gI g, 6, .inl (fun z9 => nI (pt z9)))), (m8, .inl (gI g, 8, .inl far)), (m9, .inl (gI g, 10, .inl (fun z9 => nI (sb z9)))), (m10, .inl (gI g, 10, .inl (fun z9 => nI (sf z9)))), (m11, .inl (gI g, 10, .inl (fun z9 => nI (ss z9)))), (m12, .inl (gI g, 10, .inl (fun z9 => nI (sw z9)))), (m13, .inl (gI g, 256, .inl (fun z9 => nI (ways z9)))), (m14, .inl (gI g, 8, .inl (fun z9 => nI (chain z9)))), (m15, .inl (gI g, 5, .inl (fun z9 => nI (row z9)))), (m16, .inl (gI g, 5, .inl (fun z9 => nI (best z9))))] [.ref m0, .int p0, .int p1] (P_X8_odds g m0 m1 m2 m3 m4 m5 m6 m7 m8 m9 m10 m11 m12 m13 m14 m15 m16 fl tr msrt len mc n w atp rt rwt hn kd pt far sn sb sf ss sw ways chain row best p0 p1) := by
  refine CtP.ofV RX8 rfl (by decide +kernel) rfl rfl (Nat.le_of_ble_eq_true rfl) (List.forall_mem_cons.mpr ⟨rfl, (List.forall_mem_cons.mpr ⟨rfl, (List.forall_mem_cons.mpr ⟨rfl, (fun _ h9 => absurd h9 List.not_mem_nil)⟩)⟩)⟩) (fun x h hr => ?_)
  show vM x 0 [some (.ref m0), some (.int p0), some (.int p1), none, none, none] [] [(m0, .inr (7, [.int (nI fl), .int tr, .ref m1, .ref m2, .ref m3, .int (nI n), .ref m4, .int (nI atp), .int (nI rt), .ref m5, .int (nI hn), .ref m6, .ref m7, .ref m8, .int (nI sn), .ref m9, .ref m10, .ref m11, .ref m12, .ref m13, .ref m14, .ref m15, .ref m16])), (m1, .inl (gI g, 4, .inl msrt)), (m2, .inl (gI g, 4, .inl (fun z9 => nI (len z9)))), (m3, .inl (gI g, 160, .inl mc)), (m4, .inl (gI g, 8, .inl (fun z9 => nI (w z9)))), (m5, .inl (gI g, 8, .inl (fun z9 => nI (rwt z9)))), (m6, .inl (gI g, 6, .inl (fun z9 => nI (kd z9)))), (m7, .inl (gI g, 6, .inl (fun z9 => nI (pt z9)))), (m8, .inl (gI g, 8, .inl far)), (m9, .inl (gI g, 10, .inl (fun z9 => nI (sb z9)))), (m10, .inl (gI g, 10, .inl (fun z9 => nI (sf z9)))), (m11, .inl (gI g, 10, .inl (fun z9 => nI (ss z9)))), (m12, .inl (gI g, 10, .inl (fun z9 => nI (sw z9)))), (m13, .inl (gI g, 256, .inl (fun z9 => nI (ways z9)))), (m14, .inl (gI g, 8, .inl (fun z9 => nI (chain z9)))), (m15, .inl (gI g, 5, .inl (fun z9 => nI (row z9)))), (m16, .inl (gI g, 5, .inl (fun z9 => nI (best z9))))]
  have ht1 := hT.1; have ht2 := hT.2.1; have ht3 := hT.2.2; have hh1 := hH.1; have hh2 := hH.2.1; have hh3 := hH.2.2.1; have hh4 := hH.2.2.2
  refine v_aload_n0 h dX8_odds_0 ?_
  refine v_iload_n1 h dX8_odds_1 ?_
  refine cw_V_0_1_2_3_4_5_6_7_8_9_10_11_12_13_14_15_16_1_i (ci := 7) h (c_X8_isHand (g := g)) lk_X8_107 ⟨rfl, rfl, (Nat.le_of_ble_eq_true rfl), (Nat.le_of_ble_eq_true rfl)⟩ rfl rfl rfl (Nat.le_of_ble_eq_true rfl) dX8_odds_2 ?_
  refine v_if_eqB h dX8_odds_5 (tgt := 17) (by decide) (fun c5 => ?_) (fun c5 => ?_)
  · have e5 := rN_f c5
    refine v_ldc2 h mk2_X8_62 dX8_odds_17 ?_
    exact v_lretP h hr dX8_odds_20 (P_X8_odds_mk (q := _) (by simp only [s_odds, e5]) ) rfl
  · obtain ⟨j0, hj0, rfl⟩ := inR_of c5 (by omega)
    have e5 := rN_N hj0 (by omega)
    refine v_iload_n2 h dX8_odds_8 ?_
    refine v_iconst h (v := nI 0) dX8_odds_9 (by decide) ?_
    refine v_iconst h (v := nI 1) dX8_odds_10 (by decide) ?_
    refine cw_S_e_3_i h (c_X8_within (g := g)) lk_X8_64 ⟨rfl, rfl, (Nat.le_of_ble_eq_true rfl), (Nat.le_of_ble_eq_true rfl)⟩ (Nat.le_of_ble_eq_true rfl) dX8_odds_11 ?_
    refine v_if_neB h dX8_odds_14 (tgt := 21) (by decide) (fun c14 => ?_) (fun c14 => ?_)
    · obtain ⟨j1, hj1a, hj1, rfl⟩ := wi_of c14 (by decide) (by decide)
      have e14 := rW_N hj1a hj1 (by decide)
      refine v_iconst h (v := nI 0) dX8_odds_21 (by decide) ?_
      refine v_istore_n3 h (Nat.le_of_ble_eq_true rfl) dX8_odds_22 ?_
      refine v_iconst h (v := nI 0) dX8_odds_23 (by decide) ?_
      refine v_istore4 h (Nat.le_of_ble_eq_true rfl) dX8_odds_24 ?_
      have L26 : ∀ (k26 : Nat) (i : Nat), n - i = k26 → (i ≤ n) → vM x 26 [some (.ref m0), some (.int (nI j0)), some (.int (nI j1)), some (.int (nI (naT (kd j0) (pt j0) w i))), some (.int (nI i)), none] [] [(m0, .inr (7, [.int (nI fl), .int tr, .ref m1, .ref m2, .ref m3, .int (nI n), .ref m4, .int (nI atp), .int (nI rt), .ref m5, .int (nI hn), .ref m6, .ref m7, .ref m8, .int (nI sn), .ref m9, .ref m10, .ref m11, .ref m12, .ref m13, .ref m14, .ref m15, .ref m16])), (m1, .inl (gI g, 4, .inl msrt)), (m2, .inl (gI g, 4, .inl (fun z9 => nI (len z9)))), (m3, .inl (gI g, 160, .inl mc)), (m4, .inl (gI g, 8, .inl (fun z9 => nI (w z9)))), (m5, .inl (gI g, 8, .inl (fun z9 => nI (rwt z9)))), (m6, .inl (gI g, 6, .inl (fun z9 => nI (kd z9)))), (m7, .inl (gI g, 6, .inl (fun z9 => nI (pt z9)))), (m8, .inl (gI g, 8, .inl far)), (m9, .inl (gI g, 10, .inl (fun z9 => nI (sb z9)))), (m10, .inl (gI g, 10, .inl (fun z9 => nI (sf z9)))), (m11, .inl (gI g, 10, .inl (fun z9 => nI (ss z9)))), (m12, .inl (gI g, 10, .inl (fun z9 => nI (sw z9)))), (m13, .inl (gI g, 256, .inl (fun z9 => nI (ways z9)))), (m14, .inl (gI g, 8, .inl (fun z9 => nI (chain z9)))), (m15, .inl (gI g, 5, .inl (fun z9 => nI (row z9)))), (m16, .inl (gI g, 5, .inl (fun z9 => nI (best z9))))] := by
        intro k26
        induction k26 using Nat.strongRecOn with
        | _ k26 ih26 =>
          intro i hm26 hi
          refine v_iload4 h dX8_odds_26 ?_
          refine v_aload_n0 h dX8_odds_28 ?_
          refine v_get h mw_X8 0 rfl rfl 5 (by decide) mf_X8_68 rfl dX8_odds_29 ?_
          refine v_icmp_geN h dX8_odds_32 (tgt := 77) (by decide) (by omega) (by omega) (fun c32 => ?_) (fun c32 => ?_)
          · obtain rfl : n = i := by omega
            rw [told_eq ht1]
            have hn9 : n * (n - 1) ≤ 8 * 7 := Nat.mul_le_mul ht1 (by omega)
            have hn8 : 2 * 1 ≤ n * (n - 1) := Nat.mul_le_mul (show 2 ≤ n by omega) (show 1 ≤ n - 1 by omega)
            have ht9 : (toldN (ligS (kd j0) (pt j0) w n) n) < 2 ^ 31 := by rw [← told_eq ht1]; exact naT_lt ht1
            refine v_iload_n3 h dX8_odds_77 ?_
            refine v_i2l h dX8_odds_78 ?_
            refine v_aload_n0 h dX8_odds_79 ?_
            refine v_get h mw_X8 0 rfl rfl 5 (by decide) mf_X8_68 rfl dX8_odds_80 ?_
            refine v_aload_n0 h dX8_odds_83 ?_
            refine v_get h mw_X8 0 rfl rfl 5 (by decide) mf_X8_68 rfl dX8_odds_84 ?_
            refine v_iconst h (v := nI 1) dX8_odds_87 (by decide) ?_
            refine v_isubN h dX8_odds_88 (by omega) ?_
            refine v_imulN h dX8_odds_89 ?_
            refine v_iconst h (v := nI 2) dX8_odds_90 (by decide) ?_
            refine v_idivN h dX8_odds_91 (by omega) (by decide) (by decide) ?_
            refine v_i2l h dX8_odds_92 ?_
            refine v_iload_n2 h dX8_odds_93 ?_
            refine cw_S_e_3_l h (c_X8_share (g := g) (a := (toldN (ligS (kd j0) (pt j0) w n) n)) (b := (n * (n - 1) / 2)) (u := j1) (by omega) (by omega) (by omega) (by omega)) lk_X8_184 ⟨rfl, rfl, (Nat.le_of_ble_eq_true rfl), (Nat.le_of_ble_eq_true rfl)⟩ (Nat.le_of_ble_eq_true rfl) dX8_odds_94 ?_
            exact v_lretP h hr dX8_odds_97 (P_X8_odds_mk (q := _) (by simp only [s_odds, e5, e14]; rw [cmd_gcd (by omega) _ (fun e h1 h2 => by omega)]) ) rfl
          · refine v_iconst h (v := nI 0) dX8_odds_35 (by decide) ?_
            refine v_istore5 h (Nat.le_of_ble_eq_true rfl) dX8_odds_36 ?_
            have L38 : ∀ (k38 : Nat) (q : Nat), i - q = k38 → (q ≤ i) → vM x 38 [some (.ref m0), some (.int (nI j0)), some (.int (nI j1)), some (.int (nI ((naT (kd j0) (pt j0) w i) + sumTo (naF (kd j0) (pt j0) w i) q))), some (.int (nI i)), some (.int (nI q))] [] [(m0, .inr (7, [.int (nI fl), .int tr, .ref m1, .ref m2, .ref m3, .int (nI n), .ref m4, .int (nI atp), .int (nI rt), .ref m5, .int (nI hn), .ref m6, .ref m7, .ref m8, .int (nI sn), .ref m9, .ref m10, .ref m11, .ref m12, .ref m13, .ref m14, .ref m15, .ref m16])), (m1, .inl (gI g, 4, .inl msrt)), (m2, .inl (gI g, 4, .inl (fun z9 => nI (len z9)))), (m3, .inl (gI g, 160, .inl mc)), (m4, .inl (gI g, 8, .inl (fun z9 => nI (w z9)))), (m5, .inl (gI g, 8, .inl (fun z9 => nI (rwt z9)))), (m6, .inl (gI g, 6, .inl (fun z9 => nI (kd z9)))), (m7, .inl (gI g, 6, .inl (fun z9 => nI (pt z9)))), (m8, .inl (gI g, 8, .inl far)), (m9, .inl (gI g, 10, .inl (fun z9 => nI (sb z9)))), (m10, .inl (gI g, 10, .inl (fun z9 => nI (sf z9)))), (m11, .inl (gI g, 10, .inl (fun z9 => nI (ss z9)))), (m12, .inl (gI g, 10, .inl (fun z9 => nI (sw z9)))), (m13, .inl (gI g, 256, .inl (fun z9 => nI (ways z9)))), (m14, .inl (gI g, 8, .inl (fun z9 => nI (chain z9)))), (m15, .inl (gI g, 5, .inl (fun z9 => nI (row z9)))), (m16, .inl (gI g, 5, .inl (fun z9 => nI (best z9))))] := by
              intro k38
              induction k38 using Nat.strongRecOn with
              | _ k38 ih38 =>
                intro q hm38 hq
                refine v_iload5 h dX8_odds_38 ?_
                refine v_iload4 h dX8_odds_40 ?_
                refine v_icmp_geN h dX8_odds_42 (tgt := 71) (by decide) (by omega) (by omega) (fun c42 => ?_) (fun c42 => ?_)
                · obtain rfl : i = q := by omega
                  refine v_iincN4 h (Nat.le_of_ble_eq_true rfl) dX8_odds_71 ?_
                  refine v_goto h dX8_odds_74 (tgt := 26) (by decide) ?_
                  exact vM.fg (ih26 _ (by omega) (i + 1) rfl (by first | assumption | rfl | omega)) ⟨rfl, rfl, rfl, rfl, rfl, trivial⟩
                · refine v_iload_n3 h dX8_odds_45 ?_
                  refine v_aload_n0 h dX8_odds_46 ?_
                  refine v_iload_n1 h dX8_odds_47 ?_
                  refine v_iload4 h dX8_odds_48 ?_
                  refine v_iload5 h dX8_odds_50 ?_
                  refine cw_V_0_1_2_3_4_5_6_7_8_9_10_11_12_13_14_15_16_3_i (ci := 7) h (c_X8_areAlike (g := g) (by first | assumption | omega) (by first | assumption | omega) (by first | assumption | omega) (by first | assumption | omega) (by first | assumption | omega)) lk_X8_119 ⟨rfl, rfl, (Nat.le_of_ble_eq_true rfl), (Nat.le_of_ble_eq_true rfl)⟩ rfl rfl rfl (Nat.le_of_ble_eq_true rfl) dX8_odds_52 ?_
                  refine v_if_eqB h dX8_odds_55 (tgt := 62) (by decide) (fun c55 => ?_) (fun c55 => ?_)
                  · refine v_iconst h (v := nI 1) dX8_odds_62 (by decide) ?_
                    refine v_iaddN h dX8_odds_63 ?_
                    refine v_istore_n3 h (Nat.le_of_ble_eq_true rfl) dX8_odds_64 ?_
                    refine v_iincN5 h (Nat.le_of_ble_eq_true rfl) dX8_odds_65 ?_
                    refine v_goto h dX8_odds_68 (tgt := 38) (by decide) ?_
                    exact vM.fg (ih38 _ (by omega) (q + 1) rfl (by first | assumption | rfl | omega)) ⟨rfl, rfl, rfl, (by exact congrArg (fun y => some (Value.int (nI y))) (by first | rw [sumTo, naF_t c55, Nat.add_assoc] | rw [sumTo, naF_f c55, Nat.add_assoc])), rfl, rfl, trivial⟩
                  · refine v_iconst h (v := nI 0) dX8_odds_58 (by decide) ?_
                    refine v_goto h dX8_odds_59 (tgt := 63) (by decide) ?_
                    refine v_iaddN h dX8_odds_63 ?_
                    refine v_istore_n3 h (Nat.le_of_ble_eq_true rfl) dX8_odds_64 ?_
                    refine v_iincN5 h (Nat.le_of_ble_eq_true rfl) dX8_odds_65 ?_
                    refine v_goto h dX8_odds_68 (tgt := 38) (by decide) ?_
                    exact vM.fg (ih38 _ (by omega) (q + 1) rfl (by first | assumption | rfl | omega)) ⟨rfl, rfl, rfl, (by exact congrArg (fun y => some (Value.int (nI y))) (by first | rw [sumTo, naF_t c55, Nat.add_assoc] | rw [sumTo, naF_f c55, Nat.add_assoc])), rfl, rfl, trivial⟩
            exact vM.fg (L38 _ 0 rfl (by first | assumption | rfl | omega)) ⟨rfl, rfl, rfl, rfl, rfl, rfl, trivial⟩
      exact vM.fg (L26 _ 0 rfl (by first | assumption | rfl | omega)) ⟨rfl, rfl, rfl, rfl, rfl, trivial⟩
    · have e14 := wi_no c14
      refine v_ldc2 h mk2_X8_62 dX8_odds_17 ?_
      exact v_lretP h hr dX8_odds_20 (P_X8_odds_mk (q := _) (by simp only [s_odds, e5, e14]) ) rfl
