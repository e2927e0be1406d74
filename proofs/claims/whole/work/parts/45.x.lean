theorem lk_X8_126 : LkV RX8 126 yX8_findFar cX8_findFar 6 none 2 := ⟨ml_X8_126, mn_X8_findFar, mv_X8_findFar, mi_X8, mc_X8_findFar, ⟨by decide, by decide, by decide +kernel⟩⟩
def P_X8_noon (g : vG) (m0 m1 m2 m3 m4 m5 m6 m7 m8 m9 m10 m11 m12 m13 m14 m15 m16 : Nat) (fl : Nat) (tr : Int32) (msrt : Nat → Int32) (len : Nat → Nat) (mc : Nat → Int32) (n : Nat) (w : Nat → Nat) (atp : Nat) (rt : Nat) (rwt : Nat → Nat) (hn : Nat) (kd : Nat → Nat) (pt : Nat → Nat) (far : Nat → Int32) (sn : Nat) (sb : Nat → Nat) (sf : Nat → Nat) (ss : Nat → Nat) (sw : Nat → Nat) (ways : Nat → Nat) (chain : Nat → Nat) (row : Nat → Nat) (best : Nat → Nat) (p0 : Int32) (p1 : Int32) (p2 : Int32) : Option Value → va_W → Prop := fun r wo => ∃ far' : Nat → Int32, r = some (.int (s_noon n w hn kd pt p0 p1 p2)) ∧ wo = [(m0, .inr (7, [.int (nI fl), .int tr, .ref m1, .ref m2, .ref m3, .int (nI n), .ref m4, .int (nI atp), .int (nI rt), .ref m5, .int (nI hn), .ref m6, .ref m7, .ref m8, .int (nI sn), .ref m9, .ref m10, .ref m11, .ref m12, .ref m13, .ref m14, .ref m15, .ref m16])), (m1, .inl (gI g, 4, .inl msrt)), (m2, .inl (gI g, 4, .inl (fun z9 => nI (len z9)))), (m3, .inl (gI g, 160, .inl mc)), (m4, .inl (gI g, 8, .inl (fun z9 => nI (w z9)))), (m5, .inl (gI g, 8, .inl (fun z9 => nI (rwt z9)))), (m6, .inl (gI g, 6, .inl (fun z9 => nI (kd z9)))), (m7, .inl (gI g, 6, .inl (fun z9 => nI (pt z9)))), (m8, .inl (gI g, 8, .inl far')), (m9, .inl (gI g, 10, .inl (fun z9 => nI (sb z9)))), (m10, .inl (gI g, 10, .inl (fun z9 => nI (sf z9)))), (m11, .inl (gI g, 10, .inl (fun z9 => nI (ss z9)))), (m12, .inl (gI g, 10, .inl (fun z9 => nI (sw z9)))), (m13, .inl (gI g, 256, .inl (fun z9 => nI (ways z9)))), (m14, .inl (gI g, 8, .inl (fun z9 => nI (chain z9)))), (m15, .inl (gI g, 5, .inl (fun z9 => nI (row z9)))), (m16, .inl (gI g, 5, .inl (fun z9 => nI (best z9))))]
theorem P_X8_noon_mk {g : vG} {m0 m1 m2 m3 m4 m5 m6 m7 m8 m9 m10 m11 m12 m13 m14 m15 m16 : Nat} {fl : Nat} {tr : Int32} {msrt : Nat → Int32} {len : Nat → Nat} {mc : Nat → Int32} {n : Nat} {w : Nat → Nat} {atp : Nat} {rt : Nat} {rwt : Nat → Nat} {hn : Nat} {kd : Nat → Nat} {pt : Nat → Nat} {far : Nat → Int32} {sn : Nat} {sb : Nat → Nat} {sf : Nat → Nat} {ss : Nat → Nat} {sw : Nat → Nat} {ways : Nat → Nat} {chain : Nat → Nat} {row : Nat → Nat} {best : Nat → Nat} {p0 : Int32} {p1 : Int32} {p2 : Int32} {far' : Nat → Int32} {q : Int32} (hs : s_noon n w hn kd pt p0 p1 p2 = q)  : P_X8_noon g m0 m1 m2 m3 m4 m5 m6 m7 m8 m9 m10 m11 m12 m13 m14 m15 m16 fl tr msrt len mc n w atp rt rwt hn kd pt far sn sb sf ss sw ways chain row best p0 p1 p2 (some (.int q)) [(m0, .inr (7, [.int (nI fl), .int tr, .ref m1, .ref m2, .ref m3, .int (nI n), .ref m4, .int (nI atp), .int (nI rt), .ref m5, .int (nI hn), .ref m6, .ref m7, .ref m8, .int (nI sn), .ref m9, .ref m10, .ref m11, .ref m12, .ref m13, .ref m14, .ref m15, .ref m16])), (m1, .inl (gI g, 4, .inl msrt)), (m2, .inl (gI g, 4, .inl (fun z9 => nI (len z9)))), (m3, .inl (gI g, 160, .inl mc)), (m4, .inl (gI g, 8, .inl (fun z9 => nI (w z9)))), (m5, .inl (gI g, 8, .inl (fun z9 => nI (rwt z9)))), (m6, .inl (gI g, 6, .inl (fun z9 => nI (kd z9)))), (m7, .inl (gI g, 6, .inl (fun z9 => nI (pt z9)))), (m8, .inl (gI g, 8, .inl far')), (m9, .inl (gI g, 10, .inl (fun z9 => nI (sb z9)))), (m10, .inl (gI g, 10, .inl (fun z9 => nI (sf z9)))), (m11, .inl (gI g, 10, .inl (fun z9 => nI (ss z9)))), (m12, .inl (gI g, 10, .inl (fun z9 => nI (sw z9)))), (m13, .inl (gI g, 256, .inl (fun z9 => nI (ways z9)))), (m14, .inl (gI g, 8, .inl (fun z9 => nI (chain z9)))), (m15, .inl (gI g, 5, .inl (fun z9 => nI (row z9)))), (m16, .inl (gI g, 5, .inl (fun z9 => nI (best z9))))] := by subst hs; exact ⟨_, rfl, rfl⟩
set_option maxRecDepth 20000 in
set_option maxHeartbeats 4000000 in
theorem c_X8_noon {g : vG} {m0 m1 m2 m3 m4 m5 m6 m7 m8 m9 m10 m11 m12 m13 m14 m15 m16 : Nat} {fl : Nat} {tr : Int32} {msrt : Nat → Int32} {len : Nat → Nat} {mc : Nat → Int32} {n : Nat} {w : Nat → Nat} {atp : Nat} {rt : Nat} {rwt : Nat → Nat} {hn : Nat} {kd : Nat → Nat} {pt : Nat → Nat} {far : Nat → Int32} {sn : Nat} {sb : Nat → Nat} {sf : Nat → Nat} {ss : Nat → Nat} {sw : Nat → Nat} {ways : Nat → Nat} {chain : Nat → Nat} {row : Nat → Nat} {best : Nat → Nat} {p0 : Int32} {p1 : Int32} {p2 : Int32} (hT : wfT n w) (hH : wfH hn kd pt) : CtP g yX8_noon cX8_noon 6 (some .int) (rmOf 5 116) [(m0, .inr (7, [.int (nI fl), .int tr, .ref m1, .ref m2, .ref m3, .int (nI n), .ref m4, .int (nI atp), .int (nI rt), .ref m5, .int (nI hn), .ref m6, .ref m7, .ref m8, .int (nI sn), .ref m9, .ref m10, .ref m11, .ref m12, .ref m13, .ref m14, .ref m15, .ref m16])), (m1, .inl (gI g, 4, .inl msrt)), (m2, .inl (gI g, 4, .inl (fun z9 => nI (len z9)))), (m3, .inl (gI g, 160, .inl mc)), (m4, .inl (gI g, 8, .inl (fun z9 => nI (w z9)))), (m5, .inl (gI g, 8, .inl (fun z9 => nI (rwt z9)))), (m6, .inl (gI g, 6, .inl (fun z9 => nI (kd z9)))), (m7, .inl (gI g, 6, .inl (fun z9 => nI (pt z9)))), (m8, .inl (gI g, 8, .inl far)), (m9, .inl (gI g, 10, .inl (fun z9 => nI (sb z9)))), (m10, .inl (gI g, 10, .inl (fun z9 => nI (sf z9)))), (m11, .inl (gI g, 10, .inl (fun z9 => nI (ss z9)))), (m12, .inl (gI g, 10, .inl (fun z9 => nI (sw z9)))), (m13, .inl (gI g, 256, .inl (fun z9 => nI (ways z9)))), (m14, .inl (gI g, 8, .inl (fun z9 => nI (chain z9)))), (m15, .inl (gI g, 5, .inl (fun z9 => nI (row z9)))), (m16, .inl (gI g, 5, .inl (fun z9 => nI (best z9))))] [.ref m0, .int p0, .int p1, .int p2] (P_X8_noon g m0 m1 m2 m3 m4 m5 m6 m7 m8 m9 m10 m11 m12 m13 m14 m15 m16 fl tr msrt len mc n w atp rt rwt hn kd pt far sn sb sf ss sw ways chain row best p0 p1 p2) := by
  refine CtP.ofV RX8 rfl (by decide +kernel) rfl rfl (Nat.le_of_ble_eq_true rfl) (List.forall_mem_cons.mpr ⟨rfl, (List.forall_mem_cons.mpr ⟨rfl, (List.forall_mem_cons.mpr ⟨rfl, (List.forall_mem_cons.mpr ⟨rfl, (fun _ h9 => absurd h9 List.not_mem_nil)⟩)⟩)⟩)⟩) (fun x h hr => ?_)
  show vM x 0 [some (.ref m0), some (.int p0), some (.int p1), some (.int p2), none, none] [] [(m0, .inr (7, [.int (nI fl), .int tr, .ref m1, .ref m2, .ref m3, .int (nI n), .ref m4, .int (nI atp), .int (nI rt), .ref m5, .int (nI hn), .ref m6, .ref m7, .ref m8, .int (nI sn), .ref m9, .ref m10, .ref m11, .ref m12, .ref m13, .ref m14, .ref m15, .ref m16])), (m1, .inl (gI g, 4, .inl msrt)), (m2, .inl (gI g, 4, .inl (fun z9 => nI (len z9)))), (m3, .inl (gI g, 160, .inl mc)), (m4, .inl (gI g, 8, .inl (fun z9 => nI (w z9)))), (m5, .inl (gI g, 8, .inl (fun z9 => nI (rwt z9)))), (m6, .inl (gI g, 6, .inl (fun z9 => nI (kd z9)))), (m7, .inl (gI g, 6, .inl (fun z9 => nI (pt z9)))), (m8, .inl (gI g, 8, .inl far)), (m9, .inl (gI g, 10, .inl (fun z9 => nI (sb z9)))), (m10, .inl (gI g, 10, .inl (fun z9 => nI (sf z9)))), (m11, .inl (gI g, 10, .inl (fun z9 => nI (ss z9)))), (m12, .inl (gI g, 10, .inl (fun z9 => nI (sw z9)))), (m13, .inl (gI g, 256, .inl (fun z9 => nI (ways z9)))), (m14, .inl (gI g, 8, .inl (fun z9 => nI (chain z9)))), (m15, .inl (gI g, 5, .inl (fun z9 => nI (row z9)))), (m16, .inl (gI g, 5, .inl (fun z9 => nI (best z9))))]
  have ht1 := hT.1; have ht2 := hT.2.1; have ht3 := hT.2.2; have hh1 := hH.1; have hh2 := hH.2.1; have hh3 := hH.2.2.1; have hh4 := hH.2.2.2
  refine v_aload_n0 h dX8_noon_0 ?_
  refine v_iload_n1 h dX8_noon_1 ?_
  refine cw_V_0_1_2_3_4_5_6_7_8_9_10_11_12_13_14_15_16_1_i (ci := 7) h (c_X8_isHand (g := g)) lk_X8_107 ⟨rfl, rfl, (Nat.le_of_ble_eq_true rfl), (Nat.le_of_ble_eq_true rfl)⟩ rfl rfl rfl (Nat.le_of_ble_eq_true rfl) dX8_noon_2 ?_
  refine v_if_eqB h dX8_noon_5 (tgt := 16) (by decide) (fun c5 => ?_) (fun c5 => ?_)
  · have e5 := rN_f c5
    refine v_iconst h (v := -1) dX8_noon_16 (by decide) ?_
    exact v_iretP h hr dX8_noon_17 (P_X8_noon_mk (q := _) (by simp only [s_noon, e5]) ) rfl
  · obtain ⟨j0, hj0, rfl⟩ := inR_of c5 (by omega)
    have e5 := rN_N hj0 (by omega)
    refine v_aload_n0 h dX8_noon_8 ?_
    refine v_iload_n2 h dX8_noon_9 ?_
    refine cw_V_0_1_2_3_4_5_6_7_8_9_10_11_12_13_14_15_16_1_i (ci := 7) h (c_X8_isThing (g := g)) lk_X8_101 ⟨rfl, rfl, (Nat.le_of_ble_eq_true rfl), (Nat.le_of_ble_eq_true rfl)⟩ rfl rfl rfl (Nat.le_of_ble_eq_true rfl) dX8_noon_10 ?_
    refine v_if_neB h dX8_noon_13 (tgt := 18) (by decide) (fun c13 => ?_) (fun c13 => ?_)
    · obtain ⟨j1, hj1, rfl⟩ := inR_of c13 (by omega)
      have e13 := rN_N hj1 (by omega)
      refine v_iload_n3 h dX8_noon_18 ?_
      refine v_iconst h (v := nI 0) dX8_noon_19 (by decide) ?_
      refine v_bipush h (v := nI 99) dX8_noon_20 (by decide) ?_
      refine cw_S_e_3_i h (c_X8_within (g := g)) lk_X8_64 ⟨rfl, rfl, (Nat.le_of_ble_eq_true rfl), (Nat.le_of_ble_eq_true rfl)⟩ (Nat.le_of_ble_eq_true rfl) dX8_noon_22 ?_
      refine v_if_neB h dX8_noon_25 (tgt := 31) (by decide) (fun c25 => ?_) (fun c25 => ?_)
      · obtain ⟨j2, hj2a, hj2, rfl⟩ := wi_of c25 (by decide) (by decide)
        have e25 := rW_N hj2a hj2 (by decide)
        refine v_aload_n0 h dX8_noon_31 ?_
        refine v_iload_n1 h dX8_noon_32 ?_
        refine v_iload_n2 h dX8_noon_33 ?_
        refine cw_V_0_1_2_3_4_5_6_7_8_9_10_11_12_13_14_15_16_2_v (ci := 7) h (c_X8_findFar (g := g) (by first | assumption | omega) (by first | assumption | omega) (by first | assumption | omega) (by first | assumption | omega)) lk_X8_126 ⟨rfl, rfl, (Nat.le_of_ble_eq_true rfl), (Nat.le_of_ble_eq_true rfl)⟩ rfl rfl rfl (Nat.le_of_ble_eq_true rfl) dX8_noon_34 ?_
        refine v_iconst h (v := nI 0) dX8_noon_37 (by decide) ?_
        refine v_istore4 h (Nat.le_of_ble_eq_true rfl) dX8_noon_38 ?_
        refine v_iconst h (v := nI 0) dX8_noon_40 (by decide) ?_
        refine v_istore5 h (Nat.le_of_ble_eq_true rfl) dX8_noon_41 ?_
        have L43 : ∀ (k43 : Nat) (i : Nat), n - i = k43 → (i ≤ n) → vM x 43 [some (.ref m0), some (.int (nI j0)), some (.int (nI j1)), some (.int (nI j2)), some (.int (nI (orTo (fun z => if (wth (alkS (kd j0) (pt j0) w n) n (2 ^ j1) (min j2 n)).testBit z = true then 2 ^ z else 0) i))), some (.int (nI i))] [] [(m0, .inr (7, [.int (nI fl), .int tr, .ref m1, .ref m2, .ref m3, .int (nI n), .ref m4, .int (nI atp), .int (nI rt), .ref m5, .int (nI hn), .ref m6, .ref m7, .ref m8, .int (nI sn), .ref m9, .ref m10, .ref m11, .ref m12, .ref m13, .ref m14, .ref m15, .ref m16])), (m1, .inl (gI g, 4, .inl msrt)), (m2, .inl (gI g, 4, .inl (fun z9 => nI (len z9)))), (m3, .inl (gI g, 160, .inl mc)), (m4, .inl (gI g, 8, .inl (fun z9 => nI (w z9)))), (m5, .inl (gI g, 8, .inl (fun z9 => nI (rwt z9)))), (m6, .inl (gI g, 6, .inl (fun z9 => nI (kd z9)))), (m7, .inl (gI g, 6, .inl (fun z9 => nI (pt z9)))), (m8, .inl (gI g, 8, .inl (fA n (fD (alkS (kd j0) (pt j0) w n) n j1 n) far))), (m9, .inl (gI g, 10, .inl (fun z9 => nI (sb z9)))), (m10, .inl (gI g, 10, .inl (fun z9 => nI (sf z9)))), (m11, .inl (gI g, 10, .inl (fun z9 => nI (ss z9)))), (m12, .inl (gI g, 10, .inl (fun z9 => nI (sw z9)))), (m13, .inl (gI g, 256, .inl (fun z9 => nI (ways z9)))), (m14, .inl (gI g, 8, .inl (fun z9 => nI (chain z9)))), (m15, .inl (gI g, 5, .inl (fun z9 => nI (row z9)))), (m16, .inl (gI g, 5, .inl (fun z9 => nI (best z9))))] := by
          intro k43
          induction k43 using Nat.strongRecOn with
          | _ k43 ih43 =>
            intro i hm43 hi
            refine v_iload5 h dX8_noon_43 ?_
            refine v_aload_n0 h dX8_noon_45 ?_
            refine v_get h mw_X8 0 rfl rfl 5 (by decide) mf_X8_68 rfl dX8_noon_46 ?_
            refine v_icmp_geN h dX8_noon_49 (tgt := 94) (by decide) (by omega) (by omega) (fun c49 => ?_) (fun c49 => ?_)
            · obtain rfl : n = i := by omega
              rw [or_self (wth_ltn hj1 _)]
              refine v_iload4 h dX8_noon_94 ?_
              exact v_iretP h hr dX8_noon_96 (P_X8_noon_mk (q := _) (by simp only [s_noon, e5, e13, e25]) ) rfl
            · refine v_iload4 h dX8_noon_52 ?_
              refine v_aload_n0 h dX8_noon_54 ?_
              refine v_get h mw_X8 0 rfl rfl 13 (by decide) mf_X8_31 rfl dX8_noon_55 ?_
              refine v_iload5 h dX8_noon_58 ?_
              refine v_ialdF h 8 rfl (by omega) (Nat.le_of_ble_eq_true rfl) dX8_noon_60 ?_
              refine v_bipush h (v := -9) dX8_noon_61 (by decide) ?_
              refine v_icmp_eq h dX8_noon_63 (tgt := 84) (by decide) (fun c63 => ?_) (fun c63 => ?_)
              · rw [fA_at (by omega)] at c63
                have g9 := fD_no (k := j2) (by omega) c63
                refine v_iconst h (v := nI 0) dX8_noon_84 (by decide) ?_
                refine v_iorN h dX8_noon_85 ?_
                refine v_istore4 h (Nat.le_of_ble_eq_true rfl) dX8_noon_86 ?_
                refine v_iincN5 h (Nat.le_of_ble_eq_true rfl) dX8_noon_88 ?_
                refine v_goto h dX8_noon_91 (tgt := 43) (by decide) ?_
                exact vM.fg (ih43 _ (by omega) (i + 1) rfl (by first | assumption | rfl | omega)) ⟨rfl, rfl, rfl, rfl, (by first | (rw [orTo, if_pos g9]; done) | (rw [orTo, if_neg (by rw [g9]; decide)]; done)), rfl, trivial⟩
              · refine v_aload_n0 h dX8_noon_66 ?_
                refine v_get h mw_X8 0 rfl rfl 13 (by decide) mf_X8_31 rfl dX8_noon_67 ?_
                refine v_iload5 h dX8_noon_70 ?_
                refine v_ialdF h 8 rfl (by omega) (Nat.le_of_ble_eq_true rfl) dX8_noon_72 ?_
                refine v_iload_n3 h dX8_noon_73 ?_
                refine v_icmp_gt h dX8_noon_74 (tgt := 84) (by decide) (fun c74 => ?_) (fun c74 => ?_)
                · rw [fA_at (by omega)] at c63 c74
                  have g9 : (wth (alkS (kd j0) (pt j0) w n) n (2 ^ j1) (min j2 n)).testBit i = false := by
                    cases q : (wth (alkS (kd j0) (pt j0) w n) n (2 ^ j1) (min j2 n)).testBit i with
                    | false => rfl
                    | true => exact absurd ((fD_le (by omega) (by omega) c63).mpr q) (Int32.not_le.mpr c74)
                  refine v_iconst h (v := nI 0) dX8_noon_84 (by decide) ?_
                  refine v_iorN h dX8_noon_85 ?_
                  refine v_istore4 h (Nat.le_of_ble_eq_true rfl) dX8_noon_86 ?_
                  refine v_iincN5 h (Nat.le_of_ble_eq_true rfl) dX8_noon_88 ?_
                  refine v_goto h dX8_noon_91 (tgt := 43) (by decide) ?_
                  exact vM.fg (ih43 _ (by omega) (i + 1) rfl (by first | assumption | rfl | omega)) ⟨rfl, rfl, rfl, rfl, (by first | (rw [orTo, if_pos g9]; done) | (rw [orTo, if_neg (by rw [g9]; decide)]; done)), rfl, trivial⟩
                · rw [fA_at (by omega)] at c63 c74
                  have g9 := (fD_le (by omega) (by omega) c63).mp (Int32.not_lt.mp c74)
                  refine v_iconst h (v := nI 1) dX8_noon_77 (by decide) ?_
                  refine v_iload5 h dX8_noon_78 ?_
                  refine v_ishlN h dX8_noon_80 (by omega) ?_
                  refine v_goto h dX8_noon_81 (tgt := 85) (by decide) ?_
                  refine v_iorN h dX8_noon_85 ?_
                  refine v_istore4 h (Nat.le_of_ble_eq_true rfl) dX8_noon_86 ?_
                  refine v_iincN5 h (Nat.le_of_ble_eq_true rfl) dX8_noon_88 ?_
                  refine v_goto h dX8_noon_91 (tgt := 43) (by decide) ?_
                  exact vM.fg (ih43 _ (by omega) (i + 1) rfl (by first | assumption | rfl | omega)) ⟨rfl, rfl, rfl, rfl, (by first | (rw [orTo, if_pos g9]; done) | (rw [orTo, if_neg (by rw [g9]; decide)]; done)), rfl, trivial⟩
        exact vM.fg (L43 _ 0 rfl (by first | assumption | rfl | omega)) ⟨rfl, rfl, rfl, rfl, rfl, rfl, trivial⟩
      · have e25 := wi_no c25
        refine v_bipush h (v := -2) dX8_noon_28 (by decide) ?_
        exact v_iretP h hr dX8_noon_30 (P_X8_noon_mk (q := _) (by simp only [s_noon, e5, e13, e25]) ) rfl
    · have e13 := rN_f c13
      refine v_iconst h (v := -1) dX8_noon_16 (by decide) ?_
      exact v_iretP h hr dX8_noon_17 (P_X8_noon_mk (q := _) (by simp only [s_noon, e5, e13]) ) rfl
