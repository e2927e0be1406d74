def P_X8_copy (g : vG) (m0 m1 m2 m3 m4 m5 m6 m7 m8 m9 m10 m11 m12 m13 m14 m15 m16 : Nat) (fl : Nat) (tr : Int32) (msrt : Nat → Int32) (len : Nat → Nat) (mc : Nat → Int32) (n : Nat) (w : Nat → Nat) (atp : Nat) (rt : Nat) (rwt : Nat → Nat) (hn : Nat) (kd : Nat → Nat) (pt : Nat → Nat) (far : Nat → Int32) (sn : Nat) (sb : Nat → Nat) (sf : Nat → Nat) (ss : Nat → Nat) (sw : Nat → Nat) (ways : Nat → Nat) (chain : Nat → Nat) (row : Nat → Nat) (best : Nat → Nat) (p0 : Int32) (p1 : Int32) (p2 : Int32) (p3 : Int32) (p4 : Int32) (fil : Nat → Bool) (srt : Nat → Nat) (cc : Nat → Nat → Int32) : Option Value → va_W → Prop := fun r wo => ∃ mc' : Nat → Int32, (∀ k, k < 4 → fil k = true → ∀ j, j < len k → mc' (40 * k + j) = (s_copy fil srt len cc p0 p1 p2 p3 p4).2.2 k j) ∧ r = some (.int (s_copy fil srt len cc p0 p1 p2 p3 p4).1) ∧ wo = [(m0, .inr (7, [.int (nI ((s_copy fil srt len cc p0 p1 p2 p3 p4).2.1)), .int tr, .ref m1, .ref m2, .ref m3, .int (nI n), .ref m4, .int (nI atp), .int (nI rt), .ref m5, .int (nI hn), .ref m6, .ref m7, .ref m8, .int (nI sn), .ref m9, .ref m10, .ref m11, .ref m12, .ref m13, .ref m14, .ref m15, .ref m16])), (m1, .inl (gI g, 4, .inl msrt)), (m2, .inl (gI g, 4, .inl (fun z9 => nI (len z9)))), (m3, .inl (gI g, 160, .inl mc')), (m4, .inl (gI g, 8, .inl (fun z9 => nI (w z9)))), (m5, .inl (gI g, 8, .inl (fun z9 => nI (rwt z9)))), (m6, .inl (gI g, 6, .inl (fun z9 => nI (kd z9)))), (m7, .inl (gI g, 6, .inl (fun z9 => nI (pt z9)))), (m8, .inl (gI g, 8, .inl far)), (m9, .inl (gI g, 10, .inl (fun z9 => nI (sb z9)))), (m10, .inl (gI g, 10, .inl (fun z9 => nI (sf z9)))), (m11, .inl (gI g, 10, .inl (fun z9 => nI (ss z9)))), (m12, .inl (gI g, 10, .inl (fun z9 => nI (sw z9)))), (m13, .inl (gI g, 256, .inl (fun z9 => nI (ways z9)))), (m14, .inl (gI g, 8, .inl (fun z9 => nI (chain z9)))), (m15, .inl (gI g, 5, .inl (fun z9 => nI (row z9)))), (m16, .inl (gI g, 5, .inl (fun z9 => nI (best z9))))]
theorem P_X8_copy_mk {g : vG} {m0 m1 m2 m3 m4 m5 m6 m7 m8 m9 m10 m11 m12 m13 m14 m15 m16 : Nat} {fl : Nat} {tr : Int32} {msrt : Nat → Int32} {len : Nat → Nat} {mc : Nat → Int32} {n : Nat} {w : Nat → Nat} {atp : Nat} {rt : Nat} {rwt : Nat → Nat} {hn : Nat} {kd : Nat → Nat} {pt : Nat → Nat} {far : Nat → Int32} {sn : Nat} {sb : Nat → Nat} {sf : Nat → Nat} {ss : Nat → Nat} {sw : Nat → Nat} {ways : Nat → Nat} {chain : Nat → Nat} {row : Nat → Nat} {best : Nat → Nat} {p0 : Int32} {p1 : Int32} {p2 : Int32} {p3 : Int32} {p4 : Int32} {fil : Nat → Bool} {srt : Nat → Nat} {cc : Nat → Nat → Int32} {mc' : Nat → Int32} {q : Int32 × Nat × (Nat → Nat → Int32)} (hs : s_copy fil srt len cc p0 p1 p2 p3 p4 = q) (hb0 : ∀ k, k < 4 → fil k = true → ∀ j, j < len k → mc' (40 * k + j) = (s_copy fil srt len cc p0 p1 p2 p3 p4).2.2 k j) : P_X8_copy g m0 m1 m2 m3 m4 m5 m6 m7 m8 m9 m10 m11 m12 m13 m14 m15 m16 fl tr msrt len mc n w atp rt rwt hn kd pt far sn sb sf ss sw ways chain row best p0 p1 p2 p3 p4 fil srt cc (some (.int q.1)) [(m0, .inr (7, [.int (nI q.2.1), .int tr, .ref m1, .ref m2, .ref m3, .int (nI n), .ref m4, .int (nI atp), .int (nI rt), .ref m5, .int (nI hn), .ref m6, .ref m7, .ref m8, .int (nI sn), .ref m9, .ref m10, .ref m11, .ref m12, .ref m13, .ref m14, .ref m15, .ref m16])), (m1, .inl (gI g, 4, .inl msrt)), (m2, .inl (gI g, 4, .inl (fun z9 => nI (len z9)))), (m3, .inl (gI g, 160, .inl mc')), (m4, .inl (gI g, 8, .inl (fun z9 => nI (w z9)))), (m5, .inl (gI g, 8, .inl (fun z9 => nI (rwt z9)))), (m6, .inl (gI g, 6, .inl (fun z9 => nI (kd z9)))), (m7, .inl (gI g, 6, .inl (fun z9 => nI (pt z9)))), (m8, .inl (gI g, 8, .inl far)), (m9, .inl (gI g, 10, .inl (fun z9 => nI (sb z9)))), (m10, .inl (gI g, 10, .inl (fun z9 => nI (sf z9)))), (m11, .inl (gI g, 10, .inl (fun z9 => nI (ss z9)))), (m12, .inl (gI g, 10, .inl (fun z9 => nI (sw z9)))), (m13, .inl (gI g, 256, .inl (fun z9 => nI (ways z9)))), (m14, .inl (gI g, 8, .inl (fun z9 => nI (chain z9)))), (m15, .inl (gI g, 5, .inl (fun z9 => nI (row z9)))), (m16, .inl (gI g, 5, .inl (fun z9 => nI (best z9))))] := by subst hs; exact ⟨_, hb0, rfl, rfl⟩
set_option maxRecDepth 20000 in
set_option maxHeartbeats 4000000 in
theorem c_X8_copy {g : vG} {m0 m1 m2 m3 m4 m5 m6 m7 m8 m9 m10 m11 m12 m13 m14 m15 m16 : Nat} {fl : Nat} {tr : Int32} {msrt : Nat → Int32} {len : Nat → Nat} {mc : Nat → Int32} {n : Nat} {w : Nat → Nat} {atp : Nat} {rt : Nat} {rwt : Nat → Nat} {hn : Nat} {kd : Nat → Nat} {pt : Nat → Nat} {far : Nat → Int32} {sn : Nat} {sb : Nat → Nat} {sf : Nat → Nat} {ss : Nat → Nat} {sw : Nat → Nat} {ways : Nat → Nat} {chain : Nat → Nat} {row : Nat → Nat} {best : Nat → Nat} {p0 : Int32} {p1 : Int32} {p2 : Int32} {p3 : Int32} {p4 : Int32} {fil : Nat → Bool} {srt : Nat → Nat} {cc : Nat → Nat → Int32} (hsr : ∀ k, srt k ≤ 2) (hln : ∀ k, len k ≤ 40) (hms : ∀ k, k < 4 → msrt k = if fil k = true then nI (srt k) else -9) (hmc : ∀ k, k < 4 → fil k = true → ∀ j, j < len k → mc (40 * k + j) = cc k j) : CtP g yX8_copy cX8_copy 10 (some .int) (rmOf 2 42) [(m0, .inr (7, [.int (nI fl), .int tr, .ref m1, .ref m2, .ref m3, .int (nI n), .ref m4, .int (nI atp), .int (nI rt), .ref m5, .int (nI hn), .ref m6, .ref m7, .ref m8, .int (nI sn), .ref m9, .ref m10, .ref m11, .ref m12, .ref m13, .ref m14, .ref m15, .ref m16])), (m1, .inl (gI g, 4, .inl msrt)), (m2, .inl (gI g, 4, .inl (fun z9 => nI (len z9)))), (m3, .inl (gI g, 160, .inl mc)), (m4, .inl (gI g, 8, .inl (fun z9 => nI (w z9)))), (m5, .inl (gI g, 8, .inl (fun z9 => nI (rwt z9)))), (m6, .inl (gI g, 6, .inl (fun z9 => nI (kd z9)))), (m7, .inl (gI g, 6, .inl (fun z9 => nI (pt z9)))), (m8, .inl (gI g, 8, .inl far)), (m9, .inl (gI g, 10, .inl (fun z9 => nI (sb z9)))), (m10, .inl (gI g, 10, .inl (fun z9 => nI (sf z9)))), (m11, .inl (gI g, 10, .inl (fun z9 => nI (ss z9)))), (m12, .inl (gI g, 10, .inl (fun z9 => nI (sw z9)))), (m13, .inl (gI g, 256, .inl (fun z9 => nI (ways z9)))), (m14, .inl (gI g, 8, .inl (fun z9 => nI (chain z9)))), (m15, .inl (gI g, 5, .inl (fun z9 => nI (row z9)))), (m16, .inl (gI g, 5, .inl (fun z9 => nI (best z9))))] [.ref m0, .int p0, .int p1, .int p2, .int p3, .int p4] (P_X8_copy g m0 m1 m2 m3 m4 m5 m6 m7 m8 m9 m10 m11 m12 m13 m14 m15 m16 fl tr msrt len mc n w atp rt rwt hn kd pt far sn sb sf ss sw ways chain row best p0 p1 p2 p3 p4 fil srt cc) := by
  refine CtP.ofV RX8 rfl (by decide +kernel) rfl rfl (Nat.le_of_ble_eq_true rfl) (List.forall_mem_cons.mpr ⟨rfl, (List.forall_mem_cons.mpr ⟨rfl, (List.forall_mem_cons.mpr ⟨rfl, (List.forall_mem_cons.mpr ⟨rfl, (List.forall_mem_cons.mpr ⟨rfl, (List.forall_mem_cons.mpr ⟨rfl, (fun _ h9 => absurd h9 List.not_mem_nil)⟩)⟩)⟩)⟩)⟩)⟩) (fun x h hr => ?_)
  show vM x 0 [some (.ref m0), some (.int p0), some (.int p1), some (.int p2), some (.int p3), some (.int p4), none, none, none, none] [] [(m0, .inr (7, [.int (nI fl), .int tr, .ref m1, .ref m2, .ref m3, .int (nI n), .ref m4, .int (nI atp), .int (nI rt), .ref m5, .int (nI hn), .ref m6, .ref m7, .ref m8, .int (nI sn), .ref m9, .ref m10, .ref m11, .ref m12, .ref m13, .ref m14, .ref m15, .ref m16])), (m1, .inl (gI g, 4, .inl msrt)), (m2, .inl (gI g, 4, .inl (fun z9 => nI (len z9)))), (m3, .inl (gI g, 160, .inl mc)), (m4, .inl (gI g, 8, .inl (fun z9 => nI (w z9)))), (m5, .inl (gI g, 8, .inl (fun z9 => nI (rwt z9)))), (m6, .inl (gI g, 6, .inl (fun z9 => nI (kd z9)))), (m7, .inl (gI g, 6, .inl (fun z9 => nI (pt z9)))), (m8, .inl (gI g, 8, .inl far)), (m9, .inl (gI g, 10, .inl (fun z9 => nI (sb z9)))), (m10, .inl (gI g, 10, .inl (fun z9 => nI (sf z9)))), (m11, .inl (gI g, 10, .inl (fun z9 => nI (ss z9)))), (m12, .inl (gI g, 10, .inl (fun z9 => nI (sw z9)))), (m13, .inl (gI g, 256, .inl (fun z9 => nI (ways z9)))), (m14, .inl (gI g, 8, .inl (fun z9 => nI (chain z9)))), (m15, .inl (gI g, 5, .inl (fun z9 => nI (row z9)))), (m16, .inl (gI g, 5, .inl (fun z9 => nI (best z9))))]
  refine v_aload_n0 h dX8_copy_0 ?_
  refine v_iconst h (v := nI 0) dX8_copy_1 (by decide) ?_
  refine pf_X8_58_at0 h dX8_copy_2 ?_
  refine v_iload_n1 h dX8_copy_5 ?_
  refine cw_S_e_1_i h (c_X8_isSheet (g := g)) lk_X8_71 ⟨rfl, rfl, (Nat.le_of_ble_eq_true rfl), (Nat.le_of_ble_eq_true rfl)⟩ (Nat.le_of_ble_eq_true rfl) dX8_copy_6 ?_
  refine v_if_eqB h dX8_copy_9 (tgt := 19) (by decide) (fun c9 => ?_) (fun c9 => ?_)
  · have e9 := wi_rN c9
    refine v_iconst h (v := -1) dX8_copy_19 (by decide) ?_
    exact v_iretP h hr dX8_copy_20 (P_X8_copy_mk (q := (-1, 0, cc)) (by simp only [s_copy, e9]) (by simp only [s_copy, e9]; exact hmc)) rfl
  · obtain ⟨j0, -, hj0, rfl⟩ := wi_of c9 (by decide) (by decide)
    have e9 := rN_N (show j0 < 4 by omega) (by decide)
    refine v_iload_n3 h dX8_copy_12 ?_
    refine cw_S_e_1_i h (c_X8_isSheet (g := g)) lk_X8_71 ⟨rfl, rfl, (Nat.le_of_ble_eq_true rfl), (Nat.le_of_ble_eq_true rfl)⟩ (Nat.le_of_ble_eq_true rfl) dX8_copy_13 ?_
    refine v_if_neB h dX8_copy_16 (tgt := 21) (by decide) (fun c16 => ?_) (fun c16 => ?_)
    · obtain ⟨j1, -, hj1, rfl⟩ := wi_of c16 (by decide) (by decide)
      have e16 := rN_N (show j1 < 4 by omega) (by decide)
      refine v_aload_n0 h dX8_copy_21 ?_
      refine v_get h mw_X8 0 rfl rfl 2 (by decide) mf_X8_9 rfl dX8_copy_22 ?_
      refine v_iload_n1 h dX8_copy_25 ?_
      refine v_ialdF h 1 rfl (by omega) (Nat.le_of_ble_eq_true rfl) dX8_copy_26 ?_
      refine v_bipush h (v := -9) dX8_copy_27 (by decide) ?_
      refine v_icmp_eq h dX8_copy_29 (tgt := 43) (by decide) (fun c29 => ?_) (fun c29 => ?_)
      · refine v_aload_n0 h dX8_copy_43 ?_
        refine v_iconst h (v := nI 1) dX8_copy_44 (by decide) ?_
        refine cw_V_0_1_2_3_4_5_6_7_8_9_10_11_12_13_14_15_16_1_i (ci := 7) h (c_X8_fails (g := g)) lk_X8_82 ⟨rfl, rfl, (Nat.le_of_ble_eq_true rfl), (Nat.le_of_ble_eq_true rfl)⟩ rfl rfl rfl (Nat.le_of_ble_eq_true rfl) dX8_copy_45 ?_
        exact v_iretP h hr dX8_copy_48 (P_X8_copy_mk (q := (-10 - nI 1, 1, cc)) (by simp only [s_copy, e9, e16, if_pos (ms_f (hsr j0) (hms j0 (by omega)) c29)]) (by simp only [s_copy, e9, e16, if_pos (ms_f (hsr j0) (hms j0 (by omega)) c29)]; exact hmc)) rfl
      · obtain ⟨hf0, hm0⟩ := ms_t (hms j0 (by omega)) c29
        refine v_aload_n0 h dX8_copy_32 ?_
        refine v_get h mw_X8 0 rfl rfl 2 (by decide) mf_X8_9 rfl dX8_copy_33 ?_
        refine v_iload_n3 h dX8_copy_36 ?_
        refine v_ialdF h 1 rfl (by omega) (Nat.le_of_ble_eq_true rfl) dX8_copy_37 ?_
        refine v_bipush h (v := -9) dX8_copy_38 (by decide) ?_
        refine v_icmp_ne h dX8_copy_40 (tgt := 49) (by decide) (fun c40 => ?_) (fun c40 => ?_)
        · obtain ⟨hf1, hm1⟩ := ms_t (hms j1 (by omega)) c40
          have hs0 := hsr j0
          have hs1 := hsr j1
          have hl9 := hln j0
          have hl8 := hln j1
          refine v_aload_n0 h dX8_copy_49 ?_
          refine v_get h mw_X8 0 rfl rfl 2 (by decide) mf_X8_9 rfl dX8_copy_50 ?_
          refine v_iload_n1 h dX8_copy_53 ?_
          refine v_ialdF h 1 rfl (by omega) (Nat.le_of_ble_eq_true rfl) dX8_copy_54 ?_
          refine v_aload_n0 h dX8_copy_55 ?_
          refine v_get h mw_X8 0 rfl rfl 2 (by decide) mf_X8_9 rfl dX8_copy_56 ?_
          refine v_iload_n3 h dX8_copy_59 ?_
          refine v_ialdF h 1 rfl (by omega) (Nat.le_of_ble_eq_true rfl) dX8_copy_60 ?_
          refine v_icmp_eq h dX8_copy_61 (tgt := 70) (by decide) (fun c61 => ?_) (fun c61 => ?_)
          · have e61 : srt j0 = srt j1 := (nI_eq (by omega) (by omega)).mp (hm0.symm.trans (c61.trans hm1))
            refine v_iload_n2 h dX8_copy_70 ?_
            refine v_if_lt h dX8_copy_71 (tgt := 109) (by decide) (fun c71 => ?_) (fun c71 => ?_)
            · have g9 : hcB (fil j0) (len j0) p1 p4 = false ∨ hcB (fil j1) (len j1) p3 p4 = false := Or.inl (hcB_f1 c71)
              refine v_iconst h (v := nI 0) dX8_copy_109 (by decide) ?_
              refine v_istore6 h (Nat.le_of_ble_eq_true rfl) dX8_copy_110 ?_
              refine v_iload6 h dX8_copy_112 ?_
              refine v_if_eqN h dX8_copy_114 (tgt := 144) (by decide) (by decide) (fun _ => ?_) (fun c9 => absurd c9 (by decide))
              refine v_aload_n0 h dX8_copy_144 ?_
              refine v_iconst h (v := nI 3) dX8_copy_145 (by decide) ?_
              refine cw_V_0_1_2_3_4_5_6_7_8_9_10_11_12_13_14_15_16_1_i (ci := 7) h (c_X8_fails (g := g)) lk_X8_82 ⟨rfl, rfl, (Nat.le_of_ble_eq_true rfl), (Nat.le_of_ble_eq_true rfl)⟩ rfl rfl rfl (Nat.le_of_ble_eq_true rfl) dX8_copy_146 ?_
              exact v_iretP h hr dX8_copy_149 (P_X8_copy_mk (q := (-10 - nI 3, 3, cc)) (by simp only [s_copy, e9, e16, if_neg (show ¬ fil j0 = false by rw [hf0]; decide), if_neg (show ¬ fil j1 = false by rw [hf1]; decide), if_pos e61]; exact cp_f g9) (by rw [show s_copy fil srt len cc (nI j0) p1 (nI j1) p3 p4 = (-10 - nI 3, 3, cc) by simp only [s_copy, e9, e16, if_neg (show ¬ fil j0 = false by rw [hf0]; decide), if_neg (show ¬ fil j1 = false by rw [hf1]; decide), if_pos e61]; exact cp_f g9]; exact hmc)) rfl
            · refine v_iload4 h dX8_copy_74 ?_
              refine v_if_lt h dX8_copy_76 (tgt := 109) (by decide) (fun c76 => ?_) (fun c76 => ?_)
              · have g9 : hcB (fil j0) (len j0) p1 p4 = false ∨ hcB (fil j1) (len j1) p3 p4 = false := Or.inr (hcB_f1 c76)
                refine v_iconst h (v := nI 0) dX8_copy_109 (by decide) ?_
                refine v_istore6 h (Nat.le_of_ble_eq_true rfl) dX8_copy_110 ?_
                refine v_iload6 h dX8_copy_112 ?_
                refine v_if_eqN h dX8_copy_114 (tgt := 144) (by decide) (by decide) (fun _ => ?_) (fun c9 => absurd c9 (by decide))
                refine v_aload_n0 h dX8_copy_144 ?_
                refine v_iconst h (v := nI 3) dX8_copy_145 (by decide) ?_
                refine cw_V_0_1_2_3_4_5_6_7_8_9_10_11_12_13_14_15_16_1_i (ci := 7) h (c_X8_fails (g := g)) lk_X8_82 ⟨rfl, rfl, (Nat.le_of_ble_eq_true rfl), (Nat.le_of_ble_eq_true rfl)⟩ rfl rfl rfl (Nat.le_of_ble_eq_true rfl) dX8_copy_146 ?_
                exact v_iretP h hr dX8_copy_149 (P_X8_copy_mk (q := (-10 - nI 3, 3, cc)) (by simp only [s_copy, e9, e16, if_neg (show ¬ fil j0 = false by rw [hf0]; decide), if_neg (show ¬ fil j1 = false by rw [hf1]; decide), if_pos e61]; exact cp_f g9) (by rw [show s_copy fil srt len cc (nI j0) p1 (nI j1) p3 p4 = (-10 - nI 3, 3, cc) by simp only [s_copy, e9, e16, if_neg (show ¬ fil j0 = false by rw [hf0]; decide), if_neg (show ¬ fil j1 = false by rw [hf1]; decide), if_pos e61]; exact cp_f g9]; exact hmc)) rfl
              · refine v_iload5 h dX8_copy_79 ?_
                refine v_if_lt h dX8_copy_81 (tgt := 109) (by decide) (fun c81 => ?_) (fun c81 => ?_)
                · have g9 : hcB (fil j0) (len j0) p1 p4 = false ∨ hcB (fil j1) (len j1) p3 p4 = false := Or.inl (hcB_f2 c81)
                  refine v_iconst h (v := nI 0) dX8_copy_109 (by decide) ?_
                  refine v_istore6 h (Nat.le_of_ble_eq_true rfl) dX8_copy_110 ?_
                  refine v_iload6 h dX8_copy_112 ?_
                  refine v_if_eqN h dX8_copy_114 (tgt := 144) (by decide) (by decide) (fun _ => ?_) (fun c9 => absurd c9 (by decide))
                  refine v_aload_n0 h dX8_copy_144 ?_
                  refine v_iconst h (v := nI 3) dX8_copy_145 (by decide) ?_
                  refine cw_V_0_1_2_3_4_5_6_7_8_9_10_11_12_13_14_15_16_1_i (ci := 7) h (c_X8_fails (g := g)) lk_X8_82 ⟨rfl, rfl, (Nat.le_of_ble_eq_true rfl), (Nat.le_of_ble_eq_true rfl)⟩ rfl rfl rfl (Nat.le_of_ble_eq_true rfl) dX8_copy_146 ?_
                  exact v_iretP h hr dX8_copy_149 (P_X8_copy_mk (q := (-10 - nI 3, 3, cc)) (by simp only [s_copy, e9, e16, if_neg (show ¬ fil j0 = false by rw [hf0]; decide), if_neg (show ¬ fil j1 = false by rw [hf1]; decide), if_pos e61]; exact cp_f g9) (by rw [show s_copy fil srt len cc (nI j0) p1 (nI j1) p3 p4 = (-10 - nI 3, 3, cc) by simp only [s_copy, e9, e16, if_neg (show ¬ fil j0 = false by rw [hf0]; decide), if_neg (show ¬ fil j1 = false by rw [hf1]; decide), if_pos e61]; exact cp_f g9]; exact hmc)) rfl
                · refine v_iload_n2 h dX8_copy_84 ?_
                  refine v_aload_n0 h dX8_copy_85 ?_
                  refine v_get h mw_X8 0 rfl rfl 3 (by decide) mf_X8_13 rfl dX8_copy_86 ?_
                  refine v_iload_n1 h dX8_copy_89 ?_
                  refine v_ialdN h 2 rfl (by omega) (Nat.le_of_ble_eq_true rfl) dX8_copy_90 ?_
                  refine v_icmp_gt h dX8_copy_91 (tgt := 109) (by decide) (fun c91 => ?_) (fun c91 => ?_)
                  · have g9 : hcB (fil j0) (len j0) p1 p4 = false ∨ hcB (fil j1) (len j1) p3 p4 = false := Or.inl (hcB_f3 c91)
                    refine v_iconst h (v := nI 0) dX8_copy_109 (by decide) ?_
                    refine v_istore6 h (Nat.le_of_ble_eq_true rfl) dX8_copy_110 ?_
                    refine v_iload6 h dX8_copy_112 ?_
                    refine v_if_eqN h dX8_copy_114 (tgt := 144) (by decide) (by decide) (fun _ => ?_) (fun c9 => absurd c9 (by decide))
                    refine v_aload_n0 h dX8_copy_144 ?_
                    refine v_iconst h (v := nI 3) dX8_copy_145 (by decide) ?_
                    refine cw_V_0_1_2_3_4_5_6_7_8_9_10_11_12_13_14_15_16_1_i (ci := 7) h (c_X8_fails (g := g)) lk_X8_82 ⟨rfl, rfl, (Nat.le_of_ble_eq_true rfl), (Nat.le_of_ble_eq_true rfl)⟩ rfl rfl rfl (Nat.le_of_ble_eq_true rfl) dX8_copy_146 ?_
                    exact v_iretP h hr dX8_copy_149 (P_X8_copy_mk (q := (-10 - nI 3, 3, cc)) (by simp only [s_copy, e9, e16, if_neg (show ¬ fil j0 = false by rw [hf0]; decide), if_neg (show ¬ fil j1 = false by rw [hf1]; decide), if_pos e61]; exact cp_f g9) (by rw [show s_copy fil srt len cc (nI j0) p1 (nI j1) p3 p4 = (-10 - nI 3, 3, cc) by simp only [s_copy, e9, e16, if_neg (show ¬ fil j0 = false by rw [hf0]; decide), if_neg (show ¬ fil j1 = false by rw [hf1]; decide), if_pos e61]; exact cp_f g9]; exact hmc)) rfl
                  · refine v_iload4 h dX8_copy_94 ?_
                    refine v_aload_n0 h dX8_copy_96 ?_
                    refine v_get h mw_X8 0 rfl rfl 3 (by decide) mf_X8_13 rfl dX8_copy_97 ?_
                    refine v_iload_n3 h dX8_copy_100 ?_
                    refine v_ialdN h 2 rfl (by omega) (Nat.le_of_ble_eq_true rfl) dX8_copy_101 ?_
                    refine v_icmp_gt h dX8_copy_102 (tgt := 109) (by decide) (fun c102 => ?_) (fun c102 => ?_)
                    · have g9 : hcB (fil j0) (len j0) p1 p4 = false ∨ hcB (fil j1) (len j1) p3 p4 = false := Or.inr (hcB_f3 c102)
                      refine v_iconst h (v := nI 0) dX8_copy_109 (by decide) ?_
                      refine v_istore6 h (Nat.le_of_ble_eq_true rfl) dX8_copy_110 ?_
                      refine v_iload6 h dX8_copy_112 ?_
                      refine v_if_eqN h dX8_copy_114 (tgt := 144) (by decide) (by decide) (fun _ => ?_) (fun c9 => absurd c9 (by decide))
                      refine v_aload_n0 h dX8_copy_144 ?_
                      refine v_iconst h (v := nI 3) dX8_copy_145 (by decide) ?_
                      refine cw_V_0_1_2_3_4_5_6_7_8_9_10_11_12_13_14_15_16_1_i (ci := 7) h (c_X8_fails (g := g)) lk_X8_82 ⟨rfl, rfl, (Nat.le_of_ble_eq_true rfl), (Nat.le_of_ble_eq_true rfl)⟩ rfl rfl rfl (Nat.le_of_ble_eq_true rfl) dX8_copy_146 ?_
                      exact v_iretP h hr dX8_copy_149 (P_X8_copy_mk (q := (-10 - nI 3, 3, cc)) (by simp only [s_copy, e9, e16, if_neg (show ¬ fil j0 = false by rw [hf0]; decide), if_neg (show ¬ fil j1 = false by rw [hf1]; decide), if_pos e61]; exact cp_f g9) (by rw [show s_copy fil srt len cc (nI j0) p1 (nI j1) p3 p4 = (-10 - nI 3, 3, cc) by simp only [s_copy, e9, e16, if_neg (show ¬ fil j0 = false by rw [hf0]; decide), if_neg (show ¬ fil j1 = false by rw [hf1]; decide), if_pos e61]; exact cp_f g9]; exact hmc)) rfl
                    · refine v_iconst h (v := nI 1) dX8_copy_105 (by decide) ?_
                      refine v_goto h dX8_copy_106 (tgt := 110) (by decide) ?_
                      refine v_istore6 h (Nat.le_of_ble_eq_true rfl) dX8_copy_110 ?_
                      refine v_iload6 h dX8_copy_112 ?_
                      refine v_if_eqN h dX8_copy_114 (tgt := 144) (by decide) (by decide) (fun c9 => absurd c9 (by decide)) (fun _ => ?_)
                      refine v_iload5 h dX8_copy_117 ?_
                      refine v_aload_n0 h dX8_copy_119 ?_
                      refine v_get h mw_X8 0 rfl rfl 3 (by decide) mf_X8_13 rfl dX8_copy_120 ?_
                      refine v_iload_n1 h dX8_copy_123 ?_
                      refine v_ialdN h 2 rfl (by omega) (Nat.le_of_ble_eq_true rfl) dX8_copy_124 ?_
                      refine v_iload_n2 h dX8_copy_125 ?_
                      refine v_isub h dX8_copy_126 ?_
                      refine v_icmp_gt h dX8_copy_127 (tgt := 144) (by decide) (fun c127 => ?_) (fun c127 => ?_)
                      · have g9 : hcB (fil j0) (len j0) p1 p4 = false ∨ hcB (fil j1) (len j1) p3 p4 = false := Or.inl (hcB_f4 c127)
                        refine v_aload_n0 h dX8_copy_144 ?_
                        refine v_iconst h (v := nI 3) dX8_copy_145 (by decide) ?_
                        refine cw_V_0_1_2_3_4_5_6_7_8_9_10_11_12_13_14_15_16_1_i (ci := 7) h (c_X8_fails (g := g)) lk_X8_82 ⟨rfl, rfl, (Nat.le_of_ble_eq_true rfl), (Nat.le_of_ble_eq_true rfl)⟩ rfl rfl rfl (Nat.le_of_ble_eq_true rfl) dX8_copy_146 ?_
                        exact v_iretP h hr dX8_copy_149 (P_X8_copy_mk (q := (-10 - nI 3, 3, cc)) (by simp only [s_copy, e9, e16, if_neg (show ¬ fil j0 = false by rw [hf0]; decide), if_neg (show ¬ fil j1 = false by rw [hf1]; decide), if_pos e61]; exact cp_f g9) (by rw [show s_copy fil srt len cc (nI j0) p1 (nI j1) p3 p4 = (-10 - nI 3, 3, cc) by simp only [s_copy, e9, e16, if_neg (show ¬ fil j0 = false by rw [hf0]; decide), if_neg (show ¬ fil j1 = false by rw [hf1]; decide), if_pos e61]; exact cp_f g9]; exact hmc)) rfl
                      · refine v_iload5 h dX8_copy_130 ?_
                        refine v_aload_n0 h dX8_copy_132 ?_
                        refine v_get h mw_X8 0 rfl rfl 3 (by decide) mf_X8_13 rfl dX8_copy_133 ?_
                        refine v_iload_n3 h dX8_copy_136 ?_
                        refine v_ialdN h 2 rfl (by omega) (Nat.le_of_ble_eq_true rfl) dX8_copy_137 ?_
                        refine v_iload4 h dX8_copy_138 ?_
                        refine v_isub h dX8_copy_140 ?_
                        refine v_icmp_le h dX8_copy_141 (tgt := 150) (by decide) (fun c141 => ?_) (fun c141 => ?_)
                        · have c93q := hcB_t hf0 c71 c81 c91 c127
                          have c108q := hcB_t hf1 c76 c81 c102 (Int32.not_lt.mpr c141)
                          have c93r := c93q
                          have c108r := c108q
                          obtain ⟨h91, i9, n9, rfl, rfl, h92⟩ := hcB_of (hln j0) c93r
                          obtain ⟨h93, j9, n8, rfl, h98, h94⟩ := hcB_of (hln j1) c108r
                          have h95 : n9 = n8 := by
                            rcases Nat.lt_or_ge n8 (2 ^ 31) with q | q
                            · exact (nI_eq (by omega) q).mp h98
                            · omega
                          subst h95
                          refine v_iload_n2 h dX8_copy_150 ?_
                          refine v_iload4 h dX8_copy_151 ?_
                          refine v_icmp_geN h dX8_copy_153 (tgt := 160) (by decide) (by omega) (by omega) (fun c153 => ?_) (fun c153 => ?_)
                          · refine v_iconst h (v := nI 0) dX8_copy_160 (by decide) ?_
                            refine v_istore7 h (Nat.le_of_ble_eq_true rfl) dX8_copy_161 ?_
                            refine v_iconst h (v := nI 0) dX8_copy_163 (by decide) ?_
                            refine v_istore8 h (Nat.le_of_ble_eq_true rfl) dX8_copy_164 ?_
                            have L166 : ∀ (k166 : Nat) (q8 : Nat), n9 - q8 = k166 → (q8 ≤ n9) → vM x 166 [some (.ref m0), some (.int (nI j0)), some (.int (nI i9)), some (.int (nI j1)), some (.int (nI j9)), some (.int (nI n9)), some (.int (nI 1)), some (.int (nI 0)), some (.int (nI q8)), none] [] [(m0, .inr (7, [.int (nI 0), .int tr, .ref m1, .ref m2, .ref m3, .int (nI n), .ref m4, .int (nI atp), .int (nI rt), .ref m5, .int (nI hn), .ref m6, .ref m7, .ref m8, .int (nI sn), .ref m9, .ref m10, .ref m11, .ref m12, .ref m13, .ref m14, .ref m15, .ref m16])), (m1, .inl (gI g, 4, .inl msrt)), (m2, .inl (gI g, 4, .inl (fun z9 => nI (len z9)))), (m3, .inl (gI g, 160, .inl (cpF mc (40 * j0 + i9) (40 * j1 + j9) q8))), (m4, .inl (gI g, 8, .inl (fun z9 => nI (w z9)))), (m5, .inl (gI g, 8, .inl (fun z9 => nI (rwt z9)))), (m6, .inl (gI g, 6, .inl (fun z9 => nI (kd z9)))), (m7, .inl (gI g, 6, .inl (fun z9 => nI (pt z9)))), (m8, .inl (gI g, 8, .inl far)), (m9, .inl (gI g, 10, .inl (fun z9 => nI (sb z9)))), (m10, .inl (gI g, 10, .inl (fun z9 => nI (sf z9)))), (m11, .inl (gI g, 10, .inl (fun z9 => nI (ss z9)))), (m12, .inl (gI g, 10, .inl (fun z9 => nI (sw z9)))), (m13, .inl (gI g, 256, .inl (fun z9 => nI (ways z9)))), (m14, .inl (gI g, 8, .inl (fun z9 => nI (chain z9)))), (m15, .inl (gI g, 5, .inl (fun z9 => nI (row z9)))), (m16, .inl (gI g, 5, .inl (fun z9 => nI (best z9))))] := by
                              intro k166
                              induction k166 using Nat.strongRecOn with
                              | _ k166 ih166 =>
                                intro q8 hm166 hq8
                                refine v_iload8 h dX8_copy_166 ?_
                                refine v_iload5 h dX8_copy_168 ?_
                                refine v_icmp_geN h dX8_copy_170 (tgt := 227) (by decide) (by omega) (by omega) (fun c170 => ?_) (fun c170 => ?_)
                                · obtain rfl : n9 = q8 := by omega
                                  refine v_iload5 h dX8_copy_227 ?_
                                  exact v_iretP h hr dX8_copy_229 (P_X8_copy_mk (q := (nI n9, 0, upr cc j1 (va_cpy (cc j0) (cc j1) i9 j9 n9))) (by simp only [s_copy, e9, e16, if_neg (show ¬ fil j0 = false by rw [hf0]; decide), if_neg (show ¬ fil j1 = false by rw [hf1]; decide), if_pos e61, if_pos c93q, if_pos c108q, tn_N (show i9 < 2 ^ 31 by omega), tn_N (show j9 < 2 ^ 31 by omega), tn_N (show n9 < 2 ^ 31 by omega)]) (by simp only [s_copy, e9, e16, if_neg (show ¬ fil j0 = false by rw [hf0]; decide), if_neg (show ¬ fil j1 = false by rw [hf1]; decide), if_pos e61, if_pos c93q, if_pos c108q, tn_N (show i9 < 2 ^ 31 by omega), tn_N (show j9 < 2 ^ 31 by omega), tn_N (show n9 < 2 ^ 31 by omega)]; exact hmc_cpy hln hmc (by omega) hf0 h92 h94 (fun z => by first | exact cpF_all z | exact cpB_all z))) rfl
                                · refine v_iload7 h dX8_copy_173 ?_
                                  refine v_if_eqN h dX8_copy_175 (tgt := 188) (by decide) (by decide) (fun _ => ?_) (fun c9 => absurd c9 (by decide))
                                  refine v_iload8 h dX8_copy_188 ?_
                                  refine v_istore9 h (Nat.le_of_ble_eq_true rfl) dX8_copy_190 ?_
                                  refine v_aload_n0 h dX8_copy_192 ?_
                                  refine v_get h mw_X8 0 rfl rfl 4 (by decide) mf_X8_16 rfl dX8_copy_193 ?_
                                  refine v_bipush h (v := nI 40) dX8_copy_196 (by decide) ?_
                                  refine v_iload_n3 h dX8_copy_198 ?_
                                  refine v_imulN h dX8_copy_199 ?_
                                  refine v_iload4 h dX8_copy_200 ?_
                                  refine v_iaddN h dX8_copy_202 ?_
                                  refine v_iload9 h dX8_copy_203 ?_
                                  refine v_iaddN h dX8_copy_205 ?_
                                  refine v_aload_n0 h dX8_copy_206 ?_
                                  refine v_get h mw_X8 0 rfl rfl 4 (by decide) mf_X8_16 rfl dX8_copy_207 ?_
                                  refine v_bipush h (v := nI 40) dX8_copy_210 (by decide) ?_
                                  refine v_iload_n1 h dX8_copy_212 ?_
                                  refine v_imulN h dX8_copy_213 ?_
                                  refine v_iload_n2 h dX8_copy_214 ?_
                                  refine v_iaddN h dX8_copy_215 ?_
                                  refine v_iload9 h dX8_copy_216 ?_
                                  refine v_iaddN h dX8_copy_218 ?_
                                  refine v_ialdF h 3 rfl (by omega) (Nat.le_of_ble_eq_true rfl) dX8_copy_219 ?_
                                  refine v_iastF_at3 h (by omega) (Nat.le_of_ble_eq_true rfl) dX8_copy_220 ?_
                                  refine v_iincN8 h (Nat.le_of_ble_eq_true rfl) dX8_copy_221 ?_
                                  refine v_goto h dX8_copy_224 (tgt := 166) (by decide) ?_
                                  exact vM.le rfl rfl (by rw [cpF_step (by omega)]) (vM.fg (ih166 _ (by omega) (q8 + 1) rfl (by first | assumption | rfl | omega)) ⟨rfl, rfl, rfl, rfl, rfl, rfl, rfl, rfl, rfl, trivial⟩)
                            exact vM.le rfl rfl (by rw [cpF_0]) (vM.fg (L166 _ 0 rfl (by first | assumption | rfl | omega)) ⟨rfl, rfl, rfl, rfl, rfl, rfl, rfl, rfl, rfl, trivial⟩)
                          · refine v_iconst h (v := nI 1) dX8_copy_156 (by decide) ?_
                            refine v_goto h dX8_copy_157 (tgt := 161) (by decide) ?_
                            refine v_istore7 h (Nat.le_of_ble_eq_true rfl) dX8_copy_161 ?_
                            refine v_iconst h (v := nI 0) dX8_copy_163 (by decide) ?_
                            refine v_istore8 h (Nat.le_of_ble_eq_true rfl) dX8_copy_164 ?_
                            have L166 : ∀ (k166 : Nat) (q8 : Nat), n9 - q8 = k166 → (q8 ≤ n9) → vM x 166 [some (.ref m0), some (.int (nI j0)), some (.int (nI i9)), some (.int (nI j1)), some (.int (nI j9)), some (.int (nI n9)), some (.int (nI 1)), some (.int (nI 1)), some (.int (nI q8)), none] [] [(m0, .inr (7, [.int (nI 0), .int tr, .ref m1, .ref m2, .ref m3, .int (nI n), .ref m4, .int (nI atp), .int (nI rt), .ref m5, .int (nI hn), .ref m6, .ref m7, .ref m8, .int (nI sn), .ref m9, .ref m10, .ref m11, .ref m12, .ref m13, .ref m14, .ref m15, .ref m16])), (m1, .inl (gI g, 4, .inl msrt)), (m2, .inl (gI g, 4, .inl (fun z9 => nI (len z9)))), (m3, .inl (gI g, 160, .inl (cpB mc (40 * j0 + i9) (40 * j1 + j9) n9 q8))), (m4, .inl (gI g, 8, .inl (fun z9 => nI (w z9)))), (m5, .inl (gI g, 8, .inl (fun z9 => nI (rwt z9)))), (m6, .inl (gI g, 6, .inl (fun z9 => nI (kd z9)))), (m7, .inl (gI g, 6, .inl (fun z9 => nI (pt z9)))), (m8, .inl (gI g, 8, .inl far)), (m9, .inl (gI g, 10, .inl (fun z9 => nI (sb z9)))), (m10, .inl (gI g, 10, .inl (fun z9 => nI (sf z9)))), (m11, .inl (gI g, 10, .inl (fun z9 => nI (ss z9)))), (m12, .inl (gI g, 10, .inl (fun z9 => nI (sw z9)))), (m13, .inl (gI g, 256, .inl (fun z9 => nI (ways z9)))), (m14, .inl (gI g, 8, .inl (fun z9 => nI (chain z9)))), (m15, .inl (gI g, 5, .inl (fun z9 => nI (row z9)))), (m16, .inl (gI g, 5, .inl (fun z9 => nI (best z9))))] := by
                              intro k166
                              induction k166 using Nat.strongRecOn with
                              | _ k166 ih166 =>
                                intro q8 hm166 hq8
                                refine v_iload8 h dX8_copy_166 ?_
                                refine v_iload5 h dX8_copy_168 ?_
                                refine v_icmp_geN h dX8_copy_170 (tgt := 227) (by decide) (by omega) (by omega) (fun c170 => ?_) (fun c170 => ?_)
                                · obtain rfl : n9 = q8 := by omega
                                  refine v_iload5 h dX8_copy_227 ?_
                                  exact v_iretP h hr dX8_copy_229 (P_X8_copy_mk (q := (nI n9, 0, upr cc j1 (va_cpy (cc j0) (cc j1) i9 j9 n9))) (by simp only [s_copy, e9, e16, if_neg (show ¬ fil j0 = false by rw [hf0]; decide), if_neg (show ¬ fil j1 = false by rw [hf1]; decide), if_pos e61, if_pos c93q, if_pos c108q, tn_N (show i9 < 2 ^ 31 by omega), tn_N (show j9 < 2 ^ 31 by omega), tn_N (show n9 < 2 ^ 31 by omega)]) (by simp only [s_copy, e9, e16, if_neg (show ¬ fil j0 = false by rw [hf0]; decide), if_neg (show ¬ fil j1 = false by rw [hf1]; decide), if_pos e61, if_pos c93q, if_pos c108q, tn_N (show i9 < 2 ^ 31 by omega), tn_N (show j9 < 2 ^ 31 by omega), tn_N (show n9 < 2 ^ 31 by omega)]; exact hmc_cpy hln hmc (by omega) hf0 h92 h94 (fun z => by first | exact cpF_all z | exact cpB_all z))) rfl
                                · refine v_iload7 h dX8_copy_173 ?_
                                  refine v_if_eqN h dX8_copy_175 (tgt := 188) (by decide) (by decide) (fun c9 => absurd c9 (by decide)) (fun _ => ?_)
                                  refine v_iload5 h dX8_copy_178 ?_
                                  refine v_iconst h (v := nI 1) dX8_copy_180 (by decide) ?_
                                  refine v_isubN h dX8_copy_181 (by omega) ?_
                                  refine v_iload8 h dX8_copy_182 ?_
                                  refine v_isubN h dX8_copy_184 (by omega) ?_
                                  refine v_goto h dX8_copy_185 (tgt := 190) (by decide) ?_
                                  refine v_istore9 h (Nat.le_of_ble_eq_true rfl) dX8_copy_190 ?_
                                  refine v_aload_n0 h dX8_copy_192 ?_
                                  refine v_get h mw_X8 0 rfl rfl 4 (by decide) mf_X8_16 rfl dX8_copy_193 ?_
                                  refine v_bipush h (v := nI 40) dX8_copy_196 (by decide) ?_
                                  refine v_iload_n3 h dX8_copy_198 ?_
                                  refine v_imulN h dX8_copy_199 ?_
                                  refine v_iload4 h dX8_copy_200 ?_
                                  refine v_iaddN h dX8_copy_202 ?_
                                  refine v_iload9 h dX8_copy_203 ?_
                                  refine v_iaddN h dX8_copy_205 ?_
                                  refine v_aload_n0 h dX8_copy_206 ?_
                                  refine v_get h mw_X8 0 rfl rfl 4 (by decide) mf_X8_16 rfl dX8_copy_207 ?_
                                  refine v_bipush h (v := nI 40) dX8_copy_210 (by decide) ?_
                                  refine v_iload_n1 h dX8_copy_212 ?_
                                  refine v_imulN h dX8_copy_213 ?_
                                  refine v_iload_n2 h dX8_copy_214 ?_
                                  refine v_iaddN h dX8_copy_215 ?_
                                  refine v_iload9 h dX8_copy_216 ?_
                                  refine v_iaddN h dX8_copy_218 ?_
                                  refine v_ialdF h 3 rfl (by omega) (Nat.le_of_ble_eq_true rfl) dX8_copy_219 ?_
                                  refine v_iastF_at3 h (by omega) (Nat.le_of_ble_eq_true rfl) dX8_copy_220 ?_
                                  refine v_iincN8 h (Nat.le_of_ble_eq_true rfl) dX8_copy_221 ?_
                                  refine v_goto h dX8_copy_224 (tgt := 166) (by decide) ?_
                                  exact vM.le rfl rfl (by rw [cpB_step (by omega) (by omega)]) (vM.fg (ih166 _ (by omega) (q8 + 1) rfl (by first | assumption | rfl | omega)) ⟨rfl, rfl, rfl, rfl, rfl, rfl, rfl, rfl, rfl, trivial⟩)
                            exact vM.le rfl rfl (by rw [cpB_0]) (vM.fg (L166 _ 0 rfl (by first | assumption | rfl | omega)) ⟨rfl, rfl, rfl, rfl, rfl, rfl, rfl, rfl, rfl, trivial⟩)
                        · have g9 : hcB (fil j0) (len j0) p1 p4 = false ∨ hcB (fil j1) (len j1) p3 p4 = false := Or.inr (hcB_f4 (Int32.not_le.mp c141))
                          refine v_aload_n0 h dX8_copy_144 ?_
                          refine v_iconst h (v := nI 3) dX8_copy_145 (by decide) ?_
                          refine cw_V_0_1_2_3_4_5_6_7_8_9_10_11_12_13_14_15_16_1_i (ci := 7) h (c_X8_fails (g := g)) lk_X8_82 ⟨rfl, rfl, (Nat.le_of_ble_eq_true rfl), (Nat.le_of_ble_eq_true rfl)⟩ rfl rfl rfl (Nat.le_of_ble_eq_true rfl) dX8_copy_146 ?_
                          exact v_iretP h hr dX8_copy_149 (P_X8_copy_mk (q := (-10 - nI 3, 3, cc)) (by simp only [s_copy, e9, e16, if_neg (show ¬ fil j0 = false by rw [hf0]; decide), if_neg (show ¬ fil j1 = false by rw [hf1]; decide), if_pos e61]; exact cp_f g9) (by rw [show s_copy fil srt len cc (nI j0) p1 (nI j1) p3 p4 = (-10 - nI 3, 3, cc) by simp only [s_copy, e9, e16, if_neg (show ¬ fil j0 = false by rw [hf0]; decide), if_neg (show ¬ fil j1 = false by rw [hf1]; decide), if_pos e61]; exact cp_f g9]; exact hmc)) rfl
          · have e61 : ¬ srt j0 = srt j1 := fun z => c61 (by rw [hm0, hm1, z])
            refine v_aload_n0 h dX8_copy_64 ?_
            refine v_iconst h (v := nI 2) dX8_copy_65 (by decide) ?_
            refine cw_V_0_1_2_3_4_5_6_7_8_9_10_11_12_13_14_15_16_1_i (ci := 7) h (c_X8_fails (g := g)) lk_X8_82 ⟨rfl, rfl, (Nat.le_of_ble_eq_true rfl), (Nat.le_of_ble_eq_true rfl)⟩ rfl rfl rfl (Nat.le_of_ble_eq_true rfl) dX8_copy_66 ?_
            exact v_iretP h hr dX8_copy_69 (P_X8_copy_mk (q := (-10 - nI 2, 2, cc)) (by simp only [s_copy, e9, e16, if_neg (show ¬ fil j0 = false by rw [hf0]; decide), if_neg (show ¬ fil j1 = false by rw [hf1]; decide), if_neg e61]) (by simp only [s_copy, e9, e16, if_neg (show ¬ fil j0 = false by rw [hf0]; decide), if_neg (show ¬ fil j1 = false by rw [hf1]; decide), if_neg e61]; exact hmc)) rfl
        · refine v_aload_n0 h dX8_copy_43 ?_
          refine v_iconst h (v := nI 1) dX8_copy_44 (by decide) ?_
          refine cw_V_0_1_2_3_4_5_6_7_8_9_10_11_12_13_14_15_16_1_i (ci := 7) h (c_X8_fails (g := g)) lk_X8_82 ⟨rfl, rfl, (Nat.le_of_ble_eq_true rfl), (Nat.le_of_ble_eq_true rfl)⟩ rfl rfl rfl (Nat.le_of_ble_eq_true rfl) dX8_copy_45 ?_
          exact v_iretP h hr dX8_copy_48 (P_X8_copy_mk (q := (-10 - nI 1, 1, cc)) (by simp only [s_copy, e9, e16, if_neg (show ¬ fil j0 = false by rw [hf0]; decide), if_pos (ms_f (hsr j1) (hms j1 (by omega)) c40)]) (by simp only [s_copy, e9, e16, if_neg (show ¬ fil j0 = false by rw [hf0]; decide), if_pos (ms_f (hsr j1) (hms j1 (by omega)) c40)]; exact hmc)) rfl
    · have e16 := wi_rN c16
      refine v_iconst h (v := -1) dX8_copy_19 (by decide) ?_
      exact v_iretP h hr dX8_copy_20 (P_X8_copy_mk (q := (-1, 0, cc)) (by simp only [s_copy, e9, e16]) (by simp only [s_copy, e9, e16]; exact hmc)) rfl
