theorem lk_X8_133 : LkV RX8 133 yX8_isGot cX8_isGot 6 (some .boolean) 4 := ⟨ml_X8_133, mn_X8_isGot, mv_X8_isGot, mi_X8, mc_X8_isGot, ⟨by decide, by decide, by decide +kernel⟩⟩
set_option maxRecDepth 20000 in
set_option maxHeartbeats 2000000 in
theorem c_X8_isGot {g : vG} {m0 m1 m2 m3 m4 m5 m6 m7 m8 m9 m10 m11 m12 m13 m14 m15 m16 : Nat} {fl : Nat} {tr : Int32} {msrt : Nat → Int32} {len : Nat → Nat} {mc : Nat → Int32} {n : Nat} {w : Nat → Nat} {atp : Nat} {rt : Nat} {rwt : Nat → Nat} {hn : Nat} {kd : Nat → Nat} {pt : Nat → Nat} {far : Nat → Int32} {sn : Nat} {sb : Nat → Nat} {sf : Nat → Nat} {ss : Nat → Nat} {sw : Nat → Nat} {ways : Nat → Nat} {chain : Nat → Nat} {row : Nat → Nat} {best : Nat → Nat} {j : Nat} {k2 : Nat} {a : Nat} {yq : Nat} (hT : wfT n w) (hH : wfH hn kd pt) (hj : j < hn) (hk2 : k2 < hn) (ha : a < 2 ^ 8) (hy : yq < n) : Ct g yX8_isGot cX8_isGot 6 (some .boolean) (rmOf 4 91) [(m0, .inr (7, [.int (nI fl), .int tr, .ref m1, .ref m2, .ref m3, .int (nI n), .ref m4, .int (nI atp), .int (nI rt), .ref m5, .int (nI hn), .ref m6, .ref m7, .ref m8, .int (nI sn), .ref m9, .ref m10, .ref m11, .ref m12, .ref m13, .ref m14, .ref m15, .ref m16])), (m1, .inl (gI g, 4, .inl msrt)), (m2, .inl (gI g, 4, .inl (fun z9 => nI (len z9)))), (m3, .inl (gI g, 160, .inl mc)), (m4, .inl (gI g, 8, .inl (fun z9 => nI (w z9)))), (m5, .inl (gI g, 8, .inl (fun z9 => nI (rwt z9)))), (m6, .inl (gI g, 6, .inl (fun z9 => nI (kd z9)))), (m7, .inl (gI g, 6, .inl (fun z9 => nI (pt z9)))), (m8, .inl (gI g, 8, .inl far)), (m9, .inl (gI g, 10, .inl (fun z9 => nI (sb z9)))), (m10, .inl (gI g, 10, .inl (fun z9 => nI (sf z9)))), (m11, .inl (gI g, 10, .inl (fun z9 => nI (ss z9)))), (m12, .inl (gI g, 10, .inl (fun z9 => nI (sw z9)))), (m13, .inl (gI g, 256, .inl (fun z9 => nI (ways z9)))), (m14, .inl (gI g, 8, .inl (fun z9 => nI (chain z9)))), (m15, .inl (gI g, 5, .inl (fun z9 => nI (row z9)))), (m16, .inl (gI g, 5, .inl (fun z9 => nI (best z9))))] [.ref m0, .int (nI j), .int (nI k2), .int (nI a), .int (nI yq)] (some (.int (nI (bN (decide (¬ a &&& (alkS (kd j) (pt j) w n yq) &&& (ligS (kd k2) (pt k2) w n yq) = 0)))))) [(m0, .inr (7, [.int (nI fl), .int tr, .ref m1, .ref m2, .ref m3, .int (nI n), .ref m4, .int (nI atp), .int (nI rt), .ref m5, .int (nI hn), .ref m6, .ref m7, .ref m8, .int (nI sn), .ref m9, .ref m10, .ref m11, .ref m12, .ref m13, .ref m14, .ref m15, .ref m16])), (m1, .inl (gI g, 4, .inl msrt)), (m2, .inl (gI g, 4, .inl (fun z9 => nI (len z9)))), (m3, .inl (gI g, 160, .inl mc)), (m4, .inl (gI g, 8, .inl (fun z9 => nI (w z9)))), (m5, .inl (gI g, 8, .inl (fun z9 => nI (rwt z9)))), (m6, .inl (gI g, 6, .inl (fun z9 => nI (kd z9)))), (m7, .inl (gI g, 6, .inl (fun z9 => nI (pt z9)))), (m8, .inl (gI g, 8, .inl far)), (m9, .inl (gI g, 10, .inl (fun z9 => nI (sb z9)))), (m10, .inl (gI g, 10, .inl (fun z9 => nI (sf z9)))), (m11, .inl (gI g, 10, .inl (fun z9 => nI (ss z9)))), (m12, .inl (gI g, 10, .inl (fun z9 => nI (sw z9)))), (m13, .inl (gI g, 256, .inl (fun z9 => nI (ways z9)))), (m14, .inl (gI g, 8, .inl (fun z9 => nI (chain z9)))), (m15, .inl (gI g, 5, .inl (fun z9 => nI (row z9)))), (m16, .inl (gI g, 5, .inl (fun z9 => nI (best z9))))] := by
  refine Ct.ofV RX8 rfl (by decide +kernel) rfl rfl rfl (Nat.le_of_ble_eq_true rfl) (List.forall_mem_cons.mpr ⟨rfl, (List.forall_mem_cons.mpr ⟨rfl, (List.forall_mem_cons.mpr ⟨rfl, (List.forall_mem_cons.mpr ⟨rfl, (List.forall_mem_cons.mpr ⟨rfl, (fun _ h9 => absurd h9 List.not_mem_nil)⟩)⟩)⟩)⟩)⟩) (fun x h hr => ?_)
  show vM x 0 [some (.ref m0), some (.int (nI j)), some (.int (nI k2)), some (.int (nI a)), some (.int (nI yq)), none] [] [(m0, .inr (7, [.int (nI fl), .int tr, .ref m1, .ref m2, .ref m3, .int (nI n), .ref m4, .int (nI atp), .int (nI rt), .ref m5, .int (nI hn), .ref m6, .ref m7, .ref m8, .int (nI sn), .ref m9, .ref m10, .ref m11, .ref m12, .ref m13, .ref m14, .ref m15, .ref m16])), (m1, .inl (gI g, 4, .inl msrt)), (m2, .inl (gI g, 4, .inl (fun z9 => nI (len z9)))), (m3, .inl (gI g, 160, .inl mc)), (m4, .inl (gI g, 8, .inl (fun z9 => nI (w z9)))), (m5, .inl (gI g, 8, .inl (fun z9 => nI (rwt z9)))), (m6, .inl (gI g, 6, .inl (fun z9 => nI (kd z9)))), (m7, .inl (gI g, 6, .inl (fun z9 => nI (pt z9)))), (m8, .inl (gI g, 8, .inl far)), (m9, .inl (gI g, 10, .inl (fun z9 => nI (sb z9)))), (m10, .inl (gI g, 10, .inl (fun z9 => nI (sf z9)))), (m11, .inl (gI g, 10, .inl (fun z9 => nI (ss z9)))), (m12, .inl (gI g, 10, .inl (fun z9 => nI (sw z9)))), (m13, .inl (gI g, 256, .inl (fun z9 => nI (ways z9)))), (m14, .inl (gI g, 8, .inl (fun z9 => nI (chain z9)))), (m15, .inl (gI g, 5, .inl (fun z9 => nI (row z9)))), (m16, .inl (gI g, 5, .inl (fun z9 => nI (best z9))))]
  have ht1 := hT.1; have ht2 := hT.2.1; have ht3 := hT.2.2
  refine v_iconst h (v := nI 0) dX8_isGot_0 (by decide) ?_
  refine v_istore5 h (Nat.le_of_ble_eq_true rfl) dX8_isGot_1 ?_
  have L3 : ∀ (k3 : Nat) (i : Nat), n - i = k3 → (i ≤ n) → (∀ z, z < i → ¬ (a.testBit z = true ∧ alk (kd j) (pt j) (w z) (w yq) = true ∧ tls (kd k2) (pt k2) (w yq) (w z) = true)) → vM x 3 [some (.ref m0), some (.int (nI j)), some (.int (nI k2)), some (.int (nI a)), some (.int (nI yq)), some (.int (nI i))] [] [(m0, .inr (7, [.int (nI fl), .int tr, .ref m1, .ref m2, .ref m3, .int (nI n), .ref m4, .int (nI atp), .int (nI rt), .ref m5, .int (nI hn), .ref m6, .ref m7, .ref m8, .int (nI sn), .ref m9, .ref m10, .ref m11, .ref m12, .ref m13, .ref m14, .ref m15, .ref m16])), (m1, .inl (gI g, 4, .inl msrt)), (m2, .inl (gI g, 4, .inl (fun z9 => nI (len z9)))), (m3, .inl (gI g, 160, .inl mc)), (m4, .inl (gI g, 8, .inl (fun z9 => nI (w z9)))), (m5, .inl (gI g, 8, .inl (fun z9 => nI (rwt z9)))), (m6, .inl (gI g, 6, .inl (fun z9 => nI (kd z9)))), (m7, .inl (gI g, 6, .inl (fun z9 => nI (pt z9)))), (m8, .inl (gI g, 8, .inl far)), (m9, .inl (gI g, 10, .inl (fun z9 => nI (sb z9)))), (m10, .inl (gI g, 10, .inl (fun z9 => nI (sf z9)))), (m11, .inl (gI g, 10, .inl (fun z9 => nI (ss z9)))), (m12, .inl (gI g, 10, .inl (fun z9 => nI (sw z9)))), (m13, .inl (gI g, 256, .inl (fun z9 => nI (ways z9)))), (m14, .inl (gI g, 8, .inl (fun z9 => nI (chain z9)))), (m15, .inl (gI g, 5, .inl (fun z9 => nI (row z9)))), (m16, .inl (gI g, 5, .inl (fun z9 => nI (best z9))))] := by
    intro k3
    induction k3 using Nat.strongRecOn with
    | _ k3 ih3 =>
      intro i hm3 hi h1
      refine v_iload5 h dX8_isGot_3 ?_
      refine v_aload_n0 h dX8_isGot_5 ?_
      refine v_get h mw_X8 0 rfl rfl 5 (by decide) mf_X8_68 rfl dX8_isGot_6 ?_
      refine v_icmp_geN h dX8_isGot_9 (tgt := 54) (by decide) (by omega) (by omega) (fun c9 => ?_) (fun c9 => ?_)
      · refine v_iconst h (v := nI 0) dX8_isGot_54 (by decide) ?_
        exact v_zret (v := false) h hr dX8_isGot_55 (by obtain rfl : n = i := (by omega); exact (decide_eq_false (fun z => z (got_no h1))).symm) rfl
      · refine v_iload_n3 h dX8_isGot_12 ?_
        refine v_iload5 h dX8_isGot_13 ?_
        refine v_ishrN h dX8_isGot_15 (by omega) (by omega) ?_
        refine v_iconst h (v := nI 1) dX8_isGot_16 (by decide) ?_
        refine v_iandN h dX8_isGot_17 ?_
        refine v_iconst h (v := nI 1) dX8_isGot_18 (by decide) ?_
        refine v_icmp_neN h dX8_isGot_19 (tgt := 48) (by decide) (by first | exact and1_lt _ | decide) (by first | exact and1_lt _ | decide) (fun c19 => ?_) (fun c19 => ?_)
        · have g9 : ¬ (a.testBit i = true ∧ alk (kd j) (pt j) (w i) (w yq) = true ∧ tls (kd k2) (pt k2) (w yq) (w i) = true) := fun z => by rw [testBit_no c19] at z; cases z.1
          refine v_iincN5 h (Nat.le_of_ble_eq_true rfl) dX8_isGot_48 ?_
          refine v_goto h dX8_isGot_51 (tgt := 3) (by decide) ?_
          exact vM.fg (ih3 _ (by omega) (i + 1) rfl (by first | assumption | rfl | omega) (by exact fun z hz => by rcases Nat.lt_or_ge z i with q | q; (· exact h1 z q); (· rw [show z = i by omega]; exact g9))) ⟨rfl, rfl, rfl, rfl, rfl, rfl, trivial⟩
        · refine v_aload_n0 h dX8_isGot_22 ?_
          refine v_iload_n1 h dX8_isGot_23 ?_
          refine v_iload5 h dX8_isGot_24 ?_
          refine v_iload4 h dX8_isGot_26 ?_
          refine cw_V_0_1_2_3_4_5_6_7_8_9_10_11_12_13_14_15_16_3_i (ci := 7) h (c_X8_areAlike (g := g) (by first | assumption | omega) (by first | assumption | omega) (by first | assumption | omega) (by first | assumption | omega) (by first | assumption | omega)) lk_X8_119 ⟨rfl, rfl, (Nat.le_of_ble_eq_true rfl), (Nat.le_of_ble_eq_true rfl)⟩ rfl rfl rfl (Nat.le_of_ble_eq_true rfl) dX8_isGot_28 ?_
          refine v_if_eqB h dX8_isGot_31 (tgt := 48) (by decide) (fun c31 => ?_) (fun c31 => ?_)
          · have g9 : ¬ (a.testBit i = true ∧ alk (kd j) (pt j) (w i) (w yq) = true ∧ tls (kd k2) (pt k2) (w yq) (w i) = true) := fun z => by rw [c31] at z; cases z.2.1
            refine v_iincN5 h (Nat.le_of_ble_eq_true rfl) dX8_isGot_48 ?_
            refine v_goto h dX8_isGot_51 (tgt := 3) (by decide) ?_
            exact vM.fg (ih3 _ (by omega) (i + 1) rfl (by first | assumption | rfl | omega) (by exact fun z hz => by rcases Nat.lt_or_ge z i with q | q; (· exact h1 z q); (· rw [show z = i by omega]; exact g9))) ⟨rfl, rfl, rfl, rfl, rfl, rfl, trivial⟩
          · refine v_aload_n0 h dX8_isGot_34 ?_
            refine v_iload_n2 h dX8_isGot_35 ?_
            refine v_iload4 h dX8_isGot_36 ?_
            refine v_iload5 h dX8_isGot_38 ?_
            refine cw_V_0_1_2_3_4_5_6_7_8_9_10_11_12_13_14_15_16_3_i (ci := 7) h (c_X8_tellsThem (g := g) (by first | assumption | omega) (by first | assumption | omega) (by first | assumption | omega) (by first | assumption | omega) (by first | assumption | omega)) lk_X8_116 ⟨rfl, rfl, (Nat.le_of_ble_eq_true rfl), (Nat.le_of_ble_eq_true rfl)⟩ rfl rfl rfl (Nat.le_of_ble_eq_true rfl) dX8_isGot_40 ?_
            refine v_if_eqB h dX8_isGot_43 (tgt := 48) (by decide) (fun c43 => ?_) (fun c43 => ?_)
            · have g9 : ¬ (a.testBit i = true ∧ alk (kd j) (pt j) (w i) (w yq) = true ∧ tls (kd k2) (pt k2) (w yq) (w i) = true) := fun z => by rw [c43] at z; cases z.2.2
              refine v_iincN5 h (Nat.le_of_ble_eq_true rfl) dX8_isGot_48 ?_
              refine v_goto h dX8_isGot_51 (tgt := 3) (by decide) ?_
              exact vM.fg (ih3 _ (by omega) (i + 1) rfl (by first | assumption | rfl | omega) (by exact fun z hz => by rcases Nat.lt_or_ge z i with q | q; (· exact h1 z q); (· rw [show z = i by omega]; exact g9))) ⟨rfl, rfl, rfl, rfl, rfl, rfl, trivial⟩
            · refine v_iconst h (v := nI 1) dX8_isGot_46 (by decide) ?_
              exact v_zret (v := true) h hr dX8_isGot_47 (by exact (decide_eq_true (got_t (show i < n by omega) (testBit_of c19) c31 c43)).symm) rfl
  exact vM.fg (L3 _ 0 rfl (by first | assumption | rfl | omega) (by exact fun z hz => by omega)) ⟨rfl, rfl, rfl, rfl, rfl, rfl, trivial⟩
def P_X8_gain (g : vG) (m0 m1 m2 m3 m4 m5 m6 m7 m8 m9 m10 m11 m12 m13 m14 m15 m16 : Nat) (fl : Nat) (tr : Int32) (msrt : Nat → Int32) (len : Nat → Nat) (mc : Nat → Int32) (n : Nat) (w : Nat → Nat) (atp : Nat) (rt : Nat) (rwt : Nat → Nat) (hn : Nat) (kd : Nat → Nat) (pt : Nat → Nat) (far : Nat → Int32) (sn : Nat) (sb : Nat → Nat) (sf : Nat → Nat) (ss : Nat → Nat) (sw : Nat → Nat) (ways : Nat → Nat) (chain : Nat → Nat) (row : Nat → Nat) (best : Nat → Nat) (p0 : Int32) (p1 : Int32) (p2 : Int32) (p3 : Int32) (p4 : Int32) : Option Value → va_W → Prop := fun r wo => r = some (.int (s_gain n w hn kd pt p0 p1 p2 p3 p4)) ∧ wo = [(m0, .inr (7, [.int (nI fl), .int tr, .ref m1, .ref m2, .ref m3, .int (nI n), .ref m4, .int (nI atp), .int (nI rt), .ref m5, .int (nI hn), .ref m6, .ref m7, .ref m8, .int (nI sn), .ref m9, .ref m10, .ref m11, .ref m12, .ref m13, .ref m14, .ref m15, .ref m16])), (m1, .inl (gI g, 4, .inl msrt)), (m2, .inl (gI g, 4, .inl (fun z9 => nI (len z9)))), (m3, .inl (gI g, 160, .inl mc)), (m4, .inl (gI g, 8, .inl (fun z9 => nI (w z9)))), (m5, .inl (gI g, 8, .inl (fun z9 => nI (rwt z9)))), (m6, .inl (gI g, 6, .inl (fun z9 => nI (kd z9)))), (m7, .inl (gI g, 6, .inl (fun z9 => nI (pt z9)))), (m8, .inl (gI g, 8, .inl far)), (m9, .inl (gI g, 10, .inl (fun z9 => nI (sb z9)))), (m10, .inl (gI g, 10, .inl (fun z9 => nI (sf z9)))), (m11, .inl (gI g, 10, .inl (fun z9 => nI (ss z9)))), (m12, .inl (gI g, 10, .inl (fun z9 => nI (sw z9)))), (m13, .inl (gI g, 256, .inl (fun z9 => nI (ways z9)))), (m14, .inl (gI g, 8, .inl (fun z9 => nI (chain z9)))), (m15, .inl (gI g, 5, .inl (fun z9 => nI (row z9)))), (m16, .inl (gI g, 5, .inl (fun z9 => nI (best z9))))]
theorem P_X8_gain_mk {g : vG} {m0 m1 m2 m3 m4 m5 m6 m7 m8 m9 m10 m11 m12 m13 m14 m15 m16 : Nat} {fl : Nat} {tr : Int32} {msrt : Nat → Int32} {len : Nat → Nat} {mc : Nat → Int32} {n : Nat} {w : Nat → Nat} {atp : Nat} {rt : Nat} {rwt : Nat → Nat} {hn : Nat} {kd : Nat → Nat} {pt : Nat → Nat} {far : Nat → Int32} {sn : Nat} {sb : Nat → Nat} {sf : Nat → Nat} {ss : Nat → Nat} {sw : Nat → Nat} {ways : Nat → Nat} {chain : Nat → Nat} {row : Nat → Nat} {best : Nat → Nat} {p0 : Int32} {p1 : Int32} {p2 : Int32} {p3 : Int32} {p4 : Int32}  {q : Int32} (hs : s_gain n w hn kd pt p0 p1 p2 p3 p4 = q)  : P_X8_gain g m0 m1 m2 m3 m4 m5 m6 m7 m8 m9 m10 m11 m12 m13 m14 m15 m16 fl tr msrt len mc n w atp rt rwt hn kd pt far sn sb sf ss sw ways chain row best p0 p1 p2 p3 p4 (some (.int q)) [(m0, .inr (7, [.int (nI fl), .int tr, .ref m1, .ref m2, .ref m3, .int (nI n), .ref m4, .int (nI atp), .int (nI rt), .ref m5, .int (nI hn), .ref m6, .ref m7, .ref m8, .int (nI sn), .ref m9, .ref m10, .ref m11, .ref m12, .ref m13, .ref m14, .ref m15, .ref m16])), (m1, .inl (gI g, 4, .inl msrt)), (m2, .inl (gI g, 4, .inl (fun z9 => nI (len z9)))), (m3, .inl (gI g, 160, .inl mc)), (m4, .inl (gI g, 8, .inl (fun z9 => nI (w z9)))), (m5, .inl (gI g, 8, .inl (fun z9 => nI (rwt z9)))), (m6, .inl (gI g, 6, .inl (fun z9 => nI (kd z9)))), (m7, .inl (gI g, 6, .inl (fun z9 => nI (pt z9)))), (m8, .inl (gI g, 8, .inl far)), (m9, .inl (gI g, 10, .inl (fun z9 => nI (sb z9)))), (m10, .inl (gI g, 10, .inl (fun z9 => nI (sf z9)))), (m11, .inl (gI g, 10, .inl (fun z9 => nI (ss z9)))), (m12, .inl (gI g, 10, .inl (fun z9 => nI (sw z9)))), (m13, .inl (gI g, 256, .inl (fun z9 => nI (ways z9)))), (m14, .inl (gI g, 8, .inl (fun z9 => nI (chain z9)))), (m15, .inl (gI g, 5, .inl (fun z9 => nI (row z9)))), (m16, .inl (gI g, 5, .inl (fun z9 => nI (best z9))))] := by subst hs; exact ⟨rfl, rfl⟩
set_option maxRecDepth 20000 in
set_option maxHeartbeats 4000000 in
theorem c_X8_gain {g : vG} {m0 m1 m2 m3 m4 m5 m6 m7 m8 m9 m10 m11 m12 m13 m14 m15 m16 : Nat} {fl : Nat} {tr : Int32} {msrt : Nat → Int32} {len : Nat → Nat} {mc : Nat → Int32} {n : Nat} {w : Nat → Nat} {atp : Nat} {rt : Nat} {rwt : Nat → Nat} {hn : Nat} {kd : Nat → Nat} {pt : Nat → Nat} {far : Nat → Int32} {sn : Nat} {sb : Nat → Nat} {sf : Nat → Nat} {ss : Nat → Nat} {sw : Nat → Nat} {ways : Nat → Nat} {chain : Nat → Nat} {row : Nat → Nat} {best : Nat → Nat} {p0 : Int32} {p1 : Int32} {p2 : Int32} {p3 : Int32} {p4 : Int32} (hT : wfT n w) (hH : wfH hn kd pt) : CtP g yX8_gain cX8_gain 12 (some .int) (rmOf 5 116) [(m0, .inr (7, [.int (nI fl), .int tr, .ref m1, .ref m2, .ref m3, .int (nI n), .ref m4, .int (nI atp), .int (nI rt), .ref m5, .int (nI hn), .ref m6, .ref m7, .ref m8, .int (nI sn), .ref m9, .ref m10, .ref m11, .ref m12, .ref m13, .ref m14, .ref m15, .ref m16])), (m1, .inl (gI g, 4, .inl msrt)), (m2, .inl (gI g, 4, .inl (fun z9 => nI (len z9)))), (m3, .inl (gI g, 160, .inl mc)), (m4, .inl (gI g, 8, .inl (fun z9 => nI (w z9)))), (m5, .inl (gI g, 8, .inl (fun z9 => nI (rwt z9)))), (m6, .inl (gI g, 6, .inl (fun z9 => nI (kd z9)))), (m7, .inl (gI g, 6, .inl (fun z9 => nI (pt z9)))), (m8, .inl (gI g, 8, .inl far)), (m9, .inl (gI g, 10, .inl (fun z9 => nI (sb z9)))), (m10, .inl (gI g, 10, .inl (fun z9 => nI (sf z9)))), (m11, .inl (gI g, 10, .inl (fun z9 => nI (ss z9)))), (m12, .inl (gI g, 10, .inl (fun z9 => nI (sw z9)))), (m13, .inl (gI g, 256, .inl (fun z9 => nI (ways z9)))), (m14, .inl (gI g, 8, .inl (fun z9 => nI (chain z9)))), (m15, .inl (gI g, 5, .inl (fun z9 => nI (row z9)))), (m16, .inl (gI g, 5, .inl (fun z9 => nI (best z9))))] [.ref m0, .int p0, .int p1, .int p2, .int p3, .int p4] (P_X8_gain g m0 m1 m2 m3 m4 m5 m6 m7 m8 m9 m10 m11 m12 m13 m14 m15 m16 fl tr msrt len mc n w atp rt rwt hn kd pt far sn sb sf ss sw ways chain row best p0 p1 p2 p3 p4) := by
  refine CtP.ofV RX8 rfl (by decide +kernel) rfl rfl (Nat.le_of_ble_eq_true rfl) (List.forall_mem_cons.mpr ⟨rfl, (List.forall_mem_cons.mpr ⟨rfl, (List.forall_mem_cons.mpr ⟨rfl, (List.forall_mem_cons.mpr ⟨rfl, (List.forall_mem_cons.mpr ⟨rfl, (List.forall_mem_cons.mpr ⟨rfl, (fun _ h9 => absurd h9 List.not_mem_nil)⟩)⟩)⟩)⟩)⟩)⟩) (fun x h hr => ?_)
  show vM x 0 [some (.ref m0), some (.int p0), some (.int p1), some (.int p2), some (.int p3), some (.int p4), none, none, none, none, none, none] [] [(m0, .inr (7, [.int (nI fl), .int tr, .ref m1, .ref m2, .ref m3, .int (nI n), .ref m4, .int (nI atp), .int (nI rt), .ref m5, .int (nI hn), .ref m6, .ref m7, .ref m8, .int (nI sn), .ref m9, .ref m10, .ref m11, .ref m12, .ref m13, .ref m14, .ref m15, .ref m16])), (m1, .inl (gI g, 4, .inl msrt)), (m2, .inl (gI g, 4, .inl (fun z9 => nI (len z9)))), (m3, .inl (gI g, 160, .inl mc)), (m4, .inl (gI g, 8, .inl (fun z9 => nI (w z9)))), (m5, .inl (gI g, 8, .inl (fun z9 => nI (rwt z9)))), (m6, .inl (gI g, 6, .inl (fun z9 => nI (kd z9)))), (m7, .inl (gI g, 6, .inl (fun z9 => nI (pt z9)))), (m8, .inl (gI g, 8, .inl far)), (m9, .inl (gI g, 10, .inl (fun z9 => nI (sb z9)))), (m10, .inl (gI g, 10, .inl (fun z9 => nI (sf z9)))), (m11, .inl (gI g, 10, .inl (fun z9 => nI (ss z9)))), (m12, .inl (gI g, 10, .inl (fun z9 => nI (sw z9)))), (m13, .inl (gI g, 256, .inl (fun z9 => nI (ways z9)))), (m14, .inl (gI g, 8, .inl (fun z9 => nI (chain z9)))), (m15, .inl (gI g, 5, .inl (fun z9 => nI (row z9)))), (m16, .inl (gI g, 5, .inl (fun z9 => nI (best z9))))]
  have ht1 := hT.1; have ht2 := hT.2.1; have ht3 := hT.2.2; have hh1 := hH.1; have hh2 := hH.2.1; have hh3 := hH.2.2.1; have hh4 := hH.2.2.2
  refine v_aload_n0 h dX8_gain_0 ?_
  refine v_iload_n1 h dX8_gain_1 ?_
  refine cw_V_0_1_2_3_4_5_6_7_8_9_10_11_12_13_14_15_16_1_i (ci := 7) h (c_X8_isHand (g := g)) lk_X8_107 ⟨rfl, rfl, (Nat.le_of_ble_eq_true rfl), (Nat.le_of_ble_eq_true rfl)⟩ rfl rfl rfl (Nat.le_of_ble_eq_true rfl) dX8_gain_2 ?_
  refine v_if_eqB h dX8_gain_5 (tgt := 24) (by decide) (fun c5 => ?_) (fun c5 => ?_)
  · have e5 := rN_f c5
    refine v_iconst h (v := -1) dX8_gain_24 (by decide) ?_
    exact v_iretP h hr dX8_gain_25 (P_X8_gain_mk (q := _) (by simp only [s_gain, e5]) ) rfl
  · obtain ⟨j0, hj0, rfl⟩ := inR_of c5 (by omega)
    have e5 := rN_N hj0 (by omega)
    refine v_aload_n0 h dX8_gain_8 ?_
    refine v_iload_n2 h dX8_gain_9 ?_
    refine cw_V_0_1_2_3_4_5_6_7_8_9_10_11_12_13_14_15_16_1_i (ci := 7) h (c_X8_isHand (g := g)) lk_X8_107 ⟨rfl, rfl, (Nat.le_of_ble_eq_true rfl), (Nat.le_of_ble_eq_true rfl)⟩ rfl rfl rfl (Nat.le_of_ble_eq_true rfl) dX8_gain_10 ?_
    refine v_if_eqB h dX8_gain_13 (tgt := 24) (by decide) (fun c13 => ?_) (fun c13 => ?_)
    · have e13 := rN_f c13
      refine v_iconst h (v := -1) dX8_gain_24 (by decide) ?_
      exact v_iretP h hr dX8_gain_25 (P_X8_gain_mk (q := _) (by simp only [s_gain, e5, e13]) ) rfl
    · obtain ⟨j1, hj1, rfl⟩ := inR_of c13 (by omega)
      have e13 := rN_N hj1 (by omega)
      refine v_aload_n0 h dX8_gain_16 ?_
      refine v_iload_n3 h dX8_gain_17 ?_
      refine cw_V_0_1_2_3_4_5_6_7_8_9_10_11_12_13_14_15_16_1_i (ci := 7) h (c_X8_isThing (g := g)) lk_X8_101 ⟨rfl, rfl, (Nat.le_of_ble_eq_true rfl), (Nat.le_of_ble_eq_true rfl)⟩ rfl rfl rfl (Nat.le_of_ble_eq_true rfl) dX8_gain_18 ?_
      refine v_if_neB h dX8_gain_21 (tgt := 26) (by decide) (fun c21 => ?_) (fun c21 => ?_)
      · obtain ⟨j2, hj2, rfl⟩ := inR_of c21 (by omega)
        have e21 := rN_N hj2 (by omega)
        refine v_iload4 h dX8_gain_26 ?_
        refine v_iconst h (v := nI 0) dX8_gain_28 (by decide) ?_
        refine v_bipush h (v := nI 8) dX8_gain_29 (by decide) ?_
        refine cw_S_e_3_i h (c_X8_within (g := g)) lk_X8_64 ⟨rfl, rfl, (Nat.le_of_ble_eq_true rfl), (Nat.le_of_ble_eq_true rfl)⟩ (Nat.le_of_ble_eq_true rfl) dX8_gain_31 ?_
        refine v_if_eqB h dX8_gain_34 (tgt := 47) (by decide) (fun c34 => ?_) (fun c34 => ?_)
        · have e34 := wi_no c34
          refine v_bipush h (v := -2) dX8_gain_47 (by decide) ?_
          exact v_iretP h hr dX8_gain_49 (P_X8_gain_mk (q := _) (by simp only [s_gain, e5, e13, e21, e34]) ) rfl
        · obtain ⟨j3, hj3a, hj3, rfl⟩ := wi_of c34 (by decide) (by decide)
          have e34 := rW_N hj3a hj3 (by decide)
          refine v_iload5 h dX8_gain_37 ?_
          refine v_iconst h (v := nI 0) dX8_gain_39 (by decide) ?_
          refine v_iconst h (v := nI 1) dX8_gain_40 (by decide) ?_
          refine cw_S_e_3_i h (c_X8_within (g := g)) lk_X8_64 ⟨rfl, rfl, (Nat.le_of_ble_eq_true rfl), (Nat.le_of_ble_eq_true rfl)⟩ (Nat.le_of_ble_eq_true rfl) dX8_gain_41 ?_
          refine v_if_neB h dX8_gain_44 (tgt := 50) (by decide) (fun c44 => ?_) (fun c44 => ?_)
          · obtain ⟨j4, hj4a, hj4, rfl⟩ := wi_of c44 (by decide) (by decide)
            have e44 := rW_N hj4a hj4 (by decide)
            refine v_iconst h (v := nI 1) dX8_gain_50 (by decide) ?_
            refine v_iload_n3 h dX8_gain_51 ?_
            refine v_ishlN h dX8_gain_52 (by omega) ?_
            refine v_istore6 h (Nat.le_of_ble_eq_true rfl) dX8_gain_53 ?_
            refine v_aload_n0 h dX8_gain_55 ?_
            refine v_get h mw_X8 0 rfl rfl 6 (by decide) mf_X8_19 rfl dX8_gain_56 ?_
            refine v_iload_n3 h dX8_gain_59 ?_
            refine v_ialdN h 4 rfl (by omega) (Nat.le_of_ble_eq_true rfl) dX8_gain_60 ?_
            refine v_istore7 h (Nat.le_of_ble_eq_true rfl) dX8_gain_61 ?_
            refine v_iconst h (v := nI 0) dX8_gain_63 (by decide) ?_
            refine v_istore8 h (Nat.le_of_ble_eq_true rfl) dX8_gain_64 ?_
            refine v_iconst h (v := nI 1) dX8_gain_66 (by decide) ?_
            refine v_istore9 h (Nat.le_of_ble_eq_true rfl) dX8_gain_67 ?_
            have L69 : ∀ (k69 : Nat) (s : Nat), j3 - s = k69 → (s ≤ j3) → vM x 69 [some (.ref m0), some (.int (nI j0)), some (.int (nI j1)), some (.int (nI j2)), some (.int (nI j3)), some (.int (nI j4)), some (.int (nI (gnR (alkS (kd j0) (pt j0) w n) (ligS (kd j1) (pt j1) w n) n j2 s))), some (.int (nI ((gnB (alkS (kd j0) (pt j0) w n) (ligS (kd j1) (pt j1) w n) w n j2 s).1))), some (.int (nI ((gnB (alkS (kd j0) (pt j0) w n) (ligS (kd j1) (pt j1) w n) w n j2 s).2))), some (.int (nI (s + 1))), none, none] [] [(m0, .inr (7, [.int (nI fl), .int tr, .ref m1, .ref m2, .ref m3, .int (nI n), .ref m4, .int (nI atp), .int (nI rt), .ref m5, .int (nI hn), .ref m6, .ref m7, .ref m8, .int (nI sn), .ref m9, .ref m10, .ref m11, .ref m12, .ref m13, .ref m14, .ref m15, .ref m16])), (m1, .inl (gI g, 4, .inl msrt)), (m2, .inl (gI g, 4, .inl (fun z9 => nI (len z9)))), (m3, .inl (gI g, 160, .inl mc)), (m4, .inl (gI g, 8, .inl (fun z9 => nI (w z9)))), (m5, .inl (gI g, 8, .inl (fun z9 => nI (rwt z9)))), (m6, .inl (gI g, 6, .inl (fun z9 => nI (kd z9)))), (m7, .inl (gI g, 6, .inl (fun z9 => nI (pt z9)))), (m8, .inl (gI g, 8, .inl far)), (m9, .inl (gI g, 10, .inl (fun z9 => nI (sb z9)))), (m10, .inl (gI g, 10, .inl (fun z9 => nI (sf z9)))), (m11, .inl (gI g, 10, .inl (fun z9 => nI (ss z9)))), (m12, .inl (gI g, 10, .inl (fun z9 => nI (sw z9)))), (m13, .inl (gI g, 256, .inl (fun z9 => nI (ways z9)))), (m14, .inl (gI g, 8, .inl (fun z9 => nI (chain z9)))), (m15, .inl (gI g, 5, .inl (fun z9 => nI (row z9)))), (m16, .inl (gI g, 5, .inl (fun z9 => nI (best z9))))] := by
              intro k69
              induction k69 using Nat.strongRecOn with
              | _ k69 ih69 =>
                intro s hm69 hs
                refine v_iload9 h dX8_gain_69 ?_
                refine v_iload4 h dX8_gain_71 ?_
                refine v_icmp_gtN h dX8_gain_73 (tgt := 187) (by decide) (by omega) (by omega) (fun c73 => ?_) (fun c73 => ?_)
                · obtain rfl : j3 = s := by omega
                  refine v_iload5 h dX8_gain_187 ?_
                  refine v_if_neN h dX8_gain_189 (tgt := 197) (by decide) (by omega) (fun c189 => ?_) (fun c189 => ?_)
                  · refine v_iload8 h dX8_gain_197 ?_
                    exact v_iretP h hr dX8_gain_199 (P_X8_gain_mk (q := _) (by simp only [s_gain, e5, e13, e21, e34, e44, if_neg (show ¬ j4 = 0 by omega)]) ) rfl
                  · refine v_iload7 h dX8_gain_192 ?_
                    refine v_goto h dX8_gain_194 (tgt := 199) (by decide) ?_
                    exact v_iretP h hr dX8_gain_199 (P_X8_gain_mk (q := _) (by simp only [s_gain, e5, e13, e21, e34, e44, if_pos c189]) ) rfl
                · refine v_iconst h (v := nI 0) dX8_gain_76 (by decide) ?_
                  refine v_istore10 h (Nat.le_of_ble_eq_true rfl) dX8_gain_77 ?_
                  refine v_iconst h (v := nI 0) dX8_gain_79 (by decide) ?_
                  refine v_istore11 h (Nat.le_of_ble_eq_true rfl) dX8_gain_80 ?_
                  have L82 : ∀ (k82 : Nat) (i : Nat), n - i = k82 → (i ≤ n) → vM x 82 [some (.ref m0), some (.int (nI j0)), some (.int (nI j1)), some (.int (nI j2)), some (.int (nI j3)), some (.int (nI j4)), some (.int (nI (gnR (alkS (kd j0) (pt j0) w n) (ligS (kd j1) (pt j1) w n) n j2 s))), some (.int (nI ((gnB (alkS (kd j0) (pt j0) w n) (ligS (kd j1) (pt j1) w n) w n j2 s).1))), some (.int (nI ((gnB (alkS (kd j0) (pt j0) w n) (ligS (kd j1) (pt j1) w n) w n j2 s).2))), some (.int (nI (s + 1))), some (.int (nI (orTo (fun y => if (gnR (alkS (kd j0) (pt j0) w n) (ligS (kd j1) (pt j1) w n) n j2 s) &&& (alkS (kd j0) (pt j0) w n) y &&& (ligS (kd j1) (pt j1) w n) y = 0 then 0 else 2 ^ y) i))), some (.int (nI i))] [] [(m0, .inr (7, [.int (nI fl), .int tr, .ref m1, .ref m2, .ref m3, .int (nI n), .ref m4, .int (nI atp), .int (nI rt), .ref m5, .int (nI hn), .ref m6, .ref m7, .ref m8, .int (nI sn), .ref m9, .ref m10, .ref m11, .ref m12, .ref m13, .ref m14, .ref m15, .ref m16])), (m1, .inl (gI g, 4, .inl msrt)), (m2, .inl (gI g, 4, .inl (fun z9 => nI (len z9)))), (m3, .inl (gI g, 160, .inl mc)), (m4, .inl (gI g, 8, .inl (fun z9 => nI (w z9)))), (m5, .inl (gI g, 8, .inl (fun z9 => nI (rwt z9)))), (m6, .inl (gI g, 6, .inl (fun z9 => nI (kd z9)))), (m7, .inl (gI g, 6, .inl (fun z9 => nI (pt z9)))), (m8, .inl (gI g, 8, .inl far)), (m9, .inl (gI g, 10, .inl (fun z9 => nI (sb z9)))), (m10, .inl (gI g, 10, .inl (fun z9 => nI (sf z9)))), (m11, .inl (gI g, 10, .inl (fun z9 => nI (ss z9)))), (m12, .inl (gI g, 10, .inl (fun z9 => nI (sw z9)))), (m13, .inl (gI g, 256, .inl (fun z9 => nI (ways z9)))), (m14, .inl (gI g, 8, .inl (fun z9 => nI (chain z9)))), (m15, .inl (gI g, 5, .inl (fun z9 => nI (row z9)))), (m16, .inl (gI g, 5, .inl (fun z9 => nI (best z9))))] := by
                    intro k82
                    induction k82 using Nat.strongRecOn with
                    | _ k82 ih82 =>
                      intro i hm82 hi
                      refine v_iload11 h dX8_gain_82 ?_
                      refine v_aload_n0 h dX8_gain_84 ?_
                      refine v_get h mw_X8 0 rfl rfl 5 (by decide) mf_X8_68 rfl dX8_gain_85 ?_
                      refine v_icmp_geN h dX8_gain_88 (tgt := 123) (by decide) (by omega) (by omega) (fun c88 => ?_) (fun c88 => ?_)
                      · obtain rfl : n = i := by omega
                        rw [show orTo (fun y => if (gnR (alkS (kd j0) (pt j0) w n) (ligS (kd j1) (pt j1) w n) n j2 s) &&& (alkS (kd j0) (pt j0) w n) y &&& (ligS (kd j1) (pt j1) w n) y = 0 then 0 else 2 ^ y) n = (gnR (alkS (kd j0) (pt j0) w n) (ligS (kd j1) (pt j1) w n) n j2 (s + 1)) from rfl]
                        refine v_iconst h (v := nI 0) dX8_gain_123 (by decide) ?_
                        refine v_istore11 h (Nat.le_of_ble_eq_true rfl) dX8_gain_124 ?_
                        have L126 : ∀ (k126 : Nat) (i : Nat), n - i = k126 → (i ≤ n) → vM x 126 [some (.ref m0), some (.int (nI j0)), some (.int (nI j1)), some (.int (nI j2)), some (.int (nI j3)), some (.int (nI j4)), some (.int (nI (gnR (alkS (kd j0) (pt j0) w n) (ligS (kd j1) (pt j1) w n) n j2 s))), some (.int (nI ((gnI (gnB (alkS (kd j0) (pt j0) w n) (ligS (kd j1) (pt j1) w n) w n j2 s) (fun z => if (gnR (alkS (kd j0) (pt j0) w n) (ligS (kd j1) (pt j1) w n) n j2 (s + 1)).testBit z then w z else 0) s i).1))), some (.int (nI ((gnI (gnB (alkS (kd j0) (pt j0) w n) (ligS (kd j1) (pt j1) w n) w n j2 s) (fun z => if (gnR (alkS (kd j0) (pt j0) w n) (ligS (kd j1) (pt j1) w n) n j2 (s + 1)).testBit z then w z else 0) s i).2))), some (.int (nI (s + 1))), some (.int (nI (gnR (alkS (kd j0) (pt j0) w n) (ligS (kd j1) (pt j1) w n) n j2 (s + 1)))), some (.int (nI i))] [] [(m0, .inr (7, [.int (nI fl), .int tr, .ref m1, .ref m2, .ref m3, .int (nI n), .ref m4, .int (nI atp), .int (nI rt), .ref m5, .int (nI hn), .ref m6, .ref m7, .ref m8, .int (nI sn), .ref m9, .ref m10, .ref m11, .ref m12, .ref m13, .ref m14, .ref m15, .ref m16])), (m1, .inl (gI g, 4, .inl msrt)), (m2, .inl (gI g, 4, .inl (fun z9 => nI (len z9)))), (m3, .inl (gI g, 160, .inl mc)), (m4, .inl (gI g, 8, .inl (fun z9 => nI (w z9)))), (m5, .inl (gI g, 8, .inl (fun z9 => nI (rwt z9)))), (m6, .inl (gI g, 6, .inl (fun z9 => nI (kd z9)))), (m7, .inl (gI g, 6, .inl (fun z9 => nI (pt z9)))), (m8, .inl (gI g, 8, .inl far)), (m9, .inl (gI g, 10, .inl (fun z9 => nI (sb z9)))), (m10, .inl (gI g, 10, .inl (fun z9 => nI (sf z9)))), (m11, .inl (gI g, 10, .inl (fun z9 => nI (ss z9)))), (m12, .inl (gI g, 10, .inl (fun z9 => nI (sw z9)))), (m13, .inl (gI g, 256, .inl (fun z9 => nI (ways z9)))), (m14, .inl (gI g, 8, .inl (fun z9 => nI (chain z9)))), (m15, .inl (gI g, 5, .inl (fun z9 => nI (row z9)))), (m16, .inl (gI g, 5, .inl (fun z9 => nI (best z9))))] := by
                          intro k126
                          induction k126 using Nat.strongRecOn with
                          | _ k126 ih126 =>
                            intro i hm126 hi
                            refine v_iload11 h dX8_gain_126 ?_
                            refine v_aload_n0 h dX8_gain_128 ?_
                            refine v_get h mw_X8 0 rfl rfl 5 (by decide) mf_X8_68 rfl dX8_gain_129 ?_
                            refine v_icmp_geN h dX8_gain_132 (tgt := 177) (by decide) (by omega) (by omega) (fun c132 => ?_) (fun c132 => ?_)
                            · obtain rfl : n = i := by omega
                              rw [show (gnI (gnB (alkS (kd j0) (pt j0) w n) (ligS (kd j1) (pt j1) w n) w n j2 s) (fun z => if (gnR (alkS (kd j0) (pt j0) w n) (ligS (kd j1) (pt j1) w n) n j2 (s + 1)).testBit z then w z else 0) s n) = (gnB (alkS (kd j0) (pt j0) w n) (ligS (kd j1) (pt j1) w n) w n j2 (s + 1)) from rfl]
                              refine v_iload10 h dX8_gain_177 ?_
                              refine v_istore6 h (Nat.le_of_ble_eq_true rfl) dX8_gain_179 ?_
                              refine v_iincN9 h (Nat.le_of_ble_eq_true rfl) dX8_gain_181 ?_
                              refine v_goto h dX8_gain_184 (tgt := 69) (by decide) ?_
                              exact vM.fg (ih69 _ (by omega) (s + 1) rfl (by first | assumption | rfl | omega)) ⟨rfl, rfl, rfl, rfl, rfl, rfl, rfl, rfl, rfl, rfl, trivial⟩
                            · refine v_iload10 h dX8_gain_135 ?_
                              refine v_iload11 h dX8_gain_137 ?_
                              refine v_ishrN h dX8_gain_139 (by exact Nat.lt_of_lt_of_le (gnR_lt ht1 hj2 _) (by decide)) (by omega) ?_
                              refine v_iconst h (v := nI 1) dX8_gain_140 (by decide) ?_
                              refine v_iandN h dX8_gain_141 ?_
                              refine v_iconst h (v := nI 1) dX8_gain_142 (by decide) ?_
                              refine v_icmp_neN h dX8_gain_143 (tgt := 171) (by decide) (by first | exact and1_lt _ | decide) (by first | exact and1_lt _ | decide) (fun c143 => ?_) (fun c143 => ?_)
                              · have g9 : (gnI (gnB (alkS (kd j0) (pt j0) w n) (ligS (kd j1) (pt j1) w n) w n j2 s) (fun z => if (gnR (alkS (kd j0) (pt j0) w n) (ligS (kd j1) (pt j1) w n) n j2 (s + 1)).testBit z then w z else 0) s (i + 1)) = (gnI (gnB (alkS (kd j0) (pt j0) w n) (ligS (kd j1) (pt j1) w n) w n j2 s) (fun z => if (gnR (alkS (kd j0) (pt j0) w n) (ligS (kd j1) (pt j1) w n) n j2 (s + 1)).testBit z then w z else 0) s i) := gi_same (by show (if _ then _ else _) ≤ _; rw [if_neg (by rw [testBit_no c143]; decide)]; exact Nat.zero_le _)
                                refine v_iincN11 h (Nat.le_of_ble_eq_true rfl) dX8_gain_171 ?_
                                refine v_goto h dX8_gain_174 (tgt := 126) (by decide) ?_
                                exact vM.fg (ih126 _ (by omega) (i + 1) rfl (by first | assumption | rfl | omega)) ⟨rfl, rfl, rfl, rfl, rfl, rfl, rfl, (by exact congrArg (fun y => some (Value.int (nI y))) (congrArg Prod.fst g9).symm), (by exact congrArg (fun y => some (Value.int (nI y))) (congrArg Prod.snd g9).symm), rfl, rfl, rfl, trivial⟩
                              · refine v_aload_n0 h dX8_gain_146 ?_
                                refine v_get h mw_X8 0 rfl rfl 6 (by decide) mf_X8_19 rfl dX8_gain_147 ?_
                                refine v_iload11 h dX8_gain_150 ?_
                                refine v_ialdN h 4 rfl (by omega) (Nat.le_of_ble_eq_true rfl) dX8_gain_152 ?_
                                refine v_iload7 h dX8_gain_153 ?_
                                refine v_icmp_leN h dX8_gain_155 (tgt := 171) (by decide) (by first | (have := ht2 i; omega) | exact Nat.lt_of_le_of_lt (gi_le (gnB_le ht2 s) (fun z => by show (if _ then _ else _) ≤ 999; split; exact ht2 z; omega)) (by decide)) (by first | (have := ht2 i; omega) | exact Nat.lt_of_le_of_lt (gi_le (gnB_le ht2 s) (fun z => by show (if _ then _ else _) ≤ 999; split; exact ht2 z; omega)) (by decide)) (fun c155 => ?_) (fun c155 => ?_)
                                · have g9 : (gnI (gnB (alkS (kd j0) (pt j0) w n) (ligS (kd j1) (pt j1) w n) w n j2 s) (fun z => if (gnR (alkS (kd j0) (pt j0) w n) (ligS (kd j1) (pt j1) w n) n j2 (s + 1)).testBit z then w z else 0) s (i + 1)) = (gnI (gnB (alkS (kd j0) (pt j0) w n) (ligS (kd j1) (pt j1) w n) w n j2 s) (fun z => if (gnR (alkS (kd j0) (pt j0) w n) (ligS (kd j1) (pt j1) w n) n j2 (s + 1)).testBit z then w z else 0) s i) := gi_same (by show (if _ then _ else _) ≤ _; rw [if_pos (testBit_of c143)]; exact c155)
                                  refine v_iincN11 h (Nat.le_of_ble_eq_true rfl) dX8_gain_171 ?_
                                  refine v_goto h dX8_gain_174 (tgt := 126) (by decide) ?_
                                  exact vM.fg (ih126 _ (by omega) (i + 1) rfl (by first | assumption | rfl | omega)) ⟨rfl, rfl, rfl, rfl, rfl, rfl, rfl, (by exact congrArg (fun y => some (Value.int (nI y))) (congrArg Prod.fst g9).symm), (by exact congrArg (fun y => some (Value.int (nI y))) (congrArg Prod.snd g9).symm), rfl, rfl, rfl, trivial⟩
                                · have g9 : (gnI (gnB (alkS (kd j0) (pt j0) w n) (ligS (kd j1) (pt j1) w n) w n j2 s) (fun z => if (gnR (alkS (kd j0) (pt j0) w n) (ligS (kd j1) (pt j1) w n) n j2 (s + 1)).testBit z then w z else 0) s (i + 1)) = (w i, s + 1) := by rw [gi_new (by show _ < (if _ then _ else _); rw [if_pos (testBit_of c143)]; omega)]; show ((if _ then _ else _), s + 1) = _; rw [if_pos (testBit_of c143)]
                                  refine v_aload_n0 h dX8_gain_158 ?_
                                  refine v_get h mw_X8 0 rfl rfl 6 (by decide) mf_X8_19 rfl dX8_gain_159 ?_
                                  refine v_iload11 h dX8_gain_162 ?_
                                  refine v_ialdN h 4 rfl (by omega) (Nat.le_of_ble_eq_true rfl) dX8_gain_164 ?_
                                  refine v_istore7 h (Nat.le_of_ble_eq_true rfl) dX8_gain_165 ?_
                                  refine v_iload9 h dX8_gain_167 ?_
                                  refine v_istore8 h (Nat.le_of_ble_eq_true rfl) dX8_gain_169 ?_
                                  refine v_iincN11 h (Nat.le_of_ble_eq_true rfl) dX8_gain_171 ?_
                                  refine v_goto h dX8_gain_174 (tgt := 126) (by decide) ?_
                                  exact vM.fg (ih126 _ (by omega) (i + 1) rfl (by first | assumption | rfl | omega)) ⟨rfl, rfl, rfl, rfl, rfl, rfl, rfl, (by exact congrArg (fun y => some (Value.int (nI y))) (congrArg Prod.fst g9).symm), (by exact congrArg (fun y => some (Value.int (nI y))) (congrArg Prod.snd g9).symm), rfl, rfl, rfl, trivial⟩
                        exact vM.fg (L126 _ 0 rfl (by first | assumption | rfl | omega)) ⟨rfl, rfl, rfl, rfl, rfl, rfl, rfl, (by rw [gi_0]), (by rw [gi_0]), rfl, rfl, rfl, trivial⟩
                      · refine v_iload10 h dX8_gain_91 ?_
                        refine v_aload_n0 h dX8_gain_93 ?_
                        refine v_iload_n1 h dX8_gain_94 ?_
                        refine v_iload_n2 h dX8_gain_95 ?_
                        refine v_iload6 h dX8_gain_96 ?_
                        refine v_iload11 h dX8_gain_98 ?_
                        refine cw_V_0_1_2_3_4_5_6_7_8_9_10_11_12_13_14_15_16_4_i (ci := 7) h (c_X8_isGot (g := g) (by first | assumption | omega) (by first | assumption | omega) (by first | assumption | omega) (by first | assumption | omega) (by exact gnR_lt ht1 hj2 _) (by first | assumption | omega)) lk_X8_133 ⟨rfl, rfl, (Nat.le_of_ble_eq_true rfl), (Nat.le_of_ble_eq_true rfl)⟩ rfl rfl rfl (Nat.le_of_ble_eq_true rfl) dX8_gain_100 ?_
                        refine v_if_eqB h dX8_gain_103 (tgt := 113) (by decide) (fun c103 => ?_) (fun c103 => ?_)
                        · refine v_iconst h (v := nI 0) dX8_gain_113 (by decide) ?_
                          refine v_iorN h dX8_gain_114 ?_
                          refine v_istore10 h (Nat.le_of_ble_eq_true rfl) dX8_gain_115 ?_
                          refine v_iincN11 h (Nat.le_of_ble_eq_true rfl) dX8_gain_117 ?_
                          refine v_goto h dX8_gain_120 (tgt := 82) (by decide) ?_
                          exact vM.fg (ih82 _ (by omega) (i + 1) rfl (by first | assumption | rfl | omega)) ⟨rfl, rfl, rfl, rfl, rfl, rfl, rfl, rfl, rfl, rfl, (by simp only [decide_eq_false_iff_not, decide_eq_true_eq, Decidable.not_not] at c103; first | (rw [orTo, if_pos c103]; done) | (rw [orTo, if_neg c103]; done)), rfl, trivial⟩
                        · refine v_iconst h (v := nI 1) dX8_gain_106 (by decide) ?_
                          refine v_iload11 h dX8_gain_107 ?_
                          refine v_ishlN h dX8_gain_109 (by omega) ?_
                          refine v_goto h dX8_gain_110 (tgt := 114) (by decide) ?_
                          refine v_iorN h dX8_gain_114 ?_
                          refine v_istore10 h (Nat.le_of_ble_eq_true rfl) dX8_gain_115 ?_
                          refine v_iincN11 h (Nat.le_of_ble_eq_true rfl) dX8_gain_117 ?_
                          refine v_goto h dX8_gain_120 (tgt := 82) (by decide) ?_
                          exact vM.fg (ih82 _ (by omega) (i + 1) rfl (by first | assumption | rfl | omega)) ⟨rfl, rfl, rfl, rfl, rfl, rfl, rfl, rfl, rfl, rfl, (by simp only [decide_eq_false_iff_not, decide_eq_true_eq, Decidable.not_not] at c103; first | (rw [orTo, if_pos c103]; done) | (rw [orTo, if_neg c103]; done)), rfl, trivial⟩
                  exact vM.fg (L82 _ 0 rfl (by first | assumption | rfl | omega)) ⟨rfl, rfl, rfl, rfl, rfl, rfl, rfl, rfl, rfl, rfl, rfl, rfl, trivial⟩
            exact vM.fg (L69 _ 0 rfl (by first | assumption | rfl | omega)) ⟨rfl, rfl, rfl, rfl, rfl, rfl, rfl, rfl, rfl, rfl, trivial⟩
          · have e44 := wi_no c44
            refine v_bipush h (v := -2) dX8_gain_47 (by decide) ?_
            exact v_iretP h hr dX8_gain_49 (P_X8_gain_mk (q := _) (by simp only [s_gain, e5, e13, e21, e34, e44]) ) rfl
      · have e21 := rN_f c21
        refine v_iconst h (v := -1) dX8_gain_24 (by decide) ?_
        exact v_iretP h hr dX8_gain_25 (P_X8_gain_mk (q := _) (by simp only [s_gain, e5, e13, e21]) ) rfl
