theorem lk_X8_130 : LkV RX8 130 yX8_nextOf cX8_nextOf 4 (some .int) 2 := ⟨ml_X8_130, mn_X8_nextOf, mv_X8_nextOf, mi_X8, mc_X8_nextOf, ⟨by decide, by decide, by decide +kernel⟩⟩
set_option maxRecDepth 20000 in
set_option maxHeartbeats 2000000 in
theorem c_X8_nextOf {g : vG} {m0 m1 m2 m3 m4 m5 m6 m7 m8 m9 m10 m11 m12 m13 m14 m15 m16 : Nat} {fl : Nat} {tr : Int32} {msrt : Nat → Int32} {len : Nat → Nat} {mc : Nat → Int32} {n : Nat} {w : Nat → Nat} {atp : Nat} {rt : Nat} {rwt : Nat → Nat} {hn : Nat} {kd : Nat → Nat} {pt : Nat → Nat} {far : Nat → Int32} {sn : Nat} {sb : Nat → Nat} {sf : Nat → Nat} {ss : Nat → Nat} {sw : Nat → Nat} {ways : Nat → Nat} {chain : Nat → Nat} {row : Nat → Nat} {best : Nat → Nat} {j : Nat} {xq : Nat} (hT : wfT n w) (hH : wfH hn kd pt) (hj : j < hn) (hx : xq < n) : Ct g yX8_nextOf cX8_nextOf 4 (some .int) (rmOf 4 91) [(m0, .inr (7, [.int (nI fl), .int tr, .ref m1, .ref m2, .ref m3, .int (nI n), .ref m4, .int (nI atp), .int (nI rt), .ref m5, .int (nI hn), .ref m6, .ref m7, .ref m8, .int (nI sn), .ref m9, .ref m10, .ref m11, .ref m12, .ref m13, .ref m14, .ref m15, .ref m16])), (m1, .inl (gI g, 4, .inl msrt)), (m2, .inl (gI g, 4, .inl (fun z9 => nI (len z9)))), (m3, .inl (gI g, 160, .inl mc)), (m4, .inl (gI g, 8, .inl (fun z9 => nI (w z9)))), (m5, .inl (gI g, 8, .inl (fun z9 => nI (rwt z9)))), (m6, .inl (gI g, 6, .inl (fun z9 => nI (kd z9)))), (m7, .inl (gI g, 6, .inl (fun z9 => nI (pt z9)))), (m8, .inl (gI g, 8, .inl far)), (m9, .inl (gI g, 10, .inl (fun z9 => nI (sb z9)))), (m10, .inl (gI g, 10, .inl (fun z9 => nI (sf z9)))), (m11, .inl (gI g, 10, .inl (fun z9 => nI (ss z9)))), (m12, .inl (gI g, 10, .inl (fun z9 => nI (sw z9)))), (m13, .inl (gI g, 256, .inl (fun z9 => nI (ways z9)))), (m14, .inl (gI g, 8, .inl (fun z9 => nI (chain z9)))), (m15, .inl (gI g, 5, .inl (fun z9 => nI (row z9)))), (m16, .inl (gI g, 5, .inl (fun z9 => nI (best z9))))] [.ref m0, .int (nI j), .int (nI xq)] (some (.int (nI (nxO (alkS (kd j) (pt j) w n) n far xq)))) [(m0, .inr (7, [.int (nI fl), .int tr, .ref m1, .ref m2, .ref m3, .int (nI n), .ref m4, .int (nI atp), .int (nI rt), .ref m5, .int (nI hn), .ref m6, .ref m7, .ref m8, .int (nI sn), .ref m9, .ref m10, .ref m11, .ref m12, .ref m13, .ref m14, .ref m15, .ref m16])), (m1, .inl (gI g, 4, .inl msrt)), (m2, .inl (gI g, 4, .inl (fun z9 => nI (len z9)))), (m3, .inl (gI g, 160, .inl mc)), (m4, .inl (gI g, 8, .inl (fun z9 => nI (w z9)))), (m5, .inl (gI g, 8, .inl (fun z9 => nI (rwt z9)))), (m6, .inl (gI g, 6, .inl (fun z9 => nI (kd z9)))), (m7, .inl (gI g, 6, .inl (fun z9 => nI (pt z9)))), (m8, .inl (gI g, 8, .inl far)), (m9, .inl (gI g, 10, .inl (fun z9 => nI (sb z9)))), (m10, .inl (gI g, 10, .inl (fun z9 => nI (sf z9)))), (m11, .inl (gI g, 10, .inl (fun z9 => nI (ss z9)))), (m12, .inl (gI g, 10, .inl (fun z9 => nI (sw z9)))), (m13, .inl (gI g, 256, .inl (fun z9 => nI (ways z9)))), (m14, .inl (gI g, 8, .inl (fun z9 => nI (chain z9)))), (m15, .inl (gI g, 5, .inl (fun z9 => nI (row z9)))), (m16, .inl (gI g, 5, .inl (fun z9 => nI (best z9))))] := by
  refine Ct.ofV RX8 rfl (by decide +kernel) rfl rfl rfl (Nat.le_of_ble_eq_true rfl) (List.forall_mem_cons.mpr ⟨rfl, (List.forall_mem_cons.mpr ⟨rfl, (List.forall_mem_cons.mpr ⟨rfl, (fun _ h9 => absurd h9 List.not_mem_nil)⟩)⟩)⟩) (fun x h hr => ?_)
  show vM x 0 [some (.ref m0), some (.int (nI j)), some (.int (nI xq)), none] [] [(m0, .inr (7, [.int (nI fl), .int tr, .ref m1, .ref m2, .ref m3, .int (nI n), .ref m4, .int (nI atp), .int (nI rt), .ref m5, .int (nI hn), .ref m6, .ref m7, .ref m8, .int (nI sn), .ref m9, .ref m10, .ref m11, .ref m12, .ref m13, .ref m14, .ref m15, .ref m16])), (m1, .inl (gI g, 4, .inl msrt)), (m2, .inl (gI g, 4, .inl (fun z9 => nI (len z9)))), (m3, .inl (gI g, 160, .inl mc)), (m4, .inl (gI g, 8, .inl (fun z9 => nI (w z9)))), (m5, .inl (gI g, 8, .inl (fun z9 => nI (rwt z9)))), (m6, .inl (gI g, 6, .inl (fun z9 => nI (kd z9)))), (m7, .inl (gI g, 6, .inl (fun z9 => nI (pt z9)))), (m8, .inl (gI g, 8, .inl far)), (m9, .inl (gI g, 10, .inl (fun z9 => nI (sb z9)))), (m10, .inl (gI g, 10, .inl (fun z9 => nI (sf z9)))), (m11, .inl (gI g, 10, .inl (fun z9 => nI (ss z9)))), (m12, .inl (gI g, 10, .inl (fun z9 => nI (sw z9)))), (m13, .inl (gI g, 256, .inl (fun z9 => nI (ways z9)))), (m14, .inl (gI g, 8, .inl (fun z9 => nI (chain z9)))), (m15, .inl (gI g, 5, .inl (fun z9 => nI (row z9)))), (m16, .inl (gI g, 5, .inl (fun z9 => nI (best z9))))]
  have ht1 := hT.1; have ht2 := hT.2.1; have ht3 := hT.2.2
  refine v_iconst h (v := nI 0) dX8_nextOf_0 (by decide) ?_
  refine v_istore_n3 h (Nat.le_of_ble_eq_true rfl) dX8_nextOf_1 ?_
  have L2 : ∀ (k2 : Nat) (i : Nat), n - i = k2 → (i ≤ n) → (∀ z, z < i → (decide (far z = far xq - nI 1) && ((alkS (kd j) (pt j) w n) xq).testBit z) = false) → vM x 2 [some (.ref m0), some (.int (nI j)), some (.int (nI xq)), some (.int (nI i))] [] [(m0, .inr (7, [.int (nI fl), .int tr, .ref m1, .ref m2, .ref m3, .int (nI n), .ref m4, .int (nI atp), .int (nI rt), .ref m5, .int (nI hn), .ref m6, .ref m7, .ref m8, .int (nI sn), .ref m9, .ref m10, .ref m11, .ref m12, .ref m13, .ref m14, .ref m15, .ref m16])), (m1, .inl (gI g, 4, .inl msrt)), (m2, .inl (gI g, 4, .inl (fun z9 => nI (len z9)))), (m3, .inl (gI g, 160, .inl mc)), (m4, .inl (gI g, 8, .inl (fun z9 => nI (w z9)))), (m5, .inl (gI g, 8, .inl (fun z9 => nI (rwt z9)))), (m6, .inl (gI g, 6, .inl (fun z9 => nI (kd z9)))), (m7, .inl (gI g, 6, .inl (fun z9 => nI (pt z9)))), (m8, .inl (gI g, 8, .inl far)), (m9, .inl (gI g, 10, .inl (fun z9 => nI (sb z9)))), (m10, .inl (gI g, 10, .inl (fun z9 => nI (sf z9)))), (m11, .inl (gI g, 10, .inl (fun z9 => nI (ss z9)))), (m12, .inl (gI g, 10, .inl (fun z9 => nI (sw z9)))), (m13, .inl (gI g, 256, .inl (fun z9 => nI (ways z9)))), (m14, .inl (gI g, 8, .inl (fun z9 => nI (chain z9)))), (m15, .inl (gI g, 5, .inl (fun z9 => nI (row z9)))), (m16, .inl (gI g, 5, .inl (fun z9 => nI (best z9))))] := by
    intro k2
    induction k2 using Nat.strongRecOn with
    | _ k2 ih2 =>
      intro i hm2 hi h1
      refine v_iload_n3 h dX8_nextOf_2 ?_
      refine v_aload_n0 h dX8_nextOf_3 ?_
      refine v_get h mw_X8 0 rfl rfl 5 (by decide) mf_X8_68 rfl dX8_nextOf_4 ?_
      refine v_icmp_geN h dX8_nextOf_7 (tgt := 45) (by decide) (by omega) (by omega) (fun c7 => ?_) (fun c7 => ?_)
      · refine v_iload_n2 h dX8_nextOf_45 ?_
        exact v_iret h hr dX8_nextOf_46 (by obtain rfl : n = i := (by omega); rw [nxO_f h1]) rfl
      · refine v_aload_n0 h dX8_nextOf_10 ?_
        refine v_get h mw_X8 0 rfl rfl 13 (by decide) mf_X8_31 rfl dX8_nextOf_11 ?_
        refine v_iload_n3 h dX8_nextOf_14 ?_
        refine v_ialdF h 8 rfl (by omega) (Nat.le_of_ble_eq_true rfl) dX8_nextOf_15 ?_
        refine v_aload_n0 h dX8_nextOf_16 ?_
        refine v_get h mw_X8 0 rfl rfl 13 (by decide) mf_X8_31 rfl dX8_nextOf_17 ?_
        refine v_iload_n2 h dX8_nextOf_20 ?_
        refine v_ialdF h 8 rfl (by omega) (Nat.le_of_ble_eq_true rfl) dX8_nextOf_21 ?_
        refine v_iconst h (v := nI 1) dX8_nextOf_22 (by decide) ?_
        refine v_isub h dX8_nextOf_23 ?_
        refine v_icmp_ne h dX8_nextOf_24 (tgt := 39) (by decide) (fun c24 => ?_) (fun c24 => ?_)
        · have g9 : (decide (far i = far xq - nI 1) && ((alkS (kd j) (pt j) w n) xq).testBit i) = false := by rw [decide_eq_false c24]; rfl
          refine v_iincN3 h (Nat.le_of_ble_eq_true rfl) dX8_nextOf_39 ?_
          refine v_goto h dX8_nextOf_42 (tgt := 2) (by decide) ?_
          exact vM.fg (ih2 _ (by omega) (i + 1) rfl (by first | assumption | rfl | omega) (by exact fun z hz => by rcases Nat.lt_or_ge z i with q | q; (· exact h1 z q); (· rw [show z = i by omega]; exact g9))) ⟨rfl, rfl, rfl, rfl, trivial⟩
        · refine v_aload_n0 h dX8_nextOf_27 ?_
          refine v_iload_n1 h dX8_nextOf_28 ?_
          refine v_iload_n2 h dX8_nextOf_29 ?_
          refine v_iload_n3 h dX8_nextOf_30 ?_
          refine cw_V_0_1_2_3_4_5_6_7_8_9_10_11_12_13_14_15_16_3_i (ci := 7) h (c_X8_areAlike (g := g) (by first | assumption | omega) (by first | assumption | omega) (by first | assumption | omega) (by first | assumption | omega) (by first | assumption | omega)) lk_X8_119 ⟨rfl, rfl, (Nat.le_of_ble_eq_true rfl), (Nat.le_of_ble_eq_true rfl)⟩ rfl rfl rfl (Nat.le_of_ble_eq_true rfl) dX8_nextOf_31 ?_
          refine v_if_eqB h dX8_nextOf_34 (tgt := 39) (by decide) (fun c34 => ?_) (fun c34 => ?_)
          · have g9 : (decide (far i = far xq - nI 1) && ((alkS (kd j) (pt j) w n) xq).testBit i) = false := by rw [alkS_bit, c34, Bool.and_false, Bool.and_false]
            refine v_iincN3 h (Nat.le_of_ble_eq_true rfl) dX8_nextOf_39 ?_
            refine v_goto h dX8_nextOf_42 (tgt := 2) (by decide) ?_
            exact vM.fg (ih2 _ (by omega) (i + 1) rfl (by first | assumption | rfl | omega) (by exact fun z hz => by rcases Nat.lt_or_ge z i with q | q; (· exact h1 z q); (· rw [show z = i by omega]; exact g9))) ⟨rfl, rfl, rfl, rfl, trivial⟩
          · refine v_iload_n3 h dX8_nextOf_37 ?_
            exact v_iret h hr dX8_nextOf_38 (by rw [nxO_t (show i < n by omega) h1 (by rw [decide_eq_true c24, alkS_bit, decide_eq_true (show i < n by omega), c34]; rfl)]) rfl
  exact vM.fg (L2 _ 0 rfl (by first | assumption | rfl | omega) (by exact fun z hz => by omega)) ⟨rfl, rfl, rfl, rfl, trivial⟩
def P_X8_way (g : vG) (m0 m1 m2 m3 m4 m5 m6 m7 m8 m9 m10 m11 m12 m13 m14 m15 m16 : Nat) (fl : Nat) (tr : Int32) (msrt : Nat → Int32) (len : Nat → Nat) (mc : Nat → Int32) (n : Nat) (w : Nat → Nat) (atp : Nat) (rt : Nat) (rwt : Nat → Nat) (hn : Nat) (kd : Nat → Nat) (pt : Nat → Nat) (far : Nat → Int32) (sn : Nat) (sb : Nat → Nat) (sf : Nat → Nat) (ss : Nat → Nat) (sw : Nat → Nat) (ways : Nat → Nat) (chain : Nat → Nat) (row : Nat → Nat) (best : Nat → Nat) (p0 : Int32) (p1 : Int32) (p2 : Int32) (p3 : Int32) : Option Value → va_W → Prop := fun r wo => ∃ far' : Nat → Int32, r = some (.int (s_way n w hn kd pt p0 p1 p2 p3)) ∧ wo = [(m0, .inr (7, [.int (nI fl), .int tr, .ref m1, .ref m2, .ref m3, .int (nI n), .ref m4, .int (nI atp), .int (nI rt), .ref m5, .int (nI hn), .ref m6, .ref m7, .ref m8, .int (nI sn), .ref m9, .ref m10, .ref m11, .ref m12, .ref m13, .ref m14, .ref m15, .ref m16])), (m1, .inl (gI g, 4, .inl msrt)), (m2, .inl (gI g, 4, .inl (fun z9 => nI (len z9)))), (m3, .inl (gI g, 160, .inl mc)), (m4, .inl (gI g, 8, .inl (fun z9 => nI (w z9)))), (m5, .inl (gI g, 8, .inl (fun z9 => nI (rwt z9)))), (m6, .inl (gI g, 6, .inl (fun z9 => nI (kd z9)))), (m7, .inl (gI g, 6, .inl (fun z9 => nI (pt z9)))), (m8, .inl (gI g, 8, .inl far')), (m9, .inl (gI g, 10, .inl (fun z9 => nI (sb z9)))), (m10, .inl (gI g, 10, .inl (fun z9 => nI (sf z9)))), (m11, .inl (gI g, 10, .inl (fun z9 => nI (ss z9)))), (m12, .inl (gI g, 10, .inl (fun z9 => nI (sw z9)))), (m13, .inl (gI g, 256, .inl (fun z9 => nI (ways z9)))), (m14, .inl (gI g, 8, .inl (fun z9 => nI (chain z9)))), (m15, .inl (gI g, 5, .inl (fun z9 => nI (row z9)))), (m16, .inl (gI g, 5, .inl (fun z9 => nI (best z9))))]
theorem P_X8_way_mk {g : vG} {m0 m1 m2 m3 m4 m5 m6 m7 m8 m9 m10 m11 m12 m13 m14 m15 m16 : Nat} {fl : Nat} {tr : Int32} {msrt : Nat → Int32} {len : Nat → Nat} {mc : Nat → Int32} {n : Nat} {w : Nat → Nat} {atp : Nat} {rt : Nat} {rwt : Nat → Nat} {hn : Nat} {kd : Nat → Nat} {pt : Nat → Nat} {far : Nat → Int32} {sn : Nat} {sb : Nat → Nat} {sf : Nat → Nat} {ss : Nat → Nat} {sw : Nat → Nat} {ways : Nat → Nat} {chain : Nat → Nat} {row : Nat → Nat} {best : Nat → Nat} {p0 : Int32} {p1 : Int32} {p2 : Int32} {p3 : Int32} {far' : Nat → Int32} {q : Int32} (hs : s_way n w hn kd pt p0 p1 p2 p3 = q)  : P_X8_way g m0 m1 m2 m3 m4 m5 m6 m7 m8 m9 m10 m11 m12 m13 m14 m15 m16 fl tr msrt len mc n w atp rt rwt hn kd pt far sn sb sf ss sw ways chain row best p0 p1 p2 p3 (some (.int q)) [(m0, .inr (7, [.int (nI fl), .int tr, .ref m1, .ref m2, .ref m3, .int (nI n), .ref m4, .int (nI atp), .int (nI rt), .ref m5, .int (nI hn), .ref m6, .ref m7, .ref m8, .int (nI sn), .ref m9, .ref m10, .ref m11, .ref m12, .ref m13, .ref m14, .ref m15, .ref m16])), (m1, .inl (gI g, 4, .inl msrt)), (m2, .inl (gI g, 4, .inl (fun z9 => nI (len z9)))), (m3, .inl (gI g, 160, .inl mc)), (m4, .inl (gI g, 8, .inl (fun z9 => nI (w z9)))), (m5, .inl (gI g, 8, .inl (fun z9 => nI (rwt z9)))), (m6, .inl (gI g, 6, .inl (fun z9 => nI (kd z9)))), (m7, .inl (gI g, 6, .inl (fun z9 => nI (pt z9)))), (m8, .inl (gI g, 8, .inl far')), (m9, .inl (gI g, 10, .inl (fun z9 => nI (sb z9)))), (m10, .inl (gI g, 10, .inl (fun z9 => nI (sf z9)))), (m11, .inl (gI g, 10, .inl (fun z9 => nI (ss z9)))), (m12, .inl (gI g, 10, .inl (fun z9 => nI (sw z9)))), (m13, .inl (gI g, 256, .inl (fun z9 => nI (ways z9)))), (m14, .inl (gI g, 8, .inl (fun z9 => nI (chain z9)))), (m15, .inl (gI g, 5, .inl (fun z9 => nI (row z9)))), (m16, .inl (gI g, 5, .inl (fun z9 => nI (best z9))))] := by subst hs; exact ⟨_, rfl, rfl⟩
set_option maxRecDepth 20000 in
set_option maxHeartbeats 4000000 in
theorem c_X8_way {g : vG} {m0 m1 m2 m3 m4 m5 m6 m7 m8 m9 m10 m11 m12 m13 m14 m15 m16 : Nat} {fl : Nat} {tr : Int32} {msrt : Nat → Int32} {len : Nat → Nat} {mc : Nat → Int32} {n : Nat} {w : Nat → Nat} {atp : Nat} {rt : Nat} {rwt : Nat → Nat} {hn : Nat} {kd : Nat → Nat} {pt : Nat → Nat} {far : Nat → Int32} {sn : Nat} {sb : Nat → Nat} {sf : Nat → Nat} {ss : Nat → Nat} {sw : Nat → Nat} {ways : Nat → Nat} {chain : Nat → Nat} {row : Nat → Nat} {best : Nat → Nat} {p0 : Int32} {p1 : Int32} {p2 : Int32} {p3 : Int32} (hT : wfT n w) (hH : wfH hn kd pt) : CtP g yX8_way cX8_way 7 (some .int) (rmOf 5 116) [(m0, .inr (7, [.int (nI fl), .int tr, .ref m1, .ref m2, .ref m3, .int (nI n), .ref m4, .int (nI atp), .int (nI rt), .ref m5, .int (nI hn), .ref m6, .ref m7, .ref m8, .int (nI sn), .ref m9, .ref m10, .ref m11, .ref m12, .ref m13, .ref m14, .ref m15, .ref m16])), (m1, .inl (gI g, 4, .inl msrt)), (m2, .inl (gI g, 4, .inl (fun z9 => nI (len z9)))), (m3, .inl (gI g, 160, .inl mc)), (m4, .inl (gI g, 8, .inl (fun z9 => nI (w z9)))), (m5, .inl (gI g, 8, .inl (fun z9 => nI (rwt z9)))), (m6, .inl (gI g, 6, .inl (fun z9 => nI (kd z9)))), (m7, .inl (gI g, 6, .inl (fun z9 => nI (pt z9)))), (m8, .inl (gI g, 8, .inl far)), (m9, .inl (gI g, 10, .inl (fun z9 => nI (sb z9)))), (m10, .inl (gI g, 10, .inl (fun z9 => nI (sf z9)))), (m11, .inl (gI g, 10, .inl (fun z9 => nI (ss z9)))), (m12, .inl (gI g, 10, .inl (fun z9 => nI (sw z9)))), (m13, .inl (gI g, 256, .inl (fun z9 => nI (ways z9)))), (m14, .inl (gI g, 8, .inl (fun z9 => nI (chain z9)))), (m15, .inl (gI g, 5, .inl (fun z9 => nI (row z9)))), (m16, .inl (gI g, 5, .inl (fun z9 => nI (best z9))))] [.ref m0, .int p0, .int p1, .int p2, .int p3] (P_X8_way g m0 m1 m2 m3 m4 m5 m6 m7 m8 m9 m10 m11 m12 m13 m14 m15 m16 fl tr msrt len mc n w atp rt rwt hn kd pt far sn sb sf ss sw ways chain row best p0 p1 p2 p3) := by
  refine CtP.ofV RX8 rfl (by decide +kernel) rfl rfl (Nat.le_of_ble_eq_true rfl) (List.forall_mem_cons.mpr ⟨rfl, (List.forall_mem_cons.mpr ⟨rfl, (List.forall_mem_cons.mpr ⟨rfl, (List.forall_mem_cons.mpr ⟨rfl, (List.forall_mem_cons.mpr ⟨rfl, (fun _ h9 => absurd h9 List.not_mem_nil)⟩)⟩)⟩)⟩)⟩) (fun x h hr => ?_)
  show vM x 0 [some (.ref m0), some (.int p0), some (.int p1), some (.int p2), some (.int p3), none, none] [] [(m0, .inr (7, [.int (nI fl), .int tr, .ref m1, .ref m2, .ref m3, .int (nI n), .ref m4, .int (nI atp), .int (nI rt), .ref m5, .int (nI hn), .ref m6, .ref m7, .ref m8, .int (nI sn), .ref m9, .ref m10, .ref m11, .ref m12, .ref m13, .ref m14, .ref m15, .ref m16])), (m1, .inl (gI g, 4, .inl msrt)), (m2, .inl (gI g, 4, .inl (fun z9 => nI (len z9)))), (m3, .inl (gI g, 160, .inl mc)), (m4, .inl (gI g, 8, .inl (fun z9 => nI (w z9)))), (m5, .inl (gI g, 8, .inl (fun z9 => nI (rwt z9)))), (m6, .inl (gI g, 6, .inl (fun z9 => nI (kd z9)))), (m7, .inl (gI g, 6, .inl (fun z9 => nI (pt z9)))), (m8, .inl (gI g, 8, .inl far)), (m9, .inl (gI g, 10, .inl (fun z9 => nI (sb z9)))), (m10, .inl (gI g, 10, .inl (fun z9 => nI (sf z9)))), (m11, .inl (gI g, 10, .inl (fun z9 => nI (ss z9)))), (m12, .inl (gI g, 10, .inl (fun z9 => nI (sw z9)))), (m13, .inl (gI g, 256, .inl (fun z9 => nI (ways z9)))), (m14, .inl (gI g, 8, .inl (fun z9 => nI (chain z9)))), (m15, .inl (gI g, 5, .inl (fun z9 => nI (row z9)))), (m16, .inl (gI g, 5, .inl (fun z9 => nI (best z9))))]
  have ht1 := hT.1; have ht2 := hT.2.1; have ht3 := hT.2.2; have hh1 := hH.1; have hh2 := hH.2.1; have hh3 := hH.2.2.1; have hh4 := hH.2.2.2
  refine v_aload_n0 h dX8_way_0 ?_
  refine v_iload_n1 h dX8_way_1 ?_
  refine cw_V_0_1_2_3_4_5_6_7_8_9_10_11_12_13_14_15_16_1_i (ci := 7) h (c_X8_isHand (g := g)) lk_X8_107 ⟨rfl, rfl, (Nat.le_of_ble_eq_true rfl), (Nat.le_of_ble_eq_true rfl)⟩ rfl rfl rfl (Nat.le_of_ble_eq_true rfl) dX8_way_2 ?_
  refine v_if_eqB h dX8_way_5 (tgt := 30) (by decide) (fun c5 => ?_) (fun c5 => ?_)
  · have e5 := rN_f c5
    refine v_iconst h (v := -1) dX8_way_30 (by decide) ?_
    exact v_iretP h hr dX8_way_31 (P_X8_way_mk (q := _) (by simp only [s_way, e5]) ) rfl
  · obtain ⟨j0, hj0, rfl⟩ := inR_of c5 (by omega)
    have e5 := rN_N hj0 (by omega)
    refine v_aload_n0 h dX8_way_8 ?_
    refine v_iload_n2 h dX8_way_9 ?_
    refine cw_V_0_1_2_3_4_5_6_7_8_9_10_11_12_13_14_15_16_1_i (ci := 7) h (c_X8_isThing (g := g)) lk_X8_101 ⟨rfl, rfl, (Nat.le_of_ble_eq_true rfl), (Nat.le_of_ble_eq_true rfl)⟩ rfl rfl rfl (Nat.le_of_ble_eq_true rfl) dX8_way_10 ?_
    refine v_if_eqB h dX8_way_13 (tgt := 30) (by decide) (fun c13 => ?_) (fun c13 => ?_)
    · have e13 := rN_f c13
      refine v_iconst h (v := -1) dX8_way_30 (by decide) ?_
      exact v_iretP h hr dX8_way_31 (P_X8_way_mk (q := _) (by simp only [s_way, e5, e13]) ) rfl
    · obtain ⟨j1, hj1, rfl⟩ := inR_of c13 (by omega)
      have e13 := rN_N hj1 (by omega)
      refine v_aload_n0 h dX8_way_16 ?_
      refine v_iload_n3 h dX8_way_17 ?_
      refine cw_V_0_1_2_3_4_5_6_7_8_9_10_11_12_13_14_15_16_1_i (ci := 7) h (c_X8_isThing (g := g)) lk_X8_101 ⟨rfl, rfl, (Nat.le_of_ble_eq_true rfl), (Nat.le_of_ble_eq_true rfl)⟩ rfl rfl rfl (Nat.le_of_ble_eq_true rfl) dX8_way_18 ?_
      refine v_if_eqB h dX8_way_21 (tgt := 30) (by decide) (fun c21 => ?_) (fun c21 => ?_)
      · have e21 := rN_f c21
        refine v_iconst h (v := -1) dX8_way_30 (by decide) ?_
        exact v_iretP h hr dX8_way_31 (P_X8_way_mk (q := _) (by simp only [s_way, e5, e13, e21]) ) rfl
      · obtain ⟨j2, hj2, rfl⟩ := inR_of c21 (by omega)
        have e21 := rN_N hj2 (by omega)
        refine v_iload4 h dX8_way_24 ?_
        refine v_iconst h (v := -1) dX8_way_26 (by decide) ?_
        refine v_icmp_ge h dX8_way_27 (tgt := 32) (by decide) (fun c27 => ?_) (fun c27 => ?_)
        · have g27 := Int32.not_lt.mpr c27
          refine v_aload_n0 h dX8_way_32 ?_
          refine v_iload_n1 h dX8_way_33 ?_
          refine v_iload_n3 h dX8_way_34 ?_
          refine cw_V_0_1_2_3_4_5_6_7_8_9_10_11_12_13_14_15_16_2_v (ci := 7) h (c_X8_findFar (g := g) (by first | assumption | omega) (by first | assumption | omega) (by first | assumption | omega) (by first | assumption | omega)) lk_X8_126 ⟨rfl, rfl, (Nat.le_of_ble_eq_true rfl), (Nat.le_of_ble_eq_true rfl)⟩ rfl rfl rfl (Nat.le_of_ble_eq_true rfl) dX8_way_35 ?_
          have hfe : fD (alkS (kd j0) (pt j0) w n) n j2 n j1 = oN (fstTo (fun s => (wth (alkS (kd j0) (pt j0) w n) n (2 ^ j2) s).testBit j1) n) := by unfold fD; rw [fst_n (fun m => wth_ltn hj2 m) (by omega)]
          refine v_aload_n0 h dX8_way_38 ?_
          refine v_get h mw_X8 0 rfl rfl 13 (by decide) mf_X8_31 rfl dX8_way_39 ?_
          refine v_iload_n2 h dX8_way_42 ?_
          refine v_ialdF h 8 rfl (by omega) (Nat.le_of_ble_eq_true rfl) dX8_way_43 ?_
          refine v_bipush h (v := -9) dX8_way_44 (by decide) ?_
          refine v_icmp_eq h dX8_way_46 (tgt := 60) (by decide) (fun c46 => ?_) (fun c46 => ?_)
          · rw [fA_at hj1, hfe] at c46
            have e46 : (fstTo (fun s => (wth (alkS (kd j0) (pt j0) w n) n (2 ^ j2) s).testBit j1) n) = none := by
              cases q : (fstTo (fun s => (wth (alkS (kd j0) (pt j0) w n) n (2 ^ j2) s).testBit j1) n) with
              | none => rfl
              | some d => rw [q] at c46; exact absurd c46 (oN_ne (by have := (fst_some.mp q).1; omega))
            refine v_bipush h (v := -9) dX8_way_60 (by decide) ?_
            exact v_iretP h hr dX8_way_62 (P_X8_way_mk (q := _) (by simp only [s_way, e5, e13, e21, if_neg g27]; first | exact wy_none e46 | exact wy_far hmm (by omega) g27 c57) ) rfl
          · rw [fA_at hj1, hfe] at c46
            obtain ⟨mm, hmm⟩ : ∃ mm, (fstTo (fun s => (wth (alkS (kd j0) (pt j0) w n) n (2 ^ j2) s).testBit j1) n) = some mm := by
              cases q : (fstTo (fun s => (wth (alkS (kd j0) (pt j0) w n) n (2 ^ j2) s).testBit j1) n) with
              | none => rw [q] at c46; exact absurd rfl c46
              | some d => exact ⟨d, rfl⟩
            have hmn := (fst_some.mp hmm).1
            have hfm := hfe
            rw [hmm] at hfm
            refine v_iload4 h dX8_way_49 ?_
            refine v_aload_n0 h dX8_way_51 ?_
            refine v_get h mw_X8 0 rfl rfl 13 (by decide) mf_X8_31 rfl dX8_way_52 ?_
            refine v_iload_n2 h dX8_way_55 ?_
            refine v_ialdF h 8 rfl (by omega) (Nat.le_of_ble_eq_true rfl) dX8_way_56 ?_
            refine v_icmp_le h dX8_way_57 (tgt := 63) (by decide) (fun c57 => ?_) (fun c57 => ?_)
            · rw [fA_at hj1, hfm] at c57
              refine v_iload4 h dX8_way_63 ?_
              refine v_iconst h (v := -1) dX8_way_65 (by decide) ?_
              refine v_icmp_ne h dX8_way_66 (tgt := 76) (by decide) (fun c66 => ?_) (fun c66 => ?_)
              · obtain ⟨j3, hj3, rfl⟩ := nI_of (ge_m1 g27 c66)
                have h33 := (nI_leI hj3 (by omega)).mp c57
                refine v_iload_n2 h dX8_way_76 ?_
                refine v_istore5 h (Nat.le_of_ble_eq_true rfl) dX8_way_77 ?_
                refine v_iconst h (v := nI 0) dX8_way_79 (by decide) ?_
                refine v_istore6 h (Nat.le_of_ble_eq_true rfl) dX8_way_80 ?_
                have L82 : ∀ (k82 : Nat) (k : Nat), j3 - k = k82 → (k ≤ j3) → ((bhd (alkS (kd j0) (pt j0) w n) n j2 mm j1 k) < n) → (fD (alkS (kd j0) (pt j0) w n) n j2 n (bhd (alkS (kd j0) (pt j0) w n) n j2 mm j1 k) = nI (mm - k)) → vM x 82 [some (.ref m0), some (.int (nI j0)), some (.int (nI j1)), some (.int (nI j2)), some (.int (nI j3)), some (.int (nI (bhd (alkS (kd j0) (pt j0) w n) n j2 mm j1 k))), some (.int (nI k))] [] [(m0, .inr (7, [.int (nI fl), .int tr, .ref m1, .ref m2, .ref m3, .int (nI n), .ref m4, .int (nI atp), .int (nI rt), .ref m5, .int (nI hn), .ref m6, .ref m7, .ref m8, .int (nI sn), .ref m9, .ref m10, .ref m11, .ref m12, .ref m13, .ref m14, .ref m15, .ref m16])), (m1, .inl (gI g, 4, .inl msrt)), (m2, .inl (gI g, 4, .inl (fun z9 => nI (len z9)))), (m3, .inl (gI g, 160, .inl mc)), (m4, .inl (gI g, 8, .inl (fun z9 => nI (w z9)))), (m5, .inl (gI g, 8, .inl (fun z9 => nI (rwt z9)))), (m6, .inl (gI g, 6, .inl (fun z9 => nI (kd z9)))), (m7, .inl (gI g, 6, .inl (fun z9 => nI (pt z9)))), (m8, .inl (gI g, 8, .inl (fA n (fD (alkS (kd j0) (pt j0) w n) n j2 n) far))), (m9, .inl (gI g, 10, .inl (fun z9 => nI (sb z9)))), (m10, .inl (gI g, 10, .inl (fun z9 => nI (sf z9)))), (m11, .inl (gI g, 10, .inl (fun z9 => nI (ss z9)))), (m12, .inl (gI g, 10, .inl (fun z9 => nI (sw z9)))), (m13, .inl (gI g, 256, .inl (fun z9 => nI (ways z9)))), (m14, .inl (gI g, 8, .inl (fun z9 => nI (chain z9)))), (m15, .inl (gI g, 5, .inl (fun z9 => nI (row z9)))), (m16, .inl (gI g, 5, .inl (fun z9 => nI (best z9))))] := by
                  intro k82
                  induction k82 using Nat.strongRecOn with
                  | _ k82 ih82 =>
                    intro k hm82 hk hb hd
                    have g9 : k < mm → _ := fun hkm => nxO_bhd (F := (alkS (kd j0) (pt j0) w n)) (n := n) (t := j2) (m := mm) (f := j1) (i := k) (far := fA n (fD (alkS (kd j0) (pt j0) w n) n j2 n) far) (by omega) (fun z hz => by rw [alkS_bit, decide_eq_true hz, alk_self]; rfl) (fun z y hz hy => by rw [alkS_bit, alkS_bit, decide_eq_true hz, decide_eq_true hy, alk_comm]) hmn hkm hb (fun z hz => fA_at hz) hd
                    refine v_iload6 h dX8_way_82 ?_
                    refine v_iload4 h dX8_way_84 ?_
                    refine v_icmp_geN h dX8_way_86 (tgt := 104) (by decide) (by omega) (by omega) (fun c86 => ?_) (fun c86 => ?_)
                    · obtain rfl : j3 = k := by omega
                      refine v_iload5 h dX8_way_104 ?_
                      exact v_iretP h hr dX8_way_106 (P_X8_way_mk (q := _) (by simp only [s_way, e5, e13, e21, if_neg g27, if_neg c66, tn_N hj3]; exact wy_some hmm (by omega) h33) ) rfl
                    · have g9 := g9 (by omega)
                      refine v_aload_n0 h dX8_way_89 ?_
                      refine v_iload_n1 h dX8_way_90 ?_
                      refine v_iload5 h dX8_way_91 ?_
                      refine cw_V_0_1_2_3_4_5_6_7_8_9_10_11_12_13_14_15_16_2_i (ci := 7) h (c_X8_nextOf (g := g) (by first | assumption | omega) (by first | assumption | omega) (by first | assumption | omega) (by first | assumption | omega)) lk_X8_130 ⟨rfl, rfl, (Nat.le_of_ble_eq_true rfl), (Nat.le_of_ble_eq_true rfl)⟩ rfl rfl rfl (Nat.le_of_ble_eq_true rfl) dX8_way_93 ?_
                      refine v_istore5 h (Nat.le_of_ble_eq_true rfl) dX8_way_96 ?_
                      refine v_iincN6 h (Nat.le_of_ble_eq_true rfl) dX8_way_98 ?_
                      refine v_goto h dX8_way_101 (tgt := 82) (by decide) ?_
                      exact vM.fg (ih82 _ (by omega) (k + 1) rfl (by first | assumption | rfl | omega) (by exact g9.2.1) (by exact g9.2.2)) ⟨rfl, rfl, rfl, rfl, rfl, (by rw [g9.1]), rfl, trivial⟩
                exact vM.fg (L82 _ 0 rfl (by first | assumption | rfl | omega) (by exact hj1) (by exact hfm)) ⟨rfl, rfl, rfl, rfl, rfl, rfl, rfl, trivial⟩
              · refine v_aload_n0 h dX8_way_69 ?_
                refine v_get h mw_X8 0 rfl rfl 13 (by decide) mf_X8_31 rfl dX8_way_70 ?_
                refine v_iload_n2 h dX8_way_73 ?_
                refine v_ialdF h 8 rfl (by omega) (Nat.le_of_ble_eq_true rfl) dX8_way_74 ?_
                exact v_iretP h hr dX8_way_75 (P_X8_way_mk (q := _) (by simp only [s_way, e5, e13, e21, if_neg g27, if_pos c66]; rw [fA_at hj1, hfe]) ) rfl
            · rw [fA_at hj1, hfm] at c57
              refine v_bipush h (v := -9) dX8_way_60 (by decide) ?_
              exact v_iretP h hr dX8_way_62 (P_X8_way_mk (q := _) (by simp only [s_way, e5, e13, e21, if_neg g27]; first | exact wy_none e46 | exact wy_far hmm (by omega) g27 c57) ) rfl
        · refine v_iconst h (v := -1) dX8_way_30 (by decide) ?_
          exact v_iretP h hr dX8_way_31 (P_X8_way_mk (q := _) (by simp only [s_way, e5, e13, e21, if_pos (Int32.not_le.mp c27)]) ) rfl
