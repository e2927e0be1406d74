set_option maxRecDepth 20000 in
set_option maxHeartbeats 2000000 in
theorem c_X8_nextOf {g : vG} {m0 m1 m2 m3 m4 m5 m6 m7 m8 m9 m10 m11 m12 m13 m14 m15 m16 : Nat} {fl : Nat} {tr : Int32} {msrt : Nat → Int32} {len : Nat → Nat} {mc : Nat → Int32} {n : Nat} {w : Nat → Nat} {atp : Nat} {rt : Nat} {rwt : Nat → Nat} {hn : Nat} {kd : Nat → Nat} {pt : Nat → Nat} {far : Nat → Int32} {sn : Nat} {sb : Nat → Nat} {sf : Nat → Nat} {ss : Nat → Nat} {sw : Nat → Nat} {ways : Nat → Nat} {chain : Nat → Nat} {row : Nat → Nat} {best : Nat → Nat} {j : Nat} {xq : Nat} (hT : wfT n w) (hH : wfH hn kd pt) (hj : j < hn) (hx : xq < n) : Ct g yX8_nextOf cX8_nextOf 4 (some .int) (rmOf 4 91) [(m0, .inr (7, [.int (nI fl), .int tr, .ref m1, .ref m2, .ref m3, .int (nI n), .ref m4, .int (nI atp), .int (nI rt), .ref m5, .int (nI hn), .ref m6, .ref m7, .ref m8, .int (nI sn), .ref m9, .ref m10, .ref m11, .ref m12, .ref m13, .ref m14, .ref m15, .ref m16])), (m1, .inl (gI g, 4, .inl msrt)), (m2, .inl (gI g, 4, .inl (fun z9 => nI (len z9)))), (m3, .inl (gI g, 160, .inl mc)), (m4, .inl (gI g, 8, .inl (fun z9 => nI (w z9)))), (m5, .inl (gI g, 8, .inl (fun z9 => nI (rwt z9)))), (m6, .inl (gI g, 6, .inl (fun z9 => nI (kd z9)))), (m7, .inl (gI g, 6, .inl (fun z9 => nI (pt z9)))), (m8, .inl (gI g, 8, .inl far)), (m9, .inl (gI g, 10, .inl (fun z9 => nI (sb z9)))), (m10, .inl (gI g, 10, .inl (fun z9 => nI (sf z9)))), (m11, .inl (gI g, 10, .inl (fun z9 => nI (ss z9)))), (m12, .inl (gI g, 10, .inl (fun z9 => nI (sw z9)))), (m13, .inl (gI g, 256, .inl (fun z9 => nI (ways z9)))), (m14, .inl (gI g, 8, .inl (fun z9 => nI (chain z9)))), (m15, .inl (gI g, 5, .inl (fun z9 => nI (row z9)))), (m16, .inl (gI g, 5, .inl (fun z9 => nI (best z9))))] [.ref m0, .int (nI j), .int (nI xq)] (some (.int (nI (nxO (alkS (kd j) (pt j) w n) n far xq)))) [(m0, .inr (7, [.int (nI fl), .int tr, .ref m1, .ref m2, .ref m3, .int (nI n), .ref m4, .int (nI atp), .int (nI rt), .ref m5, .int (nI hn), .ref m6, .ref m7, .ref m8, .int (nI sn), .ref m9, .ref m10, .ref m11, .ref m12, .ref m13, .ref m14, .ref m15, .ref m16])), (m1, .inl (gI g, 4, .inl msrt)), (m2, .inl (gI g, 4, .inl (fun z9 => nI (len z9)))), (m3, .inl (gI g, 160, .inl mc)), (m4, .inl (gI g, 8, .inl (fun z9 => nI (w z9)))), (m5, .inl (gI g, 8, .inl (fun z9 => nI (rwt z9)))), (m6, .inl (gI g, 6, .inl (fun z9 => nI (kd z9)))), (m7, .inl (gI g, 6, .inl (fun z9 => nI (pt z9)))), (m8, .inl (gI g, 8, .inl far)), (m9, .inl (gI g, 10, .inl (fun z9 => nI (sb z9)))), (m10, .inl (gI g, 10, .inl (fun z9 => nI (sf z9)))), (m11, .inl (gI g, 10, .inl (fun z9 => nI (ss z9)))), (m12, .inl (gI g, 10, .inl (fun z9 => nI (sw z9)))), (m13, .inl (gI g, 256, .inl (fun z9 => nI (ways z9)))), (m14, .inl (gI g, 8, .inl (fun z9 => nI (chain z9)))), (m15, .inl (gI g, 5, .inl (fun z9 => nI (row z9)))), (m16, .inl (gI g, 5, .inl (fun z9 => nI (best z9))))] := by
  refine Ct.ofV RX8 rfl (by decide +kernel) rfl rfl rfl (Nat.le_of_ble_eq_true rfl) (List.forall_mem_cons.mpr ⟨rfl, (List.forall_mem_cons.mpr ⟨rfl, (List.forall_mem_cons.mpr ⟨rfl, (fun _ h9 => absurd h9 List.not_mem_nil)⟩)⟩)⟩) (fun x h hr => ?_)
  show vM x 0 [some (.ref m0), some (.int (nI j)), some (.int (nI xq)), none] [] [(m0, .inr (7, [.int (nI fl), .int tr, .ref m1, .ref m2, .ref m3, .int (nI n), .ref m4, .int (nI atp), .int (nI rt), .ref m5, .int (nI hn), .ref m6, .ref m7, .ref m8, .int (nI sn), .ref m9, .ref m10, .ref m11, .ref m12, .ref m13, .ref m14, .ref m15, .ref m16])), (m1, .inl (gI g, 4, .inl msrt)), (m2, .inl (gI g, 4, .inl (fun z9 => nI (len z9)))), (m3, .inl (gI g, 160, .inl mc)), (m4, .inl (gI g, 8, .inl (fun z9 => nI (w z9)))), (m5, .inl (gI g, 8, .inl (fun z9 => nI (rwt z9)))), (m6, .inl (gI g, 6, .inl (fun z9 => nI (kd z9)))), (m7, .inl (gI g, 6, .inl (fun z9 => nI (pt z9)))), (m8, .inl (gI g, 8, .inl far)), (m9, .inl (gI g, 10, .inl (fun z9 => nI (sb z9)))), (m10, .inl (gI g, 10, .inl (fun z9 => nI (sf z9)))), (m11, .inl (gI g, 10, .inl (fun z9 => nI (ss z9)))), (m12, .inl (gI g, 10, .inl (fun z9 => nI (sw z9)))), (m13, .inl (gI g, 256, .inl (fun z9 => nI (ways z9)))), (m14, .inl (gI g, 8, .inl (fun z9 => nI (chain z9)))), (m15, .inl (gI g, 5, .inl (fun z9 => nI (row z9)))), (m16, .inl (gI g, 5, .inl (fun z9 => nI (best z9))))]
  have ht1 := hT.1; have ht2 := hT.2.1; have ht3 := hT.2.2
  refine v_iconst h (v := nI 0) dX8_nextOf_0 (by decide) ?_
  refine v_istore_n3 h (Nat.le_of_ble_eq_true rfl) dX8_nextOf_1 ?_
  have L2 : ∀ (k2 : Nat) (i : Nat), n - i = k2 → (i ≤ n) → (∀ z, z < i → (decide (far z = far xq - nI 1) && ((alkS (kd j) (pt j) w n) xq).testBit z) = false) → vM x 2 [some (.ref m0), some (.int (nI j)), some (.int (nI xq)), some (.int (nI i))] [] [(m0, .inr (7, [.int (nI fl), .int tr, .ref m1, .ref m2, .ref m3, .int (nI n), .ref m4, .int (nI atp), .int (nI rt), .ref m5, .int (nI hn), .ref m6, .ref m7, .ref m8, .int (nI sn), .ref m9, .ref m10, .ref m11, .ref m12, .ref m13, .ref m14, .ref m15, .ref m16])), (m1, .inl (gI g, 4, .inl msrt)), (m2, .inl (gI g, 4, .inl (fun z9 => nI (len z9)))), (m3, .inl (gI g, 160, .inl mc)), (m4, .inl (gI g, 8, .inl (fun z9 => nI (w z9)))), (m5, .inl (gI g, 8, .inl (fun z9 => nI (rwt z9)))), (m6, .inl (gI g, 6, .inl (fun z9 => nI (kd z9)))), (m7, .inl (gI g, 6, .inl (fun z9 => nI (pt z9)))), (m8, .inl (gI g, 8, .inl far)), (m9, .inl (gI g, 10, .inl (fun z9 => nI (sb z9)))), (m10, .inl (gI g, 10, .inl (fun z9 => nI (sf z9)))), (m11, .inl (gI g, 10, .inl (fun z9 => nI (ss z9)))), (m12, .inl (gI g, 10, .inl (fun z9 => nI (sw z9)))), (m13, .inl (gI g, 256, .inl (fun z9 => nI (ways z9)))), (m14, .inl (gI g, 8, .inl (fun z9 => nI (chain z9)))), (m15, .inl (gI g, 5, .inl (fun z9 => nI (row z9)))), (m16, .inl (gI g, 5, .inl (fun z9 => nI (best z9))))] := by
    intro k2
    induction k2 using Nat.strongRecOn with
    | _ k2 ih2 =>
      intro i hm2 hi h1
      refine v_iload_n3 h dX8_nextOf_2 ?_
      refine v_aload_n0 h dX8_nextOf_3 ?_
      refine v_get h mw_X8 0 rfl rfl 5 (by decide) mf_X8_68 rfl dX8_nextOf_4 ?_
      refine v_icmp_geN h dX8_nextOf_7 (tgt := 45) (by decide) (by omega) (by omega) (fun c7 => ?_) (fun c7 => ?_)
      · refine v_iload_n2 h dX8_nextOf_45 ?_
        exact v_iret h hr dX8_nextOf_46 (by obtain rfl : n = i := (by omega); rw [nxO_f h1]) rfl
      · refine v_aload_n0 h dX8_nextOf_10 ?_
        refine v_get h mw_X8 0 rfl rfl 13 (by decide) mf_X8_31 rfl dX8_nextOf_11 ?_
        refine v_iload_n3 h dX8_nextOf_14 ?_
        refine v_ialdF h 8 rfl (by omega) (Nat.le_of_ble_eq_true rfl) dX8_nextOf_15 ?_
        refine v_aload_n0 h dX8_nextOf_16 ?_
        refine v_get h mw_X8 0 rfl rfl 13 (by decide) mf_X8_31 rfl dX8_nextOf_17 ?_
        refine v_iload_n2 h dX8_nextOf_20 ?_
        refine v_ialdF h 8 rfl (by omega) (Nat.le_of_ble_eq_true rfl) dX8_nextOf_21 ?_
        refine v_iconst h (v := nI 1) dX8_nextOf_22 (by decide) ?_
        refine v_isub h dX8_nextOf_23 ?_
        refine v_icmp_ne h dX8_nextOf_24 (tgt := 39) (by decide) (fun c24 => ?_) (fun c24 => ?_)
        · have g9 : (decide (far i = far xq - nI 1) && ((alkS (kd j) (pt j) w n) xq).testBit i) = false := by rw [decide_eq_false c24]; rfl
          refine v_iincN3 h (Nat.le_of_ble_eq_true rfl) dX8_nextOf_39 ?_
          refine v_goto h dX8_nextOf_42 (tgt := 2) (by decide) ?_
          exact vM.fg (ih2 _ (by omega) (i + 1) rfl (by first | assumption | rfl | omega) (by exact fun z hz => by rcases Nat.lt_or_ge z i with q | q; (· exact h1 z q); (· rw [show z = i by omega]; exact g9))) ⟨rfl, rfl, rfl, rfl, trivial⟩
        · refine v_aload_n0 h dX8_nextOf_27 ?_
          refine v_iload_n1 h dX8_nextOf_28 ?_
          refine v_iload_n2 h dX8_nextOf_29 ?_
          refine v_iload_n3 h dX8_nextOf_30 ?_
          refine cw_V_0_1_2_3_4_5_6_7_8_9_10_11_12_13_14_15_16_3_i (ci := 7) h (c_X8_areAlike (g := g) (by first | assumption | omega) (by first | assumption | omega) (by first | assumption | omega) (by first | assumption | omega) (by first | assumption | omega)) lk_X8_119 ⟨rfl, rfl, (Nat.le_of_ble_eq_true rfl), (Nat.le_of_ble_eq_true rfl)⟩ rfl rfl rfl (Nat.le_of_ble_eq_true rfl) dX8_nextOf_31 ?_
          refine v_if_eqB h dX8_nextOf_34 (tgt := 39) (by decide) (fun c34 => ?_) (fun c34 => ?_)
          · have g9 : (decide (far i = far xq - nI 1) && ((alkS (kd j) (pt j) w n) xq).testBit i) = false := by rw [alkS_bit, c34, Bool.and_false, Bool.and_false]
            refine v_iincN3 h (Nat.le_of_ble_eq_true rfl) dX8_nextOf_39 ?_
            refine v_goto h dX8_nextOf_42 (tgt := 2) (by decide) ?_
            exact vM.fg (ih2 _ (by omega) (i + 1) rfl (by first | assumption | rfl | omega) (by exact fun z hz => by rcases Nat.lt_or_ge z i with q | q; (· exact h1 z q); (· rw [show z = i by omega]; exact g9))) ⟨rfl, rfl, rfl, rfl, trivial⟩
          · refine v_iload_n3 h dX8_nextOf_37 ?_
            exact v_iret h hr dX8_nextOf_38 (by rw [nxO_t (show i < n by omega) h1 (by rw [decide_eq_true c24, alkS_bit, decide_eq_true (show i < n by omega), c34]; rfl)]) rfl
  exact vM.fg (L2 _ 0 rfl (by first | assumption | rfl | omega) (by exact fun z hz => by omega)) ⟨rfl, rfl, rfl, rfl, trivial⟩
