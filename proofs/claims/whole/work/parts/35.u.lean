set_option maxRecDepth 20000 in
set_option maxHeartbeats 2000000 in
theorem c_X8_mayStand {g : vG} {m0 m1 m2 m3 m4 m5 m6 m7 m8 m9 m10 m11 m12 m13 m14 m15 m16 : Nat} {fl : Nat} {tr : Int32} {msrt : Nat → Int32} {len : Nat → Nat} {mc : Nat → Int32} {n : Nat} {w : Nat → Nat} {atp : Nat} {rt : Nat} {rwt : Nat → Nat} {hn : Nat} {kd : Nat → Nat} {pt : Nat → Nat} {far : Nat → Int32} {sn : Nat} {sb : Nat → Nat} {sf : Nat → Nat} {ss : Nat → Nat} {sw : Nat → Nat} {ways : Nat → Nat} {chain : Nat → Nat} {row : Nat → Nat} {best : Nat → Nat} {j : Nat} {a : Nat} {yq : Nat} (hT : wfT n w) (hH : wfH hn kd pt) (hj : j < hn) (ha : a < 2 ^ 8) (hy : yq < n) : Ct g yX8_mayStand cX8_mayStand 5 (some .boolean) (rmOf 3 68) [(m0, .inr (7, [.int (nI fl), .int tr, .ref m1, .ref m2, .ref m3, .int (nI n), .ref m4, .int (nI atp), .int (nI rt), .ref m5, .int (nI hn), .ref m6, .ref m7, .ref m8, .int (nI sn), .ref m9, .ref m10, .ref m11, .ref m12, .ref m13, .ref m14, .ref m15, .ref m16])), (m1, .inl (gI g, 4, .inl msrt)), (m2, .inl (gI g, 4, .inl (fun z9 => nI (len z9)))), (m3, .inl (gI g, 160, .inl mc)), (m4, .inl (gI g, 8, .inl (fun z9 => nI (w z9)))), (m5, .inl (gI g, 8, .inl (fun z9 => nI (rwt z9)))), (m6, .inl (gI g, 6, .inl (fun z9 => nI (kd z9)))), (m7, .inl (gI g, 6, .inl (fun z9 => nI (pt z9)))), (m8, .inl (gI g, 8, .inl far)), (m9, .inl (gI g, 10, .inl (fun z9 => nI (sb z9)))), (m10, .inl (gI g, 10, .inl (fun z9 => nI (sf z9)))), (m11, .inl (gI g, 10, .inl (fun z9 => nI (ss z9)))), (m12, .inl (gI g, 10, .inl (fun z9 => nI (sw z9)))), (m13, .inl (gI g, 256, .inl (fun z9 => nI (ways z9)))), (m14, .inl (gI g, 8, .inl (fun z9 => nI (chain z9)))), (m15, .inl (gI g, 5, .inl (fun z9 => nI (row z9)))), (m16, .inl (gI g, 5, .inl (fun z9 => nI (best z9))))] [.ref m0, .int (nI j), .int (nI a), .int (nI yq)] (some (.int (nI (bN (!a.testBit yq && decide (sdiff (ligS (kd j) (pt j) w n yq) a = 0)))))) [(m0, .inr (7, [.int (nI fl), .int tr, .ref m1, .ref m2, .ref m3, .int (nI n), .ref m4, .int (nI atp), .int (nI rt), .ref m5, .int (nI hn), .ref m6, .ref m7, .ref m8, .int (nI sn), .ref m9, .ref m10, .ref m11, .ref m12, .ref m13, .ref m14, .ref m15, .ref m16])), (m1, .inl (gI g, 4, .inl msrt)), (m2, .inl (gI g, 4, .inl (fun z9 => nI (len z9)))), (m3, .inl (gI g, 160, .inl mc)), (m4, .inl (gI g, 8, .inl (fun z9 => nI (w z9)))), (m5, .inl (gI g, 8, .inl (fun z9 => nI (rwt z9)))), (m6, .inl (gI g, 6, .inl (fun z9 => nI (kd z9)))), (m7, .inl (gI g, 6, .inl (fun z9 => nI (pt z9)))), (m8, .inl (gI g, 8, .inl far)), (m9, .inl (gI g, 10, .inl (fun z9 => nI (sb z9)))), (m10, .inl (gI g, 10, .inl (fun z9 => nI (sf z9)))), (m11, .inl (gI g, 10, .inl (fun z9 => nI (ss z9)))), (m12, .inl (gI g, 10, .inl (fun z9 => nI (sw z9)))), (m13, .inl (gI g, 256, .inl (fun z9 => nI (ways z9)))), (m14, .inl (gI g, 8, .inl (fun z9 => nI (chain z9)))), (m15, .inl (gI g, 5, .inl (fun z9 => nI (row z9)))), (m16, .inl (gI g, 5, .inl (fun z9 => nI (best z9))))] := by
  refine Ct.ofV RX8 rfl (by decide +kernel) rfl rfl rfl (Nat.le_of_ble_eq_true rfl) (List.forall_mem_cons.mpr ⟨rfl, (List.forall_mem_cons.mpr ⟨rfl, (List.forall_mem_cons.mpr ⟨rfl, (List.forall_mem_cons.mpr ⟨rfl, (fun _ h9 => absurd h9 List.not_mem_nil)⟩)⟩)⟩)⟩) (fun x h hr => ?_)
  show vM x 0 [some (.ref m0), some (.int (nI j)), some (.int (nI a)), some (.int (nI yq)), none] [] [(m0, .inr (7, [.int (nI fl), .int tr, .ref m1, .ref m2, .ref m3, .int (nI n), .ref m4, .int (nI atp), .int (nI rt), .ref m5, .int (nI hn), .ref m6, .ref m7, .ref m8, .int (nI sn), .ref m9, .ref m10, .ref m11, .ref m12, .ref m13, .ref m14, .ref m15, .ref m16])), (m1, .inl (gI g, 4, .inl msrt)), (m2, .inl (gI g, 4, .inl (fun z9 => nI (len z9)))), (m3, .inl (gI g, 160, .inl mc)), (m4, .inl (gI g, 8, .inl (fun z9 => nI (w z9)))), (m5, .inl (gI g, 8, .inl (fun z9 => nI (rwt z9)))), (m6, .inl (gI g, 6, .inl (fun z9 => nI (kd z9)))), (m7, .inl (gI g, 6, .inl (fun z9 => nI (pt z9)))), (m8, .inl (gI g, 8, .inl far)), (m9, .inl (gI g, 10, .inl (fun z9 => nI (sb z9)))), (m10, .inl (gI g, 10, .inl (fun z9 => nI (sf z9)))), (m11, .inl (gI g, 10, .inl (fun z9 => nI (ss z9)))), (m12, .inl (gI g, 10, .inl (fun z9 => nI (sw z9)))), (m13, .inl (gI g, 256, .inl (fun z9 => nI (ways z9)))), (m14, .inl (gI g, 8, .inl (fun z9 => nI (chain z9)))), (m15, .inl (gI g, 5, .inl (fun z9 => nI (row z9)))), (m16, .inl (gI g, 5, .inl (fun z9 => nI (best z9))))]
  have ht1 := hT.1; have ht2 := hT.2.1; have ht3 := hT.2.2
  refine v_iload_n2 h dX8_mayStand_0 ?_
  refine v_iload_n3 h dX8_mayStand_1 ?_
  refine v_ishrN h dX8_mayStand_2 (by omega) (by omega) ?_
  refine v_iconst h (v := nI 1) dX8_mayStand_3 (by decide) ?_
  refine v_iandN h dX8_mayStand_4 ?_
  refine v_iconst h (v := nI 1) dX8_mayStand_5 (by decide) ?_
  refine v_icmp_neN h dX8_mayStand_6 (tgt := 11) (by decide) (by first | exact and1_lt _ | decide) (by first | exact and1_lt _ | decide) (fun c6 => ?_) (fun c6 => ?_)
  · refine v_iconst h (v := nI 0) dX8_mayStand_11 (by decide) ?_
    refine v_istore4 h (Nat.le_of_ble_eq_true rfl) dX8_mayStand_12 ?_
    have L14 : ∀ (k14 : Nat) (i : Nat), n - i = k14 → (i ≤ n) → (∀ z, z < i → a.testBit z = true ∨ tls (kd j) (pt j) (w yq) (w z) = false) → vM x 14 [some (.ref m0), some (.int (nI j)), some (.int (nI a)), some (.int (nI yq)), some (.int (nI i))] [] [(m0, .inr (7, [.int (nI fl), .int tr, .ref m1, .ref m2, .ref m3, .int (nI n), .ref m4, .int (nI atp), .int (nI rt), .ref m5, .int (nI hn), .ref m6, .ref m7, .ref m8, .int (nI sn), .ref m9, .ref m10, .ref m11, .ref m12, .ref m13, .ref m14, .ref m15, .ref m16])), (m1, .inl (gI g, 4, .inl msrt)), (m2, .inl (gI g, 4, .inl (fun z9 => nI (len z9)))), (m3, .inl (gI g, 160, .inl mc)), (m4, .inl (gI g, 8, .inl (fun z9 => nI (w z9)))), (m5, .inl (gI g, 8, .inl (fun z9 => nI (rwt z9)))), (m6, .inl (gI g, 6, .inl (fun z9 => nI (kd z9)))), (m7, .inl (gI g, 6, .inl (fun z9 => nI (pt z9)))), (m8, .inl (gI g, 8, .inl far)), (m9, .inl (gI g, 10, .inl (fun z9 => nI (sb z9)))), (m10, .inl (gI g, 10, .inl (fun z9 => nI (sf z9)))), (m11, .inl (gI g, 10, .inl (fun z9 => nI (ss z9)))), (m12, .inl (gI g, 10, .inl (fun z9 => nI (sw z9)))), (m13, .inl (gI g, 256, .inl (fun z9 => nI (ways z9)))), (m14, .inl (gI g, 8, .inl (fun z9 => nI (chain z9)))), (m15, .inl (gI g, 5, .inl (fun z9 => nI (row z9)))), (m16, .inl (gI g, 5, .inl (fun z9 => nI (best z9))))] := by
      intro k14
      induction k14 using Nat.strongRecOn with
      | _ k14 ih14 =>
        intro i hm14 hi h1
        refine v_iload4 h dX8_mayStand_14 ?_
        refine v_aload_n0 h dX8_mayStand_16 ?_
        refine v_get h mw_X8 0 rfl rfl 5 (by decide) mf_X8_68 rfl dX8_mayStand_17 ?_
        refine v_icmp_geN h dX8_mayStand_20 (tgt := 51) (by decide) (by omega) (by omega) (fun c20 => ?_) (fun c20 => ?_)
        · refine v_iconst h (v := nI 1) dX8_mayStand_51 (by decide) ?_
          exact v_zret (v := true) h hr dX8_mayStand_52 (by obtain rfl : n = i := (by omega); rw [testBit_no c6, decide_eq_true (st_t h1)]; rfl) rfl
        · refine v_iload_n2 h dX8_mayStand_23 ?_
          refine v_iload4 h dX8_mayStand_24 ?_
          refine v_ishrN h dX8_mayStand_26 (by omega) (by omega) ?_
          refine v_iconst h (v := nI 1) dX8_mayStand_27 (by decide) ?_
          refine v_iandN h dX8_mayStand_28 ?_
          refine v_if_neN h dX8_mayStand_29 (tgt := 45) (by decide) (by exact and1_lt _) (fun c29 => ?_) (fun c29 => ?_)
          · have g9 : a.testBit i = true ∨ tls (kd j) (pt j) (w yq) (w i) = false := Or.inl (bit0_t c29)
            refine v_iincN4 h (Nat.le_of_ble_eq_true rfl) dX8_mayStand_45 ?_
            refine v_goto h dX8_mayStand_48 (tgt := 14) (by decide) ?_
            exact vM.fg (ih14 _ (by omega) (i + 1) rfl (by first | assumption | rfl | omega) (by exact fun z hz => by rcases Nat.lt_or_ge z i with q | q; (· exact h1 z q); (· rw [show z = i by omega]; exact g9))) ⟨rfl, rfl, rfl, rfl, rfl, trivial⟩
          · refine v_aload_n0 h dX8_mayStand_32 ?_
            refine v_iload_n1 h dX8_mayStand_33 ?_
            refine v_iload_n3 h dX8_mayStand_34 ?_
            refine v_iload4 h dX8_mayStand_35 ?_
            refine cw_V_0_1_2_3_4_5_6_7_8_9_10_11_12_13_14_15_16_3_i (ci := 7) h (c_X8_tellsThem (g := g) (by first | assumption | omega) (by first | assumption | omega) (by first | assumption | omega) (by first | assumption | omega) (by first | assumption | omega)) lk_X8_116 ⟨rfl, rfl, (Nat.le_of_ble_eq_true rfl), (Nat.le_of_ble_eq_true rfl)⟩ rfl rfl rfl (Nat.le_of_ble_eq_true rfl) dX8_mayStand_37 ?_
            refine v_if_eqB h dX8_mayStand_40 (tgt := 45) (by decide) (fun c40 => ?_) (fun c40 => ?_)
            · have g9 : a.testBit i = true ∨ tls (kd j) (pt j) (w yq) (w i) = false := Or.inr c40
              refine v_iincN4 h (Nat.le_of_ble_eq_true rfl) dX8_mayStand_45 ?_
              refine v_goto h dX8_mayStand_48 (tgt := 14) (by decide) ?_
              exact vM.fg (ih14 _ (by omega) (i + 1) rfl (by first | assumption | rfl | omega) (by exact fun z hz => by rcases Nat.lt_or_ge z i with q | q; (· exact h1 z q); (· rw [show z = i by omega]; exact g9))) ⟨rfl, rfl, rfl, rfl, rfl, trivial⟩
            · refine v_iconst h (v := nI 0) dX8_mayStand_43 (by decide) ?_
              exact v_zret (v := false) h hr dX8_mayStand_44 (by rw [testBit_no c6, decide_eq_false (st_f (show i < n by omega) (bit0_no c29) c40)]; rfl) rfl
    exact vM.fg (L14 _ 0 rfl (by first | assumption | rfl | omega) (by exact fun z hz => by omega)) ⟨rfl, rfl, rfl, rfl, rfl, trivial⟩
  · refine v_iconst h (v := nI 0) dX8_mayStand_9 (by decide) ?_
    exact v_zret (v := false) h hr dX8_mayStand_10 (by rw [testBit_of c6]; rfl) rfl
