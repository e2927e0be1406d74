theorem lk_X8_146 : LkV RX8 146 yX8_mayStand cX8_mayStand 5 (some .boolean) 3 := ⟨ml_X8_146, mn_X8_mayStand, mv_X8_mayStand, mi_X8, mc_X8_mayStand, ⟨by decide, by decide, by decide +kernel⟩⟩
theorem v_iastN_at13 {x : vX} {g : vG} {cc : ByteArray} {own : String} {rm : Room} {nL pc : Nat} {lv : List (Option Value)} {st : List Value} {w0 w1 w2 w3 w4 w5 w6 w7 w8 w9 w10 w11 w12 : Nat × va_E} {wt : va_W} {n b i v : Nat} {w : Nat → Nat} (h : Ok x g cc own rm nL) (hi : i < n) (hn : n < 2 ^ 31) (hd : decode cc pc = .ok (.iastore, 1)) (k : vM x (pc + 1) lv st (w0 :: w1 :: w2 :: w3 :: w4 :: w5 :: w6 :: w7 :: w8 :: w9 :: w10 :: w11 :: w12 :: (b, .inl (gI g, n, .inl (fun j => nI (up w i v j)))) :: wt)) : vM x pc lv (.int (nI v) :: .int (nI i) :: .ref b :: st) (w0 :: w1 :: w2 :: w3 :: w4 :: w5 :: w6 :: w7 :: w8 :: w9 :: w10 :: w11 :: w12 :: (b, .inl (gI g, n, .inl (fun j => nI (w j)))) :: wt) := v_iastN h 13 rfl hi hn hd rfl k
theorem lk_X8_143 : LkV RX8 143 yX8_inFirstRow cX8_inFirstRow 6 (some .int) 2 := ⟨ml_X8_143, mn_X8_inFirstRow, mv_X8_inFirstRow, mi_X8, mc_X8_inFirstRow, ⟨by decide, by decide, by decide +kernel⟩⟩
set_option maxRecDepth 20000 in
set_option maxHeartbeats 2000000 in
theorem c_X8_inFirstRow {g : vG} {m0 m1 m2 m3 m4 m5 m6 m7 m8 m9 m10 m11 m12 m13 m14 m15 m16 : Nat} {fl : Nat} {tr : Int32} {msrt : Nat → Int32} {len : Nat → Nat} {mc : Nat → Int32} {n : Nat} {w : Nat → Nat} {atp : Nat} {rt : Nat} {rwt : Nat → Nat} {hn : Nat} {kd : Nat → Nat} {pt : Nat → Nat} {far : Nat → Int32} {sn : Nat} {sb : Nat → Nat} {sf : Nat → Nat} {ss : Nat → Nat} {sw : Nat → Nat} {ways : Nat → Nat} {chain : Nat → Nat} {row : Nat → Nat} {best : Nat → Nat} {j : Nat} {qx : Nat} (hT : wfT n w) (hH : wfH hn kd pt) (hj : j < hn) (hq : qx < n) : Ct g yX8_inFirstRow cX8_inFirstRow 6 (some .int) (rmOf 4 92) [(m0, .inr (7, [.int (nI fl), .int tr, .ref m1, .ref m2, .ref m3, .int (nI n), .ref m4, .int (nI atp), .int (nI rt), .ref m5, .int (nI hn), .ref m6, .ref m7, .ref m8, .int (nI sn), .ref m9, .ref m10, .ref m11, .ref m12, .ref m13, .ref m14, .ref m15, .ref m16])), (m1, .inl (gI g, 4, .inl msrt)), (m2, .inl (gI g, 4, .inl (fun z9 => nI (len z9)))), (m3, .inl (gI g, 160, .inl mc)), (m4, .inl (gI g, 8, .inl (fun z9 => nI (w z9)))), (m5, .inl (gI g, 8, .inl (fun z9 => nI (rwt z9)))), (m6, .inl (gI g, 6, .inl (fun z9 => nI (kd z9)))), (m7, .inl (gI g, 6, .inl (fun z9 => nI (pt z9)))), (m8, .inl (gI g, 8, .inl far)), (m9, .inl (gI g, 10, .inl (fun z9 => nI (sb z9)))), (m10, .inl (gI g, 10, .inl (fun z9 => nI (sf z9)))), (m11, .inl (gI g, 10, .inl (fun z9 => nI (ss z9)))), (m12, .inl (gI g, 10, .inl (fun z9 => nI (sw z9)))), (m13, .inl (gI g, 256, .inl (fun z9 => nI (ways z9)))), (m14, .inl (gI g, 8, .inl (fun z9 => nI (chain z9)))), (m15, .inl (gI g, 5, .inl (fun z9 => nI (row z9)))), (m16, .inl (gI g, 5, .inl (fun z9 => nI (best z9))))] [.ref m0, .int (nI j), .int (nI qx)] (some (.int (nxtK (ligS (kd j) (pt j) w n) n (qx + 1)))) [(m0, .inr (7, [.int (nI fl), .int tr, .ref m1, .ref m2, .ref m3, .int (nI n), .ref m4, .int (nI atp), .int (nI rt), .ref m5, .int (nI hn), .ref m6, .ref m7, .ref m8, .int (nI sn), .ref m9, .ref m10, .ref m11, .ref m12, .ref m13, .ref m14, .ref m15, .ref m16])), (m1, .inl (gI g, 4, .inl msrt)), (m2, .inl (gI g, 4, .inl (fun z9 => nI (len z9)))), (m3, .inl (gI g, 160, .inl mc)), (m4, .inl (gI g, 8, .inl (fun z9 => nI (w z9)))), (m5, .inl (gI g, 8, .inl (fun z9 => nI (rwt z9)))), (m6, .inl (gI g, 6, .inl (fun z9 => nI (kd z9)))), (m7, .inl (gI g, 6, .inl (fun z9 => nI (pt z9)))), (m8, .inl (gI g, 8, .inl far)), (m9, .inl (gI g, 10, .inl (fun z9 => nI (sb z9)))), (m10, .inl (gI g, 10, .inl (fun z9 => nI (sf z9)))), (m11, .inl (gI g, 10, .inl (fun z9 => nI (ss z9)))), (m12, .inl (gI g, 10, .inl (fun z9 => nI (sw z9)))), (m13, .inl (gI g, 256, .inl (fun z9 => nI (ways z9)))), (m14, .inl (gI g, 8, .inl (fun z9 => nI (chain z9)))), (m15, .inl (gI g, 5, .inl (fun z9 => nI (row z9)))), (m16, .inl (gI g, 5, .inl (fun z9 => nI (best z9))))] := by
  refine Ct.ofV RX8 rfl (by decide +kernel) rfl rfl rfl (Nat.le_of_ble_eq_true rfl) (List.forall_mem_cons.mpr ⟨rfl, (List.forall_mem_cons.mpr ⟨rfl, (List.forall_mem_cons.mpr ⟨rfl, (fun _ h9 => absurd h9 List.not_mem_nil)⟩)⟩)⟩) (fun x h hr => ?_)
  show vM x 0 [some (.ref m0), some (.int (nI j)), some (.int (nI qx)), none, none, none] [] [(m0, .inr (7, [.int (nI fl), .int tr, .ref m1, .ref m2, .ref m3, .int (nI n), .ref m4, .int (nI atp), .int (nI rt), .ref m5, .int (nI hn), .ref m6, .ref m7, .ref m8, .int (nI sn), .ref m9, .ref m10, .ref m11, .ref m12, .ref m13, .ref m14, .ref m15, .ref m16])), (m1, .inl (gI g, 4, .inl msrt)), (m2, .inl (gI g, 4, .inl (fun z9 => nI (len z9)))), (m3, .inl (gI g, 160, .inl mc)), (m4, .inl (gI g, 8, .inl (fun z9 => nI (w z9)))), (m5, .inl (gI g, 8, .inl (fun z9 => nI (rwt z9)))), (m6, .inl (gI g, 6, .inl (fun z9 => nI (kd z9)))), (m7, .inl (gI g, 6, .inl (fun z9 => nI (pt z9)))), (m8, .inl (gI g, 8, .inl far)), (m9, .inl (gI g, 10, .inl (fun z9 => nI (sb z9)))), (m10, .inl (gI g, 10, .inl (fun z9 => nI (sf z9)))), (m11, .inl (gI g, 10, .inl (fun z9 => nI (ss z9)))), (m12, .inl (gI g, 10, .inl (fun z9 => nI (sw z9)))), (m13, .inl (gI g, 256, .inl (fun z9 => nI (ways z9)))), (m14, .inl (gI g, 8, .inl (fun z9 => nI (chain z9)))), (m15, .inl (gI g, 5, .inl (fun z9 => nI (row z9)))), (m16, .inl (gI g, 5, .inl (fun z9 => nI (best z9))))]
  have ht1 := hT.1; have ht2 := hT.2.1; have ht3 := hT.2.2
  refine v_iconst h (v := nI 0) dX8_inFirstRow_0 (by decide) ?_
  refine v_istore_n3 h (Nat.le_of_ble_eq_true rfl) dX8_inFirstRow_1 ?_
  refine v_iconst h (v := nI 0) dX8_inFirstRow_2 (by decide) ?_
  refine v_istore4 h (Nat.le_of_ble_eq_true rfl) dX8_inFirstRow_3 ?_
  refine v_iconst h (v := nI 0) dX8_inFirstRow_5 (by decide) ?_
  refine v_istore5 h (Nat.le_of_ble_eq_true rfl) dX8_inFirstRow_6 ?_
  have L8 : ∀ (k8 : Nat) (k : Nat), qx + 1 - k = k8 → (k ≤ qx + 1) → vM x 8 [some (.ref m0), some (.int (nI j)), some (.int (nI qx)), some (.int (nI (laidK (ligS (kd j) (pt j) w n) n k))), some (.int (fr4 (ligS (kd j) (pt j) w n) n k)), some (.int (nI k))] [] [(m0, .inr (7, [.int (nI fl), .int tr, .ref m1, .ref m2, .ref m3, .int (nI n), .ref m4, .int (nI atp), .int (nI rt), .ref m5, .int (nI hn), .ref m6, .ref m7, .ref m8, .int (nI sn), .ref m9, .ref m10, .ref m11, .ref m12, .ref m13, .ref m14, .ref m15, .ref m16])), (m1, .inl (gI g, 4, .inl msrt)), (m2, .inl (gI g, 4, .inl (fun z9 => nI (len z9)))), (m3, .inl (gI g, 160, .inl mc)), (m4, .inl (gI g, 8, .inl (fun z9 => nI (w z9)))), (m5, .inl (gI g, 8, .inl (fun z9 => nI (rwt z9)))), (m6, .inl (gI g, 6, .inl (fun z9 => nI (kd z9)))), (m7, .inl (gI g, 6, .inl (fun z9 => nI (pt z9)))), (m8, .inl (gI g, 8, .inl far)), (m9, .inl (gI g, 10, .inl (fun z9 => nI (sb z9)))), (m10, .inl (gI g, 10, .inl (fun z9 => nI (sf z9)))), (m11, .inl (gI g, 10, .inl (fun z9 => nI (ss z9)))), (m12, .inl (gI g, 10, .inl (fun z9 => nI (sw z9)))), (m13, .inl (gI g, 256, .inl (fun z9 => nI (ways z9)))), (m14, .inl (gI g, 8, .inl (fun z9 => nI (chain z9)))), (m15, .inl (gI g, 5, .inl (fun z9 => nI (row z9)))), (m16, .inl (gI g, 5, .inl (fun z9 => nI (best z9))))] := by
    intro k8
    induction k8 using Nat.strongRecOn with
    | _ k8 ih8 =>
      intro k hm8 hk
      refine v_iload5 h dX8_inFirstRow_8 ?_
      refine v_iload_n2 h dX8_inFirstRow_10 ?_
      refine v_icmp_gtN h dX8_inFirstRow_11 (tgt := 47) (by decide) (by omega) (by omega) (fun c11 => ?_) (fun c11 => ?_)
      · obtain rfl : k = qx + 1 := by omega
        refine v_iload4 h dX8_inFirstRow_47 ?_
        exact v_iret h hr dX8_inFirstRow_49 rfl rfl
      · obtain ⟨z, hz⟩ := ex_fit (kk := kd j) (p := pt j) (w := w) (n := n) (k := k) ht1 (by omega)
        have hzn := (lst_some.mp hz).1
        refine v_iconst h (v := nI 0) dX8_inFirstRow_14 (by decide) ?_
        refine v_istore4 h (Nat.le_of_ble_eq_true rfl) dX8_inFirstRow_15 ?_
        have L17 : ∀ (k17 : Nat) (y : Nat), z - y = k17 → (y ≤ z) → vM x 17 [some (.ref m0), some (.int (nI j)), some (.int (nI qx)), some (.int (nI (laidK (ligS (kd j) (pt j) w n) n k))), some (.int (nI y)), some (.int (nI k))] [] [(m0, .inr (7, [.int (nI fl), .int tr, .ref m1, .ref m2, .ref m3, .int (nI n), .ref m4, .int (nI atp), .int (nI rt), .ref m5, .int (nI hn), .ref m6, .ref m7, .ref m8, .int (nI sn), .ref m9, .ref m10, .ref m11, .ref m12, .ref m13, .ref m14, .ref m15, .ref m16])), (m1, .inl (gI g, 4, .inl msrt)), (m2, .inl (gI g, 4, .inl (fun z9 => nI (len z9)))), (m3, .inl (gI g, 160, .inl mc)), (m4, .inl (gI g, 8, .inl (fun z9 => nI (w z9)))), (m5, .inl (gI g, 8, .inl (fun z9 => nI (rwt z9)))), (m6, .inl (gI g, 6, .inl (fun z9 => nI (kd z9)))), (m7, .inl (gI g, 6, .inl (fun z9 => nI (pt z9)))), (m8, .inl (gI g, 8, .inl far)), (m9, .inl (gI g, 10, .inl (fun z9 => nI (sb z9)))), (m10, .inl (gI g, 10, .inl (fun z9 => nI (sf z9)))), (m11, .inl (gI g, 10, .inl (fun z9 => nI (ss z9)))), (m12, .inl (gI g, 10, .inl (fun z9 => nI (sw z9)))), (m13, .inl (gI g, 256, .inl (fun z9 => nI (ways z9)))), (m14, .inl (gI g, 8, .inl (fun z9 => nI (chain z9)))), (m15, .inl (gI g, 5, .inl (fun z9 => nI (row z9)))), (m16, .inl (gI g, 5, .inl (fun z9 => nI (best z9))))] := by
          intro k17
          induction k17 using Nat.strongRecOn with
          | _ k17 ih17 =>
            intro y hm17 hy
            refine v_aload_n0 h dX8_inFirstRow_17 ?_
            refine v_iload_n1 h dX8_inFirstRow_18 ?_
            refine v_iload_n3 h dX8_inFirstRow_19 ?_
            refine v_iload4 h dX8_inFirstRow_20 ?_
            refine cw_V_0_1_2_3_4_5_6_7_8_9_10_11_12_13_14_15_16_3_i (ci := 7) h (c_X8_mayStand (g := g) (by first | assumption | omega) (by first | assumption | omega) (by first | assumption | omega) (by exact laidK_lt ht1 k) (by omega)) lk_X8_146 ⟨rfl, rfl, (Nat.le_of_ble_eq_true rfl), (Nat.le_of_ble_eq_true rfl)⟩ rfl rfl rfl (Nat.le_of_ble_eq_true rfl) dX8_inFirstRow_22 ?_
            refine v_if_neB h dX8_inFirstRow_25 (tgt := 34) (by decide) (fun c25 => ?_) (fun c25 => ?_)
            · obtain rfl : z = y := fit_hit hz hy c25
              refine v_iload_n3 h dX8_inFirstRow_34 ?_
              refine v_iconst h (v := nI 1) dX8_inFirstRow_35 (by decide) ?_
              refine v_iload4 h dX8_inFirstRow_36 ?_
              refine v_ishlN h dX8_inFirstRow_38 (by omega) ?_
              refine v_iorN h dX8_inFirstRow_39 ?_
              refine v_istore_n3 h (Nat.le_of_ble_eq_true rfl) dX8_inFirstRow_40 ?_
              refine v_iincN5 h (Nat.le_of_ble_eq_true rfl) dX8_inFirstRow_41 ?_
              refine v_goto h dX8_inFirstRow_44 (tgt := 8) (by decide) ?_
              exact vM.fg (ih8 _ (by omega) (k + 1) rfl (by first | assumption | rfl | omega)) ⟨rfl, rfl, rfl, (by rw [laid_succ hz]), (by exact congrArg (fun y => some (Value.int y)) (nxt_succ hz).symm), rfl, trivial⟩
            · have hyz := fit_miss hz hy c25
              refine v_iincN4 h (Nat.le_of_ble_eq_true rfl) dX8_inFirstRow_28 ?_
              refine v_goto h dX8_inFirstRow_31 (tgt := 17) (by decide) ?_
              exact vM.fg (ih17 _ (by omega) (y + 1) rfl (by exact hyz)) ⟨rfl, rfl, rfl, rfl, rfl, rfl, trivial⟩
        exact vM.fg (L17 _ 0 rfl (by exact Nat.zero_le _)) ⟨rfl, rfl, rfl, rfl, rfl, rfl, trivial⟩
  exact vM.fg (L8 _ 0 rfl (by first | assumption | rfl | omega)) ⟨rfl, rfl, rfl, rfl, rfl, rfl, trivial⟩
def P_X8_rows (g : vG) (m0 m1 m2 m3 m4 m5 m6 m7 m8 m9 m10 m11 m12 m13 m14 m15 m16 : Nat) (fl : Nat) (tr : Int32) (msrt : Nat → Int32) (len : Nat → Nat) (mc : Nat → Int32) (n : Nat) (w : Nat → Nat) (atp : Nat) (rt : Nat) (rwt : Nat → Nat) (hn : Nat) (kd : Nat → Nat) (pt : Nat → Nat) (far : Nat → Int32) (sn : Nat) (sb : Nat → Nat) (sf : Nat → Nat) (ss : Nat → Nat) (sw : Nat → Nat) (ways : Nat → Nat) (chain : Nat → Nat) (row : Nat → Nat) (best : Nat → Nat) (p0 : Int32) (p1 : Int32) : Option Value → va_W → Prop := fun r wo => ∃ ways' : Nat → Nat, r = some (.int (s_rows n w hn kd pt p0 p1)) ∧ wo = [(m0, .inr (7, [.int (nI fl), .int tr, .ref m1, .ref m2, .ref m3, .int (nI n), .ref m4, .int (nI atp), .int (nI rt), .ref m5, .int (nI hn), .ref m6, .ref m7, .ref m8, .int (nI sn), .ref m9, .ref m10, .ref m11, .ref m12, .ref m13, .ref m14, .ref m15, .ref m16])), (m1, .inl (gI g, 4, .inl msrt)), (m2, .inl (gI g, 4, .inl (fun z9 => nI (len z9)))), (m3, .inl (gI g, 160, .inl mc)), (m4, .inl (gI g, 8, .inl (fun z9 => nI (w z9)))), (m5, .inl (gI g, 8, .inl (fun z9 => nI (rwt z9)))), (m6, .inl (gI g, 6, .inl (fun z9 => nI (kd z9)))), (m7, .inl (gI g, 6, .inl (fun z9 => nI (pt z9)))), (m8, .inl (gI g, 8, .inl far)), (m9, .inl (gI g, 10, .inl (fun z9 => nI (sb z9)))), (m10, .inl (gI g, 10, .inl (fun z9 => nI (sf z9)))), (m11, .inl (gI g, 10, .inl (fun z9 => nI (ss z9)))), (m12, .inl (gI g, 10, .inl (fun z9 => nI (sw z9)))), (m13, .inl (gI g, 256, .inl (fun z9 => nI (ways' z9)))), (m14, .inl (gI g, 8, .inl (fun z9 => nI (chain z9)))), (m15, .inl (gI g, 5, .inl (fun z9 => nI (row z9)))), (m16, .inl (gI g, 5, .inl (fun z9 => nI (best z9))))]
theorem P_X8_rows_mk {g : vG} {m0 m1 m2 m3 m4 m5 m6 m7 m8 m9 m10 m11 m12 m13 m14 m15 m16 : Nat} {fl : Nat} {tr : Int32} {msrt : Nat → Int32} {len : Nat → Nat} {mc : Nat → Int32} {n : Nat} {w : Nat → Nat} {atp : Nat} {rt : Nat} {rwt : Nat → Nat} {hn : Nat} {kd : Nat → Nat} {pt : Nat → Nat} {far : Nat → Int32} {sn : Nat} {sb : Nat → Nat} {sf : Nat → Nat} {ss : Nat → Nat} {sw : Nat → Nat} {ways : Nat → Nat} {chain : Nat → Nat} {row : Nat → Nat} {best : Nat → Nat} {p0 : Int32} {p1 : Int32} {ways' : Nat → Nat} {q : Int32} (hs : s_rows n w hn kd pt p0 p1 = q)  : P_X8_rows g m0 m1 m2 m3 m4 m5 m6 m7 m8 m9 m10 m11 m12 m13 m14 m15 m16 fl tr msrt len mc n w atp rt rwt hn kd pt far sn sb sf ss sw ways chain row best p0 p1 (some (.int q)) [(m0, .inr (7, [.int (nI fl), .int tr, .ref m1, .ref m2, .ref m3, .int (nI n), .ref m4, .int (nI atp), .int (nI rt), .ref m5, .int (nI hn), .ref m6, .ref m7, .ref m8, .int (nI sn), .ref m9, .ref m10, .ref m11, .ref m12, .ref m13, .ref m14, .ref m15, .ref m16])), (m1, .inl (gI g, 4, .inl msrt)), (m2, .inl (gI g, 4, .inl (fun z9 => nI (len z9)))), (m3, .inl (gI g, 160, .inl mc)), (m4, .inl (gI g, 8, .inl (fun z9 => nI (w z9)))), (m5, .inl (gI g, 8, .inl (fun z9 => nI (rwt z9)))), (m6, .inl (gI g, 6, .inl (fun z9 => nI (kd z9)))), (m7, .inl (gI g, 6, .inl (fun z9 => nI (pt z9)))), (m8, .inl (gI g, 8, .inl far)), (m9, .inl (gI g, 10, .inl (fun z9 => nI (sb z9)))), (m10, .inl (gI g, 10, .inl (fun z9 => nI (sf z9)))), (m11, .inl (gI g, 10, .inl (fun z9 => nI (ss z9)))), (m12, .inl (gI g, 10, .inl (fun z9 => nI (sw z9)))), (m13, .inl (gI g, 256, .inl (fun z9 => nI (ways' z9)))), (m14, .inl (gI g, 8, .inl (fun z9 => nI (chain z9)))), (m15, .inl (gI g, 5, .inl (fun z9 => nI (row z9)))), (m16, .inl (gI g, 5, .inl (fun z9 => nI (best z9))))] := by subst hs; exact ⟨_, rfl, rfl⟩
set_option maxRecDepth 20000 in
set_option maxHeartbeats 4000000 in
theorem c_X8_rows {g : vG} {m0 m1 m2 m3 m4 m5 m6 m7 m8 m9 m10 m11 m12 m13 m14 m15 m16 : Nat} {fl : Nat} {tr : Int32} {msrt : Nat → Int32} {len : Nat → Nat} {mc : Nat → Int32} {n : Nat} {w : Nat → Nat} {atp : Nat} {rt : Nat} {rwt : Nat → Nat} {hn : Nat} {kd : Nat → Nat} {pt : Nat → Nat} {far : Nat → Int32} {sn : Nat} {sb : Nat → Nat} {sf : Nat → Nat} {ss : Nat → Nat} {sw : Nat → Nat} {ways : Nat → Nat} {chain : Nat → Nat} {row : Nat → Nat} {best : Nat → Nat} {p0 : Int32} {p1 : Int32} (hT : wfT n w) (hH : wfH hn kd pt) (hn2 : hn = 0 ∨ 2 ≤ n) : CtP g yX8_rows cX8_rows 6 (some .int) (rmOf 5 117) [(m0, .inr (7, [.int (nI fl), .int tr, .ref m1, .ref m2, .ref m3, .int (nI n), .ref m4, .int (nI atp), .int (nI rt), .ref m5, .int (nI hn), .ref m6, .ref m7, .ref m8, .int (nI sn), .ref m9, .ref m10, .ref m11, .ref m12, .ref m13, .ref m14, .ref m15, .ref m16])), (m1, .inl (gI g, 4, .inl msrt)), (m2, .inl (gI g, 4, .inl (fun z9 => nI (len z9)))), (m3, .inl (gI g, 160, .inl mc)), (m4, .inl (gI g, 8, .inl (fun z9 => nI (w z9)))), (m5, .inl (gI g, 8, .inl (fun z9 => nI (rwt z9)))), (m6, .inl (gI g, 6, .inl (fun z9 => nI (kd z9)))), (m7, .inl (gI g, 6, .inl (fun z9 => nI (pt z9)))), (m8, .inl (gI g, 8, .inl far)), (m9, .inl (gI g, 10, .inl (fun z9 => nI (sb z9)))), (m10, .inl (gI g, 10, .inl (fun z9 => nI (sf z9)))), (m11, .inl (gI g, 10, .inl (fun z9 => nI (ss z9)))), (m12, .inl (gI g, 10, .inl (fun z9 => nI (sw z9)))), (m13, .inl (gI g, 256, .inl (fun z9 => nI (ways z9)))), (m14, .inl (gI g, 8, .inl (fun z9 => nI (chain z9)))), (m15, .inl (gI g, 5, .inl (fun z9 => nI (row z9)))), (m16, .inl (gI g, 5, .inl (fun z9 => nI (best z9))))] [.ref m0, .int p0, .int p1] (P_X8_rows g m0 m1 m2 m3 m4 m5 m6 m7 m8 m9 m10 m11 m12 m13 m14 m15 m16 fl tr msrt len mc n w atp rt rwt hn kd pt far sn sb sf ss sw ways chain row best p0 p1) := by
  refine CtP.ofV RX8 rfl (by decide +kernel) rfl rfl (Nat.le_of_ble_eq_true rfl) (List.forall_mem_cons.mpr ⟨rfl, (List.forall_mem_cons.mpr ⟨rfl, (List.forall_mem_cons.mpr ⟨rfl, (fun _ h9 => absurd h9 List.not_mem_nil)⟩)⟩)⟩) (fun x h hr => ?_)
  show vM x 0 [some (.ref m0), some (.int p0), some (.int p1), none, none, none] [] [(m0, .inr (7, [.int (nI fl), .int tr, .ref m1, .ref m2, .ref m3, .int (nI n), .ref m4, .int (nI atp), .int (nI rt), .ref m5, .int (nI hn), .ref m6, .ref m7, .ref m8, .int (nI sn), .ref m9, .ref m10, .ref m11, .ref m12, .ref m13, .ref m14, .ref m15, .ref m16])), (m1, .inl (gI g, 4, .inl msrt)), (m2, .inl (gI g, 4, .inl (fun z9 => nI (len z9)))), (m3, .inl (gI g, 160, .inl mc)), (m4, .inl (gI g, 8, .inl (fun z9 => nI (w z9)))), (m5, .inl (gI g, 8, .inl (fun z9 => nI (rwt z9)))), (m6, .inl (gI g, 6, .inl (fun z9 => nI (kd z9)))), (m7, .inl (gI g, 6, .inl (fun z9 => nI (pt z9)))), (m8, .inl (gI g, 8, .inl far)), (m9, .inl (gI g, 10, .inl (fun z9 => nI (sb z9)))), (m10, .inl (gI g, 10, .inl (fun z9 => nI (sf z9)))), (m11, .inl (gI g, 10, .inl (fun z9 => nI (ss z9)))), (m12, .inl (gI g, 10, .inl (fun z9 => nI (sw z9)))), (m13, .inl (gI g, 256, .inl (fun z9 => nI (ways z9)))), (m14, .inl (gI g, 8, .inl (fun z9 => nI (chain z9)))), (m15, .inl (gI g, 5, .inl (fun z9 => nI (row z9)))), (m16, .inl (gI g, 5, .inl (fun z9 => nI (best z9))))]
  have ht1 := hT.1; have ht2 := hT.2.1; have ht3 := hT.2.2; have hh1 := hH.1; have hh2 := hH.2.1; have hh3 := hH.2.2.1; have hh4 := hH.2.2.2; have hp8 := pow8' ht1; have hp1 := pow_pos' n
  refine v_aload_n0 h dX8_rows_0 ?_
  refine v_iload_n1 h dX8_rows_1 ?_
  refine cw_V_0_1_2_3_4_5_6_7_8_9_10_11_12_13_14_15_16_1_i (ci := 7) h (c_X8_isHand (g := g)) lk_X8_107 ⟨rfl, rfl, (Nat.le_of_ble_eq_true rfl), (Nat.le_of_ble_eq_true rfl)⟩ rfl rfl rfl (Nat.le_of_ble_eq_true rfl) dX8_rows_2 ?_
  refine v_if_eqB h dX8_rows_5 (tgt := 22) (by decide) (fun c5 => ?_) (fun c5 => ?_)
  · have e5 := rN_f c5
    refine v_iconst h (v := -1) dX8_rows_22 (by decide) ?_
    exact v_iretP h hr dX8_rows_23 (P_X8_rows_mk (q := _) (by simp only [s_rows, e5]) ) rfl
  · obtain ⟨j0, hj0, rfl⟩ := inR_of c5 (by omega)
    have e5 := rN_N hj0 (by omega)
    refine v_iload_n2 h dX8_rows_8 ?_
    refine v_iconst h (v := -1) dX8_rows_9 (by decide) ?_
    refine v_aload_n0 h dX8_rows_10 ?_
    refine v_get h mw_X8 0 rfl rfl 5 (by decide) mf_X8_68 rfl dX8_rows_11 ?_
    refine v_iconst h (v := nI 1) dX8_rows_14 (by decide) ?_
    refine v_isubN h dX8_rows_15 (by omega) ?_
    refine cw_S_e_3_i h (c_X8_within (g := g)) lk_X8_64 ⟨rfl, rfl, (Nat.le_of_ble_eq_true rfl), (Nat.le_of_ble_eq_true rfl)⟩ (Nat.le_of_ble_eq_true rfl) dX8_rows_16 ?_
    refine v_if_neB h dX8_rows_19 (tgt := 24) (by decide) (fun c19 => ?_) (fun c19 => ?_)
    · have h19 := wr_m1 (m := n - 1) (by omega) c19
      refine v_iload_n2 h dX8_rows_24 ?_
      refine v_if_lt h dX8_rows_25 (tgt := 35) (by decide) (fun c25 => ?_) (fun c25 => ?_)
      · obtain rfl : p1 = -1 := h19.resolve_right (fun z => by obtain ⟨y, hy, e⟩ := z; rw [e] at c25; exact absurd c25 (nI_pos (by omega)))
        refine v_iconst h (v := nI 1) dX8_rows_35 (by decide) ?_
        refine v_aload_n0 h dX8_rows_36 ?_
        refine v_get h mw_X8 0 rfl rfl 5 (by decide) mf_X8_68 rfl dX8_rows_37 ?_
        refine v_ishlN h dX8_rows_40 (by omega) ?_
        refine v_iconst h (v := nI 1) dX8_rows_41 (by decide) ?_
        refine v_isubN h dX8_rows_42 (by omega) ?_
        refine v_istore_n3 h (Nat.le_of_ble_eq_true rfl) dX8_rows_43 ?_
        refine v_iconst h (v := nI 0) dX8_rows_44 (by decide) ?_
        refine v_istore4 h (Nat.le_of_ble_eq_true rfl) dX8_rows_45 ?_
        have L47 : ∀ (k47 : Nat) (z : Nat), 2 ^ n - z = k47 → (z ≤ 2 ^ n) → vM x 47 [some (.ref m0), some (.int (nI j0)), some (.int (-1)), some (.int (nI (2 ^ n - 1))), some (.int (nI z)), none] [] [(m0, .inr (7, [.int (nI fl), .int tr, .ref m1, .ref m2, .ref m3, .int (nI n), .ref m4, .int (nI atp), .int (nI rt), .ref m5, .int (nI hn), .ref m6, .ref m7, .ref m8, .int (nI sn), .ref m9, .ref m10, .ref m11, .ref m12, .ref m13, .ref m14, .ref m15, .ref m16])), (m1, .inl (gI g, 4, .inl msrt)), (m2, .inl (gI g, 4, .inl (fun z9 => nI (len z9)))), (m3, .inl (gI g, 160, .inl mc)), (m4, .inl (gI g, 8, .inl (fun z9 => nI (w z9)))), (m5, .inl (gI g, 8, .inl (fun z9 => nI (rwt z9)))), (m6, .inl (gI g, 6, .inl (fun z9 => nI (kd z9)))), (m7, .inl (gI g, 6, .inl (fun z9 => nI (pt z9)))), (m8, .inl (gI g, 8, .inl far)), (m9, .inl (gI g, 10, .inl (fun z9 => nI (sb z9)))), (m10, .inl (gI g, 10, .inl (fun z9 => nI (sf z9)))), (m11, .inl (gI g, 10, .inl (fun z9 => nI (ss z9)))), (m12, .inl (gI g, 10, .inl (fun z9 => nI (sw z9)))), (m13, .inl (gI g, 256, .inl (fun z9 => nI ((zr ways z) z9)))), (m14, .inl (gI g, 8, .inl (fun z9 => nI (chain z9)))), (m15, .inl (gI g, 5, .inl (fun z9 => nI (row z9)))), (m16, .inl (gI g, 5, .inl (fun z9 => nI (best z9))))] := by
          intro k47
          induction k47 using Nat.strongRecOn with
          | _ k47 ih47 =>
            intro z hm47 hz
            refine v_iload4 h dX8_rows_47 ?_
            refine v_iload_n3 h dX8_rows_49 ?_
            refine v_icmp_gtN h dX8_rows_50 (tgt := 67) (by decide) (by omega) (by omega) (fun c50 => ?_) (fun c50 => ?_)
            · obtain rfl : z = 2 ^ n := by omega
              refine v_aload_n0 h dX8_rows_67 ?_
              refine v_get h mw_X8 0 rfl rfl 19 (by decide) mf_X8_46 rfl dX8_rows_68 ?_
              refine v_iconst h (v := nI 0) dX8_rows_71 (by decide) ?_
              refine v_iconst h (v := nI 1) dX8_rows_72 (by decide) ?_
              refine v_iastN_at13 h (by omega) (Nat.le_of_ble_eq_true rfl) dX8_rows_73 ?_
              refine v_iconst h (v := nI 0) dX8_rows_74 (by decide) ?_
              refine v_istore4 h (Nat.le_of_ble_eq_true rfl) dX8_rows_75 ?_
              have L77 : ∀ (k77 : Nat) (a : Nat), 2 ^ n - a = k77 → (a ≤ 2 ^ n - 1) → vM x 77 [some (.ref m0), some (.int (nI j0)), some (.int (-1)), some (.int (nI (2 ^ n - 1))), some (.int (nI a)), none] [] [(m0, .inr (7, [.int (nI fl), .int tr, .ref m1, .ref m2, .ref m3, .int (nI n), .ref m4, .int (nI atp), .int (nI rt), .ref m5, .int (nI hn), .ref m6, .ref m7, .ref m8, .int (nI sn), .ref m9, .ref m10, .ref m11, .ref m12, .ref m13, .ref m14, .ref m15, .ref m16])), (m1, .inl (gI g, 4, .inl msrt)), (m2, .inl (gI g, 4, .inl (fun z9 => nI (len z9)))), (m3, .inl (gI g, 160, .inl mc)), (m4, .inl (gI g, 8, .inl (fun z9 => nI (w z9)))), (m5, .inl (gI g, 8, .inl (fun z9 => nI (rwt z9)))), (m6, .inl (gI g, 6, .inl (fun z9 => nI (kd z9)))), (m7, .inl (gI g, 6, .inl (fun z9 => nI (pt z9)))), (m8, .inl (gI g, 8, .inl far)), (m9, .inl (gI g, 10, .inl (fun z9 => nI (sb z9)))), (m10, .inl (gI g, 10, .inl (fun z9 => nI (sf z9)))), (m11, .inl (gI g, 10, .inl (fun z9 => nI (ss z9)))), (m12, .inl (gI g, 10, .inl (fun z9 => nI (sw z9)))), (m13, .inl (gI g, 256, .inl (fun z9 => nI ((wW (ligS (kd j0) (pt j0) w n) n ways a 0) z9)))), (m14, .inl (gI g, 8, .inl (fun z9 => nI (chain z9)))), (m15, .inl (gI g, 5, .inl (fun z9 => nI (row z9)))), (m16, .inl (gI g, 5, .inl (fun z9 => nI (best z9))))] := by
                intro k77
                induction k77 using Nat.strongRecOn with
                | _ k77 ih77 =>
                  intro a hm77 ha
                  refine v_iload4 h dX8_rows_77 ?_
                  refine v_iload_n3 h dX8_rows_79 ?_
                  refine v_icmp_geN h dX8_rows_80 (tgt := 141) (by decide) (by omega) (by omega) (fun c80 => ?_) (fun c80 => ?_)
                  · obtain rfl : a = 2 ^ n - 1 := by omega
                    refine v_aload_n0 h dX8_rows_141 ?_
                    refine v_get h mw_X8 0 rfl rfl 19 (by decide) mf_X8_46 rfl dX8_rows_142 ?_
                    refine v_iload_n3 h dX8_rows_145 ?_
                    refine v_ialdN h 13 rfl (by omega) (Nat.le_of_ble_eq_true rfl) dX8_rows_146 ?_
                    exact v_iretP h hr dX8_rows_147 (P_X8_rows_mk (q := _) (by simp only [s_rows, e5, if_pos rfl, if_true]; rw [ww_fin]) ) rfl
                  · refine v_iconst h (v := nI 0) dX8_rows_83 (by decide) ?_
                    refine v_istore5 h (Nat.le_of_ble_eq_true rfl) dX8_rows_84 ?_
                    have L86 : ∀ (k86 : Nat) (i : Nat), n - i = k86 → (i ≤ n) → vM x 86 [some (.ref m0), some (.int (nI j0)), some (.int (-1)), some (.int (nI (2 ^ n - 1))), some (.int (nI a)), some (.int (nI i))] [] [(m0, .inr (7, [.int (nI fl), .int tr, .ref m1, .ref m2, .ref m3, .int (nI n), .ref m4, .int (nI atp), .int (nI rt), .ref m5, .int (nI hn), .ref m6, .ref m7, .ref m8, .int (nI sn), .ref m9, .ref m10, .ref m11, .ref m12, .ref m13, .ref m14, .ref m15, .ref m16])), (m1, .inl (gI g, 4, .inl msrt)), (m2, .inl (gI g, 4, .inl (fun z9 => nI (len z9)))), (m3, .inl (gI g, 160, .inl mc)), (m4, .inl (gI g, 8, .inl (fun z9 => nI (w z9)))), (m5, .inl (gI g, 8, .inl (fun z9 => nI (rwt z9)))), (m6, .inl (gI g, 6, .inl (fun z9 => nI (kd z9)))), (m7, .inl (gI g, 6, .inl (fun z9 => nI (pt z9)))), (m8, .inl (gI g, 8, .inl far)), (m9, .inl (gI g, 10, .inl (fun z9 => nI (sb z9)))), (m10, .inl (gI g, 10, .inl (fun z9 => nI (sf z9)))), (m11, .inl (gI g, 10, .inl (fun z9 => nI (ss z9)))), (m12, .inl (gI g, 10, .inl (fun z9 => nI (sw z9)))), (m13, .inl (gI g, 256, .inl (fun z9 => nI ((wW (ligS (kd j0) (pt j0) w n) n ways a i) z9)))), (m14, .inl (gI g, 8, .inl (fun z9 => nI (chain z9)))), (m15, .inl (gI g, 5, .inl (fun z9 => nI (row z9)))), (m16, .inl (gI g, 5, .inl (fun z9 => nI (best z9))))] := by
                      intro k86
                      induction k86 using Nat.strongRecOn with
                      | _ k86 ih86 =>
                        intro i hm86 hi
                        refine v_iload5 h dX8_rows_86 ?_
                        refine v_aload_n0 h dX8_rows_88 ?_
                        refine v_get h mw_X8 0 rfl rfl 5 (by decide) mf_X8_68 rfl dX8_rows_89 ?_
                        refine v_icmp_geN h dX8_rows_92 (tgt := 135) (by decide) (by omega) (by omega) (fun c92 => ?_) (fun c92 => ?_)
                        · obtain rfl : i = n := by omega
                          rw [ww_row]
                          refine v_iincN4 h (Nat.le_of_ble_eq_true rfl) dX8_rows_135 ?_
                          refine v_goto h dX8_rows_138 (tgt := 77) (by decide) ?_
                          exact vM.fg (ih77 _ (by omega) (a + 1) rfl (by first | assumption | rfl | omega)) ⟨rfl, rfl, rfl, rfl, rfl, trivial⟩
                        · refine v_aload_n0 h dX8_rows_95 ?_
                          refine v_iload_n1 h dX8_rows_96 ?_
                          refine v_iload4 h dX8_rows_97 ?_
                          refine v_iload5 h dX8_rows_99 ?_
                          refine cw_V_0_1_2_3_4_5_6_7_8_9_10_11_12_13_14_15_16_3_i (ci := 7) h (c_X8_mayStand (g := g) (by first | assumption | omega) (by first | assumption | omega) (by first | assumption | omega) (by omega) (by first | assumption | omega)) lk_X8_146 ⟨rfl, rfl, (Nat.le_of_ble_eq_true rfl), (Nat.le_of_ble_eq_true rfl)⟩ rfl rfl rfl (Nat.le_of_ble_eq_true rfl) dX8_rows_101 ?_
                          refine v_if_eqB h dX8_rows_104 (tgt := 129) (by decide) (fun c104 => ?_) (fun c104 => ?_)
                          · rw [← ww_f (a := a) (i := i) c104]
                            refine v_iincN5 h (Nat.le_of_ble_eq_true rfl) dX8_rows_129 ?_
                            refine v_goto h dX8_rows_132 (tgt := 86) (by decide) ?_
                            exact vM.le rfl rfl (by first | rw [ww_t (by omega) (by omega) c104] | rfl) (vM.fg (ih86 _ (by omega) (i + 1) rfl (by first | assumption | rfl | omega)) ⟨rfl, rfl, rfl, rfl, rfl, rfl, trivial⟩)
                          · refine v_aload_n0 h dX8_rows_107 ?_
                            refine v_get h mw_X8 0 rfl rfl 19 (by decide) mf_X8_46 rfl dX8_rows_108 ?_
                            refine v_iload4 h dX8_rows_111 ?_
                            refine v_iconst h (v := nI 1) dX8_rows_113 (by decide) ?_
                            refine v_iload5 h dX8_rows_114 ?_
                            refine v_ishlN h dX8_rows_116 (by omega) ?_
                            refine v_iorN h dX8_rows_117 ?_
                            refine v_dup2 h dX8_rows_118 rfl rfl ?_
                            refine v_ialdN h 13 rfl (by exact Nat.lt_of_lt_of_le (orp_lt (by omega) (by omega)) hp8) (Nat.le_of_ble_eq_true rfl) dX8_rows_119 ?_
                            refine v_aload_n0 h dX8_rows_120 ?_
                            refine v_get h mw_X8 0 rfl rfl 19 (by decide) mf_X8_46 rfl dX8_rows_121 ?_
                            refine v_iload4 h dX8_rows_124 ?_
                            refine v_ialdN h 13 rfl (by omega) (Nat.le_of_ble_eq_true rfl) dX8_rows_126 ?_
                            refine v_iaddN h dX8_rows_127 ?_
                            refine v_iastN_at13 h (by exact Nat.lt_of_lt_of_le (orp_lt (by omega) (by omega)) hp8) (Nat.le_of_ble_eq_true rfl) dX8_rows_128 ?_
                            refine v_iincN5 h (Nat.le_of_ble_eq_true rfl) dX8_rows_129 ?_
                            refine v_goto h dX8_rows_132 (tgt := 86) (by decide) ?_
                            exact vM.le rfl rfl (by first | rw [ww_t (by omega) (by omega) c104] | rfl) (vM.fg (ih86 _ (by omega) (i + 1) rfl (by first | assumption | rfl | omega)) ⟨rfl, rfl, rfl, rfl, rfl, rfl, trivial⟩)
                    exact vM.fg (L86 _ 0 rfl (by first | assumption | rfl | omega)) ⟨rfl, rfl, rfl, rfl, rfl, rfl, trivial⟩
              exact vM.le rfl rfl (by rw [ww_0 (el := (ligS (kd j0) (pt j0) w n))]) (vM.fg (L77 _ 0 rfl (by first | assumption | rfl | omega)) ⟨rfl, rfl, rfl, rfl, rfl, trivial⟩)
            · refine v_aload_n0 h dX8_rows_53 ?_
              refine v_get h mw_X8 0 rfl rfl 19 (by decide) mf_X8_46 rfl dX8_rows_54 ?_
              refine v_iload4 h dX8_rows_57 ?_
              refine v_iconst h (v := nI 0) dX8_rows_59 (by decide) ?_
              refine v_iastN_at13 h (by omega) (Nat.le_of_ble_eq_true rfl) dX8_rows_60 ?_
              refine v_iincN4 h (Nat.le_of_ble_eq_true rfl) dX8_rows_61 ?_
              refine v_goto h dX8_rows_64 (tgt := 47) (by decide) ?_
              exact vM.le rfl rfl (by rw [zr_succ]) (vM.fg (ih47 _ (by omega) (z + 1) rfl (by first | assumption | rfl | omega)) ⟨rfl, rfl, rfl, rfl, rfl, trivial⟩)
        exact vM.le rfl rfl (by rw [zr_0]) (vM.fg (L47 _ 0 rfl (by first | assumption | rfl | omega)) ⟨rfl, rfl, rfl, rfl, rfl, trivial⟩)
      · obtain ⟨j1, hj1, rfl⟩ := h19.resolve_left (fun z => c25 (by rw [z]; decide))
        have e25 := rN_N (show j1 < n by omega) (show n < 2 ^ 31 by omega)
        refine v_aload_n0 h dX8_rows_28 ?_
        refine v_iload_n1 h dX8_rows_29 ?_
        refine v_iload_n2 h dX8_rows_30 ?_
        refine cw_V_0_1_2_3_4_5_6_7_8_9_10_11_12_13_14_15_16_2_i (ci := 7) h (c_X8_inFirstRow (g := g) (by first | assumption | omega) (by first | assumption | omega) (by first | assumption | omega) (by first | assumption | omega)) lk_X8_143 ⟨rfl, rfl, (Nat.le_of_ble_eq_true rfl), (Nat.le_of_ble_eq_true rfl)⟩ rfl rfl rfl (Nat.le_of_ble_eq_true rfl) dX8_rows_31 ?_
        exact v_iretP h hr dX8_rows_34 (P_X8_rows_mk (q := _) (by simp only [s_rows, e5, if_neg (nI_ne_m1 (show j1 < 2 ^ 31 by omega)), e25]) ) rfl
    · obtain ⟨h19, e19⟩ := wr_m1f (m := n - 1) (n := n) (by omega) (by omega) c19
      refine v_iconst h (v := -1) dX8_rows_22 (by decide) ?_
      exact v_iretP h hr dX8_rows_23 (P_X8_rows_mk (q := _) (by simp only [s_rows, e5, if_neg h19, e19]) ) rfl
