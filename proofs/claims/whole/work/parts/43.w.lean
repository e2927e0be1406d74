theorem v_iastF_at8 {x : vX} {g : vG} {cc : ByteArray} {own : String} {rm : Room} {nL pc : Nat} {lv : List (Option Value)} {st : List Value} {w0 w1 w2 w3 w4 w5 w6 w7 : Nat × va_E} {wt : va_W} {n b i : Nat} {f : Nat → Int32} {v : Int32} (h : Ok x g cc own rm nL) (hi : i < n) (hn : n < 2 ^ 31) (hd : decode cc pc = .ok (.iastore, 1)) (k : vM x (pc + 1) lv st (w0 :: w1 :: w2 :: w3 :: w4 :: w5 :: w6 :: w7 :: (b, .inl (gI g, n, .inl (upd f i v))) :: wt)) : vM x pc lv (.int v :: .int (nI i) :: .ref b :: st) (w0 :: w1 :: w2 :: w3 :: w4 :: w5 :: w6 :: w7 :: (b, .inl (gI g, n, .inl f)) :: wt) := v_iastF h 8 rfl hi hn hd rfl k
set_option maxRecDepth 20000 in
set_option maxHeartbeats 2000000 in
theorem c_X8_findFar {g : vG} {m0 m1 m2 m3 m4 m5 m6 m7 m8 m9 m10 m11 m12 m13 m14 m15 m16 : Nat} {fl : Nat} {tr : Int32} {msrt : Nat → Int32} {len : Nat → Nat} {mc : Nat → Int32} {n : Nat} {w : Nat → Nat} {atp : Nat} {rt : Nat} {rwt : Nat → Nat} {hn : Nat} {kd : Nat → Nat} {pt : Nat → Nat} {far : Nat → Int32} {sn : Nat} {sb : Nat → Nat} {sf : Nat → Nat} {ss : Nat → Nat} {sw : Nat → Nat} {ways : Nat → Nat} {chain : Nat → Nat} {row : Nat → Nat} {best : Nat → Nat} {j : Nat} {tq : Nat} (hT : wfT n w) (hH : wfH hn kd pt) (hj : j < hn) (htq : tq < n) : Ct g yX8_findFar cX8_findFar 6 none (rmOf 4 91) [(m0, .inr (7, [.int (nI fl), .int tr, .ref m1, .ref m2, .ref m3, .int (nI n), .ref m4, .int (nI atp), .int (nI rt), .ref m5, .int (nI hn), .ref m6, .ref m7, .ref m8, .int (nI sn), .ref m9, .ref m10, .ref m11, .ref m12, .ref m13, .ref m14, .ref m15, .ref m16])), (m1, .inl (gI g, 4, .inl msrt)), (m2, .inl (gI g, 4, .inl (fun z9 => nI (len z9)))), (m3, .inl (gI g, 160, .inl mc)), (m4, .inl (gI g, 8, .inl (fun z9 => nI (w z9)))), (m5, .inl (gI g, 8, .inl (fun z9 => nI (rwt z9)))), (m6, .inl (gI g, 6, .inl (fun z9 => nI (kd z9)))), (m7, .inl (gI g, 6, .inl (fun z9 => nI (pt z9)))), (m8, .inl (gI g, 8, .inl far)), (m9, .inl (gI g, 10, .inl (fun z9 => nI (sb z9)))), (m10, .inl (gI g, 10, .inl (fun z9 => nI (sf z9)))), (m11, .inl (gI g, 10, .inl (fun z9 => nI (ss z9)))), (m12, .inl (gI g, 10, .inl (fun z9 => nI (sw z9)))), (m13, .inl (gI g, 256, .inl (fun z9 => nI (ways z9)))), (m14, .inl (gI g, 8, .inl (fun z9 => nI (chain z9)))), (m15, .inl (gI g, 5, .inl (fun z9 => nI (row z9)))), (m16, .inl (gI g, 5, .inl (fun z9 => nI (best z9))))] [.ref m0, .int (nI j), .int (nI tq)] none [(m0, .inr (7, [.int (nI fl), .int tr, .ref m1, .ref m2, .ref m3, .int (nI n), .ref m4, .int (nI atp), .int (nI rt), .ref m5, .int (nI hn), .ref m6, .ref m7, .ref m8, .int (nI sn), .ref m9, .ref m10, .ref m11, .ref m12, .ref m13, .ref m14, .ref m15, .ref m16])), (m1, .inl (gI g, 4, .inl msrt)), (m2, .inl (gI g, 4, .inl (fun z9 => nI (len z9)))), (m3, .inl (gI g, 160, .inl mc)), (m4, .inl (gI g, 8, .inl (fun z9 => nI (w z9)))), (m5, .inl (gI g, 8, .inl (fun z9 => nI (rwt z9)))), (m6, .inl (gI g, 6, .inl (fun z9 => nI (kd z9)))), (m7, .inl (gI g, 6, .inl (fun z9 => nI (pt z9)))), (m8, .inl (gI g, 8, .inl (fA n (fD (alkS (kd j) (pt j) w n) n tq n) far))), (m9, .inl (gI g, 10, .inl (fun z9 => nI (sb z9)))), (m10, .inl (gI g, 10, .inl (fun z9 => nI (sf z9)))), (m11, .inl (gI g, 10, .inl (fun z9 => nI (ss z9)))), (m12, .inl (gI g, 10, .inl (fun z9 => nI (sw z9)))), (m13, .inl (gI g, 256, .inl (fun z9 => nI (ways z9)))), (m14, .inl (gI g, 8, .inl (fun z9 => nI (chain z9)))), (m15, .inl (gI g, 5, .inl (fun z9 => nI (row z9)))), (m16, .inl (gI g, 5, .inl (fun z9 => nI (best z9))))] := by
  refine Ct.ofV RX8 rfl (by decide +kernel) rfl rfl rfl (Nat.le_of_ble_eq_true rfl) (List.forall_mem_cons.mpr ⟨rfl, (List.forall_mem_cons.mpr ⟨rfl, (List.forall_mem_cons.mpr ⟨rfl, (fun _ h9 => absurd h9 List.not_mem_nil)⟩)⟩)⟩) (fun x h hr => ?_)
  show vM x 0 [some (.ref m0), some (.int (nI j)), some (.int (nI tq)), none, none, none] [] [(m0, .inr (7, [.int (nI fl), .int tr, .ref m1, .ref m2, .ref m3, .int (nI n), .ref m4, .int (nI atp), .int (nI rt), .ref m5, .int (nI hn), .ref m6, .ref m7, .ref m8, .int (nI sn), .ref m9, .ref m10, .ref m11, .ref m12, .ref m13, .ref m14, .ref m15, .ref m16])), (m1, .inl (gI g, 4, .inl msrt)), (m2, .inl (gI g, 4, .inl (fun z9 => nI (len z9)))), (m3, .inl (gI g, 160, .inl mc)), (m4, .inl (gI g, 8, .inl (fun z9 => nI (w z9)))), (m5, .inl (gI g, 8, .inl (fun z9 => nI (rwt z9)))), (m6, .inl (gI g, 6, .inl (fun z9 => nI (kd z9)))), (m7, .inl (gI g, 6, .inl (fun z9 => nI (pt z9)))), (m8, .inl (gI g, 8, .inl far)), (m9, .inl (gI g, 10, .inl (fun z9 => nI (sb z9)))), (m10, .inl (gI g, 10, .inl (fun z9 => nI (sf z9)))), (m11, .inl (gI g, 10, .inl (fun z9 => nI (ss z9)))), (m12, .inl (gI g, 10, .inl (fun z9 => nI (sw z9)))), (m13, .inl (gI g, 256, .inl (fun z9 => nI (ways z9)))), (m14, .inl (gI g, 8, .inl (fun z9 => nI (chain z9)))), (m15, .inl (gI g, 5, .inl (fun z9 => nI (row z9)))), (m16, .inl (gI g, 5, .inl (fun z9 => nI (best z9))))]
  have ht1 := hT.1; have ht2 := hT.2.1; have ht3 := hT.2.2
  refine v_iconst h (v := nI 0) dX8_findFar_0 (by decide) ?_
  refine v_istore_n3 h (Nat.le_of_ble_eq_true rfl) dX8_findFar_1 ?_
  have L2 : ∀ (k2 : Nat) (i : Nat), n - i = k2 → (i ≤ n) → vM x 2 [some (.ref m0), some (.int (nI j)), some (.int (nI tq)), some (.int (nI i)), none, none] [] [(m0, .inr (7, [.int (nI fl), .int tr, .ref m1, .ref m2, .ref m3, .int (nI n), .ref m4, .int (nI atp), .int (nI rt), .ref m5, .int (nI hn), .ref m6, .ref m7, .ref m8, .int (nI sn), .ref m9, .ref m10, .ref m11, .ref m12, .ref m13, .ref m14, .ref m15, .ref m16])), (m1, .inl (gI g, 4, .inl msrt)), (m2, .inl (gI g, 4, .inl (fun z9 => nI (len z9)))), (m3, .inl (gI g, 160, .inl mc)), (m4, .inl (gI g, 8, .inl (fun z9 => nI (w z9)))), (m5, .inl (gI g, 8, .inl (fun z9 => nI (rwt z9)))), (m6, .inl (gI g, 6, .inl (fun z9 => nI (kd z9)))), (m7, .inl (gI g, 6, .inl (fun z9 => nI (pt z9)))), (m8, .inl (gI g, 8, .inl (fA i (fD (alkS (kd j) (pt j) w n) n tq 0) far))), (m9, .inl (gI g, 10, .inl (fun z9 => nI (sb z9)))), (m10, .inl (gI g, 10, .inl (fun z9 => nI (sf z9)))), (m11, .inl (gI g, 10, .inl (fun z9 => nI (ss z9)))), (m12, .inl (gI g, 10, .inl (fun z9 => nI (sw z9)))), (m13, .inl (gI g, 256, .inl (fun z9 => nI (ways z9)))), (m14, .inl (gI g, 8, .inl (fun z9 => nI (chain z9)))), (m15, .inl (gI g, 5, .inl (fun z9 => nI (row z9)))), (m16, .inl (gI g, 5, .inl (fun z9 => nI (best z9))))] := by
    intro k2
    induction k2 using Nat.strongRecOn with
    | _ k2 ih2 =>
      intro i hm2 hi
      refine v_iload_n3 h dX8_findFar_2 ?_
      refine v_aload_n0 h dX8_findFar_3 ?_
      refine v_get h mw_X8 0 rfl rfl 5 (by decide) mf_X8_68 rfl dX8_findFar_4 ?_
      refine v_icmp_geN h dX8_findFar_7 (tgt := 33) (by decide) (by omega) (by omega) (fun c7 => ?_) (fun c7 => ?_)
      · obtain rfl : n = i := by omega
        refine v_iconst h (v := nI 0) dX8_findFar_33 (by decide) ?_
        refine v_istore_n3 h (Nat.le_of_ble_eq_true rfl) dX8_findFar_34 ?_
        have L35 : ∀ (k35 : Nat) (s : Nat), n - s = k35 → (s ≤ n) → vM x 35 [some (.ref m0), some (.int (nI j)), some (.int (nI tq)), some (.int (nI s)), none, none] [] [(m0, .inr (7, [.int (nI fl), .int tr, .ref m1, .ref m2, .ref m3, .int (nI n), .ref m4, .int (nI atp), .int (nI rt), .ref m5, .int (nI hn), .ref m6, .ref m7, .ref m8, .int (nI sn), .ref m9, .ref m10, .ref m11, .ref m12, .ref m13, .ref m14, .ref m15, .ref m16])), (m1, .inl (gI g, 4, .inl msrt)), (m2, .inl (gI g, 4, .inl (fun z9 => nI (len z9)))), (m3, .inl (gI g, 160, .inl mc)), (m4, .inl (gI g, 8, .inl (fun z9 => nI (w z9)))), (m5, .inl (gI g, 8, .inl (fun z9 => nI (rwt z9)))), (m6, .inl (gI g, 6, .inl (fun z9 => nI (kd z9)))), (m7, .inl (gI g, 6, .inl (fun z9 => nI (pt z9)))), (m8, .inl (gI g, 8, .inl (fA n (fD (alkS (kd j) (pt j) w n) n tq s) far))), (m9, .inl (gI g, 10, .inl (fun z9 => nI (sb z9)))), (m10, .inl (gI g, 10, .inl (fun z9 => nI (sf z9)))), (m11, .inl (gI g, 10, .inl (fun z9 => nI (ss z9)))), (m12, .inl (gI g, 10, .inl (fun z9 => nI (sw z9)))), (m13, .inl (gI g, 256, .inl (fun z9 => nI (ways z9)))), (m14, .inl (gI g, 8, .inl (fun z9 => nI (chain z9)))), (m15, .inl (gI g, 5, .inl (fun z9 => nI (row z9)))), (m16, .inl (gI g, 5, .inl (fun z9 => nI (best z9))))] := by
          intro k35
          induction k35 using Nat.strongRecOn with
          | _ k35 ih35 =>
            intro s hm35 hs
            refine v_iload_n3 h dX8_findFar_35 ?_
            refine v_aload_n0 h dX8_findFar_36 ?_
            refine v_get h mw_X8 0 rfl rfl 5 (by decide) mf_X8_68 rfl dX8_findFar_37 ?_
            refine v_icmp_geN h dX8_findFar_40 (tgt := 140) (by decide) (by omega) (by omega) (fun c40 => ?_) (fun c40 => ?_)
            · obtain rfl : n = s := by omega
              exact v_vret h hr dX8_findFar_140 rfl
            · refine v_iconst h (v := nI 0) dX8_findFar_43 (by decide) ?_
              refine v_istore4 h (Nat.le_of_ble_eq_true rfl) dX8_findFar_44 ?_
              have L46 : ∀ (k46 : Nat) (a : Nat), n - a = k46 → (a ≤ n) → vM x 46 [some (.ref m0), some (.int (nI j)), some (.int (nI tq)), some (.int (nI s)), some (.int (nI a)), none] [] [(m0, .inr (7, [.int (nI fl), .int tr, .ref m1, .ref m2, .ref m3, .int (nI n), .ref m4, .int (nI atp), .int (nI rt), .ref m5, .int (nI hn), .ref m6, .ref m7, .ref m8, .int (nI sn), .ref m9, .ref m10, .ref m11, .ref m12, .ref m13, .ref m14, .ref m15, .ref m16])), (m1, .inl (gI g, 4, .inl msrt)), (m2, .inl (gI g, 4, .inl (fun z9 => nI (len z9)))), (m3, .inl (gI g, 160, .inl mc)), (m4, .inl (gI g, 8, .inl (fun z9 => nI (w z9)))), (m5, .inl (gI g, 8, .inl (fun z9 => nI (rwt z9)))), (m6, .inl (gI g, 6, .inl (fun z9 => nI (kd z9)))), (m7, .inl (gI g, 6, .inl (fun z9 => nI (pt z9)))), (m8, .inl (gI g, 8, .inl (fA n (fM (alkS (kd j) (pt j) w n) n tq s a 0) far))), (m9, .inl (gI g, 10, .inl (fun z9 => nI (sb z9)))), (m10, .inl (gI g, 10, .inl (fun z9 => nI (sf z9)))), (m11, .inl (gI g, 10, .inl (fun z9 => nI (ss z9)))), (m12, .inl (gI g, 10, .inl (fun z9 => nI (sw z9)))), (m13, .inl (gI g, 256, .inl (fun z9 => nI (ways z9)))), (m14, .inl (gI g, 8, .inl (fun z9 => nI (chain z9)))), (m15, .inl (gI g, 5, .inl (fun z9 => nI (row z9)))), (m16, .inl (gI g, 5, .inl (fun z9 => nI (best z9))))] := by
                intro k46
                induction k46 using Nat.strongRecOn with
                | _ k46 ih46 =>
                  intro a hm46 ha
                  refine v_iload4 h dX8_findFar_46 ?_
                  refine v_aload_n0 h dX8_findFar_48 ?_
                  refine v_get h mw_X8 0 rfl rfl 5 (by decide) mf_X8_68 rfl dX8_findFar_49 ?_
                  refine v_icmp_geN h dX8_findFar_52 (tgt := 134) (by decide) (by omega) (by omega) (fun c52 => ?_) (fun c52 => ?_)
                  · obtain rfl : n = a := by omega
                    refine v_iincN3 h (Nat.le_of_ble_eq_true rfl) dX8_findFar_134 ?_
                    refine v_goto h dX8_findFar_137 (tgt := 35) (by decide) ?_
                    exact vM.le rfl rfl (by rw [fA_congr (H := fD (alkS (kd j) (pt j) w n) n tq (s + 1)) (fun z _ => fM_end (by omega))]) (vM.fg (ih35 _ (by omega) (s + 1) rfl (by first | assumption | rfl | omega)) ⟨rfl, rfl, rfl, rfl, trivial⟩)
                  · refine v_iconst h (v := nI 0) dX8_findFar_55 (by decide) ?_
                    refine v_istore5 h (Nat.le_of_ble_eq_true rfl) dX8_findFar_56 ?_
                    have L58 : ∀ (k58 : Nat) (b : Nat), n - b = k58 → (b ≤ n) → vM x 58 [some (.ref m0), some (.int (nI j)), some (.int (nI tq)), some (.int (nI s)), some (.int (nI a)), some (.int (nI b))] [] [(m0, .inr (7, [.int (nI fl), .int tr, .ref m1, .ref m2, .ref m3, .int (nI n), .ref m4, .int (nI atp), .int (nI rt), .ref m5, .int (nI hn), .ref m6, .ref m7, .ref m8, .int (nI sn), .ref m9, .ref m10, .ref m11, .ref m12, .ref m13, .ref m14, .ref m15, .ref m16])), (m1, .inl (gI g, 4, .inl msrt)), (m2, .inl (gI g, 4, .inl (fun z9 => nI (len z9)))), (m3, .inl (gI g, 160, .inl mc)), (m4, .inl (gI g, 8, .inl (fun z9 => nI (w z9)))), (m5, .inl (gI g, 8, .inl (fun z9 => nI (rwt z9)))), (m6, .inl (gI g, 6, .inl (fun z9 => nI (kd z9)))), (m7, .inl (gI g, 6, .inl (fun z9 => nI (pt z9)))), (m8, .inl (gI g, 8, .inl (fA n (fM (alkS (kd j) (pt j) w n) n tq s a b) far))), (m9, .inl (gI g, 10, .inl (fun z9 => nI (sb z9)))), (m10, .inl (gI g, 10, .inl (fun z9 => nI (sf z9)))), (m11, .inl (gI g, 10, .inl (fun z9 => nI (ss z9)))), (m12, .inl (gI g, 10, .inl (fun z9 => nI (sw z9)))), (m13, .inl (gI g, 256, .inl (fun z9 => nI (ways z9)))), (m14, .inl (gI g, 8, .inl (fun z9 => nI (chain z9)))), (m15, .inl (gI g, 5, .inl (fun z9 => nI (row z9)))), (m16, .inl (gI g, 5, .inl (fun z9 => nI (best z9))))] := by
                      intro k58
                      induction k58 using Nat.strongRecOn with
                      | _ k58 ih58 =>
                        intro b hm58 hb
                        refine v_iload5 h dX8_findFar_58 ?_
                        refine v_aload_n0 h dX8_findFar_60 ?_
                        refine v_get h mw_X8 0 rfl rfl 5 (by decide) mf_X8_68 rfl dX8_findFar_61 ?_
                        refine v_icmp_geN h dX8_findFar_64 (tgt := 128) (by decide) (by omega) (by omega) (fun c64 => ?_) (fun c64 => ?_)
                        · obtain rfl : n = b := by omega
                          have e9 : fA n (fM (alkS (kd j) (pt j) w n) n tq s a n) far = fA n (fM (alkS (kd j) (pt j) w n) n tq s (a + 1) 0) far := fA_congr (fun z hz => fM_row hz)
                          refine v_iincN4 h (Nat.le_of_ble_eq_true rfl) dX8_findFar_128 ?_
                          refine v_goto h dX8_findFar_131 (tgt := 46) (by decide) ?_
                          exact vM.le rfl rfl (by rw [e9]) (vM.fg (ih46 _ (by omega) (a + 1) rfl (by first | assumption | rfl | omega)) ⟨rfl, rfl, rfl, rfl, rfl, trivial⟩)
                        · refine v_aload_n0 h dX8_findFar_67 ?_
                          refine v_get h mw_X8 0 rfl rfl 13 (by decide) mf_X8_31 rfl dX8_findFar_68 ?_
                          refine v_iload4 h dX8_findFar_71 ?_
                          refine v_ialdF h 8 rfl (by omega) (Nat.le_of_ble_eq_true rfl) dX8_findFar_73 ?_
                          refine v_iload_n3 h dX8_findFar_74 ?_
                          refine v_icmp_ne h dX8_findFar_75 (tgt := 128) (by decide) (fun c75 => ?_) (fun c75 => ?_)
                          · rw [fA_at (by omega), fM_self (by omega)] at c75
                            have e9 : fA n (fM (alkS (kd j) (pt j) w n) n tq s a b) far = fA n (fM (alkS (kd j) (pt j) w n) n tq s (a + 1) 0) far := fA_congr (fun z hz => fM_skip c75)
                            refine v_iincN4 h (Nat.le_of_ble_eq_true rfl) dX8_findFar_128 ?_
                            refine v_goto h dX8_findFar_131 (tgt := 46) (by decide) ?_
                            exact vM.le rfl rfl (by rw [e9]) (vM.fg (ih46 _ (by omega) (a + 1) rfl (by first | assumption | rfl | omega)) ⟨rfl, rfl, rfl, rfl, rfl, trivial⟩)
                          · rw [fA_at (by omega), fM_self (by omega)] at c75
                            refine v_aload_n0 h dX8_findFar_78 ?_
                            refine v_get h mw_X8 0 rfl rfl 13 (by decide) mf_X8_31 rfl dX8_findFar_79 ?_
                            refine v_iload5 h dX8_findFar_82 ?_
                            refine v_aload_n0 h dX8_findFar_84 ?_
                            refine v_get h mw_X8 0 rfl rfl 13 (by decide) mf_X8_31 rfl dX8_findFar_85 ?_
                            refine v_iload5 h dX8_findFar_88 ?_
                            refine v_ialdF h 8 rfl (by omega) (Nat.le_of_ble_eq_true rfl) dX8_findFar_90 ?_
                            refine v_bipush h (v := -9) dX8_findFar_91 (by decide) ?_
                            refine v_icmp_ne h dX8_findFar_93 (tgt := 114) (by decide) (fun c93 => ?_) (fun c93 => ?_)
                            · rw [fA_at (by omega)] at c93
                              have g9 : fA n (fM (alkS (kd j) (pt j) w n) n tq s a b) far b = fM (alkS (kd j) (pt j) w n) n tq s a (b + 1) b := by rw [fA_at (by omega), fM_b (by omega) (by omega) c75, if_neg (fun q => c93 q.1)]
                              refine v_aload_n0 h dX8_findFar_114 ?_
                              refine v_get h mw_X8 0 rfl rfl 13 (by decide) mf_X8_31 rfl dX8_findFar_115 ?_
                              refine v_iload5 h dX8_findFar_118 ?_
                              refine v_ialdF h 8 rfl (by omega) (Nat.le_of_ble_eq_true rfl) dX8_findFar_120 ?_
                              refine v_iastF_at8 h (by omega) (Nat.le_of_ble_eq_true rfl) dX8_findFar_121 ?_
                              refine v_iincN5 h (Nat.le_of_ble_eq_true rfl) dX8_findFar_122 ?_
                              refine v_goto h dX8_findFar_125 (tgt := 58) (by decide) ?_
                              exact vM.le rfl rfl (by rw [fA_step (by omega) g9]) (vM.fg (ih58 _ (by omega) (b + 1) rfl (by first | assumption | rfl | omega)) ⟨rfl, rfl, rfl, rfl, rfl, rfl, trivial⟩)
                            · rw [fA_at (by omega)] at c93
                              refine v_aload_n0 h dX8_findFar_96 ?_
                              refine v_iload_n1 h dX8_findFar_97 ?_
                              refine v_iload4 h dX8_findFar_98 ?_
                              refine v_iload5 h dX8_findFar_100 ?_
                              refine cw_V_0_1_2_3_4_5_6_7_8_9_10_11_12_13_14_15_16_3_i (ci := 7) h (c_X8_areAlike (g := g) (by first | assumption | omega) (by first | assumption | omega) (by first | assumption | omega) (by first | assumption | omega) (by first | assumption | omega)) lk_X8_119 ⟨rfl, rfl, (Nat.le_of_ble_eq_true rfl), (Nat.le_of_ble_eq_true rfl)⟩ rfl rfl rfl (Nat.le_of_ble_eq_true rfl) dX8_findFar_102 ?_
                              refine v_if_eqB h dX8_findFar_105 (tgt := 114) (by decide) (fun c105 => ?_) (fun c105 => ?_)
                              · have g9 : fA n (fM (alkS (kd j) (pt j) w n) n tq s a b) far b = fM (alkS (kd j) (pt j) w n) n tq s a (b + 1) b := by rw [fA_at (by omega), fM_b (by omega) (by omega) c75, if_neg (fun q => by have q2 := q.2; rw [alkS_bit, c105, Bool.and_false] at q2; cases q2)]
                                refine v_aload_n0 h dX8_findFar_114 ?_
                                refine v_get h mw_X8 0 rfl rfl 13 (by decide) mf_X8_31 rfl dX8_findFar_115 ?_
                                refine v_iload5 h dX8_findFar_118 ?_
                                refine v_ialdF h 8 rfl (by omega) (Nat.le_of_ble_eq_true rfl) dX8_findFar_120 ?_
                                refine v_iastF_at8 h (by omega) (Nat.le_of_ble_eq_true rfl) dX8_findFar_121 ?_
                                refine v_iincN5 h (Nat.le_of_ble_eq_true rfl) dX8_findFar_122 ?_
                                refine v_goto h dX8_findFar_125 (tgt := 58) (by decide) ?_
                                exact vM.le rfl rfl (by rw [fA_step (by omega) g9]) (vM.fg (ih58 _ (by omega) (b + 1) rfl (by first | assumption | rfl | omega)) ⟨rfl, rfl, rfl, rfl, rfl, rfl, trivial⟩)
                              · have g9 : nI (s + 1) = fM (alkS (kd j) (pt j) w n) n tq s a (b + 1) b := by rw [fM_b (by omega) (by omega) c75, if_pos ⟨c93, by rw [alkS_bit, decide_eq_true (show b < n by omega), c105]; rfl⟩]
                                refine v_iload_n3 h dX8_findFar_108 ?_
                                refine v_iconst h (v := nI 1) dX8_findFar_109 (by decide) ?_
                                refine v_iaddN h dX8_findFar_110 ?_
                                refine v_goto h dX8_findFar_111 (tgt := 121) (by decide) ?_
                                refine v_iastF_at8 h (by omega) (Nat.le_of_ble_eq_true rfl) dX8_findFar_121 ?_
                                refine v_iincN5 h (Nat.le_of_ble_eq_true rfl) dX8_findFar_122 ?_
                                refine v_goto h dX8_findFar_125 (tgt := 58) (by decide) ?_
                                exact vM.le rfl rfl (by rw [fA_step (by omega) g9]) (vM.fg (ih58 _ (by omega) (b + 1) rfl (by first | assumption | rfl | omega)) ⟨rfl, rfl, rfl, rfl, rfl, rfl, trivial⟩)
                    exact vM.fg (L58 _ 0 rfl (by first | assumption | rfl | omega)) ⟨rfl, rfl, rfl, rfl, rfl, rfl, trivial⟩
              exact vM.le rfl rfl (by rw [fA_congr (H := fM (alkS (kd j) (pt j) w n) n tq s 0 0) (fun z _ => fM_00.symm)]) (vM.fg (L46 _ 0 rfl (by first | assumption | rfl | omega)) ⟨rfl, rfl, rfl, rfl, rfl, trivial⟩)
        exact vM.fg (L35 _ 0 rfl (by first | assumption | rfl | omega)) ⟨rfl, rfl, rfl, rfl, trivial⟩
      · refine v_aload_n0 h dX8_findFar_10 ?_
        refine v_get h mw_X8 0 rfl rfl 13 (by decide) mf_X8_31 rfl dX8_findFar_11 ?_
        refine v_iload_n3 h dX8_findFar_14 ?_
        refine v_iload_n3 h dX8_findFar_15 ?_
        refine v_iload_n2 h dX8_findFar_16 ?_
        refine v_icmp_neN h dX8_findFar_17 (tgt := 24) (by decide) (by omega) (by omega) (fun c17 => ?_) (fun c17 => ?_)
        · refine v_bipush h (v := -9) dX8_findFar_24 (by decide) ?_
          refine v_iastF_at8 h (by omega) (Nat.le_of_ble_eq_true rfl) dX8_findFar_26 ?_
          refine v_iincN3 h (Nat.le_of_ble_eq_true rfl) dX8_findFar_27 ?_
          refine v_goto h dX8_findFar_30 (tgt := 2) (by decide) ?_
          exact vM.le rfl rfl (by first | rw [fA_succ (G := fD (alkS (kd j) (pt j) w n) n tq 0) (show nI 0 = _ by rw [fD_0, if_pos c17]; rfl)] | rw [fA_succ (G := fD (alkS (kd j) (pt j) w n) n tq 0) (by rw [fD_0, if_neg c17])]) (vM.fg (ih2 _ (by omega) (i + 1) rfl (by first | assumption | rfl | omega)) ⟨rfl, rfl, rfl, rfl, trivial⟩)
        · refine v_iconst h (v := nI 0) dX8_findFar_20 (by decide) ?_
          refine v_goto h dX8_findFar_21 (tgt := 26) (by decide) ?_
          refine v_iastF_at8 h (by omega) (Nat.le_of_ble_eq_true rfl) dX8_findFar_26 ?_
          refine v_iincN3 h (Nat.le_of_ble_eq_true rfl) dX8_findFar_27 ?_
          refine v_goto h dX8_findFar_30 (tgt := 2) (by decide) ?_
          exact vM.le rfl rfl (by first | rw [fA_succ (G := fD (alkS (kd j) (pt j) w n) n tq 0) (show nI 0 = _ by rw [fD_0, if_pos c17]; rfl)] | rw [fA_succ (G := fD (alkS (kd j) (pt j) w n) n tq 0) (by rw [fD_0, if_neg c17])]) (vM.fg (ih2 _ (by omega) (i + 1) rfl (by first | assumption | rfl | omega)) ⟨rfl, rfl, rfl, rfl, trivial⟩)
  exact vM.le rfl rfl (by rw [fA_0]) (vM.fg (L2 _ 0 rfl (by first | assumption | rfl | omega)) ⟨rfl, rfl, rfl, rfl, trivial⟩)
