theorem v_iastN_at14 {x : vX} {g : vG} {cc : ByteArray} {own : String} {rm : Room} {nL pc : Nat} {lv : List (Option Value)} {st : List Value} {w0 w1 w2 w3 w4 w5 w6 w7 w8 w9 w10 w11 w12 w13 : Nat × va_E} {wt : va_W} {n b i v : Nat} {w : Nat → Nat} (h : Ok x g cc own rm nL) (hi : i < n) (hn : n < 2 ^ 31) (hd : decode cc pc = .ok (.iastore, 1)) (k : vM x (pc + 1) lv st (w0 :: w1 :: w2 :: w3 :: w4 :: w5 :: w6 :: w7 :: w8 :: w9 :: w10 :: w11 :: w12 :: w13 :: (b, .inl (gI g, n, .inl (fun j => nI (up w i v j)))) :: wt)) : vM x pc lv (.int (nI v) :: .int (nI i) :: .ref b :: st) (w0 :: w1 :: w2 :: w3 :: w4 :: w5 :: w6 :: w7 :: w8 :: w9 :: w10 :: w11 :: w12 :: w13 :: (b, .inl (gI g, n, .inl (fun j => nI (w j)))) :: wt) := v_iastN h 14 rfl hi hn hd rfl k
def P_X8_longest (g : vG) (m0 m1 m2 m3 m4 m5 m6 m7 m8 m9 m10 m11 m12 m13 m14 m15 m16 : Nat) (fl : Nat) (tr : Int32) (msrt : Nat → Int32) (len : Nat → Nat) (mc : Nat → Int32) (n : Nat) (w : Nat → Nat) (atp : Nat) (rt : Nat) (rwt : Nat → Nat) (hn : Nat) (kd : Nat → Nat) (pt : Nat → Nat) (far : Nat → Int32) (sn : Nat) (sb : Nat → Nat) (sf : Nat → Nat) (ss : Nat → Nat) (sw : Nat → Nat) (ways : Nat → Nat) (chain : Nat → Nat) (row : Nat → Nat) (best : Nat → Nat) (p0 : Int32) : Option Value → va_W → Prop := fun r wo => ∃ chain' : Nat → Nat, r = some (.int (s_longest n w hn kd pt p0)) ∧ wo = [(m0, .inr (7, [.int (nI fl), .int tr, .ref m1, .ref m2, .ref m3, .int (nI n), .ref m4, .int (nI atp), .int (nI rt), .ref m5, .int (nI hn), .ref m6, .ref m7, .ref m8, .int (nI sn), .ref m9, .ref m10, .ref m11, .ref m12, .ref m13, .ref m14, .ref m15, .ref m16])), (m1, .inl (gI g, 4, .inl msrt)), (m2, .inl (gI g, 4, .inl (fun z9 => nI (len z9)))), (m3, .inl (gI g, 160, .inl mc)), (m4, .inl (gI g, 8, .inl (fun z9 => nI (w z9)))), (m5, .inl (gI g, 8, .inl (fun z9 => nI (rwt z9)))), (m6, .inl (gI g, 6, .inl (fun z9 => nI (kd z9)))), (m7, .inl (gI g, 6, .inl (fun z9 => nI (pt z9)))), (m8, .inl (gI g, 8, .inl far)), (m9, .inl (gI g, 10, .inl (fun z9 => nI (sb z9)))), (m10, .inl (gI g, 10, .inl (fun z9 => nI (sf z9)))), (m11, .inl (gI g, 10, .inl (fun z9 => nI (ss z9)))), (m12, .inl (gI g, 10, .inl (fun z9 => nI (sw z9)))), (m13, .inl (gI g, 256, .inl (fun z9 => nI (ways z9)))), (m14, .inl (gI g, 8, .inl (fun z9 => nI (chain' z9)))), (m15, .inl (gI g, 5, .inl (fun z9 => nI (row z9)))), (m16, .inl (gI g, 5, .inl (fun z9 => nI (best z9))))]
theorem P_X8_longest_mk {g : vG} {m0 m1 m2 m3 m4 m5 m6 m7 m8 m9 m10 m11 m12 m13 m14 m15 m16 : Nat} {fl : Nat} {tr : Int32} {msrt : Nat → Int32} {len : Nat → Nat} {mc : Nat → Int32} {n : Nat} {w : Nat → Nat} {atp : Nat} {rt : Nat} {rwt : Nat → Nat} {hn : Nat} {kd : Nat → Nat} {pt : Nat → Nat} {far : Nat → Int32} {sn : Nat} {sb : Nat → Nat} {sf : Nat → Nat} {ss : Nat → Nat} {sw : Nat → Nat} {ways : Nat → Nat} {chain : Nat → Nat} {row : Nat → Nat} {best : Nat → Nat} {p0 : Int32} {chain' : Nat → Nat} {q : Int32} (hs : s_longest n w hn kd pt p0 = q)  : P_X8_longest g m0 m1 m2 m3 m4 m5 m6 m7 m8 m9 m10 m11 m12 m13 m14 m15 m16 fl tr msrt len mc n w atp rt rwt hn kd pt far sn sb sf ss sw ways chain row best p0 (some (.int q)) [(m0, .inr (7, [.int (nI fl), .int tr, .ref m1, .ref m2, .ref m3, .int (nI n), .ref m4, .int (nI atp), .int (nI rt), .ref m5, .int (nI hn), .ref m6, .ref m7, .ref m8, .int (nI sn), .ref m9, .ref m10, .ref m11, .ref m12, .ref m13, .ref m14, .ref m15, .ref m16])), (m1, .inl (gI g, 4, .inl msrt)), (m2, .inl (gI g, 4, .inl (fun z9 => nI (len z9)))), (m3, .inl (gI g, 160, .inl mc)), (m4, .inl (gI g, 8, .inl (fun z9 => nI (w z9)))), (m5, .inl (gI g, 8, .inl (fun z9 => nI (rwt z9)))), (m6, .inl (gI g, 6, .inl (fun z9 => nI (kd z9)))), (m7, .inl (gI g, 6, .inl (fun z9 => nI (pt z9)))), (m8, .inl (gI g, 8, .inl far)), (m9, .inl (gI g, 10, .inl (fun z9 => nI (sb z9)))), (m10, .inl (gI g, 10, .inl (fun z9 => nI (sf z9)))), (m11, .inl (gI g, 10, .inl (fun z9 => nI (ss z9)))), (m12, .inl (gI g, 10, .inl (fun z9 => nI (sw z9)))), (m13, .inl (gI g, 256, .inl (fun z9 => nI (ways z9)))), (m14, .inl (gI g, 8, .inl (fun z9 => nI (chain' z9)))), (m15, .inl (gI g, 5, .inl (fun z9 => nI (row z9)))), (m16, .inl (gI g, 5, .inl (fun z9 => nI (best z9))))] := by subst hs; exact ⟨_, rfl, rfl⟩
set_option maxRecDepth 20000 in
set_option maxHeartbeats 4000000 in
theorem c_X8_longest {g : vG} {m0 m1 m2 m3 m4 m5 m6 m7 m8 m9 m10 m11 m12 m13 m14 m15 m16 : Nat} {fl : Nat} {tr : Int32} {msrt : Nat → Int32} {len : Nat → Nat} {mc : Nat → Int32} {n : Nat} {w : Nat → Nat} {atp : Nat} {rt : Nat} {rwt : Nat → Nat} {hn : Nat} {kd : Nat → Nat} {pt : Nat → Nat} {far : Nat → Int32} {sn : Nat} {sb : Nat → Nat} {sf : Nat → Nat} {ss : Nat → Nat} {sw : Nat → Nat} {ways : Nat → Nat} {chain : Nat → Nat} {row : Nat → Nat} {best : Nat → Nat} {p0 : Int32} (hT : wfT n w) (hH : wfH hn kd pt) (hn2 : hn = 0 ∨ 2 ≤ n) : CtP g yX8_longest cX8_longest 6 (some .int) (rmOf 3 68) [(m0, .inr (7, [.int (nI fl), .int tr, .ref m1, .ref m2, .ref m3, .int (nI n), .ref m4, .int (nI atp), .int (nI rt), .ref m5, .int (nI hn), .ref m6, .ref m7, .ref m8, .int (nI sn), .ref m9, .ref m10, .ref m11, .ref m12, .ref m13, .ref m14, .ref m15, .ref m16])), (m1, .inl (gI g, 4, .inl msrt)), (m2, .inl (gI g, 4, .inl (fun z9 => nI (len z9)))), (m3, .inl (gI g, 160, .inl mc)), (m4, .inl (gI g, 8, .inl (fun z9 => nI (w z9)))), (m5, .inl (gI g, 8, .inl (fun z9 => nI (rwt z9)))), (m6, .inl (gI g, 6, .inl (fun z9 => nI (kd z9)))), (m7, .inl (gI g, 6, .inl (fun z9 => nI (pt z9)))), (m8, .inl (gI g, 8, .inl far)), (m9, .inl (gI g, 10, .inl (fun z9 => nI (sb z9)))), (m10, .inl (gI g, 10, .inl (fun z9 => nI (sf z9)))), (m11, .inl (gI g, 10, .inl (fun z9 => nI (ss z9)))), (m12, .inl (gI g, 10, .inl (fun z9 => nI (sw z9)))), (m13, .inl (gI g, 256, .inl (fun z9 => nI (ways z9)))), (m14, .inl (gI g, 8, .inl (fun z9 => nI (chain z9)))), (m15, .inl (gI g, 5, .inl (fun z9 => nI (row z9)))), (m16, .inl (gI g, 5, .inl (fun z9 => nI (best z9))))] [.ref m0, .int p0] (P_X8_longest g m0 m1 m2 m3 m4 m5 m6 m7 m8 m9 m10 m11 m12 m13 m14 m15 m16 fl tr msrt len mc n w atp rt rwt hn kd pt far sn sb sf ss sw ways chain row best p0) := by
  refine CtP.ofV RX8 rfl (by decide +kernel) rfl rfl (Nat.le_of_ble_eq_true rfl) (List.forall_mem_cons.mpr ⟨rfl, (List.forall_mem_cons.mpr ⟨rfl, (fun _ h9 => absurd h9 List.not_mem_nil)⟩)⟩) (fun x h hr => ?_)
  show vM x 0 [some (.ref m0), some (.int p0), none, none, none, none] [] [(m0, .inr (7, [.int (nI fl), .int tr, .ref m1, .ref m2, .ref m3, .int (nI n), .ref m4, .int (nI atp), .int (nI rt), .ref m5, .int (nI hn), .ref m6, .ref m7, .ref m8, .int (nI sn), .ref m9, .ref m10, .ref m11, .ref m12, .ref m13, .ref m14, .ref m15, .ref m16])), (m1, .inl (gI g, 4, .inl msrt)), (m2, .inl (gI g, 4, .inl (fun z9 => nI (len z9)))), (m3, .inl (gI g, 160, .inl mc)), (m4, .inl (gI g, 8, .inl (fun z9 => nI (w z9)))), (m5, .inl (gI g, 8, .inl (fun z9 => nI (rwt z9)))), (m6, .inl (gI g, 6, .inl (fun z9 => nI (kd z9)))), (m7, .inl (gI g, 6, .inl (fun z9 => nI (pt z9)))), (m8, .inl (gI g, 8, .inl far)), (m9, .inl (gI g, 10, .inl (fun z9 => nI (sb z9)))), (m10, .inl (gI g, 10, .inl (fun z9 => nI (sf z9)))), (m11, .inl (gI g, 10, .inl (fun z9 => nI (ss z9)))), (m12, .inl (gI g, 10, .inl (fun z9 => nI (sw z9)))), (m13, .inl (gI g, 256, .inl (fun z9 => nI (ways z9)))), (m14, .inl (gI g, 8, .inl (fun z9 => nI (chain z9)))), (m15, .inl (gI g, 5, .inl (fun z9 => nI (row z9)))), (m16, .inl (gI g, 5, .inl (fun z9 => nI (best z9))))]
  have ht1 := hT.1; have ht2 := hT.2.1; have ht3 := hT.2.2; have hh1 := hH.1; have hh2 := hH.2.1; have hh3 := hH.2.2.1; have hh4 := hH.2.2.2
  refine v_aload_n0 h dX8_longest_0 ?_
  refine v_iload_n1 h dX8_longest_1 ?_
  refine cw_V_0_1_2_3_4_5_6_7_8_9_10_11_12_13_14_15_16_1_i (ci := 7) h (c_X8_isHand (g := g)) lk_X8_107 ⟨rfl, rfl, (Nat.le_of_ble_eq_true rfl), (Nat.le_of_ble_eq_true rfl)⟩ rfl rfl rfl (Nat.le_of_ble_eq_true rfl) dX8_longest_2 ?_
  refine v_if_neB h dX8_longest_5 (tgt := 10) (by decide) (fun c5 => ?_) (fun c5 => ?_)
  · obtain ⟨j0, hj0, rfl⟩ := inR_of c5 (by omega)
    have e5 := rN_N hj0 (by omega)
    refine v_iconst h (v := nI 0) dX8_longest_10 (by decide) ?_
    refine v_istore_n2 h (Nat.le_of_ble_eq_true rfl) dX8_longest_11 ?_
    have L12 : ∀ (k12 : Nat) (i : Nat), n - i = k12 → (i ≤ n) → vM x 12 [some (.ref m0), some (.int (nI j0)), some (.int (nI i)), none, none, none] [] [(m0, .inr (7, [.int (nI fl), .int tr, .ref m1, .ref m2, .ref m3, .int (nI n), .ref m4, .int (nI atp), .int (nI rt), .ref m5, .int (nI hn), .ref m6, .ref m7, .ref m8, .int (nI sn), .ref m9, .ref m10, .ref m11, .ref m12, .ref m13, .ref m14, .ref m15, .ref m16])), (m1, .inl (gI g, 4, .inl msrt)), (m2, .inl (gI g, 4, .inl (fun z9 => nI (len z9)))), (m3, .inl (gI g, 160, .inl mc)), (m4, .inl (gI g, 8, .inl (fun z9 => nI (w z9)))), (m5, .inl (gI g, 8, .inl (fun z9 => nI (rwt z9)))), (m6, .inl (gI g, 6, .inl (fun z9 => nI (kd z9)))), (m7, .inl (gI g, 6, .inl (fun z9 => nI (pt z9)))), (m8, .inl (gI g, 8, .inl far)), (m9, .inl (gI g, 10, .inl (fun z9 => nI (sb z9)))), (m10, .inl (gI g, 10, .inl (fun z9 => nI (sf z9)))), (m11, .inl (gI g, 10, .inl (fun z9 => nI (ss z9)))), (m12, .inl (gI g, 10, .inl (fun z9 => nI (sw z9)))), (m13, .inl (gI g, 256, .inl (fun z9 => nI (ways z9)))), (m14, .inl (gI g, 8, .inl (fun z9 => nI ((layF chain i (fun _ => 1)) z9)))), (m15, .inl (gI g, 5, .inl (fun z9 => nI (row z9)))), (m16, .inl (gI g, 5, .inl (fun z9 => nI (best z9))))] := by
      intro k12
      induction k12 using Nat.strongRecOn with
      | _ k12 ih12 =>
        intro i hm12 hi
        refine v_iload_n2 h dX8_longest_12 ?_
        refine v_aload_n0 h dX8_longest_13 ?_
        refine v_get h mw_X8 0 rfl rfl 5 (by decide) mf_X8_68 rfl dX8_longest_14 ?_
        refine v_icmp_geN h dX8_longest_17 (tgt := 33) (by decide) (by omega) (by omega) (fun c17 => ?_) (fun c17 => ?_)
        · obtain rfl : n = i := by omega
          refine v_iconst h (v := nI 1) dX8_longest_33 (by decide) ?_
          refine v_istore_n2 h (Nat.le_of_ble_eq_true rfl) dX8_longest_34 ?_
          refine v_iconst h (v := nI 0) dX8_longest_35 (by decide) ?_
          refine v_istore_n3 h (Nat.le_of_ble_eq_true rfl) dX8_longest_36 ?_
          have L37 : ∀ (k37 : Nat) (s : Nat) (ch : Nat → Nat) (mo : Nat), n - s = k37 → (s ≤ n) → (lnO (ligS (kd j0) (pt j0) w n) n s ch mo) → vM x 37 [some (.ref m0), some (.int (nI j0)), some (.int (nI mo)), some (.int (nI s)), none, none] [] [(m0, .inr (7, [.int (nI fl), .int tr, .ref m1, .ref m2, .ref m3, .int (nI n), .ref m4, .int (nI atp), .int (nI rt), .ref m5, .int (nI hn), .ref m6, .ref m7, .ref m8, .int (nI sn), .ref m9, .ref m10, .ref m11, .ref m12, .ref m13, .ref m14, .ref m15, .ref m16])), (m1, .inl (gI g, 4, .inl msrt)), (m2, .inl (gI g, 4, .inl (fun z9 => nI (len z9)))), (m3, .inl (gI g, 160, .inl mc)), (m4, .inl (gI g, 8, .inl (fun z9 => nI (w z9)))), (m5, .inl (gI g, 8, .inl (fun z9 => nI (rwt z9)))), (m6, .inl (gI g, 6, .inl (fun z9 => nI (kd z9)))), (m7, .inl (gI g, 6, .inl (fun z9 => nI (pt z9)))), (m8, .inl (gI g, 8, .inl far)), (m9, .inl (gI g, 10, .inl (fun z9 => nI (sb z9)))), (m10, .inl (gI g, 10, .inl (fun z9 => nI (sf z9)))), (m11, .inl (gI g, 10, .inl (fun z9 => nI (ss z9)))), (m12, .inl (gI g, 10, .inl (fun z9 => nI (sw z9)))), (m13, .inl (gI g, 256, .inl (fun z9 => nI (ways z9)))), (m14, .inl (gI g, 8, .inl (fun z9 => nI (ch z9)))), (m15, .inl (gI g, 5, .inl (fun z9 => nI (row z9)))), (m16, .inl (gI g, 5, .inl (fun z9 => nI (best z9))))] := by
            intro k37
            induction k37 using Nat.strongRecOn with
            | _ k37 ih37 =>
              intro s ch mo hm37 hs hi
              refine v_iload_n3 h dX8_longest_37 ?_
              refine v_aload_n0 h dX8_longest_38 ?_
              refine v_get h mw_X8 0 rfl rfl 5 (by decide) mf_X8_68 rfl dX8_longest_39 ?_
              refine v_icmp_geN h dX8_longest_42 (tgt := 167) (by decide) (by omega) (by omega) (fun c42 => ?_) (fun c42 => ?_)
              · obtain rfl : n = s := by omega
                have e42 := ln_end hi (by omega)
                refine v_iload_n2 h dX8_longest_167 ?_
                exact v_iretP h hr dX8_longest_168 (P_X8_longest_mk (q := _) (by simp only [s_longest, e5, e42]) ) rfl
              · refine v_iconst h (v := nI 0) dX8_longest_45 (by decide) ?_
                refine v_istore4 h (Nat.le_of_ble_eq_true rfl) dX8_longest_46 ?_
                have L48 : ∀ (k48 : Nat) (xi : Nat) (cx : Nat → Nat) (mx : Nat), n - xi = k48 → (xi ≤ n) → (lnI (ligS (kd j0) (pt j0) w n) n s xi 0 cx mx) → vM x 48 [some (.ref m0), some (.int (nI j0)), some (.int (nI mx)), some (.int (nI s)), some (.int (nI xi)), none] [] [(m0, .inr (7, [.int (nI fl), .int tr, .ref m1, .ref m2, .ref m3, .int (nI n), .ref m4, .int (nI atp), .int (nI rt), .ref m5, .int (nI hn), .ref m6, .ref m7, .ref m8, .int (nI sn), .ref m9, .ref m10, .ref m11, .ref m12, .ref m13, .ref m14, .ref m15, .ref m16])), (m1, .inl (gI g, 4, .inl msrt)), (m2, .inl (gI g, 4, .inl (fun z9 => nI (len z9)))), (m3, .inl (gI g, 160, .inl mc)), (m4, .inl (gI g, 8, .inl (fun z9 => nI (w z9)))), (m5, .inl (gI g, 8, .inl (fun z9 => nI (rwt z9)))), (m6, .inl (gI g, 6, .inl (fun z9 => nI (kd z9)))), (m7, .inl (gI g, 6, .inl (fun z9 => nI (pt z9)))), (m8, .inl (gI g, 8, .inl far)), (m9, .inl (gI g, 10, .inl (fun z9 => nI (sb z9)))), (m10, .inl (gI g, 10, .inl (fun z9 => nI (sf z9)))), (m11, .inl (gI g, 10, .inl (fun z9 => nI (ss z9)))), (m12, .inl (gI g, 10, .inl (fun z9 => nI (sw z9)))), (m13, .inl (gI g, 256, .inl (fun z9 => nI (ways z9)))), (m14, .inl (gI g, 8, .inl (fun z9 => nI (cx z9)))), (m15, .inl (gI g, 5, .inl (fun z9 => nI (row z9)))), (m16, .inl (gI g, 5, .inl (fun z9 => nI (best z9))))] := by
                  intro k48
                  induction k48 using Nat.strongRecOn with
                  | _ k48 ih48 =>
                    intro xi cx mx hm48 hxi hI
                    refine v_iload4 h dX8_longest_48 ?_
                    refine v_aload_n0 h dX8_longest_50 ?_
                    refine v_get h mw_X8 0 rfl rfl 5 (by decide) mf_X8_68 rfl dX8_longest_51 ?_
                    refine v_icmp_geN h dX8_longest_54 (tgt := 161) (by decide) (by omega) (by omega) (fun c54 => ?_) (fun c54 => ?_)
                    · obtain rfl : n = xi := by omega
                      refine v_iincN3 h (Nat.le_of_ble_eq_true rfl) dX8_longest_161 ?_
                      refine v_goto h dX8_longest_164 (tgt := 37) (by decide) ?_
                      exact vM.fg (ih37 _ (by omega) (s + 1) _ _ rfl (by first | assumption | rfl | omega) (by exact ln_out hI)) ⟨rfl, rfl, rfl, rfl, trivial⟩
                    · refine v_iconst h (v := nI 0) dX8_longest_57 (by decide) ?_
                      refine v_istore5 h (Nat.le_of_ble_eq_true rfl) dX8_longest_58 ?_
                      have L60 : ∀ (k60 : Nat) (yi : Nat) (cy : Nat → Nat), n - yi = k60 → (yi ≤ n) → (lnI (ligS (kd j0) (pt j0) w n) n s xi yi cy mx) → vM x 60 [some (.ref m0), some (.int (nI j0)), some (.int (nI mx)), some (.int (nI s)), some (.int (nI xi)), some (.int (nI yi))] [] [(m0, .inr (7, [.int (nI fl), .int tr, .ref m1, .ref m2, .ref m3, .int (nI n), .ref m4, .int (nI atp), .int (nI rt), .ref m5, .int (nI hn), .ref m6, .ref m7, .ref m8, .int (nI sn), .ref m9, .ref m10, .ref m11, .ref m12, .ref m13, .ref m14, .ref m15, .ref m16])), (m1, .inl (gI g, 4, .inl msrt)), (m2, .inl (gI g, 4, .inl (fun z9 => nI (len z9)))), (m3, .inl (gI g, 160, .inl mc)), (m4, .inl (gI g, 8, .inl (fun z9 => nI (w z9)))), (m5, .inl (gI g, 8, .inl (fun z9 => nI (rwt z9)))), (m6, .inl (gI g, 6, .inl (fun z9 => nI (kd z9)))), (m7, .inl (gI g, 6, .inl (fun z9 => nI (pt z9)))), (m8, .inl (gI g, 8, .inl far)), (m9, .inl (gI g, 10, .inl (fun z9 => nI (sb z9)))), (m10, .inl (gI g, 10, .inl (fun z9 => nI (sf z9)))), (m11, .inl (gI g, 10, .inl (fun z9 => nI (ss z9)))), (m12, .inl (gI g, 10, .inl (fun z9 => nI (sw z9)))), (m13, .inl (gI g, 256, .inl (fun z9 => nI (ways z9)))), (m14, .inl (gI g, 8, .inl (fun z9 => nI (cy z9)))), (m15, .inl (gI g, 5, .inl (fun z9 => nI (row z9)))), (m16, .inl (gI g, 5, .inl (fun z9 => nI (best z9))))] := by
                        intro k60
                        induction k60 using Nat.strongRecOn with
                        | _ k60 ih60 =>
                          intro yi cy hm60 hyi hJ
                          refine v_iload5 h dX8_longest_60 ?_
                          refine v_aload_n0 h dX8_longest_62 ?_
                          refine v_get h mw_X8 0 rfl rfl 5 (by decide) mf_X8_68 rfl dX8_longest_63 ?_
                          refine v_icmp_geN h dX8_longest_66 (tgt := 132) (by decide) (by omega) (by omega) (fun c66 => ?_) (fun c66 => ?_)
                          · obtain rfl : n = yi := by omega
                            refine v_aload_n0 h dX8_longest_132 ?_
                            refine v_get h mw_X8 0 rfl rfl 20 (by decide) mf_X8_49 rfl dX8_longest_133 ?_
                            refine v_iload4 h dX8_longest_136 ?_
                            refine v_ialdN h 14 rfl (by omega) (Nat.le_of_ble_eq_true rfl) dX8_longest_138 ?_
                            refine v_iload_n2 h dX8_longest_139 ?_
                            refine v_icmp_leN h dX8_longest_140 (tgt := 153) (by decide) (by first | omega | (have h8 := ln_le hJ (z := xi) (by omega); have h7 := ln_mo hJ; omega) | (have h8 := ln_le hJ (z := xi) (by omega); have h7 := ln_le hJ (z := yi) (by omega); omega)) (by first | omega | (have h8 := ln_le hJ (z := xi) (by omega); have h7 := ln_mo hJ; omega) | (have h8 := ln_le hJ (z := xi) (by omega); have h7 := ln_le hJ (z := yi) (by omega); omega)) (fun c140 => ?_) (fun c140 => ?_)
                            · refine v_iload_n2 h dX8_longest_153 ?_
                              refine v_istore_n2 h (Nat.le_of_ble_eq_true rfl) dX8_longest_154 ?_
                              refine v_iincN4 h (Nat.le_of_ble_eq_true rfl) dX8_longest_155 ?_
                              refine v_goto h dX8_longest_158 (tgt := 48) (by decide) ?_
                              exact vM.fg (ih48 _ (by omega) (xi + 1) _ _ rfl (by first | assumption | rfl | omega) (by first | exact ln_rowt hJ (by omega) c140 | exact ln_rowf hJ (by omega) c140)) ⟨rfl, rfl, rfl, rfl, rfl, trivial⟩
                            · refine v_aload_n0 h dX8_longest_143 ?_
                              refine v_get h mw_X8 0 rfl rfl 20 (by decide) mf_X8_49 rfl dX8_longest_144 ?_
                              refine v_iload4 h dX8_longest_147 ?_
                              refine v_ialdN h 14 rfl (by omega) (Nat.le_of_ble_eq_true rfl) dX8_longest_149 ?_
                              refine v_goto h dX8_longest_150 (tgt := 154) (by decide) ?_
                              refine v_istore_n2 h (Nat.le_of_ble_eq_true rfl) dX8_longest_154 ?_
                              refine v_iincN4 h (Nat.le_of_ble_eq_true rfl) dX8_longest_155 ?_
                              refine v_goto h dX8_longest_158 (tgt := 48) (by decide) ?_
                              exact vM.fg (ih48 _ (by omega) (xi + 1) _ _ rfl (by first | assumption | rfl | omega) (by first | exact ln_rowt hJ (by omega) c140 | exact ln_rowf hJ (by omega) c140)) ⟨rfl, rfl, rfl, rfl, rfl, trivial⟩
                          · refine v_aload_n0 h dX8_longest_69 ?_
                            refine v_get h mw_X8 0 rfl rfl 20 (by decide) mf_X8_49 rfl dX8_longest_70 ?_
                            refine v_iload4 h dX8_longest_73 ?_
                            refine v_aload_n0 h dX8_longest_75 ?_
                            refine v_iload_n1 h dX8_longest_76 ?_
                            refine v_iload4 h dX8_longest_77 ?_
                            refine v_iload5 h dX8_longest_79 ?_
                            refine cw_V_0_1_2_3_4_5_6_7_8_9_10_11_12_13_14_15_16_3_i (ci := 7) h (c_X8_tellsThem (g := g) (by first | assumption | omega) (by first | assumption | omega) (by first | assumption | omega) (by first | assumption | omega) (by first | assumption | omega)) lk_X8_116 ⟨rfl, rfl, (Nat.le_of_ble_eq_true rfl), (Nat.le_of_ble_eq_true rfl)⟩ rfl rfl rfl (Nat.le_of_ble_eq_true rfl) dX8_longest_81 ?_
                            refine v_if_eqB h dX8_longest_84 (tgt := 118) (by decide) (fun c84 => ?_) (fun c84 => ?_)
                            · refine v_aload_n0 h dX8_longest_118 ?_
                              refine v_get h mw_X8 0 rfl rfl 20 (by decide) mf_X8_49 rfl dX8_longest_119 ?_
                              refine v_iload4 h dX8_longest_122 ?_
                              refine v_ialdN h 14 rfl (by omega) (Nat.le_of_ble_eq_true rfl) dX8_longest_124 ?_
                              refine v_iastN_at14 h (by omega) (Nat.le_of_ble_eq_true rfl) dX8_longest_125 ?_
                              refine v_iincN5 h (Nat.le_of_ble_eq_true rfl) dX8_longest_126 ?_
                              refine v_goto h dX8_longest_129 (tgt := 60) (by decide) ?_
                              exact vM.fg (ih60 _ (by omega) (yi + 1) _ rfl (by first | assumption | rfl | omega) (by first | exact ln_up hJ (by omega) (by rw [ligS_bit, decide_eq_true (show yi < n by omega), c84]; rfl) c103 | exact ln_same hJ (fun _ => c103) | exact ln_same hJ (fun q => by rw [ligS_bit, c84, Bool.and_false] at q; cases q))) ⟨rfl, rfl, rfl, rfl, rfl, rfl, trivial⟩
                            · refine v_aload_n0 h dX8_longest_87 ?_
                              refine v_get h mw_X8 0 rfl rfl 20 (by decide) mf_X8_49 rfl dX8_longest_88 ?_
                              refine v_iload5 h dX8_longest_91 ?_
                              refine v_ialdN h 14 rfl (by omega) (Nat.le_of_ble_eq_true rfl) dX8_longest_93 ?_
                              refine v_iconst h (v := nI 1) dX8_longest_94 (by decide) ?_
                              refine v_iaddN h dX8_longest_95 ?_
                              refine v_aload_n0 h dX8_longest_96 ?_
                              refine v_get h mw_X8 0 rfl rfl 20 (by decide) mf_X8_49 rfl dX8_longest_97 ?_
                              refine v_iload4 h dX8_longest_100 ?_
                              refine v_ialdN h 14 rfl (by omega) (Nat.le_of_ble_eq_true rfl) dX8_longest_102 ?_
                              refine v_icmp_leN h dX8_longest_103 (tgt := 118) (by decide) (by first | omega | (have h8 := ln_le hJ (z := xi) (by omega); have h7 := ln_mo hJ; omega) | (have h8 := ln_le hJ (z := xi) (by omega); have h7 := ln_le hJ (z := yi) (by omega); omega)) (by first | omega | (have h8 := ln_le hJ (z := xi) (by omega); have h7 := ln_mo hJ; omega) | (have h8 := ln_le hJ (z := xi) (by omega); have h7 := ln_le hJ (z := yi) (by omega); omega)) (fun c103 => ?_) (fun c103 => ?_)
                              · refine v_aload_n0 h dX8_longest_118 ?_
                                refine v_get h mw_X8 0 rfl rfl 20 (by decide) mf_X8_49 rfl dX8_longest_119 ?_
                                refine v_iload4 h dX8_longest_122 ?_
                                refine v_ialdN h 14 rfl (by omega) (Nat.le_of_ble_eq_true rfl) dX8_longest_124 ?_
                                refine v_iastN_at14 h (by omega) (Nat.le_of_ble_eq_true rfl) dX8_longest_125 ?_
                                refine v_iincN5 h (Nat.le_of_ble_eq_true rfl) dX8_longest_126 ?_
                                refine v_goto h dX8_longest_129 (tgt := 60) (by decide) ?_
                                exact vM.fg (ih60 _ (by omega) (yi + 1) _ rfl (by first | assumption | rfl | omega) (by first | exact ln_up hJ (by omega) (by rw [ligS_bit, decide_eq_true (show yi < n by omega), c84]; rfl) c103 | exact ln_same hJ (fun _ => c103) | exact ln_same hJ (fun q => by rw [ligS_bit, c84, Bool.and_false] at q; cases q))) ⟨rfl, rfl, rfl, rfl, rfl, rfl, trivial⟩
                              · refine v_aload_n0 h dX8_longest_106 ?_
                                refine v_get h mw_X8 0 rfl rfl 20 (by decide) mf_X8_49 rfl dX8_longest_107 ?_
                                refine v_iload5 h dX8_longest_110 ?_
                                refine v_ialdN h 14 rfl (by omega) (Nat.le_of_ble_eq_true rfl) dX8_longest_112 ?_
                                refine v_iconst h (v := nI 1) dX8_longest_113 (by decide) ?_
                                refine v_iaddN h dX8_longest_114 ?_
                                refine v_goto h dX8_longest_115 (tgt := 125) (by decide) ?_
                                refine v_iastN_at14 h (by omega) (Nat.le_of_ble_eq_true rfl) dX8_longest_125 ?_
                                refine v_iincN5 h (Nat.le_of_ble_eq_true rfl) dX8_longest_126 ?_
                                refine v_goto h dX8_longest_129 (tgt := 60) (by decide) ?_
                                exact vM.fg (ih60 _ (by omega) (yi + 1) _ rfl (by first | assumption | rfl | omega) (by first | exact ln_up hJ (by omega) (by rw [ligS_bit, decide_eq_true (show yi < n by omega), c84]; rfl) c103 | exact ln_same hJ (fun _ => c103) | exact ln_same hJ (fun q => by rw [ligS_bit, c84, Bool.and_false] at q; cases q))) ⟨rfl, rfl, rfl, rfl, rfl, rfl, trivial⟩
                      exact vM.fg (L60 _ 0 _ rfl (by first | assumption | rfl | omega) (by exact hI)) ⟨rfl, rfl, rfl, rfl, rfl, rfl, trivial⟩
                exact vM.fg (L48 _ 0 _ _ rfl (by first | assumption | rfl | omega) (by exact ln_in hi)) ⟨rfl, rfl, rfl, rfl, rfl, trivial⟩
          exact vM.fg (L37 _ 0 _ 1 rfl (by first | assumption | rfl | omega) (by exact ln_start (by omega))) ⟨rfl, rfl, rfl, rfl, trivial⟩
        · refine v_aload_n0 h dX8_longest_20 ?_
          refine v_get h mw_X8 0 rfl rfl 20 (by decide) mf_X8_49 rfl dX8_longest_21 ?_
          refine v_iload_n2 h dX8_longest_24 ?_
          refine v_iconst h (v := nI 1) dX8_longest_25 (by decide) ?_
          refine v_iastN_at14 h (by omega) (Nat.le_of_ble_eq_true rfl) dX8_longest_26 ?_
          refine v_iincN2 h (Nat.le_of_ble_eq_true rfl) dX8_longest_27 ?_
          refine v_goto h dX8_longest_30 (tgt := 12) (by decide) ?_
          exact vM.le rfl rfl (by rw [layF_succ (F := fun _ => 1) (v := 1) rfl]) (vM.fg (ih12 _ (by omega) (i + 1) rfl (by first | assumption | rfl | omega)) ⟨rfl, rfl, rfl, trivial⟩)
    exact vM.le rfl rfl (by rw [layF_0]) (vM.fg (L12 _ 0 rfl (by first | assumption | rfl | omega)) ⟨rfl, rfl, rfl, trivial⟩)
  · have e5 := rN_f c5
    refine v_iconst h (v := -1) dX8_longest_8 (by decide) ?_
    exact v_iretP h hr dX8_longest_9 (P_X8_longest_mk (q := _) (by simp only [s_longest, e5]) ) rfl
