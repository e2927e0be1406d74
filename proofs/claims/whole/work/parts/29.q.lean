theorem pf_X8_92_at0 {x : vX} {g : vG} {cc : ByteArray} {rm : Room} {nL pc : Nat} {lv : List (Option Value)} {st : List Value} {wt : va_W} {a : Nat} {f0 f1 f2 f3 f4 f5 f6 f7 f8 f9 f10 f11 f12 f13 f14 f15 f16 f17 f18 f19 f20 f21 f22 : Value} {v : Int32} (h : Ok x g cc RX8 rm nL) (hd : decode cc pc = .ok (.putfield 92, 3)) (k : vM x (pc + 3) lv st ((a, .inr (7, [f0, f1, f2, f3, f4, f5, f6, f7, .int v, f9, f10, f11, f12, f13, f14, f15, f16, f17, f18, f19, f20, f21, f22])) :: wt)) : vM x pc lv (.int v :: .ref a :: st) ((a, .inr (7, [f0, f1, f2, f3, f4, f5, f6, f7, f8, f9, f10, f11, f12, f13, f14, f15, f16, f17, f18, f19, f20, f21, f22])) :: wt) := v_put h mw_X8 tyX8 tyX8_ok nmX8 0 rfl rfl 8 (by decide) mf_X8_92 rfl (ty := .int) (by decide +kernel) rfl rfl (Nat.le_of_ble_eq_true rfl) hd rfl k
theorem v_iastN_at5 {x : vX} {g : vG} {cc : ByteArray} {own : String} {rm : Room} {nL pc : Nat} {lv : List (Option Value)} {st : List Value} {w0 w1 w2 w3 w4 : Nat × va_E} {wt : va_W} {n b i v : Nat} {w : Nat → Nat} (h : Ok x g cc own rm nL) (hi : i < n) (hn : n < 2 ^ 31) (hd : decode cc pc = .ok (.iastore, 1)) (k : vM x (pc + 1) lv st (w0 :: w1 :: w2 :: w3 :: w4 :: (b, .inl (gI g, n, .inl (fun j => nI (up w i v j)))) :: wt)) : vM x pc lv (.int (nI v) :: .int (nI i) :: .ref b :: st) (w0 :: w1 :: w2 :: w3 :: w4 :: (b, .inl (gI g, n, .inl (fun j => nI (w j)))) :: wt) := v_iastN h 5 rfl hi hn hd rfl k
theorem pf_X8_86_at0 {x : vX} {g : vG} {cc : ByteArray} {rm : Room} {nL pc : Nat} {lv : List (Option Value)} {st : List Value} {wt : va_W} {a : Nat} {f0 f1 f2 f3 f4 f5 f6 f7 f8 f9 f10 f11 f12 f13 f14 f15 f16 f17 f18 f19 f20 f21 f22 : Value} {v : Int32} (h : Ok x g cc RX8 rm nL) (hd : decode cc pc = .ok (.putfield 86, 3)) (k : vM x (pc + 3) lv st ((a, .inr (7, [f0, f1, f2, f3, f4, f5, f6, .int v, f8, f9, f10, f11, f12, f13, f14, f15, f16, f17, f18, f19, f20, f21, f22])) :: wt)) : vM x pc lv (.int v :: .ref a :: st) ((a, .inr (7, [f0, f1, f2, f3, f4, f5, f6, f7, f8, f9, f10, f11, f12, f13, f14, f15, f16, f17, f18, f19, f20, f21, f22])) :: wt) := v_put h mw_X8 tyX8 tyX8_ok nmX8 0 rfl rfl 7 (by decide) mf_X8_86 rfl (ty := .int) (by decide +kernel) rfl rfl (Nat.le_of_ble_eq_true rfl) hd rfl k
theorem lk_X8_89 : LkV RX8 89 yX8_readMarket cX8_readMarket 4 (some .boolean) 1 := ⟨ml_X8_89, mn_X8_readMarket, mv_X8_readMarket, mi_X8, mc_X8_readMarket, ⟨by decide, by decide, by decide +kernel⟩⟩
theorem pf_X8_68_at0 {x : vX} {g : vG} {cc : ByteArray} {rm : Room} {nL pc : Nat} {lv : List (Option Value)} {st : List Value} {wt : va_W} {a : Nat} {f0 f1 f2 f3 f4 f5 f6 f7 f8 f9 f10 f11 f12 f13 f14 f15 f16 f17 f18 f19 f20 f21 f22 : Value} {v : Int32} (h : Ok x g cc RX8 rm nL) (hd : decode cc pc = .ok (.putfield 68, 3)) (k : vM x (pc + 3) lv st ((a, .inr (7, [f0, f1, f2, f3, f4, .int v, f6, f7, f8, f9, f10, f11, f12, f13, f14, f15, f16, f17, f18, f19, f20, f21, f22])) :: wt)) : vM x pc lv (.int v :: .ref a :: st) ((a, .inr (7, [f0, f1, f2, f3, f4, f5, f6, f7, f8, f9, f10, f11, f12, f13, f14, f15, f16, f17, f18, f19, f20, f21, f22])) :: wt) := v_put h mw_X8 tyX8 tyX8_ok nmX8 0 rfl rfl 5 (by decide) mf_X8_68 rfl (ty := .int) (by decide +kernel) rfl rfl (Nat.le_of_ble_eq_true rfl) hd rfl k
def P_X8_readMarket (g : vG) (m0 m1 m2 m3 m4 m5 m6 m7 m8 m9 m10 m11 m12 m13 m14 m15 m16 : Nat) (fl : Nat) (tr : Int32) (msrt : Nat → Int32) (len : Nat → Nat) (mc : Nat → Int32) (n : Nat) (w : Nat → Nat) (atp : Nat) (rt : Nat) (rwt : Nat → Nat) (hn : Nat) (kd : Nat → Nat) (pt : Nat → Nat) (far : Nat → Int32) (sn : Nat) (sb : Nat → Nat) (sf : Nat → Nat) (ss : Nat → Nat) (sw : Nat → Nat) (ways : Nat → Nat) (chain : Nat → Nat) (row : Nat → Nat) (best : Nat → Nat) (e : Nat) (sx : Nat → Int32) (ml : Nat) : Option Value → va_W → Prop := fun r wo => ∃ atp' : Nat, ∃ rt' : Nat, ∃ rwt' : Nat → Nat, (¬ (ffS sx ml) = -1 → atp ≤ atp' ∧ (ffS sx ml) = nI (atp' - atp) ∧ atp' ≤ e) ∧ ((ffS sx ml) = -1 → rt' = (ml + 1) / 4) ∧ ((ffS sx ml) = -1 → ∀ q, q < rt' → rwt' q = numV sx (4 * q)) ∧ r = some (.int (nI (bN (decide ((ffS sx ml) = -1))))) ∧ wo = [(m0, .inr (7, [.int (nI fl), .int tr, .ref m1, .ref m2, .ref m3, .int (nI n), .ref m4, .int (nI atp'), .int (nI rt'), .ref m5, .int (nI hn), .ref m6, .ref m7, .ref m8, .int (nI sn), .ref m9, .ref m10, .ref m11, .ref m12, .ref m13, .ref m14, .ref m15, .ref m16])), (m1, .inl (gI g, 4, .inl msrt)), (m2, .inl (gI g, 4, .inl (fun z9 => nI (len z9)))), (m3, .inl (gI g, 160, .inl mc)), (m4, .inl (gI g, 8, .inl (fun z9 => nI (w z9)))), (m5, .inl (gI g, 8, .inl (fun z9 => nI (rwt' z9)))), (m6, .inl (gI g, 6, .inl (fun z9 => nI (kd z9)))), (m7, .inl (gI g, 6, .inl (fun z9 => nI (pt z9)))), (m8, .inl (gI g, 8, .inl far)), (m9, .inl (gI g, 10, .inl (fun z9 => nI (sb z9)))), (m10, .inl (gI g, 10, .inl (fun z9 => nI (sf z9)))), (m11, .inl (gI g, 10, .inl (fun z9 => nI (ss z9)))), (m12, .inl (gI g, 10, .inl (fun z9 => nI (sw z9)))), (m13, .inl (gI g, 256, .inl (fun z9 => nI (ways z9)))), (m14, .inl (gI g, 8, .inl (fun z9 => nI (chain z9)))), (m15, .inl (gI g, 5, .inl (fun z9 => nI (row z9)))), (m16, .inl (gI g, 5, .inl (fun z9 => nI (best z9))))]
theorem P_X8_readMarket_mk {g : vG} {m0 m1 m2 m3 m4 m5 m6 m7 m8 m9 m10 m11 m12 m13 m14 m15 m16 : Nat} {fl : Nat} {tr : Int32} {msrt : Nat → Int32} {len : Nat → Nat} {mc : Nat → Int32} {n : Nat} {w : Nat → Nat} {atp : Nat} {rt : Nat} {rwt : Nat → Nat} {hn : Nat} {kd : Nat → Nat} {pt : Nat → Nat} {far : Nat → Int32} {sn : Nat} {sb : Nat → Nat} {sf : Nat → Nat} {ss : Nat → Nat} {sw : Nat → Nat} {ways : Nat → Nat} {chain : Nat → Nat} {row : Nat → Nat} {best : Nat → Nat} {e : Nat} {sx : Nat → Int32} {ml : Nat} {atp' : Nat} {rt' : Nat} {rwt' : Nat → Nat} {q : Int32} (hs : nI (bN (decide ((ffS sx ml) = -1))) = q) (hb0 : ¬ (ffS sx ml) = -1 → atp ≤ atp' ∧ (ffS sx ml) = nI (atp' - atp) ∧ atp' ≤ e) (hb1 : (ffS sx ml) = -1 → rt' = (ml + 1) / 4) (hb2 : (ffS sx ml) = -1 → ∀ q, q < rt' → rwt' q = numV sx (4 * q)) : P_X8_readMarket g m0 m1 m2 m3 m4 m5 m6 m7 m8 m9 m10 m11 m12 m13 m14 m15 m16 fl tr msrt len mc n w atp rt rwt hn kd pt far sn sb sf ss sw ways chain row best e sx ml (some (.int q)) [(m0, .inr (7, [.int (nI fl), .int tr, .ref m1, .ref m2, .ref m3, .int (nI n), .ref m4, .int (nI atp'), .int (nI rt'), .ref m5, .int (nI hn), .ref m6, .ref m7, .ref m8, .int (nI sn), .ref m9, .ref m10, .ref m11, .ref m12, .ref m13, .ref m14, .ref m15, .ref m16])), (m1, .inl (gI g, 4, .inl msrt)), (m2, .inl (gI g, 4, .inl (fun z9 => nI (len z9)))), (m3, .inl (gI g, 160, .inl mc)), (m4, .inl (gI g, 8, .inl (fun z9 => nI (w z9)))), (m5, .inl (gI g, 8, .inl (fun z9 => nI (rwt' z9)))), (m6, .inl (gI g, 6, .inl (fun z9 => nI (kd z9)))), (m7, .inl (gI g, 6, .inl (fun z9 => nI (pt z9)))), (m8, .inl (gI g, 8, .inl far)), (m9, .inl (gI g, 10, .inl (fun z9 => nI (sb z9)))), (m10, .inl (gI g, 10, .inl (fun z9 => nI (sf z9)))), (m11, .inl (gI g, 10, .inl (fun z9 => nI (ss z9)))), (m12, .inl (gI g, 10, .inl (fun z9 => nI (sw z9)))), (m13, .inl (gI g, 256, .inl (fun z9 => nI (ways z9)))), (m14, .inl (gI g, 8, .inl (fun z9 => nI (chain z9)))), (m15, .inl (gI g, 5, .inl (fun z9 => nI (row z9)))), (m16, .inl (gI g, 5, .inl (fun z9 => nI (best z9))))] := by subst hs; exact ⟨_, _, _, hb0, hb1, hb2, rfl, rfl⟩
set_option maxRecDepth 20000 in
set_option maxHeartbeats 4000000 in
theorem c_X8_readMarket {g : vG} {m0 m1 m2 m3 m4 m5 m6 m7 m8 m9 m10 m11 m12 m13 m14 m15 m16 : Nat} {fl : Nat} {tr : Int32} {msrt : Nat → Int32} {len : Nat → Nat} {mc : Nat → Int32} {n : Nat} {w : Nat → Nat} {atp : Nat} {rt : Nat} {rwt : Nat → Nat} {hn : Nat} {kd : Nat → Nat} {pt : Nat → Nat} {far : Nat → Int32} {sn : Nat} {sb : Nat → Nat} {sf : Nat → Nat} {ss : Nat → Nat} {sw : Nat → Nat} {ways : Nat → Nat} {chain : Nat → Nat} {row : Nat → Nat} {best : Nat → Nat} {e : Nat} {sx : Nat → Int32} {ml : Nat} (he : e = atp + ml) (he2 : e ≤ 160) (hmq : ∀ q, q < ml → mc (atp + q) = sx q) : CtP g yX8_readMarket cX8_readMarket 4 (some .boolean) (rmOf 1 22) [(m0, .inr (7, [.int (nI fl), .int tr, .ref m1, .ref m2, .ref m3, .int (nI n), .ref m4, .int (nI atp), .int (nI rt), .ref m5, .int (nI hn), .ref m6, .ref m7, .ref m8, .int (nI sn), .ref m9, .ref m10, .ref m11, .ref m12, .ref m13, .ref m14, .ref m15, .ref m16])), (m1, .inl (gI g, 4, .inl msrt)), (m2, .inl (gI g, 4, .inl (fun z9 => nI (len z9)))), (m3, .inl (gI g, 160, .inl mc)), (m4, .inl (gI g, 8, .inl (fun z9 => nI (w z9)))), (m5, .inl (gI g, 8, .inl (fun z9 => nI (rwt z9)))), (m6, .inl (gI g, 6, .inl (fun z9 => nI (kd z9)))), (m7, .inl (gI g, 6, .inl (fun z9 => nI (pt z9)))), (m8, .inl (gI g, 8, .inl far)), (m9, .inl (gI g, 10, .inl (fun z9 => nI (sb z9)))), (m10, .inl (gI g, 10, .inl (fun z9 => nI (sf z9)))), (m11, .inl (gI g, 10, .inl (fun z9 => nI (ss z9)))), (m12, .inl (gI g, 10, .inl (fun z9 => nI (sw z9)))), (m13, .inl (gI g, 256, .inl (fun z9 => nI (ways z9)))), (m14, .inl (gI g, 8, .inl (fun z9 => nI (chain z9)))), (m15, .inl (gI g, 5, .inl (fun z9 => nI (row z9)))), (m16, .inl (gI g, 5, .inl (fun z9 => nI (best z9))))] [.ref m0, .int (nI e)] (P_X8_readMarket g m0 m1 m2 m3 m4 m5 m6 m7 m8 m9 m10 m11 m12 m13 m14 m15 m16 fl tr msrt len mc n w atp rt rwt hn kd pt far sn sb sf ss sw ways chain row best e sx ml) := by
  refine CtP.ofV RX8 rfl (by decide +kernel) rfl rfl (Nat.le_of_ble_eq_true rfl) (List.forall_mem_cons.mpr ⟨rfl, (List.forall_mem_cons.mpr ⟨rfl, (fun _ h9 => absurd h9 List.not_mem_nil)⟩)⟩) (fun x h hr => ?_)
  show vM x 0 [some (.ref m0), some (.int (nI e)), none, none] [] [(m0, .inr (7, [.int (nI fl), .int tr, .ref m1, .ref m2, .ref m3, .int (nI n), .ref m4, .int (nI atp), .int (nI rt), .ref m5, .int (nI hn), .ref m6, .ref m7, .ref m8, .int (nI sn), .ref m9, .ref m10, .ref m11, .ref m12, .ref m13, .ref m14, .ref m15, .ref m16])), (m1, .inl (gI g, 4, .inl msrt)), (m2, .inl (gI g, 4, .inl (fun z9 => nI (len z9)))), (m3, .inl (gI g, 160, .inl mc)), (m4, .inl (gI g, 8, .inl (fun z9 => nI (w z9)))), (m5, .inl (gI g, 8, .inl (fun z9 => nI (rwt z9)))), (m6, .inl (gI g, 6, .inl (fun z9 => nI (kd z9)))), (m7, .inl (gI g, 6, .inl (fun z9 => nI (pt z9)))), (m8, .inl (gI g, 8, .inl far)), (m9, .inl (gI g, 10, .inl (fun z9 => nI (sb z9)))), (m10, .inl (gI g, 10, .inl (fun z9 => nI (sf z9)))), (m11, .inl (gI g, 10, .inl (fun z9 => nI (ss z9)))), (m12, .inl (gI g, 10, .inl (fun z9 => nI (sw z9)))), (m13, .inl (gI g, 256, .inl (fun z9 => nI (ways z9)))), (m14, .inl (gI g, 8, .inl (fun z9 => nI (chain z9)))), (m15, .inl (gI g, 5, .inl (fun z9 => nI (row z9)))), (m16, .inl (gI g, 5, .inl (fun z9 => nI (best z9))))]
  refine v_aload_n0 h dX8_readMarket_0 ?_
  refine v_iconst h (v := nI 0) dX8_readMarket_1 (by decide) ?_
  refine pf_X8_92_at0 h dX8_readMarket_2 ?_
  have L5 : ∀ (k5 : Nat) (t : Nat) (u : Nat → Nat), 9 - t = k5 → (t ≤ 8) → (4 * t - 1 ≤ ml) → (∀ q, q < 4 * t - 1 → goB sx q = true) → (∀ q, q < t → u q = numV sx (4 * q)) → vM x 5 [some (.ref m0), some (.int (nI e)), none, none] [] [(m0, .inr (7, [.int (nI fl), .int tr, .ref m1, .ref m2, .ref m3, .int (nI n), .ref m4, .int (nI (atp + (4 * t - 1))), .int (nI t), .ref m5, .int (nI hn), .ref m6, .ref m7, .ref m8, .int (nI sn), .ref m9, .ref m10, .ref m11, .ref m12, .ref m13, .ref m14, .ref m15, .ref m16])), (m1, .inl (gI g, 4, .inl msrt)), (m2, .inl (gI g, 4, .inl (fun z9 => nI (len z9)))), (m3, .inl (gI g, 160, .inl mc)), (m4, .inl (gI g, 8, .inl (fun z9 => nI (w z9)))), (m5, .inl (gI g, 8, .inl (fun z9 => nI (u z9)))), (m6, .inl (gI g, 6, .inl (fun z9 => nI (kd z9)))), (m7, .inl (gI g, 6, .inl (fun z9 => nI (pt z9)))), (m8, .inl (gI g, 8, .inl far)), (m9, .inl (gI g, 10, .inl (fun z9 => nI (sb z9)))), (m10, .inl (gI g, 10, .inl (fun z9 => nI (sf z9)))), (m11, .inl (gI g, 10, .inl (fun z9 => nI (ss z9)))), (m12, .inl (gI g, 10, .inl (fun z9 => nI (sw z9)))), (m13, .inl (gI g, 256, .inl (fun z9 => nI (ways z9)))), (m14, .inl (gI g, 8, .inl (fun z9 => nI (chain z9)))), (m15, .inl (gI g, 5, .inl (fun z9 => nI (row z9)))), (m16, .inl (gI g, 5, .inl (fun z9 => nI (best z9))))] := by
    intro k5
    induction k5 using Nat.strongRecOn with
    | _ k5 ih5 =>
      intro t u hm5 ht hp hg hr9
      refine v_aload_n0 h dX8_readMarket_5 ?_
      refine v_get h mw_X8 0 rfl rfl 8 (by decide) mf_X8_92 rfl dX8_readMarket_6 ?_
      refine v_iconst h (v := nI 2) dX8_readMarket_9 (by decide) ?_
      refine v_icmp_ltN h dX8_readMarket_10 (tgt := 21) (by decide) (by omega) (by omega) (fun c10 => ?_) (fun c10 => ?_)
      · refine v_aload_n0 h dX8_readMarket_21 ?_
        refine v_get h mw_X8 0 rfl rfl 8 (by decide) mf_X8_92 rfl dX8_readMarket_22 ?_
        refine v_if_leN h dX8_readMarket_25 (tgt := 71) (by decide) (by omega) (fun c25 => ?_) (fun c25 => ?_)
        · have ht8 : t < 8 := by omega
          have hg2 : ∀ q, q < 4 * t → goB sx q = true := fun q hq => by omega
          refine v_iconst h (v := nI 0) dX8_readMarket_71 (by decide) ?_
          refine v_istore_n2 h (Nat.le_of_ble_eq_true rfl) dX8_readMarket_72 ?_
          refine v_iconst h (v := nI 0) dX8_readMarket_73 (by decide) ?_
          refine v_istore_n3 h (Nat.le_of_ble_eq_true rfl) dX8_readMarket_74 ?_
          have L75 : ∀ (k75 : Nat) (i : Nat), 3 - i = k75 → (i ≤ 3) → (4 * t + i ≤ ml) → (∀ q, q < 4 * t + i → goB sx q = true) → vM x 75 [some (.ref m0), some (.int (nI e)), some (.int (nI (numK (fun q => dv (sx (4 * t + q))) i))), some (.int (nI i))] [] [(m0, .inr (7, [.int (nI fl), .int tr, .ref m1, .ref m2, .ref m3, .int (nI n), .ref m4, .int (nI (atp + 4 * t + i)), .int (nI t), .ref m5, .int (nI hn), .ref m6, .ref m7, .ref m8, .int (nI sn), .ref m9, .ref m10, .ref m11, .ref m12, .ref m13, .ref m14, .ref m15, .ref m16])), (m1, .inl (gI g, 4, .inl msrt)), (m2, .inl (gI g, 4, .inl (fun z9 => nI (len z9)))), (m3, .inl (gI g, 160, .inl mc)), (m4, .inl (gI g, 8, .inl (fun z9 => nI (w z9)))), (m5, .inl (gI g, 8, .inl (fun z9 => nI (u z9)))), (m6, .inl (gI g, 6, .inl (fun z9 => nI (kd z9)))), (m7, .inl (gI g, 6, .inl (fun z9 => nI (pt z9)))), (m8, .inl (gI g, 8, .inl far)), (m9, .inl (gI g, 10, .inl (fun z9 => nI (sb z9)))), (m10, .inl (gI g, 10, .inl (fun z9 => nI (sf z9)))), (m11, .inl (gI g, 10, .inl (fun z9 => nI (ss z9)))), (m12, .inl (gI g, 10, .inl (fun z9 => nI (sw z9)))), (m13, .inl (gI g, 256, .inl (fun z9 => nI (ways z9)))), (m14, .inl (gI g, 8, .inl (fun z9 => nI (chain z9)))), (m15, .inl (gI g, 5, .inl (fun z9 => nI (row z9)))), (m16, .inl (gI g, 5, .inl (fun z9 => nI (best z9))))] := by
            intro k75
            induction k75 using Nat.strongRecOn with
            | _ k75 ih75 =>
              intro i hm75 hi hml hg3
              refine v_iload_n3 h dX8_readMarket_75 ?_
              refine v_iconst h (v := nI 3) dX8_readMarket_76 (by decide) ?_
              refine v_icmp_geN h dX8_readMarket_77 (tgt := 166) (by decide) (by omega) (by omega) (fun c77 => ?_) (fun c77 => ?_)
              · obtain rfl : i = 3 := by omega
                refine v_aload_n0 h dX8_readMarket_166 ?_
                refine v_get h mw_X8 0 rfl rfl 9 (by decide) mf_X8_22 rfl dX8_readMarket_167 ?_
                refine v_aload_n0 h dX8_readMarket_170 ?_
                refine v_get h mw_X8 0 rfl rfl 8 (by decide) mf_X8_92 rfl dX8_readMarket_171 ?_
                refine v_iload_n2 h dX8_readMarket_174 ?_
                refine v_iastN_at5 h (by omega) (Nat.le_of_ble_eq_true rfl) dX8_readMarket_175 ?_
                refine v_aload_n0 h dX8_readMarket_176 ?_
                refine v_dup h dX8_readMarket_177 rfl ?_
                refine v_get h mw_X8 0 rfl rfl 8 (by decide) mf_X8_92 rfl dX8_readMarket_178 ?_
                refine v_iconst h (v := nI 1) dX8_readMarket_181 (by decide) ?_
                refine v_iaddN h dX8_readMarket_182 ?_
                refine pf_X8_92_at0 h dX8_readMarket_183 ?_
                refine v_goto h dX8_readMarket_186 (tgt := 5) (by decide) ?_
                exact vM.le rfl rfl (by rw [show atp + 4 * t + 3 = atp + (4 * (t + 1) - 1) by omega]) (vM.fg (ih5 _ (by omega) (t + 1) _ rfl (by first | assumption | rfl | omega) (by omega) (by exact fun q hq => hg3 q (by omega)) (by exact fun q hq => by unfold up; by_cases z : q = t; (· rw [if_pos z, z]; rfl); (· rw [if_neg z]; exact hr9 q (by omega)))) ⟨rfl, rfl, trivial⟩)
              · refine v_aload_n0 h dX8_readMarket_80 ?_
                refine v_get h mw_X8 0 rfl rfl 7 (by decide) mf_X8_86 rfl dX8_readMarket_81 ?_
                refine v_iload_n1 h dX8_readMarket_84 ?_
                refine v_icmp_geN h dX8_readMarket_85 (tgt := 130) (by decide) (by omega) (by omega) (fun c85 => ?_) (fun c85 => ?_)
                · have g130 : ffS sx ml = nI (4 * t + i) := by rw [ffS_end (fun q hq => hg3 q (by omega)), if_neg (by omega)]; congr 1; omega
                  refine v_iconst h (v := nI 0) dX8_readMarket_130 (by decide) ?_
                  exact v_zretP (v := false) h hr dX8_readMarket_131 (P_X8_readMarket_mk (q := nI (bN false)) (by rw [decide_eq_false (by rw [g130]; exact nI_ne_m1 (by omega))]) (by exact fun _ => ⟨by omega, by rw [g130]; congr 1; omega, by omega⟩) (by exact fun z => absurd z (by rw [g130]; exact nI_ne_m1 (by omega))) (by exact fun z => absurd z (by rw [g130]; exact nI_ne_m1 (by omega)))) rfl
                · refine v_aload_n0 h dX8_readMarket_88 ?_
                  refine v_get h mw_X8 0 rfl rfl 4 (by decide) mf_X8_16 rfl dX8_readMarket_89 ?_
                  refine v_aload_n0 h dX8_readMarket_92 ?_
                  refine v_get h mw_X8 0 rfl rfl 7 (by decide) mf_X8_86 rfl dX8_readMarket_93 ?_
                  refine v_ialdF h 3 rfl (by omega) (Nat.le_of_ble_eq_true rfl) dX8_readMarket_96 ?_
                  refine v_bipush h (v := nI 48) dX8_readMarket_97 (by decide) ?_
                  refine v_bipush h (v := nI 57) dX8_readMarket_99 (by decide) ?_
                  refine cw_S_e_3_i h (c_X8_within (g := g)) lk_X8_64 ⟨rfl, rfl, (Nat.le_of_ble_eq_true rfl), (Nat.le_of_ble_eq_true rfl)⟩ (Nat.le_of_ble_eq_true rfl) dX8_readMarket_101 ?_
                  refine v_if_eqB h dX8_readMarket_104 (tgt := 130) (by decide) (fun c104 => ?_) (fun c104 => ?_)
                  · rw [Nat.add_assoc atp, hmq _ (by omega)] at c104
                    have g130 := ffS_at (p := 4 * t + i) (m := ml) hg3 (by omega) (by rw [goB_d (by omega)]; exact decide_eq_false (fun z => of_decide_eq_false c104 ⟨Int32.not_lt.mp z.1, Int32.not_lt.mp z.2.1⟩))
                    refine v_iconst h (v := nI 0) dX8_readMarket_130 (by decide) ?_
                    exact v_zretP (v := false) h hr dX8_readMarket_131 (P_X8_readMarket_mk (q := nI (bN false)) (by rw [decide_eq_false (by rw [g130]; exact nI_ne_m1 (by omega))]) (by exact fun _ => ⟨by omega, by rw [g130]; congr 1; omega, by omega⟩) (by exact fun z => absurd z (by rw [g130]; exact nI_ne_m1 (by omega))) (by exact fun z => absurd z (by rw [g130]; exact nI_ne_m1 (by omega)))) rfl
                  · rw [Nat.add_assoc atp, hmq _ (by omega)] at c104
                    have hb1 := Int32.not_lt.mpr (of_decide_eq_true c104).1
                    have hb2 := Int32.not_lt.mpr (of_decide_eq_true c104).2
                    have hd9 := dv_ok hb1 hb2
                    refine v_iload_n3 h dX8_readMarket_107 ?_
                    refine v_iconst h (v := nI 2) dX8_readMarket_108 (by decide) ?_
                    refine v_icmp_neN h dX8_readMarket_109 (tgt := 132) (by decide) (by omega) (by omega) (fun c109 => ?_) (fun c109 => ?_)
                    · have hg4 := goB_l (by omega) hb1 hb2 (Or.inl (by omega))
                      refine v_bipush h (v := nI 10) dX8_readMarket_132 (by decide) ?_
                      refine v_iload_n2 h dX8_readMarket_134 ?_
                      refine v_imulN h dX8_readMarket_135 ?_
                      refine v_aload_n0 h dX8_readMarket_136 ?_
                      refine v_get h mw_X8 0 rfl rfl 4 (by decide) mf_X8_16 rfl dX8_readMarket_137 ?_
                      refine v_aload_n0 h dX8_readMarket_140 ?_
                      refine v_get h mw_X8 0 rfl rfl 7 (by decide) mf_X8_86 rfl dX8_readMarket_141 ?_
                      refine v_ialdF h 3 rfl (by omega) (Nat.le_of_ble_eq_true rfl) dX8_readMarket_144 ?_
                      refine vM.top (v := .int (nI (48 + dv (sx (4 * t + i))))) (congrArg Value.int (by rw [Nat.add_assoc atp, hmq _ (by omega)]; exact hd9.1)) ?_
                      refine v_iaddN h dX8_readMarket_145 ?_
                      refine v_bipush h (v := nI 48) dX8_readMarket_146 (by decide) ?_
                      refine v_isubN h dX8_readMarket_148 (by omega) ?_
                      refine v_istore_n2 h (Nat.le_of_ble_eq_true rfl) dX8_readMarket_149 ?_
                      refine v_aload_n0 h dX8_readMarket_150 ?_
                      refine v_dup h dX8_readMarket_151 rfl ?_
                      refine v_get h mw_X8 0 rfl rfl 7 (by decide) mf_X8_86 rfl dX8_readMarket_152 ?_
                      refine v_iconst h (v := nI 1) dX8_readMarket_155 (by decide) ?_
                      refine v_iaddN h dX8_readMarket_156 ?_
                      refine pf_X8_86_at0 h dX8_readMarket_157 ?_
                      refine v_iincN3 h (Nat.le_of_ble_eq_true rfl) dX8_readMarket_160 ?_
                      refine v_goto h dX8_readMarket_163 (tgt := 75) (by decide) ?_
                      exact vM.fg (ih75 _ (by omega) (i + 1) rfl (by first | assumption | rfl | omega) (by omega) (by exact fun q hq => by rcases Nat.lt_or_ge q (4 * t + i) with z | z; (· exact hg3 q z); (· rw [show q = 4 * t + i by omega]; exact hg4))) ⟨rfl, rfl, (by rw [show 10 * (numK (fun q => dv (sx (4 * t + q))) i) + (48 + dv (sx (4 * t + i))) - 48 = numK (fun q => dv (sx (4 * t + q))) (i + 1) by rw [numK]; omega]), rfl, trivial⟩
                    · refine v_iload_n2 h dX8_readMarket_112 ?_
                      refine v_if_neN h dX8_readMarket_113 (tgt := 132) (by decide) (by have d0 := (goB_dig (by omega) (hg3 (4 * t + 0) (by omega))).2; have d1 := (goB_dig (by omega) (hg3 (4 * t + 1) (by omega))).2; rw [c109]; show 10 * (10 * 0 + dv (sx (4 * t + 0))) + dv (sx (4 * t + 1)) < _; omega) (fun c113 => ?_) (fun c113 => ?_)
                      · have hg4 := goB_l (by omega) hb1 hb2 (Or.inr (Or.inl (by omega)))
                        refine v_bipush h (v := nI 10) dX8_readMarket_132 (by decide) ?_
                        refine v_iload_n2 h dX8_readMarket_134 ?_
                        refine v_imulN h dX8_readMarket_135 ?_
                        refine v_aload_n0 h dX8_readMarket_136 ?_
                        refine v_get h mw_X8 0 rfl rfl 4 (by decide) mf_X8_16 rfl dX8_readMarket_137 ?_
                        refine v_aload_n0 h dX8_readMarket_140 ?_
                        refine v_get h mw_X8 0 rfl rfl 7 (by decide) mf_X8_86 rfl dX8_readMarket_141 ?_
                        refine v_ialdF h 3 rfl (by omega) (Nat.le_of_ble_eq_true rfl) dX8_readMarket_144 ?_
                        refine vM.top (v := .int (nI (48 + dv (sx (4 * t + i))))) (congrArg Value.int (by rw [Nat.add_assoc atp, hmq _ (by omega)]; exact hd9.1)) ?_
                        refine v_iaddN h dX8_readMarket_145 ?_
                        refine v_bipush h (v := nI 48) dX8_readMarket_146 (by decide) ?_
                        refine v_isubN h dX8_readMarket_148 (by omega) ?_
                        refine v_istore_n2 h (Nat.le_of_ble_eq_true rfl) dX8_readMarket_149 ?_
                        refine v_aload_n0 h dX8_readMarket_150 ?_
                        refine v_dup h dX8_readMarket_151 rfl ?_
                        refine v_get h mw_X8 0 rfl rfl 7 (by decide) mf_X8_86 rfl dX8_readMarket_152 ?_
                        refine v_iconst h (v := nI 1) dX8_readMarket_155 (by decide) ?_
                        refine v_iaddN h dX8_readMarket_156 ?_
                        refine pf_X8_86_at0 h dX8_readMarket_157 ?_
                        refine v_iincN3 h (Nat.le_of_ble_eq_true rfl) dX8_readMarket_160 ?_
                        refine v_goto h dX8_readMarket_163 (tgt := 75) (by decide) ?_
                        exact vM.fg (ih75 _ (by omega) (i + 1) rfl (by first | assumption | rfl | omega) (by omega) (by exact fun q hq => by rcases Nat.lt_or_ge q (4 * t + i) with z | z; (· exact hg3 q z); (· rw [show q = 4 * t + i by omega]; exact hg4))) ⟨rfl, rfl, (by rw [show 10 * (numK (fun q => dv (sx (4 * t + q))) i) + (48 + dv (sx (4 * t + i))) - 48 = numK (fun q => dv (sx (4 * t + q))) (i + 1) by rw [numK]; omega]), rfl, trivial⟩
                      · refine v_aload_n0 h dX8_readMarket_116 ?_
                        refine v_get h mw_X8 0 rfl rfl 4 (by decide) mf_X8_16 rfl dX8_readMarket_117 ?_
                        refine v_aload_n0 h dX8_readMarket_120 ?_
                        refine v_get h mw_X8 0 rfl rfl 7 (by decide) mf_X8_86 rfl dX8_readMarket_121 ?_
                        refine v_ialdF h 3 rfl (by omega) (Nat.le_of_ble_eq_true rfl) dX8_readMarket_124 ?_
                        refine v_bipush h (v := nI 48) dX8_readMarket_125 (by decide) ?_
                        refine v_icmp_ne h dX8_readMarket_127 (tgt := 132) (by decide) (fun c127 => ?_) (fun c127 => ?_)
                        · rw [Nat.add_assoc atp, hmq _ (by omega)] at c127
                          have hg4 := goB_l (by omega) hb1 hb2 (Or.inr (Or.inr c127))
                          refine v_bipush h (v := nI 10) dX8_readMarket_132 (by decide) ?_
                          refine v_iload_n2 h dX8_readMarket_134 ?_
                          refine v_imulN h dX8_readMarket_135 ?_
                          refine v_aload_n0 h dX8_readMarket_136 ?_
                          refine v_get h mw_X8 0 rfl rfl 4 (by decide) mf_X8_16 rfl dX8_readMarket_137 ?_
                          refine v_aload_n0 h dX8_readMarket_140 ?_
                          refine v_get h mw_X8 0 rfl rfl 7 (by decide) mf_X8_86 rfl dX8_readMarket_141 ?_
                          refine v_ialdF h 3 rfl (by omega) (Nat.le_of_ble_eq_true rfl) dX8_readMarket_144 ?_
                          refine vM.top (v := .int (nI (48 + dv (sx (4 * t + i))))) (congrArg Value.int (by rw [Nat.add_assoc atp, hmq _ (by omega)]; exact hd9.1)) ?_
                          refine v_iaddN h dX8_readMarket_145 ?_
                          refine v_bipush h (v := nI 48) dX8_readMarket_146 (by decide) ?_
                          refine v_isubN h dX8_readMarket_148 (by omega) ?_
                          refine v_istore_n2 h (Nat.le_of_ble_eq_true rfl) dX8_readMarket_149 ?_
                          refine v_aload_n0 h dX8_readMarket_150 ?_
                          refine v_dup h dX8_readMarket_151 rfl ?_
                          refine v_get h mw_X8 0 rfl rfl 7 (by decide) mf_X8_86 rfl dX8_readMarket_152 ?_
                          refine v_iconst h (v := nI 1) dX8_readMarket_155 (by decide) ?_
                          refine v_iaddN h dX8_readMarket_156 ?_
                          refine pf_X8_86_at0 h dX8_readMarket_157 ?_
                          refine v_iincN3 h (Nat.le_of_ble_eq_true rfl) dX8_readMarket_160 ?_
                          refine v_goto h dX8_readMarket_163 (tgt := 75) (by decide) ?_
                          exact vM.fg (ih75 _ (by omega) (i + 1) rfl (by first | assumption | rfl | omega) (by omega) (by exact fun q hq => by rcases Nat.lt_or_ge q (4 * t + i) with z | z; (· exact hg3 q z); (· rw [show q = 4 * t + i by omega]; exact hg4))) ⟨rfl, rfl, (by rw [show 10 * (numK (fun q => dv (sx (4 * t + q))) i) + (48 + dv (sx (4 * t + i))) - 48 = numK (fun q => dv (sx (4 * t + q))) (i + 1) by rw [numK]; omega]), rfl, trivial⟩
                        · rw [Nat.add_assoc atp, hmq _ (by omega)] at c127
                          obtain rfl : i = 2 := by omega
                          have g130 := ffS_at (p := 4 * t + 2) (m := ml) hg3 (by omega) (goB_n (by omega) c127)
                          refine v_iconst h (v := nI 0) dX8_readMarket_130 (by decide) ?_
                          exact v_zretP (v := false) h hr dX8_readMarket_131 (P_X8_readMarket_mk (q := nI (bN false)) (by rw [decide_eq_false (by rw [g130]; exact nI_ne_m1 (by omega))]) (by exact fun _ => ⟨by omega, by rw [g130]; congr 1; omega, by omega⟩) (by exact fun z => absurd z (by rw [g130]; exact nI_ne_m1 (by omega))) (by exact fun z => absurd z (by rw [g130]; exact nI_ne_m1 (by omega)))) rfl
          exact vM.le rfl rfl (by first | rw [show atp + (4 * t - 1) + 1 = atp + 4 * t + 0 by omega] | rw [show atp + (4 * t - 1) = atp + 4 * t + 0 by omega]) (vM.fg (L75 _ 0 rfl (by first | assumption | rfl | omega) (by omega) (by exact hg2)) ⟨rfl, rfl, rfl, rfl, trivial⟩)
        · refine v_aload_n0 h dX8_readMarket_28 ?_
          refine v_get h mw_X8 0 rfl rfl 8 (by decide) mf_X8_92 rfl dX8_readMarket_29 ?_
          refine v_bipush h (v := nI 8) dX8_readMarket_32 (by decide) ?_
          refine v_icmp_eqN h dX8_readMarket_34 (tgt := 59) (by decide) (by omega) (by omega) (fun c34 => ?_) (fun c34 => ?_)
          · have g60 := ffS_at (p := 4 * t - 1) (m := ml) hg (by omega) (by rw [goB_3 (by omega)]; exact decide_eq_false (fun z => by omega))
            refine v_iconst h (v := nI 0) dX8_readMarket_59 (by decide) ?_
            exact v_zretP (v := false) h hr dX8_readMarket_60 (P_X8_readMarket_mk (q := nI (bN false)) (by rw [decide_eq_false (by rw [g60]; exact nI_ne_m1 (by omega))]) (by exact fun _ => ⟨by omega, by rw [g60]; congr 1; omega, by omega⟩) (by exact fun z => absurd z (by rw [g60]; exact nI_ne_m1 (by omega))) (by exact fun z => absurd z (by rw [g60]; exact nI_ne_m1 (by omega)))) rfl
          · refine v_aload_n0 h dX8_readMarket_37 ?_
            refine v_get h mw_X8 0 rfl rfl 7 (by decide) mf_X8_86 rfl dX8_readMarket_38 ?_
            refine v_iload_n1 h dX8_readMarket_41 ?_
            refine v_icmp_geN h dX8_readMarket_42 (tgt := 59) (by decide) (by omega) (by omega) (fun c42 => ?_) (fun c42 => ?_)
            · have g60 : ffS sx ml = nI (4 * t - 1) := by rw [ffS_end (fun q hq => hg q (by omega)), if_neg (by omega)]; congr 1; omega
              refine v_iconst h (v := nI 0) dX8_readMarket_59 (by decide) ?_
              exact v_zretP (v := false) h hr dX8_readMarket_60 (P_X8_readMarket_mk (q := nI (bN false)) (by rw [decide_eq_false (by rw [g60]; exact nI_ne_m1 (by omega))]) (by exact fun _ => ⟨by omega, by rw [g60]; congr 1; omega, by omega⟩) (by exact fun z => absurd z (by rw [g60]; exact nI_ne_m1 (by omega))) (by exact fun z => absurd z (by rw [g60]; exact nI_ne_m1 (by omega)))) rfl
            · refine v_aload_n0 h dX8_readMarket_45 ?_
              refine v_get h mw_X8 0 rfl rfl 4 (by decide) mf_X8_16 rfl dX8_readMarket_46 ?_
              refine v_aload_n0 h dX8_readMarket_49 ?_
              refine v_get h mw_X8 0 rfl rfl 7 (by decide) mf_X8_86 rfl dX8_readMarket_50 ?_
              refine v_ialdF h 3 rfl (by omega) (Nat.le_of_ble_eq_true rfl) dX8_readMarket_53 ?_
              refine v_bipush h (v := nI 59) dX8_readMarket_54 (by decide) ?_
              refine v_icmp_eq h dX8_readMarket_56 (tgt := 61) (by decide) (fun c56 => ?_) (fun c56 => ?_)
              · rw [hmq _ (by omega)] at c56
                have ht8 : t < 8 := by omega
                have hg2 : ∀ q, q < 4 * t → goB sx q = true := fun q hq => by rcases Nat.lt_or_ge q (4 * t - 1) with z | z; (· exact hg q z); (· rw [show q = 4 * t - 1 by omega, goB_3 (by omega)]; exact decide_eq_true ⟨c56, by omega⟩)
                refine v_aload_n0 h dX8_readMarket_61 ?_
                refine v_dup h dX8_readMarket_62 rfl ?_
                refine v_get h mw_X8 0 rfl rfl 7 (by decide) mf_X8_86 rfl dX8_readMarket_63 ?_
                refine v_iconst h (v := nI 1) dX8_readMarket_66 (by decide) ?_
                refine v_iaddN h dX8_readMarket_67 ?_
                refine pf_X8_86_at0 h dX8_readMarket_68 ?_
                refine v_iconst h (v := nI 0) dX8_readMarket_71 (by decide) ?_
                refine v_istore_n2 h (Nat.le_of_ble_eq_true rfl) dX8_readMarket_72 ?_
                refine v_iconst h (v := nI 0) dX8_readMarket_73 (by decide) ?_
                refine v_istore_n3 h (Nat.le_of_ble_eq_true rfl) dX8_readMarket_74 ?_
                have L75 : ∀ (k75 : Nat) (i : Nat), 3 - i = k75 → (i ≤ 3) → (4 * t + i ≤ ml) → (∀ q, q < 4 * t + i → goB sx q = true) → vM x 75 [some (.ref m0), some (.int (nI e)), some (.int (nI (numK (fun q => dv (sx (4 * t + q))) i))), some (.int (nI i))] [] [(m0, .inr (7, [.int (nI fl), .int tr, .ref m1, .ref m2, .ref m3, .int (nI n), .ref m4, .int (nI (atp + 4 * t + i)), .int (nI t), .ref m5, .int (nI hn), .ref m6, .ref m7, .ref m8, .int (nI sn), .ref m9, .ref m10, .ref m11, .ref m12, .ref m13, .ref m14, .ref m15, .ref m16])), (m1, .inl (gI g, 4, .inl msrt)), (m2, .inl (gI g, 4, .inl (fun z9 => nI (len z9)))), (m3, .inl (gI g, 160, .inl mc)), (m4, .inl (gI g, 8, .inl (fun z9 => nI (w z9)))), (m5, .inl (gI g, 8, .inl (fun z9 => nI (u z9)))), (m6, .inl (gI g, 6, .inl (fun z9 => nI (kd z9)))), (m7, .inl (gI g, 6, .inl (fun z9 => nI (pt z9)))), (m8, .inl (gI g, 8, .inl far)), (m9, .inl (gI g, 10, .inl (fun z9 => nI (sb z9)))), (m10, .inl (gI g, 10, .inl (fun z9 => nI (sf z9)))), (m11, .inl (gI g, 10, .inl (fun z9 => nI (ss z9)))), (m12, .inl (gI g, 10, .inl (fun z9 => nI (sw z9)))), (m13, .inl (gI g, 256, .inl (fun z9 => nI (ways z9)))), (m14, .inl (gI g, 8, .inl (fun z9 => nI (chain z9)))), (m15, .inl (gI g, 5, .inl (fun z9 => nI (row z9)))), (m16, .inl (gI g, 5, .inl (fun z9 => nI (best z9))))] := by
                  intro k75
                  induction k75 using Nat.strongRecOn with
                  | _ k75 ih75 =>
                    intro i hm75 hi hml hg3
                    refine v_iload_n3 h dX8_readMarket_75 ?_
                    refine v_iconst h (v := nI 3) dX8_readMarket_76 (by decide) ?_
                    refine v_icmp_geN h dX8_readMarket_77 (tgt := 166) (by decide) (by omega) (by omega) (fun c77 => ?_) (fun c77 => ?_)
                    · obtain rfl : i = 3 := by omega
                      refine v_aload_n0 h dX8_readMarket_166 ?_
                      refine v_get h mw_X8 0 rfl rfl 9 (by decide) mf_X8_22 rfl dX8_readMarket_167 ?_
                      refine v_aload_n0 h dX8_readMarket_170 ?_
                      refine v_get h mw_X8 0 rfl rfl 8 (by decide) mf_X8_92 rfl dX8_readMarket_171 ?_
                      refine v_iload_n2 h dX8_readMarket_174 ?_
                      refine v_iastN_at5 h (by omega) (Nat.le_of_ble_eq_true rfl) dX8_readMarket_175 ?_
                      refine v_aload_n0 h dX8_readMarket_176 ?_
                      refine v_dup h dX8_readMarket_177 rfl ?_
                      refine v_get h mw_X8 0 rfl rfl 8 (by decide) mf_X8_92 rfl dX8_readMarket_178 ?_
                      refine v_iconst h (v := nI 1) dX8_readMarket_181 (by decide) ?_
                      refine v_iaddN h dX8_readMarket_182 ?_
                      refine pf_X8_92_at0 h dX8_readMarket_183 ?_
                      refine v_goto h dX8_readMarket_186 (tgt := 5) (by decide) ?_
                      exact vM.le rfl rfl (by rw [show atp + 4 * t + 3 = atp + (4 * (t + 1) - 1) by omega]) (vM.fg (ih5 _ (by omega) (t + 1) _ rfl (by first | assumption | rfl | omega) (by omega) (by exact fun q hq => hg3 q (by omega)) (by exact fun q hq => by unfold up; by_cases z : q = t; (· rw [if_pos z, z]; rfl); (· rw [if_neg z]; exact hr9 q (by omega)))) ⟨rfl, rfl, trivial⟩)
                    · refine v_aload_n0 h dX8_readMarket_80 ?_
                      refine v_get h mw_X8 0 rfl rfl 7 (by decide) mf_X8_86 rfl dX8_readMarket_81 ?_
                      refine v_iload_n1 h dX8_readMarket_84 ?_
                      refine v_icmp_geN h dX8_readMarket_85 (tgt := 130) (by decide) (by omega) (by omega) (fun c85 => ?_) (fun c85 => ?_)
                      · have g130 : ffS sx ml = nI (4 * t + i) := by rw [ffS_end (fun q hq => hg3 q (by omega)), if_neg (by omega)]; congr 1; omega
                        refine v_iconst h (v := nI 0) dX8_readMarket_130 (by decide) ?_
                        exact v_zretP (v := false) h hr dX8_readMarket_131 (P_X8_readMarket_mk (q := nI (bN false)) (by rw [decide_eq_false (by rw [g130]; exact nI_ne_m1 (by omega))]) (by exact fun _ => ⟨by omega, by rw [g130]; congr 1; omega, by omega⟩) (by exact fun z => absurd z (by rw [g130]; exact nI_ne_m1 (by omega))) (by exact fun z => absurd z (by rw [g130]; exact nI_ne_m1 (by omega)))) rfl
                      · refine v_aload_n0 h dX8_readMarket_88 ?_
                        refine v_get h mw_X8 0 rfl rfl 4 (by decide) mf_X8_16 rfl dX8_readMarket_89 ?_
                        refine v_aload_n0 h dX8_readMarket_92 ?_
                        refine v_get h mw_X8 0 rfl rfl 7 (by decide) mf_X8_86 rfl dX8_readMarket_93 ?_
                        refine v_ialdF h 3 rfl (by omega) (Nat.le_of_ble_eq_true rfl) dX8_readMarket_96 ?_
                        refine v_bipush h (v := nI 48) dX8_readMarket_97 (by decide) ?_
                        refine v_bipush h (v := nI 57) dX8_readMarket_99 (by decide) ?_
                        refine cw_S_e_3_i h (c_X8_within (g := g)) lk_X8_64 ⟨rfl, rfl, (Nat.le_of_ble_eq_true rfl), (Nat.le_of_ble_eq_true rfl)⟩ (Nat.le_of_ble_eq_true rfl) dX8_readMarket_101 ?_
                        refine v_if_eqB h dX8_readMarket_104 (tgt := 130) (by decide) (fun c104 => ?_) (fun c104 => ?_)
                        · rw [Nat.add_assoc atp, hmq _ (by omega)] at c104
                          have g130 := ffS_at (p := 4 * t + i) (m := ml) hg3 (by omega) (by rw [goB_d (by omega)]; exact decide_eq_false (fun z => of_decide_eq_false c104 ⟨Int32.not_lt.mp z.1, Int32.not_lt.mp z.2.1⟩))
                          refine v_iconst h (v := nI 0) dX8_readMarket_130 (by decide) ?_
                          exact v_zretP (v := false) h hr dX8_readMarket_131 (P_X8_readMarket_mk (q := nI (bN false)) (by rw [decide_eq_false (by rw [g130]; exact nI_ne_m1 (by omega))]) (by exact fun _ => ⟨by omega, by rw [g130]; congr 1; omega, by omega⟩) (by exact fun z => absurd z (by rw [g130]; exact nI_ne_m1 (by omega))) (by exact fun z => absurd z (by rw [g130]; exact nI_ne_m1 (by omega)))) rfl
                        · rw [Nat.add_assoc atp, hmq _ (by omega)] at c104
                          have hb1 := Int32.not_lt.mpr (of_decide_eq_true c104).1
                          have hb2 := Int32.not_lt.mpr (of_decide_eq_true c104).2
                          have hd9 := dv_ok hb1 hb2
                          refine v_iload_n3 h dX8_readMarket_107 ?_
                          refine v_iconst h (v := nI 2) dX8_readMarket_108 (by decide) ?_
                          refine v_icmp_neN h dX8_readMarket_109 (tgt := 132) (by decide) (by omega) (by omega) (fun c109 => ?_) (fun c109 => ?_)
                          · have hg4 := goB_l (by omega) hb1 hb2 (Or.inl (by omega))
                            refine v_bipush h (v := nI 10) dX8_readMarket_132 (by decide) ?_
                            refine v_iload_n2 h dX8_readMarket_134 ?_
                            refine v_imulN h dX8_readMarket_135 ?_
                            refine v_aload_n0 h dX8_readMarket_136 ?_
                            refine v_get h mw_X8 0 rfl rfl 4 (by decide) mf_X8_16 rfl dX8_readMarket_137 ?_
                            refine v_aload_n0 h dX8_readMarket_140 ?_
                            refine v_get h mw_X8 0 rfl rfl 7 (by decide) mf_X8_86 rfl dX8_readMarket_141 ?_
                            refine v_ialdF h 3 rfl (by omega) (Nat.le_of_ble_eq_true rfl) dX8_readMarket_144 ?_
                            refine vM.top (v := .int (nI (48 + dv (sx (4 * t + i))))) (congrArg Value.int (by rw [Nat.add_assoc atp, hmq _ (by omega)]; exact hd9.1)) ?_
                            refine v_iaddN h dX8_readMarket_145 ?_
                            refine v_bipush h (v := nI 48) dX8_readMarket_146 (by decide) ?_
                            refine v_isubN h dX8_readMarket_148 (by omega) ?_
                            refine v_istore_n2 h (Nat.le_of_ble_eq_true rfl) dX8_readMarket_149 ?_
                            refine v_aload_n0 h dX8_readMarket_150 ?_
                            refine v_dup h dX8_readMarket_151 rfl ?_
                            refine v_get h mw_X8 0 rfl rfl 7 (by decide) mf_X8_86 rfl dX8_readMarket_152 ?_
                            refine v_iconst h (v := nI 1) dX8_readMarket_155 (by decide) ?_
                            refine v_iaddN h dX8_readMarket_156 ?_
                            refine pf_X8_86_at0 h dX8_readMarket_157 ?_
                            refine v_iincN3 h (Nat.le_of_ble_eq_true rfl) dX8_readMarket_160 ?_
                            refine v_goto h dX8_readMarket_163 (tgt := 75) (by decide) ?_
                            exact vM.fg (ih75 _ (by omega) (i + 1) rfl (by first | assumption | rfl | omega) (by omega) (by exact fun q hq => by rcases Nat.lt_or_ge q (4 * t + i) with z | z; (· exact hg3 q z); (· rw [show q = 4 * t + i by omega]; exact hg4))) ⟨rfl, rfl, (by rw [show 10 * (numK (fun q => dv (sx (4 * t + q))) i) + (48 + dv (sx (4 * t + i))) - 48 = numK (fun q => dv (sx (4 * t + q))) (i + 1) by rw [numK]; omega]), rfl, trivial⟩
                          · refine v_iload_n2 h dX8_readMarket_112 ?_
                            refine v_if_neN h dX8_readMarket_113 (tgt := 132) (by decide) (by have d0 := (goB_dig (by omega) (hg3 (4 * t + 0) (by omega))).2; have d1 := (goB_dig (by omega) (hg3 (4 * t + 1) (by omega))).2; rw [c109]; show 10 * (10 * 0 + dv (sx (4 * t + 0))) + dv (sx (4 * t + 1)) < _; omega) (fun c113 => ?_) (fun c113 => ?_)
                            · have hg4 := goB_l (by omega) hb1 hb2 (Or.inr (Or.inl (by omega)))
                              refine v_bipush h (v := nI 10) dX8_readMarket_132 (by decide) ?_
                              refine v_iload_n2 h dX8_readMarket_134 ?_
                              refine v_imulN h dX8_readMarket_135 ?_
                              refine v_aload_n0 h dX8_readMarket_136 ?_
                              refine v_get h mw_X8 0 rfl rfl 4 (by decide) mf_X8_16 rfl dX8_readMarket_137 ?_
                              refine v_aload_n0 h dX8_readMarket_140 ?_
                              refine v_get h mw_X8 0 rfl rfl 7 (by decide) mf_X8_86 rfl dX8_readMarket_141 ?_
                              refine v_ialdF h 3 rfl (by omega) (Nat.le_of_ble_eq_true rfl) dX8_readMarket_144 ?_
                              refine vM.top (v := .int (nI (48 + dv (sx (4 * t + i))))) (congrArg Value.int (by rw [Nat.add_assoc atp, hmq _ (by omega)]; exact hd9.1)) ?_
                              refine v_iaddN h dX8_readMarket_145 ?_
                              refine v_bipush h (v := nI 48) dX8_readMarket_146 (by decide) ?_
                              refine v_isubN h dX8_readMarket_148 (by omega) ?_
                              refine v_istore_n2 h (Nat.le_of_ble_eq_true rfl) dX8_readMarket_149 ?_
                              refine v_aload_n0 h dX8_readMarket_150 ?_
                              refine v_dup h dX8_readMarket_151 rfl ?_
                              refine v_get h mw_X8 0 rfl rfl 7 (by decide) mf_X8_86 rfl dX8_readMarket_152 ?_
                              refine v_iconst h (v := nI 1) dX8_readMarket_155 (by decide) ?_
                              refine v_iaddN h dX8_readMarket_156 ?_
                              refine pf_X8_86_at0 h dX8_readMarket_157 ?_
                              refine v_iincN3 h (Nat.le_of_ble_eq_true rfl) dX8_readMarket_160 ?_
                              refine v_goto h dX8_readMarket_163 (tgt := 75) (by decide) ?_
                              exact vM.fg (ih75 _ (by omega) (i + 1) rfl (by first | assumption | rfl | omega) (by omega) (by exact fun q hq => by rcases Nat.lt_or_ge q (4 * t + i) with z | z; (· exact hg3 q z); (· rw [show q = 4 * t + i by omega]; exact hg4))) ⟨rfl, rfl, (by rw [show 10 * (numK (fun q => dv (sx (4 * t + q))) i) + (48 + dv (sx (4 * t + i))) - 48 = numK (fun q => dv (sx (4 * t + q))) (i + 1) by rw [numK]; omega]), rfl, trivial⟩
                            · refine v_aload_n0 h dX8_readMarket_116 ?_
                              refine v_get h mw_X8 0 rfl rfl 4 (by decide) mf_X8_16 rfl dX8_readMarket_117 ?_
                              refine v_aload_n0 h dX8_readMarket_120 ?_
                              refine v_get h mw_X8 0 rfl rfl 7 (by decide) mf_X8_86 rfl dX8_readMarket_121 ?_
                              refine v_ialdF h 3 rfl (by omega) (Nat.le_of_ble_eq_true rfl) dX8_readMarket_124 ?_
                              refine v_bipush h (v := nI 48) dX8_readMarket_125 (by decide) ?_
                              refine v_icmp_ne h dX8_readMarket_127 (tgt := 132) (by decide) (fun c127 => ?_) (fun c127 => ?_)
                              · rw [Nat.add_assoc atp, hmq _ (by omega)] at c127
                                have hg4 := goB_l (by omega) hb1 hb2 (Or.inr (Or.inr c127))
                                refine v_bipush h (v := nI 10) dX8_readMarket_132 (by decide) ?_
                                refine v_iload_n2 h dX8_readMarket_134 ?_
                                refine v_imulN h dX8_readMarket_135 ?_
                                refine v_aload_n0 h dX8_readMarket_136 ?_
                                refine v_get h mw_X8 0 rfl rfl 4 (by decide) mf_X8_16 rfl dX8_readMarket_137 ?_
                                refine v_aload_n0 h dX8_readMarket_140 ?_
                                refine v_get h mw_X8 0 rfl rfl 7 (by decide) mf_X8_86 rfl dX8_readMarket_141 ?_
                                refine v_ialdF h 3 rfl (by omega) (Nat.le_of_ble_eq_true rfl) dX8_readMarket_144 ?_
                                refine vM.top (v := .int (nI (48 + dv (sx (4 * t + i))))) (congrArg Value.int (by rw [Nat.add_assoc atp, hmq _ (by omega)]; exact hd9.1)) ?_
                                refine v_iaddN h dX8_readMarket_145 ?_
                                refine v_bipush h (v := nI 48) dX8_readMarket_146 (by decide) ?_
                                refine v_isubN h dX8_readMarket_148 (by omega) ?_
                                refine v_istore_n2 h (Nat.le_of_ble_eq_true rfl) dX8_readMarket_149 ?_
                                refine v_aload_n0 h dX8_readMarket_150 ?_
                                refine v_dup h dX8_readMarket_151 rfl ?_
                                refine v_get h mw_X8 0 rfl rfl 7 (by decide) mf_X8_86 rfl dX8_readMarket_152 ?_
                                refine v_iconst h (v := nI 1) dX8_readMarket_155 (by decide) ?_
                                refine v_iaddN h dX8_readMarket_156 ?_
                                refine pf_X8_86_at0 h dX8_readMarket_157 ?_
                                refine v_iincN3 h (Nat.le_of_ble_eq_true rfl) dX8_readMarket_160 ?_
                                refine v_goto h dX8_readMarket_163 (tgt := 75) (by decide) ?_
                                exact vM.fg (ih75 _ (by omega) (i + 1) rfl (by first | assumption | rfl | omega) (by omega) (by exact fun q hq => by rcases Nat.lt_or_ge q (4 * t + i) with z | z; (· exact hg3 q z); (· rw [show q = 4 * t + i by omega]; exact hg4))) ⟨rfl, rfl, (by rw [show 10 * (numK (fun q => dv (sx (4 * t + q))) i) + (48 + dv (sx (4 * t + i))) - 48 = numK (fun q => dv (sx (4 * t + q))) (i + 1) by rw [numK]; omega]), rfl, trivial⟩
                              · rw [Nat.add_assoc atp, hmq _ (by omega)] at c127
                                obtain rfl : i = 2 := by omega
                                have g130 := ffS_at (p := 4 * t + 2) (m := ml) hg3 (by omega) (goB_n (by omega) c127)
                                refine v_iconst h (v := nI 0) dX8_readMarket_130 (by decide) ?_
                                exact v_zretP (v := false) h hr dX8_readMarket_131 (P_X8_readMarket_mk (q := nI (bN false)) (by rw [decide_eq_false (by rw [g130]; exact nI_ne_m1 (by omega))]) (by exact fun _ => ⟨by omega, by rw [g130]; congr 1; omega, by omega⟩) (by exact fun z => absurd z (by rw [g130]; exact nI_ne_m1 (by omega))) (by exact fun z => absurd z (by rw [g130]; exact nI_ne_m1 (by omega)))) rfl
                exact vM.le rfl rfl (by first | rw [show atp + (4 * t - 1) + 1 = atp + 4 * t + 0 by omega] | rw [show atp + (4 * t - 1) = atp + 4 * t + 0 by omega]) (vM.fg (L75 _ 0 rfl (by first | assumption | rfl | omega) (by omega) (by exact hg2)) ⟨rfl, rfl, rfl, rfl, trivial⟩)
              · rw [hmq _ (by omega)] at c56
                have g60 := ffS_at (p := 4 * t - 1) (m := ml) hg (by omega) (by rw [goB_3 (by omega)]; exact decide_eq_false (fun z => c56 z.1))
                refine v_iconst h (v := nI 0) dX8_readMarket_59 (by decide) ?_
                exact v_zretP (v := false) h hr dX8_readMarket_60 (P_X8_readMarket_mk (q := nI (bN false)) (by rw [decide_eq_false (by rw [g60]; exact nI_ne_m1 (by omega))]) (by exact fun _ => ⟨by omega, by rw [g60]; congr 1; omega, by omega⟩) (by exact fun z => absurd z (by rw [g60]; exact nI_ne_m1 (by omega))) (by exact fun z => absurd z (by rw [g60]; exact nI_ne_m1 (by omega)))) rfl
      · refine v_aload_n0 h dX8_readMarket_13 ?_
        refine v_get h mw_X8 0 rfl rfl 7 (by decide) mf_X8_86 rfl dX8_readMarket_14 ?_
        refine v_iload_n1 h dX8_readMarket_17 ?_
        refine v_icmp_geN h dX8_readMarket_18 (tgt := 189) (by decide) (by omega) (by omega) (fun c18 => ?_) (fun c18 => ?_)
        · have g9 : ffS sx ml = -1 := by rw [ffS_end (fun q hq => hg q (by omega)), if_pos (by omega)]
          refine v_iconst h (v := nI 1) dX8_readMarket_189 (by decide) ?_
          exact v_zretP (v := true) h hr dX8_readMarket_190 (P_X8_readMarket_mk (q := nI (bN true)) (by rw [decide_eq_true g9]) (by exact fun z => absurd g9 z) (by exact fun _ => by omega) (by exact fun _ q hq => hr9 q hq)) rfl
        · refine v_aload_n0 h dX8_readMarket_21 ?_
          refine v_get h mw_X8 0 rfl rfl 8 (by decide) mf_X8_92 rfl dX8_readMarket_22 ?_
          refine v_if_leN h dX8_readMarket_25 (tgt := 71) (by decide) (by omega) (fun c25 => ?_) (fun c25 => ?_)
          · have ht8 : t < 8 := by omega
            have hg2 : ∀ q, q < 4 * t → goB sx q = true := fun q hq => by omega
            refine v_iconst h (v := nI 0) dX8_readMarket_71 (by decide) ?_
            refine v_istore_n2 h (Nat.le_of_ble_eq_true rfl) dX8_readMarket_72 ?_
            refine v_iconst h (v := nI 0) dX8_readMarket_73 (by decide) ?_
            refine v_istore_n3 h (Nat.le_of_ble_eq_true rfl) dX8_readMarket_74 ?_
            have L75 : ∀ (k75 : Nat) (i : Nat), 3 - i = k75 → (i ≤ 3) → (4 * t + i ≤ ml) → (∀ q, q < 4 * t + i → goB sx q = true) → vM x 75 [some (.ref m0), some (.int (nI e)), some (.int (nI (numK (fun q => dv (sx (4 * t + q))) i))), some (.int (nI i))] [] [(m0, .inr (7, [.int (nI fl), .int tr, .ref m1, .ref m2, .ref m3, .int (nI n), .ref m4, .int (nI (atp + 4 * t + i)), .int (nI t), .ref m5, .int (nI hn), .ref m6, .ref m7, .ref m8, .int (nI sn), .ref m9, .ref m10, .ref m11, .ref m12, .ref m13, .ref m14, .ref m15, .ref m16])), (m1, .inl (gI g, 4, .inl msrt)), (m2, .inl (gI g, 4, .inl (fun z9 => nI (len z9)))), (m3, .inl (gI g, 160, .inl mc)), (m4, .inl (gI g, 8, .inl (fun z9 => nI (w z9)))), (m5, .inl (gI g, 8, .inl (fun z9 => nI (u z9)))), (m6, .inl (gI g, 6, .inl (fun z9 => nI (kd z9)))), (m7, .inl (gI g, 6, .inl (fun z9 => nI (pt z9)))), (m8, .inl (gI g, 8, .inl far)), (m9, .inl (gI g, 10, .inl (fun z9 => nI (sb z9)))), (m10, .inl (gI g, 10, .inl (fun z9 => nI (sf z9)))), (m11, .inl (gI g, 10, .inl (fun z9 => nI (ss z9)))), (m12, .inl (gI g, 10, .inl (fun z9 => nI (sw z9)))), (m13, .inl (gI g, 256, .inl (fun z9 => nI (ways z9)))), (m14, .inl (gI g, 8, .inl (fun z9 => nI (chain z9)))), (m15, .inl (gI g, 5, .inl (fun z9 => nI (row z9)))), (m16, .inl (gI g, 5, .inl (fun z9 => nI (best z9))))] := by
              intro k75
              induction k75 using Nat.strongRecOn with
              | _ k75 ih75 =>
                intro i hm75 hi hml hg3
                refine v_iload_n3 h dX8_readMarket_75 ?_
                refine v_iconst h (v := nI 3) dX8_readMarket_76 (by decide) ?_
                refine v_icmp_geN h dX8_readMarket_77 (tgt := 166) (by decide) (by omega) (by omega) (fun c77 => ?_) (fun c77 => ?_)
                · obtain rfl : i = 3 := by omega
                  refine v_aload_n0 h dX8_readMarket_166 ?_
                  refine v_get h mw_X8 0 rfl rfl 9 (by decide) mf_X8_22 rfl dX8_readMarket_167 ?_
                  refine v_aload_n0 h dX8_readMarket_170 ?_
                  refine v_get h mw_X8 0 rfl rfl 8 (by decide) mf_X8_92 rfl dX8_readMarket_171 ?_
                  refine v_iload_n2 h dX8_readMarket_174 ?_
                  refine v_iastN_at5 h (by omega) (Nat.le_of_ble_eq_true rfl) dX8_readMarket_175 ?_
                  refine v_aload_n0 h dX8_readMarket_176 ?_
                  refine v_dup h dX8_readMarket_177 rfl ?_
                  refine v_get h mw_X8 0 rfl rfl 8 (by decide) mf_X8_92 rfl dX8_readMarket_178 ?_
                  refine v_iconst h (v := nI 1) dX8_readMarket_181 (by decide) ?_
                  refine v_iaddN h dX8_readMarket_182 ?_
                  refine pf_X8_92_at0 h dX8_readMarket_183 ?_
                  refine v_goto h dX8_readMarket_186 (tgt := 5) (by decide) ?_
                  exact vM.le rfl rfl (by rw [show atp + 4 * t + 3 = atp + (4 * (t + 1) - 1) by omega]) (vM.fg (ih5 _ (by omega) (t + 1) _ rfl (by first | assumption | rfl | omega) (by omega) (by exact fun q hq => hg3 q (by omega)) (by exact fun q hq => by unfold up; by_cases z : q = t; (· rw [if_pos z, z]; rfl); (· rw [if_neg z]; exact hr9 q (by omega)))) ⟨rfl, rfl, trivial⟩)
                · refine v_aload_n0 h dX8_readMarket_80 ?_
                  refine v_get h mw_X8 0 rfl rfl 7 (by decide) mf_X8_86 rfl dX8_readMarket_81 ?_
                  refine v_iload_n1 h dX8_readMarket_84 ?_
                  refine v_icmp_geN h dX8_readMarket_85 (tgt := 130) (by decide) (by omega) (by omega) (fun c85 => ?_) (fun c85 => ?_)
                  · have g130 : ffS sx ml = nI (4 * t + i) := by rw [ffS_end (fun q hq => hg3 q (by omega)), if_neg (by omega)]; congr 1; omega
                    refine v_iconst h (v := nI 0) dX8_readMarket_130 (by decide) ?_
                    exact v_zretP (v := false) h hr dX8_readMarket_131 (P_X8_readMarket_mk (q := nI (bN false)) (by rw [decide_eq_false (by rw [g130]; exact nI_ne_m1 (by omega))]) (by exact fun _ => ⟨by omega, by rw [g130]; congr 1; omega, by omega⟩) (by exact fun z => absurd z (by rw [g130]; exact nI_ne_m1 (by omega))) (by exact fun z => absurd z (by rw [g130]; exact nI_ne_m1 (by omega)))) rfl
                  · refine v_aload_n0 h dX8_readMarket_88 ?_
                    refine v_get h mw_X8 0 rfl rfl 4 (by decide) mf_X8_16 rfl dX8_readMarket_89 ?_
                    refine v_aload_n0 h dX8_readMarket_92 ?_
                    refine v_get h mw_X8 0 rfl rfl 7 (by decide) mf_X8_86 rfl dX8_readMarket_93 ?_
                    refine v_ialdF h 3 rfl (by omega) (Nat.le_of_ble_eq_true rfl) dX8_readMarket_96 ?_
                    refine v_bipush h (v := nI 48) dX8_readMarket_97 (by decide) ?_
                    refine v_bipush h (v := nI 57) dX8_readMarket_99 (by decide) ?_
                    refine cw_S_e_3_i h (c_X8_within (g := g)) lk_X8_64 ⟨rfl, rfl, (Nat.le_of_ble_eq_true rfl), (Nat.le_of_ble_eq_true rfl)⟩ (Nat.le_of_ble_eq_true rfl) dX8_readMarket_101 ?_
                    refine v_if_eqB h dX8_readMarket_104 (tgt := 130) (by decide) (fun c104 => ?_) (fun c104 => ?_)
                    · rw [Nat.add_assoc atp, hmq _ (by omega)] at c104
                      have g130 := ffS_at (p := 4 * t + i) (m := ml) hg3 (by omega) (by rw [goB_d (by omega)]; exact decide_eq_false (fun z => of_decide_eq_false c104 ⟨Int32.not_lt.mp z.1, Int32.not_lt.mp z.2.1⟩))
                      refine v_iconst h (v := nI 0) dX8_readMarket_130 (by decide) ?_
                      exact v_zretP (v := false) h hr dX8_readMarket_131 (P_X8_readMarket_mk (q := nI (bN false)) (by rw [decide_eq_false (by rw [g130]; exact nI_ne_m1 (by omega))]) (by exact fun _ => ⟨by omega, by rw [g130]; congr 1; omega, by omega⟩) (by exact fun z => absurd z (by rw [g130]; exact nI_ne_m1 (by omega))) (by exact fun z => absurd z (by rw [g130]; exact nI_ne_m1 (by omega)))) rfl
                    · rw [Nat.add_assoc atp, hmq _ (by omega)] at c104
                      have hb1 := Int32.not_lt.mpr (of_decide_eq_true c104).1
                      have hb2 := Int32.not_lt.mpr (of_decide_eq_true c104).2
                      have hd9 := dv_ok hb1 hb2
                      refine v_iload_n3 h dX8_readMarket_107 ?_
                      refine v_iconst h (v := nI 2) dX8_readMarket_108 (by decide) ?_
                      refine v_icmp_neN h dX8_readMarket_109 (tgt := 132) (by decide) (by omega) (by omega) (fun c109 => ?_) (fun c109 => ?_)
                      · have hg4 := goB_l (by omega) hb1 hb2 (Or.inl (by omega))
                        refine v_bipush h (v := nI 10) dX8_readMarket_132 (by decide) ?_
                        refine v_iload_n2 h dX8_readMarket_134 ?_
                        refine v_imulN h dX8_readMarket_135 ?_
                        refine v_aload_n0 h dX8_readMarket_136 ?_
                        refine v_get h mw_X8 0 rfl rfl 4 (by decide) mf_X8_16 rfl dX8_readMarket_137 ?_
                        refine v_aload_n0 h dX8_readMarket_140 ?_
                        refine v_get h mw_X8 0 rfl rfl 7 (by decide) mf_X8_86 rfl dX8_readMarket_141 ?_
                        refine v_ialdF h 3 rfl (by omega) (Nat.le_of_ble_eq_true rfl) dX8_readMarket_144 ?_
                        refine vM.top (v := .int (nI (48 + dv (sx (4 * t + i))))) (congrArg Value.int (by rw [Nat.add_assoc atp, hmq _ (by omega)]; exact hd9.1)) ?_
                        refine v_iaddN h dX8_readMarket_145 ?_
                        refine v_bipush h (v := nI 48) dX8_readMarket_146 (by decide) ?_
                        refine v_isubN h dX8_readMarket_148 (by omega) ?_
                        refine v_istore_n2 h (Nat.le_of_ble_eq_true rfl) dX8_readMarket_149 ?_
                        refine v_aload_n0 h dX8_readMarket_150 ?_
                        refine v_dup h dX8_readMarket_151 rfl ?_
                        refine v_get h mw_X8 0 rfl rfl 7 (by decide) mf_X8_86 rfl dX8_readMarket_152 ?_
                        refine v_iconst h (v := nI 1) dX8_readMarket_155 (by decide) ?_
                        refine v_iaddN h dX8_readMarket_156 ?_
                        refine pf_X8_86_at0 h dX8_readMarket_157 ?_
                        refine v_iincN3 h (Nat.le_of_ble_eq_true rfl) dX8_readMarket_160 ?_
                        refine v_goto h dX8_readMarket_163 (tgt := 75) (by decide) ?_
                        exact vM.fg (ih75 _ (by omega) (i + 1) rfl (by first | assumption | rfl | omega) (by omega) (by exact fun q hq => by rcases Nat.lt_or_ge q (4 * t + i) with z | z; (· exact hg3 q z); (· rw [show q = 4 * t + i by omega]; exact hg4))) ⟨rfl, rfl, (by rw [show 10 * (numK (fun q => dv (sx (4 * t + q))) i) + (48 + dv (sx (4 * t + i))) - 48 = numK (fun q => dv (sx (4 * t + q))) (i + 1) by rw [numK]; omega]), rfl, trivial⟩
                      · refine v_iload_n2 h dX8_readMarket_112 ?_
                        refine v_if_neN h dX8_readMarket_113 (tgt := 132) (by decide) (by have d0 := (goB_dig (by omega) (hg3 (4 * t + 0) (by omega))).2; have d1 := (goB_dig (by omega) (hg3 (4 * t + 1) (by omega))).2; rw [c109]; show 10 * (10 * 0 + dv (sx (4 * t + 0))) + dv (sx (4 * t + 1)) < _; omega) (fun c113 => ?_) (fun c113 => ?_)
                        · have hg4 := goB_l (by omega) hb1 hb2 (Or.inr (Or.inl (by omega)))
                          refine v_bipush h (v := nI 10) dX8_readMarket_132 (by decide) ?_
                          refine v_iload_n2 h dX8_readMarket_134 ?_
                          refine v_imulN h dX8_readMarket_135 ?_
                          refine v_aload_n0 h dX8_readMarket_136 ?_
                          refine v_get h mw_X8 0 rfl rfl 4 (by decide) mf_X8_16 rfl dX8_readMarket_137 ?_
                          refine v_aload_n0 h dX8_readMarket_140 ?_
                          refine v_get h mw_X8 0 rfl rfl 7 (by decide) mf_X8_86 rfl dX8_readMarket_141 ?_
                          refine v_ialdF h 3 rfl (by omega) (Nat.le_of_ble_eq_true rfl) dX8_readMarket_144 ?_
                          refine vM.top (v := .int (nI (48 + dv (sx (4 * t + i))))) (congrArg Value.int (by rw [Nat.add_assoc atp, hmq _ (by omega)]; exact hd9.1)) ?_
                          refine v_iaddN h dX8_readMarket_145 ?_
                          refine v_bipush h (v := nI 48) dX8_readMarket_146 (by decide) ?_
                          refine v_isubN h dX8_readMarket_148 (by omega) ?_
                          refine v_istore_n2 h (Nat.le_of_ble_eq_true rfl) dX8_readMarket_149 ?_
                          refine v_aload_n0 h dX8_readMarket_150 ?_
                          refine v_dup h dX8_readMarket_151 rfl ?_
                          refine v_get h mw_X8 0 rfl rfl 7 (by decide) mf_X8_86 rfl dX8_readMarket_152 ?_
                          refine v_iconst h (v := nI 1) dX8_readMarket_155 (by decide) ?_
                          refine v_iaddN h dX8_readMarket_156 ?_
                          refine pf_X8_86_at0 h dX8_readMarket_157 ?_
                          refine v_iincN3 h (Nat.le_of_ble_eq_true rfl) dX8_readMarket_160 ?_
                          refine v_goto h dX8_readMarket_163 (tgt := 75) (by decide) ?_
                          exact vM.fg (ih75 _ (by omega) (i + 1) rfl (by first | assumption | rfl | omega) (by omega) (by exact fun q hq => by rcases Nat.lt_or_ge q (4 * t + i) with z | z; (· exact hg3 q z); (· rw [show q = 4 * t + i by omega]; exact hg4))) ⟨rfl, rfl, (by rw [show 10 * (numK (fun q => dv (sx (4 * t + q))) i) + (48 + dv (sx (4 * t + i))) - 48 = numK (fun q => dv (sx (4 * t + q))) (i + 1) by rw [numK]; omega]), rfl, trivial⟩
                        · refine v_aload_n0 h dX8_readMarket_116 ?_
                          refine v_get h mw_X8 0 rfl rfl 4 (by decide) mf_X8_16 rfl dX8_readMarket_117 ?_
                          refine v_aload_n0 h dX8_readMarket_120 ?_
                          refine v_get h mw_X8 0 rfl rfl 7 (by decide) mf_X8_86 rfl dX8_readMarket_121 ?_
                          refine v_ialdF h 3 rfl (by omega) (Nat.le_of_ble_eq_true rfl) dX8_readMarket_124 ?_
                          refine v_bipush h (v := nI 48) dX8_readMarket_125 (by decide) ?_
                          refine v_icmp_ne h dX8_readMarket_127 (tgt := 132) (by decide) (fun c127 => ?_) (fun c127 => ?_)
                          · rw [Nat.add_assoc atp, hmq _ (by omega)] at c127
                            have hg4 := goB_l (by omega) hb1 hb2 (Or.inr (Or.inr c127))
                            refine v_bipush h (v := nI 10) dX8_readMarket_132 (by decide) ?_
                            refine v_iload_n2 h dX8_readMarket_134 ?_
                            refine v_imulN h dX8_readMarket_135 ?_
                            refine v_aload_n0 h dX8_readMarket_136 ?_
                            refine v_get h mw_X8 0 rfl rfl 4 (by decide) mf_X8_16 rfl dX8_readMarket_137 ?_
                            refine v_aload_n0 h dX8_readMarket_140 ?_
                            refine v_get h mw_X8 0 rfl rfl 7 (by decide) mf_X8_86 rfl dX8_readMarket_141 ?_
                            refine v_ialdF h 3 rfl (by omega) (Nat.le_of_ble_eq_true rfl) dX8_readMarket_144 ?_
                            refine vM.top (v := .int (nI (48 + dv (sx (4 * t + i))))) (congrArg Value.int (by rw [Nat.add_assoc atp, hmq _ (by omega)]; exact hd9.1)) ?_
                            refine v_iaddN h dX8_readMarket_145 ?_
                            refine v_bipush h (v := nI 48) dX8_readMarket_146 (by decide) ?_
                            refine v_isubN h dX8_readMarket_148 (by omega) ?_
                            refine v_istore_n2 h (Nat.le_of_ble_eq_true rfl) dX8_readMarket_149 ?_
                            refine v_aload_n0 h dX8_readMarket_150 ?_
                            refine v_dup h dX8_readMarket_151 rfl ?_
                            refine v_get h mw_X8 0 rfl rfl 7 (by decide) mf_X8_86 rfl dX8_readMarket_152 ?_
                            refine v_iconst h (v := nI 1) dX8_readMarket_155 (by decide) ?_
                            refine v_iaddN h dX8_readMarket_156 ?_
                            refine pf_X8_86_at0 h dX8_readMarket_157 ?_
                            refine v_iincN3 h (Nat.le_of_ble_eq_true rfl) dX8_readMarket_160 ?_
                            refine v_goto h dX8_readMarket_163 (tgt := 75) (by decide) ?_
                            exact vM.fg (ih75 _ (by omega) (i + 1) rfl (by first | assumption | rfl | omega) (by omega) (by exact fun q hq => by rcases Nat.lt_or_ge q (4 * t + i) with z | z; (· exact hg3 q z); (· rw [show q = 4 * t + i by omega]; exact hg4))) ⟨rfl, rfl, (by rw [show 10 * (numK (fun q => dv (sx (4 * t + q))) i) + (48 + dv (sx (4 * t + i))) - 48 = numK (fun q => dv (sx (4 * t + q))) (i + 1) by rw [numK]; omega]), rfl, trivial⟩
                          · rw [Nat.add_assoc atp, hmq _ (by omega)] at c127
                            obtain rfl : i = 2 := by omega
                            have g130 := ffS_at (p := 4 * t + 2) (m := ml) hg3 (by omega) (goB_n (by omega) c127)
                            refine v_iconst h (v := nI 0) dX8_readMarket_130 (by decide) ?_
                            exact v_zretP (v := false) h hr dX8_readMarket_131 (P_X8_readMarket_mk (q := nI (bN false)) (by rw [decide_eq_false (by rw [g130]; exact nI_ne_m1 (by omega))]) (by exact fun _ => ⟨by omega, by rw [g130]; congr 1; omega, by omega⟩) (by exact fun z => absurd z (by rw [g130]; exact nI_ne_m1 (by omega))) (by exact fun z => absurd z (by rw [g130]; exact nI_ne_m1 (by omega)))) rfl
            exact vM.le rfl rfl (by first | rw [show atp + (4 * t - 1) + 1 = atp + 4 * t + 0 by omega] | rw [show atp + (4 * t - 1) = atp + 4 * t + 0 by omega]) (vM.fg (L75 _ 0 rfl (by first | assumption | rfl | omega) (by omega) (by exact hg2)) ⟨rfl, rfl, rfl, rfl, trivial⟩)
          · refine v_aload_n0 h dX8_readMarket_28 ?_
            refine v_get h mw_X8 0 rfl rfl 8 (by decide) mf_X8_92 rfl dX8_readMarket_29 ?_
            refine v_bipush h (v := nI 8) dX8_readMarket_32 (by decide) ?_
            refine v_icmp_eqN h dX8_readMarket_34 (tgt := 59) (by decide) (by omega) (by omega) (fun c34 => ?_) (fun c34 => ?_)
            · have g60 := ffS_at (p := 4 * t - 1) (m := ml) hg (by omega) (by rw [goB_3 (by omega)]; exact decide_eq_false (fun z => by omega))
              refine v_iconst h (v := nI 0) dX8_readMarket_59 (by decide) ?_
              exact v_zretP (v := false) h hr dX8_readMarket_60 (P_X8_readMarket_mk (q := nI (bN false)) (by rw [decide_eq_false (by rw [g60]; exact nI_ne_m1 (by omega))]) (by exact fun _ => ⟨by omega, by rw [g60]; congr 1; omega, by omega⟩) (by exact fun z => absurd z (by rw [g60]; exact nI_ne_m1 (by omega))) (by exact fun z => absurd z (by rw [g60]; exact nI_ne_m1 (by omega)))) rfl
            · refine v_aload_n0 h dX8_readMarket_37 ?_
              refine v_get h mw_X8 0 rfl rfl 7 (by decide) mf_X8_86 rfl dX8_readMarket_38 ?_
              refine v_iload_n1 h dX8_readMarket_41 ?_
              refine v_icmp_geN h dX8_readMarket_42 (tgt := 59) (by decide) (by omega) (by omega) (fun c42 => ?_) (fun c42 => ?_)
              · have g60 : ffS sx ml = nI (4 * t - 1) := by rw [ffS_end (fun q hq => hg q (by omega)), if_neg (by omega)]; congr 1; omega
                refine v_iconst h (v := nI 0) dX8_readMarket_59 (by decide) ?_
                exact v_zretP (v := false) h hr dX8_readMarket_60 (P_X8_readMarket_mk (q := nI (bN false)) (by rw [decide_eq_false (by rw [g60]; exact nI_ne_m1 (by omega))]) (by exact fun _ => ⟨by omega, by rw [g60]; congr 1; omega, by omega⟩) (by exact fun z => absurd z (by rw [g60]; exact nI_ne_m1 (by omega))) (by exact fun z => absurd z (by rw [g60]; exact nI_ne_m1 (by omega)))) rfl
              · refine v_aload_n0 h dX8_readMarket_45 ?_
                refine v_get h mw_X8 0 rfl rfl 4 (by decide) mf_X8_16 rfl dX8_readMarket_46 ?_
                refine v_aload_n0 h dX8_readMarket_49 ?_
                refine v_get h mw_X8 0 rfl rfl 7 (by decide) mf_X8_86 rfl dX8_readMarket_50 ?_
                refine v_ialdF h 3 rfl (by omega) (Nat.le_of_ble_eq_true rfl) dX8_readMarket_53 ?_
                refine v_bipush h (v := nI 59) dX8_readMarket_54 (by decide) ?_
                refine v_icmp_eq h dX8_readMarket_56 (tgt := 61) (by decide) (fun c56 => ?_) (fun c56 => ?_)
                · rw [hmq _ (by omega)] at c56
                  have ht8 : t < 8 := by omega
                  have hg2 : ∀ q, q < 4 * t → goB sx q = true := fun q hq => by rcases Nat.lt_or_ge q (4 * t - 1) with z | z; (· exact hg q z); (· rw [show q = 4 * t - 1 by omega, goB_3 (by omega)]; exact decide_eq_true ⟨c56, by omega⟩)
                  refine v_aload_n0 h dX8_readMarket_61 ?_
                  refine v_dup h dX8_readMarket_62 rfl ?_
                  refine v_get h mw_X8 0 rfl rfl 7 (by decide) mf_X8_86 rfl dX8_readMarket_63 ?_
                  refine v_iconst h (v := nI 1) dX8_readMarket_66 (by decide) ?_
                  refine v_iaddN h dX8_readMarket_67 ?_
                  refine pf_X8_86_at0 h dX8_readMarket_68 ?_
                  refine v_iconst h (v := nI 0) dX8_readMarket_71 (by decide) ?_
                  refine v_istore_n2 h (Nat.le_of_ble_eq_true rfl) dX8_readMarket_72 ?_
                  refine v_iconst h (v := nI 0) dX8_readMarket_73 (by decide) ?_
                  refine v_istore_n3 h (Nat.le_of_ble_eq_true rfl) dX8_readMarket_74 ?_
                  have L75 : ∀ (k75 : Nat) (i : Nat), 3 - i = k75 → (i ≤ 3) → (4 * t + i ≤ ml) → (∀ q, q < 4 * t + i → goB sx q = true) → vM x 75 [some (.ref m0), some (.int (nI e)), some (.int (nI (numK (fun q => dv (sx (4 * t + q))) i))), some (.int (nI i))] [] [(m0, .inr (7, [.int (nI fl), .int tr, .ref m1, .ref m2, .ref m3, .int (nI n), .ref m4, .int (nI (atp + 4 * t + i)), .int (nI t), .ref m5, .int (nI hn), .ref m6, .ref m7, .ref m8, .int (nI sn), .ref m9, .ref m10, .ref m11, .ref m12, .ref m13, .ref m14, .ref m15, .ref m16])), (m1, .inl (gI g, 4, .inl msrt)), (m2, .inl (gI g, 4, .inl (fun z9 => nI (len z9)))), (m3, .inl (gI g, 160, .inl mc)), (m4, .inl (gI g, 8, .inl (fun z9 => nI (w z9)))), (m5, .inl (gI g, 8, .inl (fun z9 => nI (u z9)))), (m6, .inl (gI g, 6, .inl (fun z9 => nI (kd z9)))), (m7, .inl (gI g, 6, .inl (fun z9 => nI (pt z9)))), (m8, .inl (gI g, 8, .inl far)), (m9, .inl (gI g, 10, .inl (fun z9 => nI (sb z9)))), (m10, .inl (gI g, 10, .inl (fun z9 => nI (sf z9)))), (m11, .inl (gI g, 10, .inl (fun z9 => nI (ss z9)))), (m12, .inl (gI g, 10, .inl (fun z9 => nI (sw z9)))), (m13, .inl (gI g, 256, .inl (fun z9 => nI (ways z9)))), (m14, .inl (gI g, 8, .inl (fun z9 => nI (chain z9)))), (m15, .inl (gI g, 5, .inl (fun z9 => nI (row z9)))), (m16, .inl (gI g, 5, .inl (fun z9 => nI (best z9))))] := by
                    intro k75
                    induction k75 using Nat.strongRecOn with
                    | _ k75 ih75 =>
                      intro i hm75 hi hml hg3
                      refine v_iload_n3 h dX8_readMarket_75 ?_
                      refine v_iconst h (v := nI 3) dX8_readMarket_76 (by decide) ?_
                      refine v_icmp_geN h dX8_readMarket_77 (tgt := 166) (by decide) (by omega) (by omega) (fun c77 => ?_) (fun c77 => ?_)
                      · obtain rfl : i = 3 := by omega
                        refine v_aload_n0 h dX8_readMarket_166 ?_
                        refine v_get h mw_X8 0 rfl rfl 9 (by decide) mf_X8_22 rfl dX8_readMarket_167 ?_
                        refine v_aload_n0 h dX8_readMarket_170 ?_
                        refine v_get h mw_X8 0 rfl rfl 8 (by decide) mf_X8_92 rfl dX8_readMarket_171 ?_
                        refine v_iload_n2 h dX8_readMarket_174 ?_
                        refine v_iastN_at5 h (by omega) (Nat.le_of_ble_eq_true rfl) dX8_readMarket_175 ?_
                        refine v_aload_n0 h dX8_readMarket_176 ?_
                        refine v_dup h dX8_readMarket_177 rfl ?_
                        refine v_get h mw_X8 0 rfl rfl 8 (by decide) mf_X8_92 rfl dX8_readMarket_178 ?_
                        refine v_iconst h (v := nI 1) dX8_readMarket_181 (by decide) ?_
                        refine v_iaddN h dX8_readMarket_182 ?_
                        refine pf_X8_92_at0 h dX8_readMarket_183 ?_
                        refine v_goto h dX8_readMarket_186 (tgt := 5) (by decide) ?_
                        exact vM.le rfl rfl (by rw [show atp + 4 * t + 3 = atp + (4 * (t + 1) - 1) by omega]) (vM.fg (ih5 _ (by omega) (t + 1) _ rfl (by first | assumption | rfl | omega) (by omega) (by exact fun q hq => hg3 q (by omega)) (by exact fun q hq => by unfold up; by_cases z : q = t; (· rw [if_pos z, z]; rfl); (· rw [if_neg z]; exact hr9 q (by omega)))) ⟨rfl, rfl, trivial⟩)
                      · refine v_aload_n0 h dX8_readMarket_80 ?_
                        refine v_get h mw_X8 0 rfl rfl 7 (by decide) mf_X8_86 rfl dX8_readMarket_81 ?_
                        refine v_iload_n1 h dX8_readMarket_84 ?_
                        refine v_icmp_geN h dX8_readMarket_85 (tgt := 130) (by decide) (by omega) (by omega) (fun c85 => ?_) (fun c85 => ?_)
                        · have g130 : ffS sx ml = nI (4 * t + i) := by rw [ffS_end (fun q hq => hg3 q (by omega)), if_neg (by omega)]; congr 1; omega
                          refine v_iconst h (v := nI 0) dX8_readMarket_130 (by decide) ?_
                          exact v_zretP (v := false) h hr dX8_readMarket_131 (P_X8_readMarket_mk (q := nI (bN false)) (by rw [decide_eq_false (by rw [g130]; exact nI_ne_m1 (by omega))]) (by exact fun _ => ⟨by omega, by rw [g130]; congr 1; omega, by omega⟩) (by exact fun z => absurd z (by rw [g130]; exact nI_ne_m1 (by omega))) (by exact fun z => absurd z (by rw [g130]; exact nI_ne_m1 (by omega)))) rfl
                        · refine v_aload_n0 h dX8_readMarket_88 ?_
                          refine v_get h mw_X8 0 rfl rfl 4 (by decide) mf_X8_16 rfl dX8_readMarket_89 ?_
                          refine v_aload_n0 h dX8_readMarket_92 ?_
                          refine v_get h mw_X8 0 rfl rfl 7 (by decide) mf_X8_86 rfl dX8_readMarket_93 ?_
                          refine v_ialdF h 3 rfl (by omega) (Nat.le_of_ble_eq_true rfl) dX8_readMarket_96 ?_
                          refine v_bipush h (v := nI 48) dX8_readMarket_97 (by decide) ?_
                          refine v_bipush h (v := nI 57) dX8_readMarket_99 (by decide) ?_
                          refine cw_S_e_3_i h (c_X8_within (g := g)) lk_X8_64 ⟨rfl, rfl, (Nat.le_of_ble_eq_true rfl), (Nat.le_of_ble_eq_true rfl)⟩ (Nat.le_of_ble_eq_true rfl) dX8_readMarket_101 ?_
                          refine v_if_eqB h dX8_readMarket_104 (tgt := 130) (by decide) (fun c104 => ?_) (fun c104 => ?_)
                          · rw [Nat.add_assoc atp, hmq _ (by omega)] at c104
                            have g130 := ffS_at (p := 4 * t + i) (m := ml) hg3 (by omega) (by rw [goB_d (by omega)]; exact decide_eq_false (fun z => of_decide_eq_false c104 ⟨Int32.not_lt.mp z.1, Int32.not_lt.mp z.2.1⟩))
                            refine v_iconst h (v := nI 0) dX8_readMarket_130 (by decide) ?_
                            exact v_zretP (v := false) h hr dX8_readMarket_131 (P_X8_readMarket_mk (q := nI (bN false)) (by rw [decide_eq_false (by rw [g130]; exact nI_ne_m1 (by omega))]) (by exact fun _ => ⟨by omega, by rw [g130]; congr 1; omega, by omega⟩) (by exact fun z => absurd z (by rw [g130]; exact nI_ne_m1 (by omega))) (by exact fun z => absurd z (by rw [g130]; exact nI_ne_m1 (by omega)))) rfl
                          · rw [Nat.add_assoc atp, hmq _ (by omega)] at c104
                            have hb1 := Int32.not_lt.mpr (of_decide_eq_true c104).1
                            have hb2 := Int32.not_lt.mpr (of_decide_eq_true c104).2
                            have hd9 := dv_ok hb1 hb2
                            refine v_iload_n3 h dX8_readMarket_107 ?_
                            refine v_iconst h (v := nI 2) dX8_readMarket_108 (by decide) ?_
                            refine v_icmp_neN h dX8_readMarket_109 (tgt := 132) (by decide) (by omega) (by omega) (fun c109 => ?_) (fun c109 => ?_)
                            · have hg4 := goB_l (by omega) hb1 hb2 (Or.inl (by omega))
                              refine v_bipush h (v := nI 10) dX8_readMarket_132 (by decide) ?_
                              refine v_iload_n2 h dX8_readMarket_134 ?_
                              refine v_imulN h dX8_readMarket_135 ?_
                              refine v_aload_n0 h dX8_readMarket_136 ?_
                              refine v_get h mw_X8 0 rfl rfl 4 (by decide) mf_X8_16 rfl dX8_readMarket_137 ?_
                              refine v_aload_n0 h dX8_readMarket_140 ?_
                              refine v_get h mw_X8 0 rfl rfl 7 (by decide) mf_X8_86 rfl dX8_readMarket_141 ?_
                              refine v_ialdF h 3 rfl (by omega) (Nat.le_of_ble_eq_true rfl) dX8_readMarket_144 ?_
                              refine vM.top (v := .int (nI (48 + dv (sx (4 * t + i))))) (congrArg Value.int (by rw [Nat.add_assoc atp, hmq _ (by omega)]; exact hd9.1)) ?_
                              refine v_iaddN h dX8_readMarket_145 ?_
                              refine v_bipush h (v := nI 48) dX8_readMarket_146 (by decide) ?_
                              refine v_isubN h dX8_readMarket_148 (by omega) ?_
                              refine v_istore_n2 h (Nat.le_of_ble_eq_true rfl) dX8_readMarket_149 ?_
                              refine v_aload_n0 h dX8_readMarket_150 ?_
                              refine v_dup h dX8_readMarket_151 rfl ?_
                              refine v_get h mw_X8 0 rfl rfl 7 (by decide) mf_X8_86 rfl dX8_readMarket_152 ?_
                              refine v_iconst h (v := nI 1) dX8_readMarket_155 (by decide) ?_
                              refine v_iaddN h dX8_readMarket_156 ?_
                              refine pf_X8_86_at0 h dX8_readMarket_157 ?_
                              refine v_iincN3 h (Nat.le_of_ble_eq_true rfl) dX8_readMarket_160 ?_
                              refine v_goto h dX8_readMarket_163 (tgt := 75) (by decide) ?_
                              exact vM.fg (ih75 _ (by omega) (i + 1) rfl (by first | assumption | rfl | omega) (by omega) (by exact fun q hq => by rcases Nat.lt_or_ge q (4 * t + i) with z | z; (· exact hg3 q z); (· rw [show q = 4 * t + i by omega]; exact hg4))) ⟨rfl, rfl, (by rw [show 10 * (numK (fun q => dv (sx (4 * t + q))) i) + (48 + dv (sx (4 * t + i))) - 48 = numK (fun q => dv (sx (4 * t + q))) (i + 1) by rw [numK]; omega]), rfl, trivial⟩
                            · refine v_iload_n2 h dX8_readMarket_112 ?_
                              refine v_if_neN h dX8_readMarket_113 (tgt := 132) (by decide) (by have d0 := (goB_dig (by omega) (hg3 (4 * t + 0) (by omega))).2; have d1 := (goB_dig (by omega) (hg3 (4 * t + 1) (by omega))).2; rw [c109]; show 10 * (10 * 0 + dv (sx (4 * t + 0))) + dv (sx (4 * t + 1)) < _; omega) (fun c113 => ?_) (fun c113 => ?_)
                              · have hg4 := goB_l (by omega) hb1 hb2 (Or.inr (Or.inl (by omega)))
                                refine v_bipush h (v := nI 10) dX8_readMarket_132 (by decide) ?_
                                refine v_iload_n2 h dX8_readMarket_134 ?_
                                refine v_imulN h dX8_readMarket_135 ?_
                                refine v_aload_n0 h dX8_readMarket_136 ?_
                                refine v_get h mw_X8 0 rfl rfl 4 (by decide) mf_X8_16 rfl dX8_readMarket_137 ?_
                                refine v_aload_n0 h dX8_readMarket_140 ?_
                                refine v_get h mw_X8 0 rfl rfl 7 (by decide) mf_X8_86 rfl dX8_readMarket_141 ?_
                                refine v_ialdF h 3 rfl (by omega) (Nat.le_of_ble_eq_true rfl) dX8_readMarket_144 ?_
                                refine vM.top (v := .int (nI (48 + dv (sx (4 * t + i))))) (congrArg Value.int (by rw [Nat.add_assoc atp, hmq _ (by omega)]; exact hd9.1)) ?_
                                refine v_iaddN h dX8_readMarket_145 ?_
                                refine v_bipush h (v := nI 48) dX8_readMarket_146 (by decide) ?_
                                refine v_isubN h dX8_readMarket_148 (by omega) ?_
                                refine v_istore_n2 h (Nat.le_of_ble_eq_true rfl) dX8_readMarket_149 ?_
                                refine v_aload_n0 h dX8_readMarket_150 ?_
                                refine v_dup h dX8_readMarket_151 rfl ?_
                                refine v_get h mw_X8 0 rfl rfl 7 (by decide) mf_X8_86 rfl dX8_readMarket_152 ?_
                                refine v_iconst h (v := nI 1) dX8_readMarket_155 (by decide) ?_
                                refine v_iaddN h dX8_readMarket_156 ?_
                                refine pf_X8_86_at0 h dX8_readMarket_157 ?_
                                refine v_iincN3 h (Nat.le_of_ble_eq_true rfl) dX8_readMarket_160 ?_
                                refine v_goto h dX8_readMarket_163 (tgt := 75) (by decide) ?_
                                exact vM.fg (ih75 _ (by omega) (i + 1) rfl (by first | assumption | rfl | omega) (by omega) (by exact fun q hq => by rcases Nat.lt_or_ge q (4 * t + i) with z | z; (· exact hg3 q z); (· rw [show q = 4 * t + i by omega]; exact hg4))) ⟨rfl, rfl, (by rw [show 10 * (numK (fun q => dv (sx (4 * t + q))) i) + (48 + dv (sx (4 * t + i))) - 48 = numK (fun q => dv (sx (4 * t + q))) (i + 1) by rw [numK]; omega]), rfl, trivial⟩
                              · refine v_aload_n0 h dX8_readMarket_116 ?_
                                refine v_get h mw_X8 0 rfl rfl 4 (by decide) mf_X8_16 rfl dX8_readMarket_117 ?_
                                refine v_aload_n0 h dX8_readMarket_120 ?_
                                refine v_get h mw_X8 0 rfl rfl 7 (by decide) mf_X8_86 rfl dX8_readMarket_121 ?_
                                refine v_ialdF h 3 rfl (by omega) (Nat.le_of_ble_eq_true rfl) dX8_readMarket_124 ?_
                                refine v_bipush h (v := nI 48) dX8_readMarket_125 (by decide) ?_
                                refine v_icmp_ne h dX8_readMarket_127 (tgt := 132) (by decide) (fun c127 => ?_) (fun c127 => ?_)
                                · rw [Nat.add_assoc atp, hmq _ (by omega)] at c127
                                  have hg4 := goB_l (by omega) hb1 hb2 (Or.inr (Or.inr c127))
                                  refine v_bipush h (v := nI 10) dX8_readMarket_132 (by decide) ?_
                                  refine v_iload_n2 h dX8_readMarket_134 ?_
                                  refine v_imulN h dX8_readMarket_135 ?_
                                  refine v_aload_n0 h dX8_readMarket_136 ?_
                                  refine v_get h mw_X8 0 rfl rfl 4 (by decide) mf_X8_16 rfl dX8_readMarket_137 ?_
                                  refine v_aload_n0 h dX8_readMarket_140 ?_
                                  refine v_get h mw_X8 0 rfl rfl 7 (by decide) mf_X8_86 rfl dX8_readMarket_141 ?_
                                  refine v_ialdF h 3 rfl (by omega) (Nat.le_of_ble_eq_true rfl) dX8_readMarket_144 ?_
                                  refine vM.top (v := .int (nI (48 + dv (sx (4 * t + i))))) (congrArg Value.int (by rw [Nat.add_assoc atp, hmq _ (by omega)]; exact hd9.1)) ?_
                                  refine v_iaddN h dX8_readMarket_145 ?_
                                  refine v_bipush h (v := nI 48) dX8_readMarket_146 (by decide) ?_
                                  refine v_isubN h dX8_readMarket_148 (by omega) ?_
                                  refine v_istore_n2 h (Nat.le_of_ble_eq_true rfl) dX8_readMarket_149 ?_
                                  refine v_aload_n0 h dX8_readMarket_150 ?_
                                  refine v_dup h dX8_readMarket_151 rfl ?_
                                  refine v_get h mw_X8 0 rfl rfl 7 (by decide) mf_X8_86 rfl dX8_readMarket_152 ?_
                                  refine v_iconst h (v := nI 1) dX8_readMarket_155 (by decide) ?_
                                  refine v_iaddN h dX8_readMarket_156 ?_
                                  refine pf_X8_86_at0 h dX8_readMarket_157 ?_
                                  refine v_iincN3 h (Nat.le_of_ble_eq_true rfl) dX8_readMarket_160 ?_
                                  refine v_goto h dX8_readMarket_163 (tgt := 75) (by decide) ?_
                                  exact vM.fg (ih75 _ (by omega) (i + 1) rfl (by first | assumption | rfl | omega) (by omega) (by exact fun q hq => by rcases Nat.lt_or_ge q (4 * t + i) with z | z; (· exact hg3 q z); (· rw [show q = 4 * t + i by omega]; exact hg4))) ⟨rfl, rfl, (by rw [show 10 * (numK (fun q => dv (sx (4 * t + q))) i) + (48 + dv (sx (4 * t + i))) - 48 = numK (fun q => dv (sx (4 * t + q))) (i + 1) by rw [numK]; omega]), rfl, trivial⟩
                                · rw [Nat.add_assoc atp, hmq _ (by omega)] at c127
                                  obtain rfl : i = 2 := by omega
                                  have g130 := ffS_at (p := 4 * t + 2) (m := ml) hg3 (by omega) (goB_n (by omega) c127)
                                  refine v_iconst h (v := nI 0) dX8_readMarket_130 (by decide) ?_
                                  exact v_zretP (v := false) h hr dX8_readMarket_131 (P_X8_readMarket_mk (q := nI (bN false)) (by rw [decide_eq_false (by rw [g130]; exact nI_ne_m1 (by omega))]) (by exact fun _ => ⟨by omega, by rw [g130]; congr 1; omega, by omega⟩) (by exact fun z => absurd z (by rw [g130]; exact nI_ne_m1 (by omega))) (by exact fun z => absurd z (by rw [g130]; exact nI_ne_m1 (by omega)))) rfl
                  exact vM.le rfl rfl (by first | rw [show atp + (4 * t - 1) + 1 = atp + 4 * t + 0 by omega] | rw [show atp + (4 * t - 1) = atp + 4 * t + 0 by omega]) (vM.fg (L75 _ 0 rfl (by first | assumption | rfl | omega) (by omega) (by exact hg2)) ⟨rfl, rfl, rfl, rfl, trivial⟩)
                · rw [hmq _ (by omega)] at c56
                  have g60 := ffS_at (p := 4 * t - 1) (m := ml) hg (by omega) (by rw [goB_3 (by omega)]; exact decide_eq_false (fun z => c56 z.1))
                  refine v_iconst h (v := nI 0) dX8_readMarket_59 (by decide) ?_
                  exact v_zretP (v := false) h hr dX8_readMarket_60 (P_X8_readMarket_mk (q := nI (bN false)) (by rw [decide_eq_false (by rw [g60]; exact nI_ne_m1 (by omega))]) (by exact fun _ => ⟨by omega, by rw [g60]; congr 1; omega, by omega⟩) (by exact fun z => absurd z (by rw [g60]; exact nI_ne_m1 (by omega))) (by exact fun z => absurd z (by rw [g60]; exact nI_ne_m1 (by omega)))) rfl
  exact vM.fg (L5 _ 0 _ rfl (by first | assumption | rfl | omega) (by first | assumption | rfl | omega) (by exact fun q hq => by omega) (by exact fun q hq => by omega)) ⟨rfl, rfl, trivial⟩
def P_X8_market (g : vG) (m0 m1 m2 m3 m4 m5 m6 m7 m8 m9 m10 m11 m12 m13 m14 m15 m16 : Nat) (fl : Nat) (tr : Int32) (msrt : Nat → Int32) (len : Nat → Nat) (mc : Nat → Int32) (n : Nat) (w : Nat → Nat) (atp : Nat) (rt : Nat) (rwt : Nat → Nat) (hn : Nat) (kd : Nat → Nat) (pt : Nat → Nat) (far : Nat → Int32) (sn : Nat) (sb : Nat → Nat) (sf : Nat → Nat) (ss : Nat → Nat) (sw : Nat → Nat) (ways : Nat → Nat) (chain : Nat → Nat) (row : Nat → Nat) (best : Nat → Nat) (p0 : Int32) (p1 : Int32) (p2 : Int32) (p3 : Int32) (fil : Nat → Bool) (srt : Nat → Nat) (cc : Nat → Nat → Int32) : Option Value → va_W → Prop := fun r wo => ∃ atp' : Nat, ∃ rt' : Nat, ∃ rwt' : Nat → Nat, r = some (.int (s_market n w hn sn fil srt len cc p0 p1 p2 p3).1) ∧ wo = [(m0, .inr (7, [.int (nI ((s_market n w hn sn fil srt len cc p0 p1 p2 p3).2.1)), .int tr, .ref m1, .ref m2, .ref m3, .int (nI ((s_market n w hn sn fil srt len cc p0 p1 p2 p3).2.2.1)), .ref m4, .int (nI atp'), .int (nI rt'), .ref m5, .int (nI ((s_market n w hn sn fil srt len cc p0 p1 p2 p3).2.2.2.2.1)), .ref m6, .ref m7, .ref m8, .int (nI ((s_market n w hn sn fil srt len cc p0 p1 p2 p3).2.2.2.2.2)), .ref m9, .ref m10, .ref m11, .ref m12, .ref m13, .ref m14, .ref m15, .ref m16])), (m1, .inl (gI g, 4, .inl msrt)), (m2, .inl (gI g, 4, .inl (fun z9 => nI (len z9)))), (m3, .inl (gI g, 160, .inl mc)), (m4, .inl (gI g, 8, .inl (fun z9 => nI (((s_market n w hn sn fil srt len cc p0 p1 p2 p3).2.2.2.1) z9)))), (m5, .inl (gI g, 8, .inl (fun z9 => nI (rwt' z9)))), (m6, .inl (gI g, 6, .inl (fun z9 => nI (kd z9)))), (m7, .inl (gI g, 6, .inl (fun z9 => nI (pt z9)))), (m8, .inl (gI g, 8, .inl far)), (m9, .inl (gI g, 10, .inl (fun z9 => nI (sb z9)))), (m10, .inl (gI g, 10, .inl (fun z9 => nI (sf z9)))), (m11, .inl (gI g, 10, .inl (fun z9 => nI (ss z9)))), (m12, .inl (gI g, 10, .inl (fun z9 => nI (sw z9)))), (m13, .inl (gI g, 256, .inl (fun z9 => nI (ways z9)))), (m14, .inl (gI g, 8, .inl (fun z9 => nI (chain z9)))), (m15, .inl (gI g, 5, .inl (fun z9 => nI (row z9)))), (m16, .inl (gI g, 5, .inl (fun z9 => nI (best z9))))]
theorem P_X8_market_mk {g : vG} {m0 m1 m2 m3 m4 m5 m6 m7 m8 m9 m10 m11 m12 m13 m14 m15 m16 : Nat} {fl : Nat} {tr : Int32} {msrt : Nat → Int32} {len : Nat → Nat} {mc : Nat → Int32} {n : Nat} {w : Nat → Nat} {atp : Nat} {rt : Nat} {rwt : Nat → Nat} {hn : Nat} {kd : Nat → Nat} {pt : Nat → Nat} {far : Nat → Int32} {sn : Nat} {sb : Nat → Nat} {sf : Nat → Nat} {ss : Nat → Nat} {sw : Nat → Nat} {ways : Nat → Nat} {chain : Nat → Nat} {row : Nat → Nat} {best : Nat → Nat} {p0 : Int32} {p1 : Int32} {p2 : Int32} {p3 : Int32} {fil : Nat → Bool} {srt : Nat → Nat} {cc : Nat → Nat → Int32} {atp' : Nat} {rt' : Nat} {rwt' : Nat → Nat} {q : Int32 × (Nat) × (Nat) × (Nat → Nat) × (Nat) × (Nat)} (hs : s_market n w hn sn fil srt len cc p0 p1 p2 p3 = q)  : P_X8_market g m0 m1 m2 m3 m4 m5 m6 m7 m8 m9 m10 m11 m12 m13 m14 m15 m16 fl tr msrt len mc n w atp rt rwt hn kd pt far sn sb sf ss sw ways chain row best p0 p1 p2 p3 fil srt cc (some (.int q.1)) [(m0, .inr (7, [.int (nI q.2.1), .int tr, .ref m1, .ref m2, .ref m3, .int (nI q.2.2.1), .ref m4, .int (nI atp'), .int (nI rt'), .ref m5, .int (nI q.2.2.2.2.1), .ref m6, .ref m7, .ref m8, .int (nI q.2.2.2.2.2), .ref m9, .ref m10, .ref m11, .ref m12, .ref m13, .ref m14, .ref m15, .ref m16])), (m1, .inl (gI g, 4, .inl msrt)), (m2, .inl (gI g, 4, .inl (fun z9 => nI (len z9)))), (m3, .inl (gI g, 160, .inl mc)), (m4, .inl (gI g, 8, .inl (fun z9 => nI (q.2.2.2.1 z9)))), (m5, .inl (gI g, 8, .inl (fun z9 => nI (rwt' z9)))), (m6, .inl (gI g, 6, .inl (fun z9 => nI (kd z9)))), (m7, .inl (gI g, 6, .inl (fun z9 => nI (pt z9)))), (m8, .inl (gI g, 8, .inl far)), (m9, .inl (gI g, 10, .inl (fun z9 => nI (sb z9)))), (m10, .inl (gI g, 10, .inl (fun z9 => nI (sf z9)))), (m11, .inl (gI g, 10, .inl (fun z9 => nI (ss z9)))), (m12, .inl (gI g, 10, .inl (fun z9 => nI (sw z9)))), (m13, .inl (gI g, 256, .inl (fun z9 => nI (ways z9)))), (m14, .inl (gI g, 8, .inl (fun z9 => nI (chain z9)))), (m15, .inl (gI g, 5, .inl (fun z9 => nI (row z9)))), (m16, .inl (gI g, 5, .inl (fun z9 => nI (best z9))))] := by subst hs; exact ⟨_, _, _, rfl, rfl⟩
set_option maxRecDepth 20000 in
set_option maxHeartbeats 4000000 in
theorem c_X8_market {g : vG} {m0 m1 m2 m3 m4 m5 m6 m7 m8 m9 m10 m11 m12 m13 m14 m15 m16 : Nat} {fl : Nat} {tr : Int32} {msrt : Nat → Int32} {len : Nat → Nat} {mc : Nat → Int32} {n : Nat} {w : Nat → Nat} {atp : Nat} {rt : Nat} {rwt : Nat → Nat} {hn : Nat} {kd : Nat → Nat} {pt : Nat → Nat} {far : Nat → Int32} {sn : Nat} {sb : Nat → Nat} {sf : Nat → Nat} {ss : Nat → Nat} {sw : Nat → Nat} {ways : Nat → Nat} {chain : Nat → Nat} {row : Nat → Nat} {best : Nat → Nat} {p0 : Int32} {p1 : Int32} {p2 : Int32} {p3 : Int32} {fil : Nat → Bool} {srt : Nat → Nat} {cc : Nat → Nat → Int32} (hsr : ∀ k, srt k ≤ 2) (hln : ∀ k, len k ≤ 40) (hms : ∀ k, k < 4 → msrt k = if fil k = true then nI (srt k) else -9) (hmc : ∀ k, k < 4 → fil k = true → ∀ j, j < len k → mc (40 * k + j) = cc k j) (hn8 : n ≤ 8) : CtP g yX8_market cX8_market 8 (some .int) (rmOf 2 45) [(m0, .inr (7, [.int (nI fl), .int tr, .ref m1, .ref m2, .ref m3, .int (nI n), .ref m4, .int (nI atp), .int (nI rt), .ref m5, .int (nI hn), .ref m6, .ref m7, .ref m8, .int (nI sn), .ref m9, .ref m10, .ref m11, .ref m12, .ref m13, .ref m14, .ref m15, .ref m16])), (m1, .inl (gI g, 4, .inl msrt)), (m2, .inl (gI g, 4, .inl (fun z9 => nI (len z9)))), (m3, .inl (gI g, 160, .inl mc)), (m4, .inl (gI g, 8, .inl (fun z9 => nI (w z9)))), (m5, .inl (gI g, 8, .inl (fun z9 => nI (rwt z9)))), (m6, .inl (gI g, 6, .inl (fun z9 => nI (kd z9)))), (m7, .inl (gI g, 6, .inl (fun z9 => nI (pt z9)))), (m8, .inl (gI g, 8, .inl far)), (m9, .inl (gI g, 10, .inl (fun z9 => nI (sb z9)))), (m10, .inl (gI g, 10, .inl (fun z9 => nI (sf z9)))), (m11, .inl (gI g, 10, .inl (fun z9 => nI (ss z9)))), (m12, .inl (gI g, 10, .inl (fun z9 => nI (sw z9)))), (m13, .inl (gI g, 256, .inl (fun z9 => nI (ways z9)))), (m14, .inl (gI g, 8, .inl (fun z9 => nI (chain z9)))), (m15, .inl (gI g, 5, .inl (fun z9 => nI (row z9)))), (m16, .inl (gI g, 5, .inl (fun z9 => nI (best z9))))] [.ref m0, .int p0, .int p1, .int p2, .int p3] (P_X8_market g m0 m1 m2 m3 m4 m5 m6 m7 m8 m9 m10 m11 m12 m13 m14 m15 m16 fl tr msrt len mc n w atp rt rwt hn kd pt far sn sb sf ss sw ways chain row best p0 p1 p2 p3 fil srt cc) := by
  refine CtP.ofV RX8 rfl (by decide +kernel) rfl rfl (Nat.le_of_ble_eq_true rfl) (List.forall_mem_cons.mpr ⟨rfl, (List.forall_mem_cons.mpr ⟨rfl, (List.forall_mem_cons.mpr ⟨rfl, (List.forall_mem_cons.mpr ⟨rfl, (List.forall_mem_cons.mpr ⟨rfl, (fun _ h9 => absurd h9 List.not_mem_nil)⟩)⟩)⟩)⟩)⟩) (fun x h hr => ?_)
  show vM x 0 [some (.ref m0), some (.int p0), some (.int p1), some (.int p2), some (.int p3), none, none, none] [] [(m0, .inr (7, [.int (nI fl), .int tr, .ref m1, .ref m2, .ref m3, .int (nI n), .ref m4, .int (nI atp), .int (nI rt), .ref m5, .int (nI hn), .ref m6, .ref m7, .ref m8, .int (nI sn), .ref m9, .ref m10, .ref m11, .ref m12, .ref m13, .ref m14, .ref m15, .ref m16])), (m1, .inl (gI g, 4, .inl msrt)), (m2, .inl (gI g, 4, .inl (fun z9 => nI (len z9)))), (m3, .inl (gI g, 160, .inl mc)), (m4, .inl (gI g, 8, .inl (fun z9 => nI (w z9)))), (m5, .inl (gI g, 8, .inl (fun z9 => nI (rwt z9)))), (m6, .inl (gI g, 6, .inl (fun z9 => nI (kd z9)))), (m7, .inl (gI g, 6, .inl (fun z9 => nI (pt z9)))), (m8, .inl (gI g, 8, .inl far)), (m9, .inl (gI g, 10, .inl (fun z9 => nI (sb z9)))), (m10, .inl (gI g, 10, .inl (fun z9 => nI (sf z9)))), (m11, .inl (gI g, 10, .inl (fun z9 => nI (ss z9)))), (m12, .inl (gI g, 10, .inl (fun z9 => nI (sw z9)))), (m13, .inl (gI g, 256, .inl (fun z9 => nI (ways z9)))), (m14, .inl (gI g, 8, .inl (fun z9 => nI (chain z9)))), (m15, .inl (gI g, 5, .inl (fun z9 => nI (row z9)))), (m16, .inl (gI g, 5, .inl (fun z9 => nI (best z9))))]
  refine v_aload_n0 h dX8_market_0 ?_
  refine v_iconst h (v := nI 0) dX8_market_1 (by decide) ?_
  refine pf_X8_58_at0 h dX8_market_2 ?_
  refine v_iload_n1 h dX8_market_5 ?_
  refine cw_S_e_1_i h (c_X8_isSheet (g := g)) lk_X8_71 ⟨rfl, rfl, (Nat.le_of_ble_eq_true rfl), (Nat.le_of_ble_eq_true rfl)⟩ (Nat.le_of_ble_eq_true rfl) dX8_market_6 ?_
  refine v_if_neB h dX8_market_9 (tgt := 14) (by decide) (fun c9 => ?_) (fun c9 => ?_)
  · obtain ⟨j0, -, hj0, rfl⟩ := wi_of c9 (by decide) (by decide)
    have e9 := rN_N (show j0 < 4 by omega) (by decide)
    refine v_iload_n2 h dX8_market_14 ?_
    refine cw_S_e_1_i h (c_X8_isSort (g := g)) lk_X8_75 ⟨rfl, rfl, (Nat.le_of_ble_eq_true rfl), (Nat.le_of_ble_eq_true rfl)⟩ (Nat.le_of_ble_eq_true rfl) dX8_market_15 ?_
    refine v_if_neB h dX8_market_18 (tgt := 24) (by decide) (fun c18 => ?_) (fun c18 => ?_)
    · obtain ⟨j1, hj1a, hj1, rfl⟩ := wi_of c18 (by decide) (by decide)
      have e18 := rW_N hj1a hj1 (by decide)
      refine v_aload_n0 h dX8_market_24 ?_
      refine v_iload_n1 h dX8_market_25 ?_
      refine v_iload_n2 h dX8_market_26 ?_
      refine v_iload_n3 h dX8_market_27 ?_
      refine v_iload4 h dX8_market_28 ?_
      refine cw_V_0_1_2_3_4_5_6_7_8_9_10_11_12_13_14_15_16_4_i (ci := 7) h (c_X8_against (g := g) (fil := fil) (srt := srt) (by first | assumption | omega) (by first | assumption | omega) (by first | assumption | omega) (by first | assumption | omega)) lk_X8_78 ⟨rfl, rfl, (Nat.le_of_ble_eq_true rfl), (Nat.le_of_ble_eq_true rfl)⟩ rfl rfl rfl (Nat.le_of_ble_eq_true rfl) dX8_market_30 ?_
      refine v_istore5 h (Nat.le_of_ble_eq_true rfl) dX8_market_33 ?_
      refine v_iload5 h dX8_market_35 ?_
      refine v_if_eqN h dX8_market_37 (tgt := 47) (by decide) (by exact Nat.lt_of_le_of_lt ftk_le (by decide)) (fun c37 => ?_) (fun c37 => ?_)
      · have c37q := c37
        obtain ⟨hfk, hsr9, i9, y9, rfl, rfl, him⟩ := ftk_0 c37q (hln j0)
        have hl9 := hln j0
        refine v_bipush h (v := nI 40) dX8_market_47 (by decide) ?_
        refine v_iload_n1 h dX8_market_49 ?_
        refine v_imulN h dX8_market_50 ?_
        refine v_iload_n3 h dX8_market_51 ?_
        refine v_iaddN h dX8_market_52 ?_
        refine v_istore6 h (Nat.le_of_ble_eq_true rfl) dX8_market_53 ?_
        refine v_aload_n0 h dX8_market_55 ?_
        refine v_iload6 h dX8_market_56 ?_
        refine pf_X8_86_at0 h dX8_market_58 ?_
        refine v_aload_n0 h dX8_market_61 ?_
        refine v_iload6 h dX8_market_62 ?_
        refine v_iload4 h dX8_market_64 ?_
        refine v_iaddN h dX8_market_66 ?_
        refine v_callVP (ci := 7) h (c_X8_readMarket (g := g) (sx := fun z => cc j0 (i9 + z)) (ml := y9) rfl (by omega) (fun z hz => by rw [Nat.add_assoc]; exact hmc j0 (by omega) hfk (i9 + z) (by omega))) lk_X8_89 ⟨rfl, rfl, (Nat.le_of_ble_eq_true rfl), (Nat.le_of_ble_eq_true rfl)⟩ rfl rfl rfl rfl [0, 1, 2, 3, 4, 5, 6, 7, 8, 9, 10, 11, 12, 13, 14, 15, 16] rfl (by decide) (Nat.le_of_ble_eq_true rfl) dX8_market_67 ?_
        rintro r9 wo9 ⟨atp', rt', rwt', hb1, hb2, hb3, rfl, rfl⟩
        show vM x 70 _ (.int (nI (bN (decide (ffS (fun z => cc j0 (i9 + z)) y9 = -1)))) :: _) [(m0, .inr (7, [.int (nI 0), .int tr, .ref m1, .ref m2, .ref m3, .int (nI n), .ref m4, .int (nI atp'), .int (nI rt'), .ref m5, .int (nI hn), .ref m6, .ref m7, .ref m8, .int (nI sn), .ref m9, .ref m10, .ref m11, .ref m12, .ref m13, .ref m14, .ref m15, .ref m16])), (m1, .inl (gI g, 4, .inl msrt)), (m2, .inl (gI g, 4, .inl (fun z9 => nI (len z9)))), (m3, .inl (gI g, 160, .inl mc)), (m4, .inl (gI g, 8, .inl (fun z9 => nI (w z9)))), (m5, .inl (gI g, 8, .inl (fun z9 => nI (rwt' z9)))), (m6, .inl (gI g, 6, .inl (fun z9 => nI (kd z9)))), (m7, .inl (gI g, 6, .inl (fun z9 => nI (pt z9)))), (m8, .inl (gI g, 8, .inl far)), (m9, .inl (gI g, 10, .inl (fun z9 => nI (sb z9)))), (m10, .inl (gI g, 10, .inl (fun z9 => nI (sf z9)))), (m11, .inl (gI g, 10, .inl (fun z9 => nI (ss z9)))), (m12, .inl (gI g, 10, .inl (fun z9 => nI (sw z9)))), (m13, .inl (gI g, 256, .inl (fun z9 => nI (ways z9)))), (m14, .inl (gI g, 8, .inl (fun z9 => nI (chain z9)))), (m15, .inl (gI g, 5, .inl (fun z9 => nI (row z9)))), (m16, .inl (gI g, 5, .inl (fun z9 => nI (best z9))))]
        refine v_if_neB h dX8_market_70 (tgt := 84) (by decide) (fun c70 => ?_) (fun c70 => ?_)
        · have hk70 := of_decide_eq_true c70
          have hk71 := hb2 hk70
          have hk72 := hb3 hk70
          subst hk71
          obtain ⟨hm1, hm2, hm3, hm4⟩ := ffS_ok (show y9 < 2 ^ 31 by omega) hk70
          refine v_aload_n0 h dX8_market_84 ?_
          refine v_aload_n0 h dX8_market_85 ?_
          refine v_get h mw_X8 0 rfl rfl 8 (by decide) mf_X8_92 rfl dX8_market_86 ?_
          refine pf_X8_68_at0 h dX8_market_89 ?_
          refine v_iconst h (v := nI 0) dX8_market_92 (by decide) ?_
          refine v_istore7 h (Nat.le_of_ble_eq_true rfl) dX8_market_93 ?_
          have L95 : ∀ (k95 : Nat) (q : Nat), (y9 + 1) / 4 - q = k95 → (q ≤ (y9 + 1) / 4) → vM x 95 [some (.ref m0), some (.int (nI j0)), some (.int (nI j1)), some (.int (nI i9)), some (.int (nI y9)), none, none, some (.int (nI q))] [] [(m0, .inr (7, [.int (nI 0), .int tr, .ref m1, .ref m2, .ref m3, .int (nI ((y9 + 1) / 4)), .ref m4, .int (nI atp'), .int (nI ((y9 + 1) / 4)), .ref m5, .int (nI hn), .ref m6, .ref m7, .ref m8, .int (nI sn), .ref m9, .ref m10, .ref m11, .ref m12, .ref m13, .ref m14, .ref m15, .ref m16])), (m1, .inl (gI g, 4, .inl msrt)), (m2, .inl (gI g, 4, .inl (fun z9 => nI (len z9)))), (m3, .inl (gI g, 160, .inl mc)), (m4, .inl (gI g, 8, .inl (fun z9 => nI ((layF w q (fun z => numV (fun z => cc j0 (i9 + z)) (4 * z))) z9)))), (m5, .inl (gI g, 8, .inl (fun z9 => nI (rwt' z9)))), (m6, .inl (gI g, 6, .inl (fun z9 => nI (kd z9)))), (m7, .inl (gI g, 6, .inl (fun z9 => nI (pt z9)))), (m8, .inl (gI g, 8, .inl far)), (m9, .inl (gI g, 10, .inl (fun z9 => nI (sb z9)))), (m10, .inl (gI g, 10, .inl (fun z9 => nI (sf z9)))), (m11, .inl (gI g, 10, .inl (fun z9 => nI (ss z9)))), (m12, .inl (gI g, 10, .inl (fun z9 => nI (sw z9)))), (m13, .inl (gI g, 256, .inl (fun z9 => nI (ways z9)))), (m14, .inl (gI g, 8, .inl (fun z9 => nI (chain z9)))), (m15, .inl (gI g, 5, .inl (fun z9 => nI (row z9)))), (m16, .inl (gI g, 5, .inl (fun z9 => nI (best z9))))] := by
            intro k95
            induction k95 using Nat.strongRecOn with
            | _ k95 ih95 =>
              intro q hm95 hq
              refine v_iload7 h dX8_market_95 ?_
              refine v_aload_n0 h dX8_market_97 ?_
              refine v_get h mw_X8 0 rfl rfl 5 (by decide) mf_X8_68 rfl dX8_market_98 ?_
              refine v_icmp_geN h dX8_market_101 (tgt := 124) (by decide) (by omega) (by omega) (fun c101 => ?_) (fun c101 => ?_)
              · obtain rfl : q = (y9 + 1) / 4 := by omega
                refine v_aload_n0 h dX8_market_124 ?_
                refine v_iconst h (v := nI 0) dX8_market_125 (by decide) ?_
                refine pf_X8_95_at0 h dX8_market_126 ?_
                refine v_aload_n0 h dX8_market_129 ?_
                refine v_iconst h (v := nI 0) dX8_market_130 (by decide) ?_
                refine pf_X8_98_at0 h dX8_market_131 ?_
                refine v_aload_n0 h dX8_market_134 ?_
                refine v_get h mw_X8 0 rfl rfl 5 (by decide) mf_X8_68 rfl dX8_market_135 ?_
                exact v_iretP h hr dX8_market_138 (P_X8_market_mk (q := (nI ((y9 + 1) / 4), 0, (y9 + 1) / 4, layF w ((y9 + 1) / 4) (fun q => numV (fun z => cc j0 (i9 + z)) (4 * q)), 0, 0)) (by simp only [s_market, e9, e18, c37, tn_N (show i9 < 2 ^ 31 by omega), tn_N (show y9 < 2 ^ 31 by omega), if_pos (of_decide_eq_true c70)]) ) rfl
              · refine v_aload_n0 h dX8_market_104 ?_
                refine v_get h mw_X8 0 rfl rfl 6 (by decide) mf_X8_19 rfl dX8_market_105 ?_
                refine v_iload7 h dX8_market_108 ?_
                refine v_aload_n0 h dX8_market_110 ?_
                refine v_get h mw_X8 0 rfl rfl 9 (by decide) mf_X8_22 rfl dX8_market_111 ?_
                refine v_iload7 h dX8_market_114 ?_
                refine v_ialdN h 5 rfl (by omega) (Nat.le_of_ble_eq_true rfl) dX8_market_116 ?_
                refine v_iastN_at4 h (by omega) (Nat.le_of_ble_eq_true rfl) dX8_market_117 ?_
                refine v_iincN7 h (Nat.le_of_ble_eq_true rfl) dX8_market_118 ?_
                refine v_goto h dX8_market_121 (tgt := 95) (by decide) ?_
                exact vM.le rfl rfl (by rw [layF_succ (F := fun z => numV (fun z => cc j0 (i9 + z)) (4 * z)) (hk72 q (by omega)).symm]) (vM.fg (ih95 _ (by omega) (q + 1) rfl (by first | assumption | rfl | omega)) ⟨rfl, rfl, rfl, rfl, rfl, rfl, trivial⟩)
          exact vM.le rfl rfl (by rw [layF_0]) (vM.fg (L95 _ 0 rfl (by first | assumption | rfl | omega)) ⟨rfl, rfl, rfl, rfl, rfl, rfl, trivial⟩)
        · have hb9 := (hb1 (of_decide_eq_false c70)).1
          refine v_bipush h (v := -100) dX8_market_73 (by decide) ?_
          refine v_aload_n0 h dX8_market_75 ?_
          refine v_get h mw_X8 0 rfl rfl 7 (by decide) mf_X8_86 rfl dX8_market_76 ?_
          refine v_iload6 h dX8_market_79 ?_
          refine v_isubN h dX8_market_81 (by omega) ?_
          refine vM.top (v := .int (ffS (fun z => cc j0 (i9 + z)) y9)) (congrArg Value.int (hb1 (of_decide_eq_false c70)).2.1.symm) ?_
          refine v_isub h dX8_market_82 ?_
          exact v_iretP h hr dX8_market_83 (P_X8_market_mk (q := (-100 - ffS (fun z => cc j0 (i9 + z)) y9, 0, n, w, hn, sn)) (by simp only [s_market, e9, e18, c37, tn_N (show i9 < 2 ^ 31 by omega), tn_N (show y9 < 2 ^ 31 by omega), if_neg (of_decide_eq_false c70)]) ) rfl
      · obtain ⟨f9, hf9⟩ : ∃ f9, (ftk (fil j0) (srt j0) (len j0) (nI j1) p2 p3) = f9 + 1 := ⟨(ftk (fil j0) (srt j0) (len j0) (nI j1) p2 p3) - 1, by omega⟩
        rw [hf9]
        refine v_aload_n0 h dX8_market_40 ?_
        refine v_iload5 h dX8_market_41 ?_
        refine cw_V_0_1_2_3_4_5_6_7_8_9_10_11_12_13_14_15_16_1_i (ci := 7) h (c_X8_fails (g := g)) lk_X8_82 ⟨rfl, rfl, (Nat.le_of_ble_eq_true rfl), (Nat.le_of_ble_eq_true rfl)⟩ rfl rfl rfl (Nat.le_of_ble_eq_true rfl) dX8_market_43 ?_
        exact v_iretP h hr dX8_market_46 (P_X8_market_mk (q := (-10 - nI (f9 + 1), f9 + 1, n, w, hn, sn)) (by simp only [s_market, e9, e18, hf9]) ) rfl
    · have e18 := wi_no c18
      refine v_bipush h (v := -2) dX8_market_21 (by decide) ?_
      exact v_iretP h hr dX8_market_23 (P_X8_market_mk (q := (-2, 0, n, w, hn, sn)) (by simp only [s_market, e9, e18]) ) rfl
  · have e9 := wi_rN c9
    refine v_iconst h (v := -1) dX8_market_12 (by decide) ?_
    exact v_iretP h hr dX8_market_13 (P_X8_market_mk (q := (-1, 0, n, w, hn, sn)) (by simp only [s_market, e9]) ) rfl
