/-! the law's sections: rows of fair swaps -/
/-- how soon each is come to, as the law notes it -/
def ffF (k p : Nat) (w : Nat → Nat) (n y K : Nat) : Nat → Int32 := fun j => if j < n then oN (fwy k p w n y j K) else nI 0
theorem ffF_in {k p n y K j : Nat} {w : Nat → Nat} (h : j < n) : ffF k p w n y K j = oN (fwy k p w n y j K) := if_pos h
def ffZ (k p : Nat) (w : Nat → Nat) (n y i : Nat) : Nat → Int32 := fun j => if j < i then ffF k p w n y 1 j else nI 0
theorem ffZ_0 {k p n y : Nat} {w : Nat → Nat} : ffZ k p w n y 0 = fun _ => nI 0 := by funext j; exact if_neg (by omega)
theorem ffZ_n {k p n y : Nat} {w : Nat → Nat} : ffZ k p w n y n = ffF k p w n y 1 := by
  funext j
  unfold ffZ
  by_cases c : j < n
  · rw [if_pos c]
  · rw [if_neg c, ffF, if_neg c]
theorem ffZ_up {k p n y i : Nat} {w : Nat → Nat} {v : Int32} (hi : i < n) (h : (if y = i then nI 0 else -9) = v) : upd (ffZ k p w n y i) i v = ffZ k p w n y (i + 1) := by
  funext j
  unfold upd ffZ
  by_cases e : j = i
  · subst e
    rw [if_pos rfl, if_pos (by omega), ffF_in hi, fwy_0, h]
  · rw [if_neg e]
    by_cases c : j < i
    · rw [if_pos c, if_pos (by omega)]
    · rw [if_neg c, if_neg (by omega)]
def ffM (k p : Nat) (w : Nat → Nat) (n y K i : Nat) : Nat → Int32 := fun j => if j < i then ffF k p w n y (K + 1) j else ffF k p w n y K j
theorem ffM_0 {k p n y K : Nat} {w : Nat → Nat} : ffM k p w n y K 0 = ffF k p w n y K := by funext j; exact if_neg (by omega)
theorem ffM_n {k p n y K : Nat} {w : Nat → Nat} : ffM k p w n y K n = ffF k p w n y (K + 1) := by
  funext j
  unfold ffM
  by_cases c : j < n
  · rw [if_pos c]
  · rw [if_neg c, ffF, ffF, if_neg c, if_neg c]
theorem ffM_at {k p n y K i : Nat} {w : Nat → Nat} (h : i < n) : ffM k p w n y K i i = oN (fwy k p w n y i K) := by
  unfold ffM
  rw [if_neg (by omega), ffF_in h]
theorem ffM_up {k p n y K i : Nat} {w : Nat → Nat} {v : Int32} (hi : i < n) (h : oN (fwy k p w n y i (K + 1)) = v) : upd (ffM k p w n y K i) i v = ffM k p w n y K (i + 1) := by
  funext j
  unfold upd ffM
  by_cases e : j = i
  · subst e
    rw [if_pos rfl, if_pos (by omega), ffF_in hi, h]
  · rw [if_neg e]
    by_cases c : j < i
    · rw [if_pos c, if_pos (by omega)]
    · rw [if_neg c, if_neg (by omega)]
theorem ff_ge {k p n y K i : Nat} {w : Nat → Nat} (h : 0 ≤ oN (fwy k p w n y i K)) : oN (fwy k p w n y i (K + 1)) = oN (fwy k p w n y i K) := by
  cases q : fwy k p w n y i K with
  | none => rw [q] at h; exact absurd h (by decide)
  | some m => rw [fwy_s q]
theorem ff_no {k p n y K i : Nat} {w : Nat → Nat} (h : (wth (alkS k p w n) n (2 ^ y) K).testBit i = false) : oN (fwy k p w n y i (K + 1)) = oN (fwy k p w n y i K) := by rw [fwy_f h]
theorem ff_hit {k p n y K i : Nat} {w : Nat → Nat} (hK : K < 2 ^ 31) (h : ¬ 0 ≤ oN (fwy k p w n y i K)) (h2 : (wth (alkS k p w n) n (2 ^ y) K).testBit i = true) : oN (fwy k p w n y i (K + 1)) = nI K := by
  cases q : fwy k p w n y i K with
  | none => rw [fwy_t q h2]; rfl
  | some m => rw [q] at h; exact absurd (nI_pos' (Nat.lt_trans (fwy_lt q) hK)) h
theorem wth31 {kk p n y k : Nat} {w : Nat → Nat} (hn : n ≤ 6) (hy : y < n) : wth (alkS kk p w n) n (2 ^ y) k < 2 ^ 31 := Nat.lt_of_lt_of_le (wth_ltn (fun _ _ => alkS_lt) (pow_lt_n hy) k) (Nat.pow_le_pow_right (by decide) (by omega))
set_option maxRecDepth 20000 in
set_option maxHeartbeats 4000000 in
theorem law_a0 {x : vX} {g : vG} {b L : Nat} {xs : Nat → Int32} {ad rr : Nat → Nat} {ta0 n hm : Nat} {tt w kd pt : Nat → Nat} {turn j y fa0 : Nat} (h : Ok x g code RL room_1 19) (hX : LwX x b L xs) (hG : AGT tt n hm w kd pt) (hj : j < hm) (hy : y < n) (K : ∀ ws : va_W, PInv g ad rr n w hm kd pt ws → vM x 585 [some (.ref b), some (.ref (ad 0)), some (.ref ta0), none, some (.int (nI n)), some (.int (nI turn)), some (.int (nI j)), none, some (.int (nI y)), some (.int (nI (2 ^ y))), some (.ref fa0), none, none, none, none, none, none, none, none] [] (wcat [(ta0, .inl (gI g, 22, .inl (fun z9 => nI (tt z9)))), (fa0, .inl (gI g, 6, .inl (ffF (kd j) (pt j) w n y 1)))] ws)) : ∀ ws : va_W, PInv g ad rr n w hm kd pt ws → vM x 551 [some (.ref b), some (.ref (ad 0)), some (.ref ta0), none, some (.int (nI n)), some (.int (nI turn)), some (.int (nI j)), none, some (.int (nI y)), some (.int (nI (2 ^ y))), some (.ref fa0), none, none, none, none, none, none, none, none] [] (wcat [(ta0, .inl (gI g, 22, .inl (fun z9 => nI (tt z9)))), (fa0, .inl (gI g, 6, .inl (ffZ (kd j) (pt j) w n y 0)))] ws) := by
  intro ws hI
  have hn := hG.n2
  refine v_iconst h (v := nI 0) dL_law_551 (by decide) ?_
  refine v_istore11 h (Nat.le_of_ble_eq_true rfl) dL_law_552 ?_
  have L554 : ∀ (k554 : Nat) (i : Nat), n - i = k554 → (i ≤ n) → vM x 554 [some (.ref b), some (.ref (ad 0)), some (.ref ta0), none, some (.int (nI n)), some (.int (nI turn)), some (.int (nI j)), none, some (.int (nI y)), some (.int (nI (2 ^ y))), some (.ref fa0), some (.int (nI i)), none, none, none, none, none, none, none] [] (wcat [(ta0, .inl (gI g, 22, .inl (fun z9 => nI (tt z9)))), (fa0, .inl (gI g, 6, .inl (ffZ (kd j) (pt j) w n y i)))] ws) := by
    intro k554
    induction k554 using Nat.strongRecOn with
    | _ k554 ih554 =>
      intro i hm554 hi
      refine v_iload11 h dL_law_554 ?_
      refine v_iload4 h dL_law_556 ?_
      refine v_icmp_geN h dL_law_558 (tgt := 585) (by decide) (by omega) (by omega) (fun c558 => ?_) (fun c558 => ?_)
      · have e9 : n = i := by omega
        subst e9
        rw [ffZ_n]
        exact vM.fg (K _ hI) ⟨rfl, rfl, rfl, rfl, rfl, rfl, rfl, rfl, rfl, trivial⟩
      · refine v_aload10 h dL_law_561 ?_
        refine v_iload11 h dL_law_563 ?_
        refine v_iload11 h dL_law_565 ?_
        refine v_iload8 h dL_law_567 ?_
        refine v_icmp_neN h dL_law_569 (tgt := 576) (by decide) (by omega) (by omega) (fun c569 => ?_) (fun c569 => ?_)
        · refine v_bipush h (v := -9) dL_law_576 (by decide) ?_
          refine v_iastF h 1 rfl (by omega) (Nat.le_of_ble_eq_true rfl) dL_law_578 (ws' := (wcat [(ta0, .inl (gI g, 22, .inl (fun z9 => nI (tt z9)))), (fa0, .inl (gI g, 6, .inl (ffZ (kd j) (pt j) w n y (i + 1))))] ws)) (congrArg (fun f9 : Nat → Int32 => (wcat [(ta0, .inl (gI g, 22, .inl (fun z9 => nI (tt z9)))), (fa0, .inl (gI g, 6, .inl f9))] ws)) (ffZ_up (by omega) (by first | exact if_pos (by omega) | exact if_neg (by omega)))) ?_
          refine v_iincN11 h (Nat.le_of_ble_eq_true rfl) dL_law_579 ?_
          refine v_goto h dL_law_582 (tgt := 554) (by decide) ?_
          exact vM.fg (ih554 _ (by omega) (i + 1) rfl (by first | assumption | rfl | omega)) ⟨rfl, rfl, rfl, rfl, rfl, rfl, rfl, rfl, rfl, rfl, trivial⟩
        · refine v_iconst h (v := nI 0) dL_law_572 (by decide) ?_
          refine v_goto h dL_law_573 (tgt := 578) (by decide) ?_
          refine v_iastF h 1 rfl (by omega) (Nat.le_of_ble_eq_true rfl) dL_law_578 (ws' := (wcat [(ta0, .inl (gI g, 22, .inl (fun z9 => nI (tt z9)))), (fa0, .inl (gI g, 6, .inl (ffZ (kd j) (pt j) w n y (i + 1))))] ws)) (congrArg (fun f9 : Nat → Int32 => (wcat [(ta0, .inl (gI g, 22, .inl (fun z9 => nI (tt z9)))), (fa0, .inl (gI g, 6, .inl f9))] ws)) (ffZ_up (by omega) (by first | exact if_pos (by omega) | exact if_neg (by omega)))) ?_
          refine v_iincN11 h (Nat.le_of_ble_eq_true rfl) dL_law_579 ?_
          refine v_goto h dL_law_582 (tgt := 554) (by decide) ?_
          exact vM.fg (ih554 _ (by omega) (i + 1) rfl (by first | assumption | rfl | omega)) ⟨rfl, rfl, rfl, rfl, rfl, rfl, rfl, rfl, rfl, rfl, trivial⟩
  exact vM.fg (L554 _ 0 rfl (by first | assumption | rfl | omega)) ⟨rfl, rfl, rfl, rfl, rfl, rfl, rfl, rfl, rfl, rfl, trivial⟩
set_option maxRecDepth 20000 in
set_option maxHeartbeats 4000000 in
theorem law_a1 {x : vX} {g : vG} {b L : Nat} {xs : Nat → Int32} {ad rr : Nat → Nat} {ta0 n hm : Nat} {tt w kd pt : Nat → Nat} {turn j y fa0 : Nat} (h : Ok x g code RL room_1 19) (hX : LwX x b L xs) (hG : AGT tt n hm w kd pt) (hj : j < hm) (hy : y < n) (K : ∀ ws : va_W, PInv g ad rr n w hm kd pt ws → vM x 755 [some (.ref b), some (.ref (ad 0)), some (.ref ta0), none, some (.int (nI n)), some (.int (nI turn)), some (.int (nI j)), none, some (.int (nI y)), none, some (.ref fa0), none, none, none, none, none, none, none, none] [] (wcat [(ta0, .inl (gI g, 22, .inl (fun z9 => nI (tt z9)))), (fa0, .inl (gI g, 6, .inl (ffF (kd j) (pt j) w n y 8)))] ws)) : ∀ ws : va_W, PInv g ad rr n w hm kd pt ws → vM x 585 [some (.ref b), some (.ref (ad 0)), some (.ref ta0), none, some (.int (nI n)), some (.int (nI turn)), some (.int (nI j)), none, some (.int (nI y)), some (.int (nI (2 ^ y))), some (.ref fa0), none, none, none, none, none, none, none, none] [] (wcat [(ta0, .inl (gI g, 22, .inl (fun z9 => nI (tt z9)))), (fa0, .inl (gI g, 6, .inl (ffF (kd j) (pt j) w n y 1)))] ws) := by
  intro ws hI
  have hn := hG.n2
  refine v_iconst h (v := nI 0) dL_law_585 (by decide) ?_
  refine v_istore11 h (Nat.le_of_ble_eq_true rfl) dL_law_586 ?_
  have L588 : ∀ (k588 : Nat) (k : Nat) (ws : va_W), 7 - k = k588 → (k ≤ 7) → (PInv g ad rr n w hm kd pt ws) → vM x 588 [some (.ref b), some (.ref (ad 0)), some (.ref ta0), none, some (.int (nI n)), some (.int (nI turn)), some (.int (nI j)), none, some (.int (nI y)), some (.int (nI (wth (alkS (kd j) (pt j) w n) n (2 ^ y) k))), some (.ref fa0), some (.int (nI k)), none, none, none, none, none, none, none] [] (wcat [(ta0, .inl (gI g, 22, .inl (fun z9 => nI (tt z9)))), (fa0, .inl (gI g, 6, .inl (ffF (kd j) (pt j) w n y (k + 1))))] ws) := by
    intro k588
    induction k588 using Nat.strongRecOn with
    | _ k588 ih588 =>
      intro k ws hm588 hk hI
      refine v_iload11 h dL_law_588 ?_
      refine v_bipush h (v := nI 7) dL_law_590 (by decide) ?_
      refine v_icmp_geN h dL_law_592 (tgt := 755) (by decide) (by first | omega | exact Nat.lt_of_le_of_lt (bN_le _) (by decide)) (by first | omega | exact Nat.lt_of_le_of_lt (bN_le _) (by decide)) (fun c592 => ?_) (fun c592 => ?_)
      · have e9 : k = 7 := by omega
        subst e9
        exact vM.fg (K _ hI) ⟨rfl, rfl, rfl, rfl, rfl, rfl, rfl, rfl, trivial⟩
      · refine v_aload_n1 h dL_law_595 ?_
        refine v_iload6 h dL_law_596 ?_
        refine v_iload8 h dL_law_598 ?_
        refine v_iload11 h dL_law_600 ?_
        refine kk_noon h hG hI (by first | assumption | omega) (by first | assumption | omega) (by first | assumption | omega) ⟨rfl, rfl, (Nat.le_of_ble_eq_true rfl), (Nat.le_of_ble_eq_true rfl)⟩ (Nat.le_of_ble_eq_true rfl) dL_law_602 (fun ws hI => ?_)
        refine v_iload9 h dL_law_605 ?_
        refine v_icmp_eqN h dL_law_607 (tgt := 612) (by decide) (by exact wth31 hn.2.1 hy) (by exact wth31 hn.2.1 hy) (fun c607 => ?_) (fun c607 => ?_)
        · refine v_iload9 h dL_law_612 ?_
          refine v_istore12 h (Nat.le_of_ble_eq_true rfl) dL_law_614 ?_
          refine v_iconst h (v := nI 0) dL_law_616 (by decide) ?_
          refine v_istore13 h (Nat.le_of_ble_eq_true rfl) dL_law_617 ?_
          have L619 : ∀ (k619 : Nat) (i : Nat), n - i = k619 → (i ≤ n) → vM x 619 [some (.ref b), some (.ref (ad 0)), some (.ref ta0), none, some (.int (nI n)), some (.int (nI turn)), some (.int (nI j)), none, some (.int (nI y)), some (.int (nI (wth (alkS (kd j) (pt j) w n) n (2 ^ y) k))), some (.ref fa0), some (.int (nI k)), some (.int (nI ((wth (alkS (kd j) (pt j) w n) n (2 ^ y) k) ||| orTo (fun z => if ((wth (alkS (kd j) (pt j) w n) n (2 ^ y) k)).testBit z then (alkS (kd j) (pt j) w n) z else 0) i))), some (.int (nI i)), none, none, none, none, none] [] (wcat [(ta0, .inl (gI g, 22, .inl (fun z9 => nI (tt z9)))), (fa0, .inl (gI g, 6, .inl (ffF (kd j) (pt j) w n y (k + 1))))] ws) := by
            intro k619
            induction k619 using Nat.strongRecOn with
            | _ k619 ih619 =>
              intro i hm619 hi
              refine v_iload13 h dL_law_619 ?_
              refine v_iload4 h dL_law_621 ?_
              refine v_icmp_geN h dL_law_623 (tgt := 693) (by decide) (by first | omega | exact Nat.lt_of_le_of_lt (bN_le _) (by decide)) (by first | omega | exact Nat.lt_of_le_of_lt (bN_le _) (by decide)) (fun c623 => ?_) (fun c623 => ?_)
              · have e9 : n = i := by omega
                subst e9
                refine v_iconst h (v := nI 0) dL_law_693 (by decide) ?_
                refine v_istore13 h (Nat.le_of_ble_eq_true rfl) dL_law_694 ?_
                have L696 : ∀ (k696 : Nat) (i : Nat), n - i = k696 → (i ≤ n) → vM x 696 [some (.ref b), some (.ref (ad 0)), some (.ref ta0), none, some (.int (nI n)), some (.int (nI turn)), some (.int (nI j)), none, some (.int (nI y)), some (.int (nI (wth (alkS (kd j) (pt j) w n) n (2 ^ y) k))), some (.ref fa0), some (.int (nI k)), some (.int (nI (wth (alkS (kd j) (pt j) w n) n (2 ^ y) (k + 1)))), some (.int (nI i)), none, none, none, none, none] [] (wcat [(ta0, .inl (gI g, 22, .inl (fun z9 => nI (tt z9)))), (fa0, .inl (gI g, 6, .inl (ffM (kd j) (pt j) w n y (k + 1) i)))] ws) := by
                  intro k696
                  induction k696 using Nat.strongRecOn with
                  | _ k696 ih696 =>
                    intro i hm696 hi
                    refine v_iload13 h dL_law_696 ?_
                    refine v_iload4 h dL_law_698 ?_
                    refine v_icmp_geN h dL_law_700 (tgt := 745) (by decide) (by first | omega | exact Nat.lt_of_le_of_lt (bN_le _) (by decide)) (by first | omega | exact Nat.lt_of_le_of_lt (bN_le _) (by decide)) (fun c700 => ?_) (fun c700 => ?_)
                    · have e9 : n = i := by omega
                      subst e9
                      rw [ffM_n]
                      refine v_iload12 h dL_law_745 ?_
                      refine v_istore9 h (Nat.le_of_ble_eq_true rfl) dL_law_747 ?_
                      refine v_iincN11 h (Nat.le_of_ble_eq_true rfl) dL_law_749 ?_
                      refine v_goto h dL_law_752 (tgt := 588) (by decide) ?_
                      exact vM.fg (ih588 _ (by omega) (k + 1) _ rfl (by first | assumption | rfl | omega) (by first | assumption | rfl | omega)) ⟨rfl, rfl, rfl, rfl, rfl, rfl, rfl, rfl, rfl, rfl, trivial⟩
                    · refine v_aload10 h dL_law_703 ?_
                      refine v_iload13 h dL_law_705 ?_
                      refine v_aload10 h dL_law_707 ?_
                      refine v_iload13 h dL_law_709 ?_
                      refine v_ialdF h 1 rfl (by omega) (Nat.le_of_ble_eq_true rfl) dL_law_711 ?_
                      rw [ffM_at (show i < n by omega)]
                      refine v_if_ge h dL_law_712 (tgt := 733) (by decide) (fun c712 => ?_) (fun c712 => ?_)
                      · refine v_aload10 h dL_law_733 ?_
                        refine v_iload13 h dL_law_735 ?_
                        refine v_ialdF h 1 rfl (by omega) (Nat.le_of_ble_eq_true rfl) dL_law_737 ?_
                        rw [ffM_at (show i < n by omega)]
                        refine v_iastF h 1 rfl (by omega) (Nat.le_of_ble_eq_true rfl) dL_law_738 (ws' := (wcat [(ta0, .inl (gI g, 22, .inl (fun z9 => nI (tt z9)))), (fa0, .inl (gI g, 6, .inl (ffM (kd j) (pt j) w n y (k + 1) (i + 1))))] ws)) (congrArg (fun f9 : Nat → Int32 => (wcat [(ta0, .inl (gI g, 22, .inl (fun z9 => nI (tt z9)))), (fa0, .inl (gI g, 6, .inl f9))] ws)) (ffM_up (by omega) (by first | exact ff_ge c712 | exact ff_no c723 | exact ff_hit (by omega) c712 c723))) ?_
                        refine v_iincN13 h (Nat.le_of_ble_eq_true rfl) dL_law_739 ?_
                        refine v_goto h dL_law_742 (tgt := 696) (by decide) ?_
                        exact vM.fg (ih696 _ (by omega) (i + 1) rfl (by first | assumption | rfl | omega)) ⟨rfl, rfl, rfl, rfl, rfl, rfl, rfl, rfl, rfl, rfl, rfl, rfl, trivial⟩
                      · refine v_iload12 h dL_law_715 ?_
                        refine v_iload13 h dL_law_717 ?_
                        refine v_ishrN h dL_law_719 (by exact wth31 hn.2.1 hy (k := k + 1)) (by omega) ?_
                        refine v_iconst h (v := nI 1) dL_law_720 (by decide) ?_
                        refine v_iandN h dL_law_721 ?_
                        refine v_iconst h (v := nI 1) dL_law_722 (by decide) ?_
                        refine v_icmp_neN h dL_law_723 (tgt := 733) (by decide) (by first | exact and1_lt _ | decide) (by first | exact and1_lt _ | decide) (fun c723 => ?_) (fun c723 => ?_)
                        · replace c723 := testBit_no c723
                          refine v_aload10 h dL_law_733 ?_
                          refine v_iload13 h dL_law_735 ?_
                          refine v_ialdF h 1 rfl (by omega) (Nat.le_of_ble_eq_true rfl) dL_law_737 ?_
                          rw [ffM_at (show i < n by omega)]
                          refine v_iastF h 1 rfl (by omega) (Nat.le_of_ble_eq_true rfl) dL_law_738 (ws' := (wcat [(ta0, .inl (gI g, 22, .inl (fun z9 => nI (tt z9)))), (fa0, .inl (gI g, 6, .inl (ffM (kd j) (pt j) w n y (k + 1) (i + 1))))] ws)) (congrArg (fun f9 : Nat → Int32 => (wcat [(ta0, .inl (gI g, 22, .inl (fun z9 => nI (tt z9)))), (fa0, .inl (gI g, 6, .inl f9))] ws)) (ffM_up (by omega) (by first | exact ff_ge c712 | exact ff_no c723 | exact ff_hit (by omega) c712 c723))) ?_
                          refine v_iincN13 h (Nat.le_of_ble_eq_true rfl) dL_law_739 ?_
                          refine v_goto h dL_law_742 (tgt := 696) (by decide) ?_
                          exact vM.fg (ih696 _ (by omega) (i + 1) rfl (by first | assumption | rfl | omega)) ⟨rfl, rfl, rfl, rfl, rfl, rfl, rfl, rfl, rfl, rfl, rfl, rfl, trivial⟩
                        · replace c723 := testBit_of c723
                          refine v_iload11 h dL_law_726 ?_
                          refine v_iconst h (v := nI 1) dL_law_728 (by decide) ?_
                          refine v_iaddN h dL_law_729 ?_
                          refine v_goto h dL_law_730 (tgt := 738) (by decide) ?_
                          refine v_iastF h 1 rfl (by omega) (Nat.le_of_ble_eq_true rfl) dL_law_738 (ws' := (wcat [(ta0, .inl (gI g, 22, .inl (fun z9 => nI (tt z9)))), (fa0, .inl (gI g, 6, .inl (ffM (kd j) (pt j) w n y (k + 1) (i + 1))))] ws)) (congrArg (fun f9 : Nat → Int32 => (wcat [(ta0, .inl (gI g, 22, .inl (fun z9 => nI (tt z9)))), (fa0, .inl (gI g, 6, .inl f9))] ws)) (ffM_up (by omega) (by first | exact ff_ge c712 | exact ff_no c723 | exact ff_hit (by omega) c712 c723))) ?_
                          refine v_iincN13 h (Nat.le_of_ble_eq_true rfl) dL_law_739 ?_
                          refine v_goto h dL_law_742 (tgt := 696) (by decide) ?_
                          exact vM.fg (ih696 _ (by omega) (i + 1) rfl (by first | assumption | rfl | omega)) ⟨rfl, rfl, rfl, rfl, rfl, rfl, rfl, rfl, rfl, rfl, rfl, rfl, trivial⟩
                exact vM.le rfl rfl (by rw [ffM_0]) (vM.fg (L696 _ 0 rfl (by first | assumption | rfl | omega)) ⟨rfl, rfl, rfl, rfl, rfl, rfl, rfl, rfl, rfl, rfl, rfl, rfl, trivial⟩)
              · refine v_iload9 h dL_law_626 ?_
                refine v_iload13 h dL_law_628 ?_
                refine v_ishrN h dL_law_630 (by exact wth31 hn.2.1 hy) (by omega) ?_
                refine v_iconst h (v := nI 1) dL_law_631 (by decide) ?_
                refine v_iandN h dL_law_632 ?_
                refine v_iconst h (v := nI 1) dL_law_633 (by decide) ?_
                refine v_icmp_neN h dL_law_634 (tgt := 687) (by decide) (by first | exact and1_lt _ | decide) (by first | exact and1_lt _ | decide) (fun c634 => ?_) (fun c634 => ?_)
                · replace c634 := testBit_no c634
                  refine v_iincN13 h (Nat.le_of_ble_eq_true rfl) dL_law_687 ?_
                  refine v_goto h dL_law_690 (tgt := 619) (by decide) ?_
                  exact vM.fg (ih619 _ (by omega) (i + 1) rfl (by first | assumption | rfl | omega)) ⟨rfl, rfl, rfl, rfl, rfl, rfl, rfl, rfl, rfl, rfl, (by first | (rw [orTo, if_pos c634, Nat.or_assoc]; rfl) | (rw [orTo, if_neg (by rw [c634]; decide), Nat.or_zero])), rfl, trivial⟩
                · replace c634 := testBit_of c634
                  refine v_iconst h (v := nI 0) dL_law_637 (by decide) ?_
                  refine v_istore14 h (Nat.le_of_ble_eq_true rfl) dL_law_638 ?_
                  have L640 : ∀ (k640 : Nat) (q : Nat), n - q = k640 → (q ≤ n) → vM x 640 [some (.ref b), some (.ref (ad 0)), some (.ref ta0), none, some (.int (nI n)), some (.int (nI turn)), some (.int (nI j)), none, some (.int (nI y)), some (.int (nI (wth (alkS (kd j) (pt j) w n) n (2 ^ y) k))), some (.ref fa0), some (.int (nI k)), some (.int (nI ((wth (alkS (kd j) (pt j) w n) n (2 ^ y) k) ||| orTo (fun z => if ((wth (alkS (kd j) (pt j) w n) n (2 ^ y) k)).testBit z then (alkS (kd j) (pt j) w n) z else 0) i ||| orTo (alkF (kd j) (pt j) w i) q))), some (.int (nI i)), some (.int (nI q)), none, none, none, none] [] (wcat [(ta0, .inl (gI g, 22, .inl (fun z9 => nI (tt z9)))), (fa0, .inl (gI g, 6, .inl (ffF (kd j) (pt j) w n y (k + 1))))] ws) := by
                    intro k640
                    induction k640 using Nat.strongRecOn with
                    | _ k640 ih640 =>
                      intro q hm640 hq
                      refine v_iload14 h dL_law_640 ?_
                      refine v_iload4 h dL_law_642 ?_
                      refine v_icmp_geN h dL_law_644 (tgt := 687) (by decide) (by first | omega | exact Nat.lt_of_le_of_lt (bN_le _) (by decide)) (by first | omega | exact Nat.lt_of_le_of_lt (bN_le _) (by decide)) (fun c644 => ?_) (fun c644 => ?_)
                      · have e9 : n = q := by omega
                        subst e9
                        refine v_iincN13 h (Nat.le_of_ble_eq_true rfl) dL_law_687 ?_
                        refine v_goto h dL_law_690 (tgt := 619) (by decide) ?_
                        exact vM.fg (ih619 _ (by omega) (i + 1) rfl (by first | assumption | rfl | omega)) ⟨rfl, rfl, rfl, rfl, rfl, rfl, rfl, rfl, rfl, rfl, (by first | (rw [orTo, if_pos c634, Nat.or_assoc]; rfl) | (rw [orTo, if_neg (by rw [c634]; decide), Nat.or_zero])), rfl, trivial⟩
                      · refine v_iload12 h dL_law_647 ?_
                        refine v_aload_n2 h dL_law_649 ?_
                        refine v_iload6 h dL_law_650 ?_
                        refine v_aload_n2 h dL_law_652 ?_
                        refine v_iconst h (v := nI 1) dL_law_653 (by decide) ?_
                        refine v_iload13 h dL_law_654 ?_
                        refine v_iaddN h dL_law_656 ?_
                        refine v_tw h hG (by omega) dL_law_657 ?_
                        refine v_aload_n2 h dL_law_658 ?_
                        refine v_iconst h (v := nI 1) dL_law_659 (by decide) ?_
                        refine v_iload14 h dL_law_660 ?_
                        refine v_iaddN h dL_law_662 ?_
                        refine v_tw h hG (by omega) dL_law_663 ?_
                        refine v_lalike h hG (by first | assumption | omega) (by first | assumption | omega) (by first | assumption | omega) ⟨rfl, rfl, (Nat.le_of_ble_eq_true rfl), (Nat.le_of_ble_eq_true rfl)⟩ (Nat.le_of_ble_eq_true rfl) dL_law_664 ?_
                        refine v_if_eqB h dL_law_667 (tgt := 677) (by decide) (fun c667 => ?_) (fun c667 => ?_)
                        · refine v_iconst h (v := nI 0) dL_law_677 (by decide) ?_
                          refine v_iorN h dL_law_678 ?_
                          refine v_istore12 h (Nat.le_of_ble_eq_true rfl) dL_law_679 ?_
                          refine v_iincN14 h (Nat.le_of_ble_eq_true rfl) dL_law_681 ?_
                          refine v_goto h dL_law_684 (tgt := 640) (by decide) ?_
                          exact vM.fg (ih640 _ (by omega) (q + 1) rfl (by first | assumption | rfl | omega)) ⟨rfl, rfl, rfl, rfl, rfl, rfl, rfl, rfl, rfl, rfl, (by first | rw [orTo, alkF_t c667, Nat.or_assoc] | rw [orTo, alkF_f c667, Nat.or_assoc]), rfl, rfl, trivial⟩
                        · refine v_iconst h (v := nI 1) dL_law_670 (by decide) ?_
                          refine v_iload14 h dL_law_671 ?_
                          refine v_ishlN h dL_law_673 (by omega) ?_
                          refine v_goto h dL_law_674 (tgt := 678) (by decide) ?_
                          refine v_iorN h dL_law_678 ?_
                          refine v_istore12 h (Nat.le_of_ble_eq_true rfl) dL_law_679 ?_
                          refine v_iincN14 h (Nat.le_of_ble_eq_true rfl) dL_law_681 ?_
                          refine v_goto h dL_law_684 (tgt := 640) (by decide) ?_
                          exact vM.fg (ih640 _ (by omega) (q + 1) rfl (by first | assumption | rfl | omega)) ⟨rfl, rfl, rfl, rfl, rfl, rfl, rfl, rfl, rfl, rfl, (by first | rw [orTo, alkF_t c667, Nat.or_assoc] | rw [orTo, alkF_f c667, Nat.or_assoc]), rfl, rfl, trivial⟩
                  exact vM.fg (L640 _ 0 rfl (by first | assumption | rfl | omega)) ⟨rfl, rfl, rfl, rfl, rfl, rfl, rfl, rfl, rfl, rfl, (by rw [orTo, Nat.or_zero]), rfl, rfl, trivial⟩
          exact vM.fg (L619 _ 0 rfl (by first | assumption | rfl | omega)) ⟨rfl, rfl, rfl, rfl, rfl, rfl, rfl, rfl, rfl, rfl, (by rw [orTo, Nat.or_zero]), rfl, trivial⟩
        · exact absurd rfl c607
  exact vM.fg (L588 _ 0 _ rfl (by first | assumption | rfl | omega) (by first | assumption | rfl | omega)) ⟨rfl, rfl, rfl, rfl, rfl, rfl, rfl, rfl, rfl, rfl, trivial⟩
set_option maxRecDepth 20000 in
set_option maxHeartbeats 4000000 in
theorem law_a2 {x : vX} {g : vG} {b L : Nat} {xs : Nat → Int32} {ad rr : Nat → Nat} {ta0 n hm : Nat} {tt w kd pt : Nat → Nat} {turn j y fa0 : Nat} (h : Ok x g code RL room_1 19) (hX : LwX x b L xs) (hG : AGT tt n hm w kd pt) (hj : j < hm) (hy : y < n) (K : ∀ ws : va_W, PInv g ad rr n w hm kd pt ws → vM x 947 [some (.ref b), some (.ref (ad 0)), some (.ref ta0), none, some (.int (nI n)), some (.int (nI turn)), some (.int (nI j)), none, some (.int (nI y)), none, none, none, none, none, none, none, none, none, none] [] (wcat [(ta0, .inl (gI g, 22, .inl (fun z9 => nI (tt z9)))), (fa0, .inl (gI g, 6, .inl (ffF (kd j) (pt j) w n y 8)))] ws)) : ∀ ws : va_W, PInv g ad rr n w hm kd pt ws → vM x 755 [some (.ref b), some (.ref (ad 0)), some (.ref ta0), none, some (.int (nI n)), some (.int (nI turn)), some (.int (nI j)), none, some (.int (nI y)), none, some (.ref fa0), none, none, none, none, none, none, none, none] [] (wcat [(ta0, .inl (gI g, 22, .inl (fun z9 => nI (tt z9)))), (fa0, .inl (gI g, 6, .inl (ffF (kd j) (pt j) w n y 8)))] ws) := by
  intro ws hI
  have hn := hG.n2
  refine v_iconst h (v := nI 0) dL_law_755 (by decide) ?_
  refine v_istore11 h (Nat.le_of_ble_eq_true rfl) dL_law_756 ?_
  have L758 : ∀ (k758 : Nat) (i : Nat) (ws : va_W), n - i = k758 → (i ≤ n) → (PInv g ad rr n w hm kd pt ws) → vM x 758 [some (.ref b), some (.ref (ad 0)), some (.ref ta0), none, some (.int (nI n)), some (.int (nI turn)), some (.int (nI j)), none, some (.int (nI y)), none, some (.ref fa0), some (.int (nI i)), none, none, none, none, none, none, none] [] (wcat [(ta0, .inl (gI g, 22, .inl (fun z9 => nI (tt z9)))), (fa0, .inl (gI g, 6, .inl (ffF (kd j) (pt j) w n y 8)))] ws) := by
    intro k758
    induction k758 using Nat.strongRecOn with
    | _ k758 ih758 =>
      intro i ws hm758 hi hI
      refine v_iload11 h dL_law_758 ?_
      refine v_iload4 h dL_law_760 ?_
      refine v_icmp_geN h dL_law_762 (tgt := 947) (by decide) (by first | omega | exact Nat.lt_of_le_of_lt (bN_le _) (by decide)) (by first | omega | exact Nat.lt_of_le_of_lt (bN_le _) (by decide)) (fun c762 => ?_) (fun c762 => ?_)
      · have e9 : n = i := by omega
        subst e9
        exact vM.fg (K _ hI) ⟨rfl, rfl, rfl, rfl, rfl, rfl, rfl, trivial⟩
      · have hiN : i < n := by omega
        rcases hf : fwy (kd j) (pt j) w n y i 8 with _ | m
        · have hv : (ffF (kd j) (pt j) w n y 8) i = -9 := by rw [ffF_in hiN, hf]; rfl
          refine v_aload_n1 h dL_law_765 ?_
          refine v_iload6 h dL_law_766 ?_
          refine v_iload8 h dL_law_768 ?_
          refine v_iload11 h dL_law_770 ?_
          refine v_iconst h (v := -1) dL_law_772 (by decide) ?_
          refine kk_way h hG hI (by first | assumption | omega) (by first | assumption | omega) (by first | assumption | omega) ⟨rfl, rfl, (Nat.le_of_ble_eq_true rfl), (Nat.le_of_ble_eq_true rfl)⟩ (Nat.le_of_ble_eq_true rfl) dL_law_773 (fun ws hI => ?_)
          rw [hf]
          refine v_aload10 h dL_law_776 ?_
          refine v_iload11 h dL_law_778 ?_
          refine v_ialdF h 1 rfl (by omega) (Nat.le_of_ble_eq_true rfl) dL_law_780 ?_
          rw [hv]
          refine v_icmp_ne h dL_law_781 (tgt := 818) (by decide) (fun c781 => ?_) (fun c781 => ?_)
          · exact absurd rfl c781
          · refine v_aload_n1 h dL_law_784 ?_
            refine v_iload6 h dL_law_785 ?_
            refine v_iload8 h dL_law_787 ?_
            refine v_iload11 h dL_law_789 ?_
            refine v_aload10 h dL_law_791 ?_
            refine v_iload11 h dL_law_793 ?_
            refine v_ialdF h 1 rfl (by omega) (Nat.le_of_ble_eq_true rfl) dL_law_795 ?_
            rw [hv]
            refine v_if_ge h dL_law_796 (tgt := 803) (by decide) (fun c796 => ?_) (fun c796 => ?_)
            · exact absurd c796 (by decide)
            · refine v_iconst h (v := nI 0) dL_law_799 (by decide) ?_
              refine v_goto h dL_law_800 (tgt := 810) (by decide) ?_
              refine kk_wayq h hG hI (by assumption) (by assumption) (by assumption) (by decide) ⟨rfl, rfl, (Nat.le_of_ble_eq_true rfl), (Nat.le_of_ble_eq_true rfl)⟩ (Nat.le_of_ble_eq_true rfl) dL_law_810 (fun ws hI => ?_)
              rw [way_past (kk := kd j) (p := pt j) (w := w) (q := 0) (by omega) hy hiN (fun _ h9 => by rw [hf] at h9; cases h9)]
              refine v_bipush h (v := -9) dL_law_813 (by decide) ?_
              refine v_icmp_eq h dL_law_815 (tgt := 820) (by decide) (fun c815 => ?_) (fun c815 => ?_)
              · refine v_aload10 h dL_law_820 ?_
                refine v_iload11 h dL_law_822 ?_
                refine v_ialdF h 1 rfl (by omega) (Nat.le_of_ble_eq_true rfl) dL_law_824 ?_
                rw [hv]
                refine v_if_ge h dL_law_825 (tgt := 831) (by decide) (fun c825 => ?_) (fun c825 => ?_)
                · exact absurd c825 (by decide)
                · refine v_goto h dL_law_828 (tgt := 941) (by decide) ?_
                  refine v_iincN11 h (Nat.le_of_ble_eq_true rfl) dL_law_941 ?_
                  refine v_goto h dL_law_944 (tgt := 758) (by decide) ?_
                  exact vM.fg (ih758 _ (by omega) (i + 1) _ rfl (by first | assumption | rfl | omega) (by first | assumption | rfl | omega)) ⟨rfl, rfl, rfl, rfl, rfl, rfl, rfl, rfl, rfl, trivial⟩
              · exact absurd rfl c815
        · have hv : (ffF (kd j) (pt j) w n y 8) i = nI m := by rw [ffF_in hiN, hf]; rfl
          obtain ⟨hm1, hm2⟩ := fwy_way (by omega) hy hiN hf
          refine v_aload_n1 h dL_law_765 ?_
          refine v_iload6 h dL_law_766 ?_
          refine v_iload8 h dL_law_768 ?_
          refine v_iload11 h dL_law_770 ?_
          refine v_iconst h (v := -1) dL_law_772 (by decide) ?_
          refine kk_way h hG hI (by first | assumption | omega) (by first | assumption | omega) (by first | assumption | omega) ⟨rfl, rfl, (Nat.le_of_ble_eq_true rfl), (Nat.le_of_ble_eq_true rfl)⟩ (Nat.le_of_ble_eq_true rfl) dL_law_773 (fun ws hI => ?_)
          rw [hf]
          refine v_aload10 h dL_law_776 ?_
          refine v_iload11 h dL_law_778 ?_
          refine v_ialdF h 1 rfl (by omega) (Nat.le_of_ble_eq_true rfl) dL_law_780 ?_
          rw [hv]
          refine v_icmp_ne h dL_law_781 (tgt := 818) (by decide) (fun c781 => ?_) (fun c781 => ?_)
          · exact absurd rfl c781
          · refine v_aload_n1 h dL_law_784 ?_
            refine v_iload6 h dL_law_785 ?_
            refine v_iload8 h dL_law_787 ?_
            refine v_iload11 h dL_law_789 ?_
            refine v_aload10 h dL_law_791 ?_
            refine v_iload11 h dL_law_793 ?_
            refine v_ialdF h 1 rfl (by omega) (Nat.le_of_ble_eq_true rfl) dL_law_795 ?_
            rw [hv]
            refine v_if_geN h dL_law_796 (by first | omega | exact Nat.lt_of_le_of_lt (bN_le _) (by decide)) (tgt := 803) (by decide) ?_
            refine v_aload10 h dL_law_803 ?_
            refine v_iload11 h dL_law_805 ?_
            refine v_ialdF h 1 rfl (by omega) (Nat.le_of_ble_eq_true rfl) dL_law_807 ?_
            rw [hv]
            refine v_iconst h (v := nI 1) dL_law_808 (by decide) ?_
            refine v_iaddN h dL_law_809 ?_
            refine kk_wayq h hG hI (by assumption) (by assumption) (by assumption) (by omega) ⟨rfl, rfl, (Nat.le_of_ble_eq_true rfl), (Nat.le_of_ble_eq_true rfl)⟩ (Nat.le_of_ble_eq_true rfl) dL_law_810 (fun ws hI => ?_)
            rw [way_past (kk := kd j) (p := pt j) (w := w) (q := m + 1) (by omega) hy hiN (fun j9 h9 => by rw [hf] at h9; cases h9; omega)]
            refine v_bipush h (v := -9) dL_law_813 (by decide) ?_
            refine v_icmp_eq h dL_law_815 (tgt := 820) (by decide) (fun c815 => ?_) (fun c815 => ?_)
            · refine v_aload10 h dL_law_820 ?_
              refine v_iload11 h dL_law_822 ?_
              refine v_ialdF h 1 rfl (by omega) (Nat.le_of_ble_eq_true rfl) dL_law_824 ?_
              rw [hv]
              refine v_if_geN h dL_law_825 (by first | omega | exact Nat.lt_of_le_of_lt (bN_le _) (by decide)) (tgt := 831) (by decide) ?_
              refine v_iload8 h dL_law_831 ?_
              refine v_istore12 h (Nat.le_of_ble_eq_true rfl) dL_law_833 ?_
              refine v_iconst h (v := nI 0) dL_law_835 (by decide) ?_
              refine v_istore13 h (Nat.le_of_ble_eq_true rfl) dL_law_836 ?_
              have L838 : ∀ (k838 : Nat) (q : Nat) (ws : va_W), m + 1 - q = k838 → (q ≤ m + 1) → (PInv g ad rr n w hm kd pt ws) → vM x 838 [some (.ref b), some (.ref (ad 0)), some (.ref ta0), none, some (.int (nI n)), some (.int (nI turn)), some (.int (nI j)), none, some (.int (nI y)), none, some (.ref fa0), some (.int (nI i)), some (.int (nI (bhd (alkS (kd j) (pt j) w n) n i m y (q - 1)))), some (.int (nI q)), none, none, none, none, none] [] (wcat [(ta0, .inl (gI g, 22, .inl (fun z9 => nI (tt z9)))), (fa0, .inl (gI g, 6, .inl (ffF (kd j) (pt j) w n y 8)))] ws) := by
                intro k838
                induction k838 using Nat.strongRecOn with
                | _ k838 ih838 =>
                  intro q ws hm838 hq hI
                  refine v_iload13 h dL_law_838 ?_
                  refine v_aload10 h dL_law_840 ?_
                  refine v_iload11 h dL_law_842 ?_
                  refine v_ialdF h 1 rfl (by omega) (Nat.le_of_ble_eq_true rfl) dL_law_844 ?_
                  rw [hv]
                  refine v_icmp_gtN h dL_law_845 (tgt := 941) (by decide) (by first | omega | exact Nat.lt_of_le_of_lt (bN_le _) (by decide)) (by first | omega | exact Nat.lt_of_le_of_lt (bN_le _) (by decide)) (fun c845 => ?_) (fun c845 => ?_)
                  · refine v_iincN11 h (Nat.le_of_ble_eq_true rfl) dL_law_941 ?_
                    refine v_goto h dL_law_944 (tgt := 758) (by decide) ?_
                    exact vM.fg (ih758 _ (by omega) (i + 1) _ rfl (by first | assumption | rfl | omega) (by first | assumption | rfl | omega)) ⟨rfl, rfl, rfl, rfl, rfl, rfl, rfl, rfl, rfl, trivial⟩
                  · have hqm : q ≤ m := by omega
                    have hbp := (bhd_path hy hm1 hm2 (q - 1) (by omega)).1
                    refine v_aload_n1 h dL_law_848 ?_
                    refine v_iload6 h dL_law_849 ?_
                    refine v_iload8 h dL_law_851 ?_
                    refine v_iload11 h dL_law_853 ?_
                    refine v_iload13 h dL_law_855 ?_
                    refine kk_wayq h hG hI (by assumption) (by assumption) (by assumption) (by omega) ⟨rfl, rfl, (Nat.le_of_ble_eq_true rfl), (Nat.le_of_ble_eq_true rfl)⟩ (Nat.le_of_ble_eq_true rfl) dL_law_857 (fun ws hI => ?_)
                    rw [way_at (q := q) (by omega) hy hiN hf hqm]
                    have hbq := (bhd_path hy hm1 hm2 q hqm).1
                    refine v_istore14 h (Nat.le_of_ble_eq_true rfl) dL_law_860 ?_
                    refine v_iload14 h dL_law_862 ?_
                    refine v_if_ltN h dL_law_864 (by first | omega | exact Nat.lt_of_le_of_lt (bN_le _) (by decide)) (tgt := 929) (by decide) ?_
                    refine v_iload14 h dL_law_867 ?_
                    refine v_iload4 h dL_law_869 ?_
                    refine v_icmp_geN h dL_law_871 (tgt := 929) (by decide) (by first | omega | exact Nat.lt_of_le_of_lt (bN_le _) (by decide)) (by first | omega | exact Nat.lt_of_le_of_lt (bN_le _) (by decide)) (fun c871 => ?_) (fun c871 => ?_)
                    · omega
                    · refine v_iload13 h dL_law_874 ?_
                      refine v_if_neN h dL_law_876 (tgt := 886) (by decide) (by first | omega | exact Nat.lt_of_le_of_lt (bN_le _) (by decide)) (fun c876 => ?_) (fun c876 => ?_)
                      · refine v_iload13 h dL_law_886 ?_
                        refine v_aload10 h dL_law_888 ?_
                        refine v_iload11 h dL_law_890 ?_
                        refine v_ialdF h 1 rfl (by omega) (Nat.le_of_ble_eq_true rfl) dL_law_892 ?_
                        rw [hv]
                        refine v_icmp_neN h dL_law_893 (tgt := 903) (by decide) (by first | omega | exact Nat.lt_of_le_of_lt (bN_le _) (by decide)) (by first | omega | exact Nat.lt_of_le_of_lt (bN_le _) (by decide)) (fun c893 => ?_) (fun c893 => ?_)
                        · refine v_iload13 h dL_law_903 ?_
                          refine v_if_leN h dL_law_905 (tgt := 931) (by decide) (by first | omega | exact Nat.lt_of_le_of_lt (bN_le _) (by decide)) (fun c905 => ?_) (fun c905 => ?_)
                          · refine v_iload14 h dL_law_931 ?_
                            refine v_istore12 h (Nat.le_of_ble_eq_true rfl) dL_law_933 ?_
                            refine v_iincN13 h (Nat.le_of_ble_eq_true rfl) dL_law_935 ?_
                            refine v_goto h dL_law_938 (tgt := 838) (by decide) ?_
                            exact vM.fg (ih838 _ (by omega) (q + 1) _ rfl (by first | assumption | rfl | omega) (by first | assumption | rfl | omega)) ⟨rfl, rfl, rfl, rfl, rfl, rfl, rfl, rfl, rfl, rfl, rfl, trivial⟩
                          · refine v_aload_n2 h dL_law_908 ?_
                            refine v_iload6 h dL_law_909 ?_
                            refine v_aload_n2 h dL_law_911 ?_
                            refine v_iconst h (v := nI 1) dL_law_912 (by decide) ?_
                            refine v_iload12 h dL_law_913 ?_
                            refine v_iaddN h dL_law_915 ?_
                            refine v_tw h hG (by omega) dL_law_916 ?_
                            refine v_aload_n2 h dL_law_917 ?_
                            refine v_iconst h (v := nI 1) dL_law_918 (by decide) ?_
                            refine v_iload14 h dL_law_919 ?_
                            refine v_iaddN h dL_law_921 ?_
                            refine v_tw h hG (by omega) dL_law_922 ?_
                            refine v_lalike h hG (by first | assumption | omega) (by first | assumption | omega) (by first | assumption | omega) ⟨rfl, rfl, (Nat.le_of_ble_eq_true rfl), (Nat.le_of_ble_eq_true rfl)⟩ (Nat.le_of_ble_eq_true rfl) dL_law_923 ?_
                            refine v_if_neB h dL_law_926 (tgt := 931) (by decide) (fun c926 => ?_) (fun c926 => ?_)
                            · refine v_iload14 h dL_law_931 ?_
                              refine v_istore12 h (Nat.le_of_ble_eq_true rfl) dL_law_933 ?_
                              refine v_iincN13 h (Nat.le_of_ble_eq_true rfl) dL_law_935 ?_
                              refine v_goto h dL_law_938 (tgt := 838) (by decide) ?_
                              exact vM.fg (ih838 _ (by omega) (q + 1) _ rfl (by first | assumption | rfl | omega) (by first | assumption | rfl | omega)) ⟨rfl, rfl, rfl, rfl, rfl, rfl, rfl, rfl, rfl, rfl, rfl, trivial⟩
                            · have e9 := bhd_next hy hm1 hm2 (q := q - 1) (by omega)
                              rw [show q - 1 + 1 = q by omega, c926] at e9
                              cases e9
                        · refine v_iload14 h dL_law_896 ?_
                          refine v_iload11 h dL_law_898 ?_
                          refine v_icmp_neN h dL_law_900 (tgt := 929) (by decide) (by first | omega | exact Nat.lt_of_le_of_lt (bN_le _) (by decide)) (by first | omega | exact Nat.lt_of_le_of_lt (bN_le _) (by decide)) (fun c900 => ?_) (fun c900 => ?_)
                          · exact absurd (by rw [c893]; exact bhd_end hy hm1 hm2) c900
                          · refine v_iload13 h dL_law_903 ?_
                            refine v_if_leN h dL_law_905 (tgt := 931) (by decide) (by first | omega | exact Nat.lt_of_le_of_lt (bN_le _) (by decide)) (fun c905 => ?_) (fun c905 => ?_)
                            · refine v_iload14 h dL_law_931 ?_
                              refine v_istore12 h (Nat.le_of_ble_eq_true rfl) dL_law_933 ?_
                              refine v_iincN13 h (Nat.le_of_ble_eq_true rfl) dL_law_935 ?_
                              refine v_goto h dL_law_938 (tgt := 838) (by decide) ?_
                              exact vM.fg (ih838 _ (by omega) (q + 1) _ rfl (by first | assumption | rfl | omega) (by first | assumption | rfl | omega)) ⟨rfl, rfl, rfl, rfl, rfl, rfl, rfl, rfl, rfl, rfl, rfl, trivial⟩
                            · refine v_aload_n2 h dL_law_908 ?_
                              refine v_iload6 h dL_law_909 ?_
                              refine v_aload_n2 h dL_law_911 ?_
                              refine v_iconst h (v := nI 1) dL_law_912 (by decide) ?_
                              refine v_iload12 h dL_law_913 ?_
                              refine v_iaddN h dL_law_915 ?_
                              refine v_tw h hG (by omega) dL_law_916 ?_
                              refine v_aload_n2 h dL_law_917 ?_
                              refine v_iconst h (v := nI 1) dL_law_918 (by decide) ?_
                              refine v_iload14 h dL_law_919 ?_
                              refine v_iaddN h dL_law_921 ?_
                              refine v_tw h hG (by omega) dL_law_922 ?_
                              refine v_lalike h hG (by first | assumption | omega) (by first | assumption | omega) (by first | assumption | omega) ⟨rfl, rfl, (Nat.le_of_ble_eq_true rfl), (Nat.le_of_ble_eq_true rfl)⟩ (Nat.le_of_ble_eq_true rfl) dL_law_923 ?_
                              refine v_if_neB h dL_law_926 (tgt := 931) (by decide) (fun c926 => ?_) (fun c926 => ?_)
                              · refine v_iload14 h dL_law_931 ?_
                                refine v_istore12 h (Nat.le_of_ble_eq_true rfl) dL_law_933 ?_
                                refine v_iincN13 h (Nat.le_of_ble_eq_true rfl) dL_law_935 ?_
                                refine v_goto h dL_law_938 (tgt := 838) (by decide) ?_
                                exact vM.fg (ih838 _ (by omega) (q + 1) _ rfl (by first | assumption | rfl | omega) (by first | assumption | rfl | omega)) ⟨rfl, rfl, rfl, rfl, rfl, rfl, rfl, rfl, rfl, rfl, rfl, trivial⟩
                              · have e9 := bhd_next hy hm1 hm2 (q := q - 1) (by omega)
                                rw [show q - 1 + 1 = q by omega, c926] at e9
                                cases e9
                      · refine v_iload14 h dL_law_879 ?_
                        refine v_iload8 h dL_law_881 ?_
                        refine v_icmp_neN h dL_law_883 (tgt := 929) (by decide) (by first | omega | exact Nat.lt_of_le_of_lt (bN_le _) (by decide)) (by first | omega | exact Nat.lt_of_le_of_lt (bN_le _) (by decide)) (fun c883 => ?_) (fun c883 => ?_)
                        · exact absurd (by rw [c876]; first | done | rfl) c883
                        · refine v_iload13 h dL_law_886 ?_
                          refine v_aload10 h dL_law_888 ?_
                          refine v_iload11 h dL_law_890 ?_
                          refine v_ialdF h 1 rfl (by omega) (Nat.le_of_ble_eq_true rfl) dL_law_892 ?_
                          rw [hv]
                          refine v_icmp_neN h dL_law_893 (tgt := 903) (by decide) (by first | omega | exact Nat.lt_of_le_of_lt (bN_le _) (by decide)) (by first | omega | exact Nat.lt_of_le_of_lt (bN_le _) (by decide)) (fun c893 => ?_) (fun c893 => ?_)
                          · refine v_iload13 h dL_law_903 ?_
                            refine v_if_leN h dL_law_905 (tgt := 931) (by decide) (by first | omega | exact Nat.lt_of_le_of_lt (bN_le _) (by decide)) (fun c905 => ?_) (fun c905 => ?_)
                            · refine v_iload14 h dL_law_931 ?_
                              refine v_istore12 h (Nat.le_of_ble_eq_true rfl) dL_law_933 ?_
                              refine v_iincN13 h (Nat.le_of_ble_eq_true rfl) dL_law_935 ?_
                              refine v_goto h dL_law_938 (tgt := 838) (by decide) ?_
                              exact vM.fg (ih838 _ (by omega) (q + 1) _ rfl (by first | assumption | rfl | omega) (by first | assumption | rfl | omega)) ⟨rfl, rfl, rfl, rfl, rfl, rfl, rfl, rfl, rfl, rfl, rfl, trivial⟩
                            · refine v_aload_n2 h dL_law_908 ?_
                              refine v_iload6 h dL_law_909 ?_
                              refine v_aload_n2 h dL_law_911 ?_
                              refine v_iconst h (v := nI 1) dL_law_912 (by decide) ?_
                              refine v_iload12 h dL_law_913 ?_
                              refine v_iaddN h dL_law_915 ?_
                              refine v_tw h hG (by omega) dL_law_916 ?_
                              refine v_aload_n2 h dL_law_917 ?_
                              refine v_iconst h (v := nI 1) dL_law_918 (by decide) ?_
                              refine v_iload14 h dL_law_919 ?_
                              refine v_iaddN h dL_law_921 ?_
                              refine v_tw h hG (by omega) dL_law_922 ?_
                              refine v_lalike h hG (by first | assumption | omega) (by first | assumption | omega) (by first | assumption | omega) ⟨rfl, rfl, (Nat.le_of_ble_eq_true rfl), (Nat.le_of_ble_eq_true rfl)⟩ (Nat.le_of_ble_eq_true rfl) dL_law_923 ?_
                              refine v_if_neB h dL_law_926 (tgt := 931) (by decide) (fun c926 => ?_) (fun c926 => ?_)
                              · refine v_iload14 h dL_law_931 ?_
                                refine v_istore12 h (Nat.le_of_ble_eq_true rfl) dL_law_933 ?_
                                refine v_iincN13 h (Nat.le_of_ble_eq_true rfl) dL_law_935 ?_
                                refine v_goto h dL_law_938 (tgt := 838) (by decide) ?_
                                exact vM.fg (ih838 _ (by omega) (q + 1) _ rfl (by first | assumption | rfl | omega) (by first | assumption | rfl | omega)) ⟨rfl, rfl, rfl, rfl, rfl, rfl, rfl, rfl, rfl, rfl, rfl, trivial⟩
                              · have e9 := bhd_next hy hm1 hm2 (q := q - 1) (by omega)
                                rw [show q - 1 + 1 = q by omega, c926] at e9
                                cases e9
                          · refine v_iload14 h dL_law_896 ?_
                            refine v_iload11 h dL_law_898 ?_
                            refine v_icmp_neN h dL_law_900 (tgt := 929) (by decide) (by first | omega | exact Nat.lt_of_le_of_lt (bN_le _) (by decide)) (by first | omega | exact Nat.lt_of_le_of_lt (bN_le _) (by decide)) (fun c900 => ?_) (fun c900 => ?_)
                            · exact absurd (by rw [c893]; exact bhd_end hy hm1 hm2) c900
                            · refine v_iload13 h dL_law_903 ?_
                              refine v_if_leN h dL_law_905 (tgt := 931) (by decide) (by first | omega | exact Nat.lt_of_le_of_lt (bN_le _) (by decide)) (fun c905 => ?_) (fun c905 => ?_)
                              · refine v_iload14 h dL_law_931 ?_
                                refine v_istore12 h (Nat.le_of_ble_eq_true rfl) dL_law_933 ?_
                                refine v_iincN13 h (Nat.le_of_ble_eq_true rfl) dL_law_935 ?_
                                refine v_goto h dL_law_938 (tgt := 838) (by decide) ?_
                                exact vM.fg (ih838 _ (by omega) (q + 1) _ rfl (by first | assumption | rfl | omega) (by first | assumption | rfl | omega)) ⟨rfl, rfl, rfl, rfl, rfl, rfl, rfl, rfl, rfl, rfl, rfl, trivial⟩
                              · refine v_aload_n2 h dL_law_908 ?_
                                refine v_iload6 h dL_law_909 ?_
                                refine v_aload_n2 h dL_law_911 ?_
                                refine v_iconst h (v := nI 1) dL_law_912 (by decide) ?_
                                refine v_iload12 h dL_law_913 ?_
                                refine v_iaddN h dL_law_915 ?_
                                refine v_tw h hG (by omega) dL_law_916 ?_
                                refine v_aload_n2 h dL_law_917 ?_
                                refine v_iconst h (v := nI 1) dL_law_918 (by decide) ?_
                                refine v_iload14 h dL_law_919 ?_
                                refine v_iaddN h dL_law_921 ?_
                                refine v_tw h hG (by omega) dL_law_922 ?_
                                refine v_lalike h hG (by first | assumption | omega) (by first | assumption | omega) (by first | assumption | omega) ⟨rfl, rfl, (Nat.le_of_ble_eq_true rfl), (Nat.le_of_ble_eq_true rfl)⟩ (Nat.le_of_ble_eq_true rfl) dL_law_923 ?_
                                refine v_if_neB h dL_law_926 (tgt := 931) (by decide) (fun c926 => ?_) (fun c926 => ?_)
                                · refine v_iload14 h dL_law_931 ?_
                                  refine v_istore12 h (Nat.le_of_ble_eq_true rfl) dL_law_933 ?_
                                  refine v_iincN13 h (Nat.le_of_ble_eq_true rfl) dL_law_935 ?_
                                  refine v_goto h dL_law_938 (tgt := 838) (by decide) ?_
                                  exact vM.fg (ih838 _ (by omega) (q + 1) _ rfl (by first | assumption | rfl | omega) (by first | assumption | rfl | omega)) ⟨rfl, rfl, rfl, rfl, rfl, rfl, rfl, rfl, rfl, rfl, rfl, trivial⟩
                                · have e9 := bhd_next hy hm1 hm2 (q := q - 1) (by omega)
                                  rw [show q - 1 + 1 = q by omega, c926] at e9
                                  cases e9
              exact vM.fg (L838 _ 0 _ rfl (by first | assumption | rfl | omega) (by first | assumption | rfl | omega)) ⟨rfl, rfl, rfl, rfl, rfl, rfl, rfl, rfl, rfl, rfl, rfl, trivial⟩
            · exact absurd rfl c815
  exact vM.fg (L758 _ 0 _ rfl (by first | assumption | rfl | omega) (by first | assumption | rfl | omega)) ⟨rfl, rfl, rfl, rfl, rfl, rfl, rfl, rfl, rfl, trivial⟩
