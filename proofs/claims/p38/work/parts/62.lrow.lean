theorem wfT_up {n : Nat} {w : Nat → Nat} {x v : Nat} (h : wfT n w) (h1 : 1 ≤ v) (h2 : v ≤ 999) : wfT n (up w x v) := ⟨h.1, fun j => by unfold up; split; exact h2; exact h.2.1 j, fun j hj => by unfold up; split; exact h1; exact h.2.2 j hj⟩
theorem odd_pos {n : Nat} (h : 2 ≤ n) : 1 ≤ n * (n - 1) / 2 := by
  have h1 : 2 * 1 ≤ n * (n - 1) := Nat.mul_le_mul h (by omega)
  omega
theorem odd_lt {n : Nat} (h : n ≤ 6) : n * (n - 1) / 2 < 2 ^ 31 := by
  have h1 : n * (n - 1) ≤ 6 * 6 := Nat.mul_le_mul h (by omega)
  omega
theorem lk_L_52 : LkS RL 52 yL_alike cL_alike 4 (some .boolean) 4 := ⟨ml_L_52, ms_L_alike, mi_L, mc_L_alike, ⟨by decide, by decide, by decide +kernel⟩⟩
theorem lk_L_9 : LkS RL 9 yL_cell cL_cell 2 (some .int) 2 := ⟨ml_L_9, ms_L_cell, mi_L, mc_L_cell, ⟨by decide, by decide, by decide +kernel⟩⟩
theorem lk_L_15 : LkS RL 15 yL_some cL_some 2 (some .int) 2 := ⟨ml_L_15, ms_L_some, mi_L, mc_L_some, ⟨by decide, by decide, by decide +kernel⟩⟩
theorem lk_L_65 : LkS RL 65 yL_isAlike cL_isAlike 14 (some .boolean) 4 := ⟨ml_L_65, ms_L_isAlike, mi_L, mc_L_isAlike, ⟨by decide, by decide, by decide +kernel⟩⟩
theorem lk_L_50 : LkV RL 50 yX7_tells cX7_tells 4 (some .int) 3 := ⟨ml_L_50, mn_X7_tells, mv_X7_tells, mi_X7, mc_X7_tells, ⟨by decide, by decide, by decide +kernel⟩⟩
theorem lk_L_55 : LkV RL 55 yX7_alike cX7_alike 3 (some .int) 2 := ⟨ml_L_55, mn_X7_alike, mv_X7_alike, mi_X7, mc_X7_alike, ⟨by decide, by decide, by decide +kernel⟩⟩
theorem lk_L_57 : LkV RL 57 yX7_weight cX7_weight 2 (some .int) 1 := ⟨ml_L_57, mn_X7_weight, mv_X7_weight, mi_X7, mc_X7_weight, ⟨by decide, by decide, by decide +kernel⟩⟩
theorem lk_L_69 : LkV RL 69 yX7_finer cX7_finer 3 (some .int) 2 := ⟨ml_L_69, mn_X7_finer, mv_X7_finer, mi_X7, mc_X7_finer, ⟨by decide, by decide, by decide +kernel⟩⟩
theorem lk_L_72 : LkV RL 72 yX7_noon cX7_noon 4 (some .int) 3 := ⟨ml_L_72, mn_X7_noon, mv_X7_noon, mi_X7, mc_X7_noon, ⟨by decide, by decide, by decide +kernel⟩⟩
theorem lk_L_75 : LkV RL 75 yX7_way cX7_way 5 (some .int) 4 := ⟨ml_L_75, mn_X7_way, mv_X7_way, mi_X7, mc_X7_way, ⟨by decide, by decide, by decide +kernel⟩⟩
theorem lk_L_78 : LkV RL 78 yX7_gain cX7_gain 11 (some .int) 5 := ⟨ml_L_78, mn_X7_gain, mv_X7_gain, mi_X7, mc_X7_gain, ⟨by decide, by decide, by decide +kernel⟩⟩
theorem lk_L_61 : LkV RL 61 yX7_odds cX7_odds 6 (some .long) 2 := ⟨ml_L_61, mn_X7_odds, mv_X7_odds, mi_X7, mc_X7_odds, ⟨by decide, by decide, by decide +kernel⟩⟩
theorem lk_L_47 : LkV RL 47 yX7_weigh cX7_weigh 4 (some .int) 2 := ⟨ml_L_47, mn_X7_weigh, mv_X7_weigh, mi_X7, mc_X7_weigh, ⟨by decide, by decide, by decide +kernel⟩⟩
/-! rows of the law's walk -/
/-- what the law keeps in its row of ints is what the class holds -/
def AGT (tt : Nat → Nat) (n hm : Nat) (w kd pt : Nat → Nat) : Prop := tt 0 = n ∧ tt 9 = hm ∧ (∀ j, j < n → tt (1 + j) = w j) ∧ (∀ j, j < hm → tt (10 + j) = kd j ∧ tt (16 + j) = pt j) ∧ 2 ≤ n ∧ n ≤ 6 ∧ 1 ≤ hm ∧ hm ≤ 4 ∧ wfT n w ∧ wfH hm kd pt
theorem AGT.wb {tt : Nat → Nat} {n hm : Nat} {w kd pt : Nat → Nat} (h : AGT tt n hm w kd pt) {x : Nat} (hx : x < n) : 1 ≤ w x ∧ w x ≤ 999 := ⟨h.2.2.2.2.2.2.2.2.1.2.2 x hx, h.2.2.2.2.2.2.2.2.1.2.1 x⟩
theorem AGT.kb {tt : Nat → Nat} {n hm : Nat} {w kd pt : Nat → Nat} (h : AGT tt n hm w kd pt) {j : Nat} (hj : j < hm) : kd j ≤ 2 ∧ pt j ≤ 20 := ⟨h.2.2.2.2.2.2.2.2.2.2.1 j, h.2.2.2.2.2.2.2.2.2.2.2.1 j⟩
theorem AGT.n2 {tt : Nat → Nat} {n hm : Nat} {w kd pt : Nat → Nat} (h : AGT tt n hm w kd pt) : 2 ≤ n ∧ n ≤ 6 ∧ 1 ≤ hm ∧ hm ≤ 4 := ⟨h.2.2.2.2.1, h.2.2.2.2.2.1, h.2.2.2.2.2.2.1, h.2.2.2.2.2.2.2.1⟩
section LWR
variable {x : vX} {g : vG} {cc0 : ByteArray} {own : String} {rm : Room} {nL pc : Nat} {lv : List (Option Value)} {st : List Value} {wr ws : va_W} {b L : Nat} {xs : Nat → Int32} {ta0 n hm : Nat} {tt w kd pt : Nat → Nat}
theorem v_tw {i : Nat} (h : Ok x g cc0 own rm nL) (hG : AGT tt n hm w kd pt) (hi : i < n) (hd : decode cc0 pc = .ok (.iaload, 1)) (k : vM x (pc + 1) lv (.int (nI (w i)) :: st) (wcat ((ta0, .inl (gI g, 22, .inl (fun z9 => nI (tt z9)))) :: wr) ws)) : vM x pc lv (.int (nI (1 + i)) :: .ref ta0 :: st) (wcat ((ta0, .inl (gI g, 22, .inl (fun z9 => nI (tt z9)))) :: wr) ws) := by
  have hn := hG.n2
  refine v_ialdN h 0 rfl (by omega) (Nat.le_of_ble_eq_true rfl) hd ?_
  rw [hG.2.2.1 i hi]
  exact k
theorem v_t9 (h : Ok x g cc0 own rm nL) (hG : AGT tt n hm w kd pt) (hd : decode cc0 pc = .ok (.iaload, 1)) (k : vM x (pc + 1) lv (.int (nI hm) :: st) (wcat ((ta0, .inl (gI g, 22, .inl (fun z9 => nI (tt z9)))) :: wr) ws)) : vM x pc lv (.int (nI 9) :: .ref ta0 :: st) (wcat ((ta0, .inl (gI g, 22, .inl (fun z9 => nI (tt z9)))) :: wr) ws) := by
  refine v_ialdN h 0 rfl (by decide) (Nat.le_of_ble_eq_true rfl) hd ?_
  rw [hG.2.1]
  exact k
theorem v_t0 (h : Ok x g cc0 own rm nL) (hG : AGT tt n hm w kd pt) (hd : decode cc0 pc = .ok (.iaload, 1)) (k : vM x (pc + 1) lv (.int (nI n) :: st) (wcat ((ta0, .inl (gI g, 22, .inl (fun z9 => nI (tt z9)))) :: wr) ws)) : vM x pc lv (.int (nI 0) :: .ref ta0 :: st) (wcat ((ta0, .inl (gI g, 22, .inl (fun z9 => nI (tt z9)))) :: wr) ws) := by
  refine v_ialdN h 0 rfl (by decide) (Nat.le_of_ble_eq_true rfl) hd ?_
  rw [hG.1]
  exact k
theorem v_ltells {j a c : Nat} (h : Ok x g cc0 RL rm nL) (hG : AGT tt n hm w kd pt) (hj : j < hm) (ha : a < n) (hc : c < n) (hrm : RmOk (rmOf 0 0) rm 5) (hW : (st.map fun v => v.category).sum ≤ 8) (hd : decode cc0 pc = .ok (.invokestatic 31, 3)) (k : vM x (pc + 3) lv (.int (nI (bN (tls (kd j) (pt j) (w a) (w c)))) :: st) (wcat ((ta0, .inl (gI g, 22, .inl (fun z9 => nI (tt z9)))) :: wr) ws)) : vM x pc lv (.int (nI (w c)) :: .int (nI (w a)) :: .int (nI j) :: .ref ta0 :: st) (wcat ((ta0, .inl (gI g, 22, .inl (fun z9 => nI (tt z9)))) :: wr) ws) := by
  have hn := hG.n2
  have h1 := hG.wb ha
  have h2 := hG.wb hc
  have h3 := hG.kb hj
  have h4 := hG.2.2.2.1 j hj
  have hct := c_L_tells (g := g) (ta0 := ta0) (tt := tt) (j := j) (a := w a) (b := w c) (by omega) (by omega) (by omega) (by omega) (by omega) (by omega) (by omega)
  refine v_callS (As := [.ref ta0, .int (nI j), .int (nI (w a)), .int (nI (w c))]) (rest := st) h hct lk_L_31 hrm rfl [0] rfl (by decide) hW hd (ws' := (wcat ((ta0, .inl (gI g, 22, .inl (fun z9 => nI (tt z9)))) :: wr) ws)) rfl ?_
  rw [h4.1, h4.2]
  exact k
theorem v_lalike {j a c : Nat} (h : Ok x g cc0 RL rm nL) (hG : AGT tt n hm w kd pt) (hj : j < hm) (ha : a < n) (hc : c < n) (hrm : RmOk (rmOf 1 24) rm 4) (hW : (st.map fun v => v.category).sum ≤ 8) (hd : decode cc0 pc = .ok (.invokestatic 52, 3)) (k : vM x (pc + 3) lv (.int (nI (bN (alk (kd j) (pt j) (w a) (w c)))) :: st) (wcat ((ta0, .inl (gI g, 22, .inl (fun z9 => nI (tt z9)))) :: wr) ws)) : vM x pc lv (.int (nI (w c)) :: .int (nI (w a)) :: .int (nI j) :: .ref ta0 :: st) (wcat ((ta0, .inl (gI g, 22, .inl (fun z9 => nI (tt z9)))) :: wr) ws) := by
  have hn := hG.n2
  have h1 := hG.wb ha
  have h2 := hG.wb hc
  have h3 := hG.kb hj
  have h4 := hG.2.2.2.1 j hj
  have hct := c_L_alike (g := g) (ta0 := ta0) (tt := tt) (j := j) (a := w a) (b := w c) (by omega) (by omega) (by omega) (by omega) (by omega) (by omega) (by omega)
  refine v_callS (As := [.ref ta0, .int (nI j), .int (nI (w a)), .int (nI (w c))]) (rest := st) h hct lk_L_52 hrm rfl [0] rfl (by decide) hW hd (ws' := (wcat ((ta0, .inl (gI g, 22, .inl (fun z9 => nI (tt z9)))) :: wr) ws)) rfl ?_
  rw [h4.1, h4.2]
  exact k
theorem v_cell {k0 : Nat} {wz : va_W} (h : Ok x g cc0 RL rm nL) (hX : LwX x b L xs) (hk : k0 < 2 ^ 20) (hrm : RmOk (rmOf 0 0) rm 2) (hW : (st.map fun v => v.category).sum ≤ 8) (hd : decode cc0 pc = .ok (.invokestatic 9, 3)) (k : ∀ v : Int32, vM x (pc + 3) lv (.int v :: st) wz) : vM x pc lv (.int (nI k0) :: .ref b :: st) wz := by
  refine v_callSX (As := [.ref b, .int (nI k0)]) (rest := st) h hX (c_L_cell hk) lk_L_9 hrm rfl [] rfl rfl hW hd ?_
  rintro r9 wo9 ⟨⟨v9, rfl⟩, rfl⟩ -
  exact k v9
theorem v_some {v : Int32} {m : Nat} {wz : va_W} (h : Ok x g cc0 RL rm nL) (hm0 : 0 < m) (hm1 : m < 2 ^ 31) (hrm : RmOk (rmOf 0 0) rm 2) (hW : (st.map fun v => v.category).sum ≤ 8) (hd : decode cc0 pc = .ok (.invokestatic 15, 3)) (k : ∀ j : Nat, j < m → vM x (pc + 3) lv (.int (nI j) :: st) wz) : vM x pc lv (.int (nI m) :: .int v :: st) wz := by
  refine v_callS (As := [.int v, .int (nI m)]) (rest := st) h (c_L_some hm0 hm1) lk_L_15 hrm rfl [] rfl rfl hW hd (ws' := wz) (by cases wz <;> rfl) ?_
  exact k _ (smN_lt hm0)
theorem v_isAlike {a c : Nat} {wz : va_W} (h : Ok x g cc0 RL rm nL) (ha : a < 2 ^ 31) (hc0 : 0 < c) (hc : c < 2 ^ 31) (hrm : RmOk (rmOf 0 0) rm 14) (hW : (st.map fun v => v.category).sum ≤ 8) (hd : decode cc0 pc = .ok (.invokestatic 65, 3)) (k : vM x (pc + 3) lv (.int (nI (bN true)) :: st) wz) : vM x pc lv (.long (lN (c / Nat.gcd a c)) :: .long (lN (a / Nat.gcd a c)) :: .long (lN c) :: .long (lN a) :: st) wz := by
  exact v_callS (As := [.long (lN a), .long (lN c), .long (lN (a / Nat.gcd a c)), .long (lN (c / Nat.gcd a c))]) (rest := st) h (c_L_isAlike ha hc0 hc) lk_L_65 hrm rfl [] rfl rfl hW hd (ws' := wz) (by cases wz <;> rfl) k
end LWR
section LWC
variable {x : vX} {g : vG} {cc0 : ByteArray} {rm : Room} {nL pc : Nat} {lv : List (Option Value)} {st : List Value} {wa ws : va_W} {ad rr : Nat → Nat} {n hm : Nat} {tt w kd pt : Nat → Nat}
theorem kk_tells {j a c : Nat} (h : Ok x g cc0 RL rm nL) (hG : AGT tt n hm w kd pt) (hI : PInv g ad rr n w hm kd pt ws) (hj : j < hm) (ha : a < n) (hc : c < n) (hrm : RmOk (rmOf 3 66) rm 4) (hW : (st.map fun v => v.category).sum ≤ 8) (hd : decode cc0 pc = .ok (.invokevirtual 50, 3)) (k : ∀ ws : va_W, PInv g ad rr n w hm kd pt ws → vM x (pc + 3) lv (.int (nI (bN (tls (kd j) (pt j) (w a) (w c)))) :: st) (wcat wa ws)) : vM x pc lv (.int (nI (w c)) :: .int (nI (w a)) :: .int (nI j) :: .ref (ad 0) :: st) (wcat wa ws) := by
  have hn := hG.n2
  refine k_tells h hI lk_L_50 hrm hW hd (fun ws hI => ?_)
  have h1 := hG.wb ha
  have h2 := hG.wb hc
  have e : s_tells hm kd pt (nI j) (nI (w a)) (nI (w c)) = nI (bN (tls (kd j) (pt j) (w a) (w c))) := by
    unfold s_tells
    rw [rN_N hj (by omega), rW_N h1.1 (show w a ≤ 9999 by omega) (by decide), rW_N h2.1 (show w c ≤ 9999 by omega) (by decide)]
  rw [e]
  exact k ws hI
theorem kk_alike {j y : Nat} (h : Ok x g cc0 RL rm nL) (hG : AGT tt n hm w kd pt) (hI : PInv g ad rr n w hm kd pt ws) (hj : j < hm) (hy : y < n) (hrm : RmOk (rmOf 5 114) rm 3) (hW : (st.map fun v => v.category).sum ≤ 8) (hd : decode cc0 pc = .ok (.invokevirtual 55, 3)) (k : ∀ ws : va_W, PInv g ad rr n w hm kd pt ws → vM x (pc + 3) lv (.int (nI ((alkS (kd j) (pt j) w n) y)) :: st) (wcat wa ws)) : vM x pc lv (.int (nI y) :: .int (nI j) :: .ref (ad 0) :: st) (wcat wa ws) := by
  have hn := hG.n2
  refine k_alike h hI lk_L_55 hrm hW hd (fun ws hI => ?_)
  have e : s_alike n w hm kd pt (nI j) (nI y) = nI ((alkS (kd j) (pt j) w n) y) := by
    unfold s_alike
    rw [rN_N hj (by omega), rN_N hy (by omega)]
  rw [e]
  exact k ws hI
theorem kk_weight {y : Nat} (h : Ok x g cc0 RL rm nL) (hG : AGT tt n hm w kd pt) (hI : PInv g ad rr n w hm kd pt ws) (hy : y < n) (hrm : RmOk (rmOf 2 42) rm 2) (hW : (st.map fun v => v.category).sum ≤ 8) (hd : decode cc0 pc = .ok (.invokevirtual 57, 3)) (k : ∀ ws : va_W, PInv g ad rr n w hm kd pt ws → vM x (pc + 3) lv (.int (nI (w y)) :: st) (wcat wa ws)) : vM x pc lv (.int (nI y) :: .ref (ad 0) :: st) (wcat wa ws) := by
  have hn := hG.n2
  refine k_weight h hI lk_L_57 hrm hW hd (fun ws hI => ?_)
  have e : s_weight n w (nI y) = nI (w y) := by
    unfold s_weight
    rw [rN_N hy (by omega)]
  rw [e]
  exact k ws hI
theorem kk_finer {j i : Nat} (h : Ok x g cc0 RL rm nL) (hG : AGT tt n hm w kd pt) (hI : PInv g ad rr n w hm kd pt ws) (hj : j < hm) (hi : i < hm) (hrm : RmOk (rmOf 5 114) rm 3) (hW : (st.map fun v => v.category).sum ≤ 8) (hd : decode cc0 pc = .ok (.invokevirtual 69, 3)) (k : ∀ ws : va_W, PInv g ad rr n w hm kd pt ws → vM x (pc + 3) lv (.int (nI (bN (finM n (ligS (kd j) (pt j) w n) (ligS (kd i) (pt i) w n)))) :: st) (wcat wa ws)) : vM x pc lv (.int (nI i) :: .int (nI j) :: .ref (ad 0) :: st) (wcat wa ws) := by
  have hn := hG.n2
  refine k_finer h hI lk_L_69 hrm hW hd (fun ws hI => ?_)
  have e : s_finer n w hm kd pt (nI j) (nI i) = nI (bN (finM n (ligS (kd j) (pt j) w n) (ligS (kd i) (pt i) w n))) := by
    unfold s_finer
    rw [rN_N hj (by omega), rN_N hi (by omega)]
  rw [e]
  exact k ws hI
theorem kk_noon {j y q : Nat} (h : Ok x g cc0 RL rm nL) (hG : AGT tt n hm w kd pt) (hI : PInv g ad rr n w hm kd pt ws) (hj : j < hm) (hy : y < n) (hq : q ≤ 99) (hrm : RmOk (rmOf 5 114) rm 4) (hW : (st.map fun v => v.category).sum ≤ 8) (hd : decode cc0 pc = .ok (.invokevirtual 72, 3)) (k : ∀ ws : va_W, PInv g ad rr n w hm kd pt ws → vM x (pc + 3) lv (.int (nI (wth (alkS (kd j) (pt j) w n) n (2 ^ y) q)) :: st) (wcat wa ws)) : vM x pc lv (.int (nI q) :: .int (nI y) :: .int (nI j) :: .ref (ad 0) :: st) (wcat wa ws) := by
  have hn := hG.n2
  refine k_noon h hI lk_L_72 hrm hW hd (fun ws hI => ?_)
  have e : s_noon n w hm kd pt (nI j) (nI y) (nI q) = nI (wth (alkS (kd j) (pt j) w n) n (2 ^ y) q) := by
    unfold s_noon
    rw [rN_N hj (by omega), rN_N hy (by omega), rW_N (Nat.zero_le _) hq (by decide)]
    show nI (wth (alkS (kd j) (pt j) w n) n (2 ^ y) (min q n)) = _
    rw [wth_min (by omega) hy]
  rw [e]
  exact k ws hI
theorem kk_way {j y z : Nat} (h : Ok x g cc0 RL rm nL) (hG : AGT tt n hm w kd pt) (hI : PInv g ad rr n w hm kd pt ws) (hj : j < hm) (hy : y < n) (hz : z < n) (hrm : RmOk (rmOf 6 138) rm 5) (hW : (st.map fun v => v.category).sum ≤ 8) (hd : decode cc0 pc = .ok (.invokevirtual 75, 3)) (k : ∀ ws : va_W, PInv g ad rr n w hm kd pt ws → vM x (pc + 3) lv (.int (oN (fwy (kd j) (pt j) w n y z 8)) :: st) (wcat wa ws)) : vM x pc lv (.int (-1) :: .int (nI z) :: .int (nI y) :: .int (nI j) :: .ref (ad 0) :: st) (wcat wa ws) := by
  have hn := hG.n2
  refine k_way h hI lk_L_75 hrm hW hd (fun ws hI => ?_)
  have e : s_way n w hm kd pt (nI j) (nI y) (nI z) (-1) = oN (fwy (kd j) (pt j) w n y z 8) := by
    unfold s_way
    rw [rN_N hj (by omega), rN_N hy (by omega), rN_N hz (by omega)]
    show (if (-1 : Int32) < -1 then (-1 : Int32) else if (-1 : Int32) = -1 then _ else _) = _
    rw [if_neg (by decide), if_pos rfl, way_m1 (by omega) hy hz]
  rw [e]
  exact k ws hI
theorem kk_wayq {j y z q : Nat} (h : Ok x g cc0 RL rm nL) (hG : AGT tt n hm w kd pt) (hI : PInv g ad rr n w hm kd pt ws) (hj : j < hm) (hy : y < n) (hz : z < n) (hq : q < 2 ^ 31) (hrm : RmOk (rmOf 6 138) rm 5) (hW : (st.map fun v => v.category).sum ≤ 8) (hd : decode cc0 pc = .ok (.invokevirtual 75, 3)) (k : ∀ ws : va_W, PInv g ad rr n w hm kd pt ws → vM x (pc + 3) lv (.int (wayS (alkS (kd j) (pt j) w n) n y z q) :: st) (wcat wa ws)) : vM x pc lv (.int (nI q) :: .int (nI z) :: .int (nI y) :: .int (nI j) :: .ref (ad 0) :: st) (wcat wa ws) := by
  have hn := hG.n2
  refine k_way h hI lk_L_75 hrm hW hd (fun ws hI => ?_)
  have e : s_way n w hm kd pt (nI j) (nI y) (nI z) (nI q) = wayS (alkS (kd j) (pt j) w n) n y z q := by
    unfold s_way
    rw [rN_N hj (by omega), rN_N hy (by omega), rN_N hz (by omega)]
    show (if nI q < -1 then (-1 : Int32) else if nI q = -1 then _ else wayS (alkS (kd j) (pt j) w n) n y z (tn (nI q))) = _
    rw [if_neg (nI_lt_m1 hq), if_neg (nI_ne_m1 hq), tn_N hq]
  rw [e]
  exact k ws hI
theorem kk_gain0 {j i y q : Nat} (h : Ok x g cc0 RL rm nL) (hG : AGT tt n hm w kd pt) (hI : PInv g ad rr n w hm kd pt ws) (hj : j < hm) (hi : i < hm) (hy : y < n) (hq : q ≤ 8) (hrm : RmOk (rmOf 5 114) rm 11) (hW : (st.map fun v => v.category).sum ≤ 8) (hd : decode cc0 pc = .ok (.invokevirtual 78, 3)) (k : ∀ ws : va_W, PInv g ad rr n w hm kd pt ws → vM x (pc + 3) lv (.int (nI (gnB (alkS (kd j) (pt j) w n) (ligS (kd i) (pt i) w n) w n y q).1) :: st) (wcat wa ws)) : vM x pc lv (.int (nI 0) :: .int (nI q) :: .int (nI y) :: .int (nI i) :: .int (nI j) :: .ref (ad 0) :: st) (wcat wa ws) := by
  have hn := hG.n2
  refine k_gain h hI lk_L_78 hrm hW hd (fun ws hI => ?_)
  have e : s_gain n w hm kd pt (nI j) (nI i) (nI y) (nI q) (nI 0) = nI (gnB (alkS (kd j) (pt j) w n) (ligS (kd i) (pt i) w n) w n y q).1 := by
    unfold s_gain
    rw [rN_N hj (by omega), rN_N hi (by omega), rN_N hy (by omega), rW_N (Nat.zero_le _) hq (by decide), rW_N (Nat.zero_le _) (show 0 ≤ 1 by decide) (by decide)]
    rfl
  rw [e]
  exact k ws hI
theorem kk_gain1 {j i y q : Nat} (h : Ok x g cc0 RL rm nL) (hG : AGT tt n hm w kd pt) (hI : PInv g ad rr n w hm kd pt ws) (hj : j < hm) (hi : i < hm) (hy : y < n) (hq : q ≤ 8) (hrm : RmOk (rmOf 5 114) rm 11) (hW : (st.map fun v => v.category).sum ≤ 8) (hd : decode cc0 pc = .ok (.invokevirtual 78, 3)) (k : ∀ ws : va_W, PInv g ad rr n w hm kd pt ws → vM x (pc + 3) lv (.int (nI (gnB (alkS (kd j) (pt j) w n) (ligS (kd i) (pt i) w n) w n y q).2) :: st) (wcat wa ws)) : vM x pc lv (.int (nI 1) :: .int (nI q) :: .int (nI y) :: .int (nI i) :: .int (nI j) :: .ref (ad 0) :: st) (wcat wa ws) := by
  have hn := hG.n2
  refine k_gain h hI lk_L_78 hrm hW hd (fun ws hI => ?_)
  have e : s_gain n w hm kd pt (nI j) (nI i) (nI y) (nI q) (nI 1) = nI (gnB (alkS (kd j) (pt j) w n) (ligS (kd i) (pt i) w n) w n y q).2 := by
    unfold s_gain
    rw [rN_N hj (by omega), rN_N hi (by omega), rN_N hy (by omega), rW_N (Nat.zero_le _) hq (by decide), rW_N (Nat.zero_le _) (show 1 ≤ 1 by decide) (by decide)]
    rfl
  rw [e]
  exact k ws hI
theorem kk_odds0 {j : Nat} (h : Ok x g cc0 RL rm nL) (hG : AGT tt n hm w kd pt) (hI : PInv g ad rr n w hm kd pt ws) (hj : j < hm) (hrm : RmOk (rmOf 5 114) rm 6) (hW : (st.map fun v => v.category).sum ≤ 8) (hd : decode cc0 pc = .ok (.invokevirtual 61, 3)) (k : ∀ ws : va_W, PInv g ad rr n w hm kd pt ws → vM x (pc + 3) lv (.long (lN ((toldN (ligS (kd j) (pt j) w n) n) / Nat.gcd (toldN (ligS (kd j) (pt j) w n) n) (n * (n - 1) / 2))) :: st) (wcat wa ws)) : vM x pc lv (.int (nI 0) :: .int (nI j) :: .ref (ad 0) :: st) (wcat wa ws) := by
  have hn := hG.n2
  refine k_odds h hI (Or.inr (hG.n2).1) lk_L_61 hrm hW hd (fun ws hI => ?_)
  have hp1 : 1 ≤ (n * (n - 1) / 2) := odd_pos hn.1
  have hp2 : (n * (n - 1) / 2) < 2 ^ 31 := odd_lt hn.2.1
  have ht : (toldN (ligS (kd j) (pt j) w n) n) < 2 ^ 31 := Nat.lt_of_le_of_lt toldN_le (by omega)
  have e : s_odds n w hm kd pt (nI j) (nI 0) = lN ((toldN (ligS (kd j) (pt j) w n) n) / Nat.gcd (toldN (ligS (kd j) (pt j) w n) n) (n * (n - 1) / 2)) := by
    unfold s_odds
    rw [rN_N hj (by omega), rW_N (Nat.zero_le _) (show 0 ≤ 1 by decide) (by decide)]
    have hc : cmd (toldN (ligS (kd j) (pt j) w n) n) (n * (n - 1) / 2) (n * (n - 1) / 2) = Nat.gcd (toldN (ligS (kd j) (pt j) w n) n) (n * (n - 1) / 2) := cmd_gcd hp1 _ (fun _ h1 h2 => by omega)
    show (nI ((toldN (ligS (kd j) (pt j) w n) n) / cmd (toldN (ligS (kd j) (pt j) w n) n) (n * (n - 1) / 2) (n * (n - 1) / 2))).toInt64 = _
    rw [hc, nI_l (Nat.lt_of_le_of_lt (Nat.div_le_self _ _) (by assumption))]
  rw [e]
  exact k ws hI
theorem kk_odds1 {j : Nat} (h : Ok x g cc0 RL rm nL) (hG : AGT tt n hm w kd pt) (hI : PInv g ad rr n w hm kd pt ws) (hj : j < hm) (hrm : RmOk (rmOf 5 114) rm 6) (hW : (st.map fun v => v.category).sum ≤ 8) (hd : decode cc0 pc = .ok (.invokevirtual 61, 3)) (k : ∀ ws : va_W, PInv g ad rr n w hm kd pt ws → vM x (pc + 3) lv (.long (lN ((n * (n - 1) / 2) / Nat.gcd (toldN (ligS (kd j) (pt j) w n) n) (n * (n - 1) / 2))) :: st) (wcat wa ws)) : vM x pc lv (.int (nI 1) :: .int (nI j) :: .ref (ad 0) :: st) (wcat wa ws) := by
  have hn := hG.n2
  refine k_odds h hI (Or.inr (hG.n2).1) lk_L_61 hrm hW hd (fun ws hI => ?_)
  have hp1 : 1 ≤ (n * (n - 1) / 2) := odd_pos hn.1
  have hp2 : (n * (n - 1) / 2) < 2 ^ 31 := odd_lt hn.2.1
  have ht : (toldN (ligS (kd j) (pt j) w n) n) < 2 ^ 31 := Nat.lt_of_le_of_lt toldN_le (by omega)
  have e : s_odds n w hm kd pt (nI j) (nI 1) = lN ((n * (n - 1) / 2) / Nat.gcd (toldN (ligS (kd j) (pt j) w n) n) (n * (n - 1) / 2)) := by
    unfold s_odds
    rw [rN_N hj (by omega), rW_N (Nat.zero_le _) (show 1 ≤ 1 by decide) (by decide)]
    have hc : cmd (toldN (ligS (kd j) (pt j) w n) n) (n * (n - 1) / 2) (n * (n - 1) / 2) = Nat.gcd (toldN (ligS (kd j) (pt j) w n) n) (n * (n - 1) / 2) := cmd_gcd hp1 _ (fun _ h1 h2 => by omega)
    show (nI ((n * (n - 1) / 2) / cmd (toldN (ligS (kd j) (pt j) w n) n) (n * (n - 1) / 2) (n * (n - 1) / 2))).toInt64 = _
    rw [hc, nI_l (Nat.lt_of_le_of_lt (Nat.div_le_self _ _) (by assumption))]
  rw [e]
  exact k ws hI
theorem kk_weigh {y u : Nat} (h : Ok x g cc0 RL rm nL) (hG : AGT tt n hm w kd pt) (hI : PInv g ad rr n w hm kd pt ws) (hy : y < n) (hu1 : 1 ≤ u) (hu : u ≤ 999) (hrm : RmOk (rmOf 2 43) rm 4) (hW : (st.map fun v => v.category).sum ≤ 8) (hd : decode cc0 pc = .ok (.invokevirtual 47, 3)) (k : ∀ ws : va_W, PInv g ad rr n (up w y u) hm kd pt ws → vM x (pc + 3) lv (.int (nI (w y)) :: st) (wcat wa ws)) : vM x pc lv (.int (nI u) :: .int (nI y) :: .ref (ad 0) :: st) (wcat wa ws) := by
  have hn := hG.n2
  have hT := hG.2.2.2.2.2.2.2.2.1
  have hH := hG.2.2.2.2.2.2.2.2.2
  refine k_weigh h hI lk_L_47 hrm hW hd (fun ws hI => ?_)
  have e : s_weigh n w (nI y) (nI u) = (nI (w y), up w y u) := by
    unfold s_weigh
    rw [rN_N hy (by omega), rW_N hu1 hu (by decide)]
  rw [e] at hI ⊢
  exact k ws (hI (wfT_up hT hu1 hu) hH)
end LWC
