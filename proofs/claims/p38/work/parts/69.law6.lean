theorem lk_L_39 : LkV RL 39 yX7_market cX7_market 7 (some .int) 4 := ⟨ml_L_39, mn_X7_market, mv_X7_market, mi_X7, mc_X7_market, ⟨by decide, by decide, by decide +kernel⟩⟩
theorem lk_L_36 : LkS RL 36 yL_put cL_put 11 (some .int) 5 := ⟨ml_L_36, ms_L_put, mi_L, mc_L_put, ⟨by decide, by decide, by decide +kernel⟩⟩
theorem lk_L_43 : LkS RL 43 yL_come cL_come 8 (some .boolean) 5 := ⟨ml_L_43, ms_L_come, mi_L, mc_L_come, ⟨by decide, by decide, by decide +kernel⟩⟩
/-! the market that the text tells -/
theorem dv_N : ∀ d : Fin 10, dv (nI (48 + d.1)) = d.1 := by decide +kernel
theorem dig_ok {d : Nat} (h : d ≤ 9) : ¬ nI (48 + d) < nI 48 ∧ ¬ nI 57 < nI (48 + d) := ⟨fun q => by have := (nI_ltI (by omega) (by omega)).mp q; omega, fun q => by have := (nI_ltI (by omega) (by omega)).mp q; omega⟩
theorem tx_num {c : Nat → Int32} {n k : Nat} {tt : Nat → Nat} (h : TX c n tt) (hk : k < n) (hb : tt (1 + k) ≤ 999) : numV c (4 * k) = tt (1 + k) := by
  obtain ⟨h1, h2, h3, -⟩ := h k hk
  have e1 : dv (c (4 * k + 0)) = tt (1 + k) / 100 := by rw [Nat.add_zero, h1]; exact dv_N ⟨tt (1 + k) / 100, by omega⟩
  have e2 : dv (c (4 * k + 1)) = tt (1 + k) / 10 % 10 := by rw [h2]; exact dv_N ⟨tt (1 + k) / 10 % 10, by omega⟩
  have e3 : dv (c (4 * k + 2)) = tt (1 + k) % 10 := by rw [h3]; exact dv_N ⟨tt (1 + k) % 10, by omega⟩
  show 10 * (10 * (10 * 0 + dv (c (4 * k + 0))) + dv (c (4 * k + 1))) + dv (c (4 * k + 2)) = _
  rw [e1, e2, e3]
  omega
theorem tx_go {c : Nat → Int32} {n q : Nat} {tt : Nat → Nat} (h : TX c n tt) (hn : n ≤ 6) (hb : ∀ j, j < n → 1 ≤ tt (1 + j) ∧ tt (1 + j) ≤ 999) (hq : q < 4 * n - 1) : goB c q = true := by
  by_cases h3 : q % 4 = 3
  · rw [goB_3 h3]
    have h4 := (h (q / 4 + 1) (by omega)).2.2.2 (by omega)
    rw [show 4 * (q / 4 + 1) - 1 = q by omega] at h4
    exact decide_eq_true ⟨h4, by omega⟩
  · rw [goB_d h3]
    obtain ⟨h1, h2, h4, -⟩ := h (q / 4) (by omega)
    have hbk := hb (q / 4) (by omega)
    rcases (show q % 4 = 0 ∨ q % 4 = 1 ∨ q % 4 = 2 by omega) with r | r | r
    · rw [show 4 * (q / 4) = q by omega] at h1
      rw [h1]
      exact decide_eq_true ⟨(dig_ok (by omega)).1, (dig_ok (by omega)).2, fun z => by omega⟩
    · rw [show 4 * (q / 4) + 1 = q by omega] at h2
      rw [h2]
      exact decide_eq_true ⟨(dig_ok (by omega)).1, (dig_ok (by omega)).2, fun z => by omega⟩
    · rw [show 4 * (q / 4) + 2 = q by omega] at h4
      rw [h4]
      refine decide_eq_true ⟨(dig_ok (by omega)).1, (dig_ok (by omega)).2, fun _ => ?_⟩
      rw [show q - 2 = 4 * (q / 4) by omega, tx_num h (by omega) hbk.2]
      omega
section LWM
variable {x : vX} {g : vG} {cc0 : ByteArray} {rm : Room} {nL pc : Nat} {lv : List (Option Value)} {st : List Value} {wa ws : va_W} {ad rr : Nat → Nat} {c : Nat → Int32} {n : Nat} {tt : Nat → Nat}
theorem kk_market (h : Ok x g cc0 RL rm nL) (hI : S1 g ad rr c ws) (hx : TX c n tt) (hn2 : 2 ≤ n) (hn6 : n ≤ 6) (hb : ∀ j, j < n → 1 ≤ tt (1 + j) ∧ tt (1 + j) ≤ 999) (hrm : RmOk (rmOf 6 140) rm 7) (hW : (st.map fun v => v.category).sum ≤ 8) (hd : decode cc0 pc = .ok (.invokevirtual 39, 3)) (k : ∀ (w kd pt : Nat → Nat) (ws : va_W), (∀ j, j < n → w j = tt (1 + j)) → PInv g ad rr n w 0 kd pt ws → vM x (pc + 3) lv (.int (nI n) :: st) (wcat wa ws)) : vM x pc lv (.int (nI (4 * n - 1)) :: .int (nI 0) :: .int (nI 0) :: .int (nI 0) :: .ref (ad 0) :: st) (wcat wa ws) := by
  obtain ⟨fil, srt, len, cc, h1, h2, h3, h4, hQ⟩ := hI
  refine k_market h hQ lk_L_39 hrm hW hd (fun w kd pt sn hT hH ws hI => ?_)
  have hf : ftk (fil 0) (srt 0) (len 0) (nI 0) (nI 0) (nI (4 * n - 1)) = 0 := by
    rw [h1, h2, h3]
    unfold ftk
    rw [if_neg (by decide), if_pos rfl, if_neg (nI_pos (by omega)), if_pos (hcB_N (by decide) (by omega))]
  have hm : tn (nI (4 * n - 1)) = 4 * n - 1 := tn_N (by omega)
  have hc : (fun z => cc 0 (tn (nI 0) + z)) = c := by
    funext z
    rw [tn_N (by decide), Nat.zero_add, h4]
  have hs : ffS c (4 * n - 1) = -1 := by rw [ffS_end (fun q hq => tx_go hx hn6 hb hq), if_pos ⟨by omega, by omega⟩]
  have e : s_market 0 w 0 sn fil srt len cc (nI 0) (nI 0) (nI 0) (nI (4 * n - 1)) = (nI n, 0, n, layF w n (fun q => numV c (4 * q)), 0, 0) := by
    unfold s_market
    rw [rN_N (j := 0) (by decide) (by decide), rW_N (j := 0) (by decide) (by decide) (by decide)]
    simp only [hf, hm, hc, hs, if_true, show (4 * n - 1 + 1) / 4 = n by omega]
  rw [e] at hI ⊢
  have hw : ∀ j, j < n → layF w n (fun q => numV c (4 * q)) j = tt (1 + j) := fun j hj => by rw [layF_in hj]; exact tx_num hx hj (hb j hj).2
  refine k _ kd pt ws hw (hI ⟨by show n ≤ 8; omega, fun j => ?_, fun j hj => by show 1 ≤ layF w n (fun q => numV c (4 * q)) j; rw [hw j hj]; exact (hb j hj).1⟩ hH)
  show layF w n (fun q => numV c (4 * q)) j ≤ 999
  by_cases q : j < n
  · rw [hw j q]; exact (hb j q).2
  · unfold layF; rw [if_neg q]; exact hT.2.1 j
end LWM
/-! the world in another order -/
section VMM
variable {x : vX} {pc : Nat} {lv : List (Option Value)} {st : List Value}
theorem vM.map {ws ws' : va_W} (f : Nat → Nat) (hf : ∀ (i : Nat) (q : Nat × va_E), ws'[i]? = some q → ws[f i]? = some q) (hi : ∀ i j, i < ws'.length → j < ws'.length → f i = f j → i = j) (k : vM x pc lv st ws') : vM x pc lv st ws := by
  obtain ⟨g0, p, e, R, s, m, args, below, meth, c, cells, slots, Q, A, nL0⟩ := x
  intro H locs ls hP hD hS hl
  exact k H locs ls (fun i q hq => hP _ q (hf i q hq)) ⟨fun i j p q h1 h2 e9 => hi i j (List.getElem?_eq_some_iff.mp h1).1 (List.getElem?_eq_some_iff.mp h2).1 (hD.1 _ _ p q (hf i p h1) (hf j q h2) e9), fun i q hq => hD.2 _ q (hf i q hq)⟩ hS hl
theorem vM.rot1 {c : Nat × va_E} {ws : va_W} (k : vM x pc lv st (wcat [c] ws)) : vM x pc lv st (ws ++ [c]) := by
  refine vM.map (fun i => if i = 0 then ws.length else i - 1) (fun i q hq => ?_) (fun i j hi hj e => ?_) k
  · rcases i with _ | i
    · have hq2 : some c = some q := hq
      show (ws ++ [c])[ws.length]? = some q
      rw [List.getElem?_append_right (Nat.le_refl _), Nat.sub_self]
      exact hq2
    · have hq2 : ws[i]? = some q := hq
      show (ws ++ [c])[if i + 1 = 0 then ws.length else i + 1 - 1]? = some q
      rw [if_neg (by omega), Nat.add_sub_cancel, List.getElem?_append_left (List.getElem?_eq_some_iff.mp hq2).1]
      exact hq2
  · have h1 : i < ws.length + 1 := hi
    have h2 : j < ws.length + 1 := hj
    have e2 : (if i = 0 then ws.length else i - 1) = (if j = 0 then ws.length else j - 1) := e
    by_cases a : i = 0
    · by_cases b : j = 0
      · omega
      · rw [if_pos a, if_neg b] at e2; omega
    · by_cases b : j = 0
      · rw [if_neg a, if_pos b] at e2; omega
      · rw [if_neg a, if_neg b] at e2; omega
theorem vM.rot2 {c d : Nat × va_E} {ws : va_W} (k : vM x pc lv st (wcat [c, d] ws)) : vM x pc lv st ((wcat [c] ws) ++ [d]) := by
  refine vM.map (fun i => if i = 0 then 0 else if i = 1 then ws.length + 1 else i - 1) (fun i q hq => ?_) (fun i j hi hj e => ?_) k
  · rcases i with _ | _ | i
    · exact hq
    · have hq2 : some d = some q := hq
      show ((c :: ws) ++ [d])[ws.length + 1]? = some q
      rw [List.getElem?_append_right (by simp), List.length_cons, Nat.sub_self]
      exact hq2
    · have hq2 : ws[i]? = some q := hq
      show ((c :: ws) ++ [d])[i + 1]? = some q
      rw [List.getElem?_append_left (by have := (List.getElem?_eq_some_iff.mp hq2).1; rw [List.length_cons]; omega)]
      exact hq2
  · have h1 : i < ws.length + 2 := hi
    have h2 : j < ws.length + 2 := hj
    have e2 : (if i = 0 then 0 else if i = 1 then ws.length + 1 else i - 1) = (if j = 0 then 0 else if j = 1 then ws.length + 1 else j - 1) := e
    rcases i with _ | _ | i <;> rcases j with _ | _ | j <;> first | rfl | (simp at e2; done) | (simp at e2; omega)
end VMM
/-! the law's room -/
def LwF (x : vX) (b : Nat) : Prop := match x with
  | (_, _, _, R, s, _, args, below, meth, _, _, _, Q, A, _) => R = room_1 ∧ args = #[Value.ref b] ∧ Q = lw_Z below #[Value.ref b] s ∧ meth.sig.returnType = ret ∧ ∀ q, A q → s.heap.size ≤ q
theorem LwF.grow {x : vX} {b a1 a2 : Nat} (h : LwF x b) : LwF (vgr x a1 a2) b := by
  obtain ⟨g0, p, e, R, s, m, args, below, meth, c, cells, slots, Q, A, nL0⟩ := x
  exact h
theorem LwE.of {x : vX} {g : vG} {b c1 s1 : Nat} {nm : String} (hF : LwF x b) (h : OkC x g code RL room_1 19 c1 s1 nm) (h1 : c1 ≤ 647948) (h2 : s1 ≤ 7158403) : LwE x := by
  obtain ⟨g0, p, e, R, s, m, args, below, meth, c, cells, slots, Q, A, nL0⟩ := x
  obtain ⟨⟨rfl, rfl, rfl, hx, hb, hml, hown, hts, hK, hA, hlk, hnw, hcl, hsl⟩, rfl, rfl, hnm, hni⟩ := h
  obtain ⟨-, rfl, rfl, hr, hA2⟩ := hF
  intro lv ws pc hd H locs ls hP hD hS hl
  exact va_forget (fun q hq => hA2 _ (hS.2.2 q hq)) (W.widen h1 h2 (lw_ret hx hb hr hlk hd))
/-- a context of the law's that may make m rows of six ints yet -/
def LQ (x : vX) (g : vG) (b L : Nat) (xs : Nat → Int32) (m : Nat) : Prop := ∃ (c1 s1 : Nat) (nm : String), OkC x g code RL room_1 19 c1 s1 nm ∧ LwX x b L xs ∧ LwF x b ∧ c1 + m ≤ 600000 ∧ s1 + 6 * m ≤ 7000000
theorem LQ.ok {x : vX} {g : vG} {b L m : Nat} {xs : Nat → Int32} (h : LQ x g b L xs m) : Ok x g code RL room_1 19 := by
  obtain ⟨c1, s1, nm, h1, -⟩ := h
  exact h1.1
theorem LQ.X {x : vX} {g : vG} {b L m : Nat} {xs : Nat → Int32} (h : LQ x g b L xs m) : LwX x b L xs := by
  obtain ⟨c1, s1, nm, -, h2, -⟩ := h
  exact h2
theorem LQ.E {x : vX} {g : vG} {b L m : Nat} {xs : Nat → Int32} (h : LQ x g b L xs m) : LwE x := by
  obtain ⟨c1, s1, nm, h1, -, h3, h4, h5⟩ := h
  exact LwE.of h3 h1 (by omega) (by omega)
theorem LQ.le {x : vX} {g : vG} {b L m m2 : Nat} {xs : Nat → Int32} (h : LQ x g b L xs m) (h2 : m2 ≤ m) : LQ x g b L xs m2 := by
  obtain ⟨c1, s1, nm, h1, h3, h4, h5, h6⟩ := h
  exact ⟨c1, s1, nm, h1, h3, h4, by omega, by omega⟩
theorem v_new6 {x : vX} {g : vG} {b L m pc : Nat} {xs : Nat → Int32} {lv : List (Option Value)} {st : List Value} {c : Nat × va_E} {ws : va_W} (h : LQ x g b L xs (m + 1)) (hd : decode code pc = .ok (.newarray .int, 2)) (k : ∀ (q : Nat) (x' : vX), LQ x' g b L xs m → vM x' (pc + 2) lv (.ref q :: st) (wcat [c, (q, .inl (gI g, 6, .inl (fun _ => nI 0)))] ws)) : vM x pc lv (.int (nI 6) :: st) (wcat [c] ws) := by
  obtain ⟨c1, s1, nm, h1, h3, h4, h5, h6⟩ := h
  have g1 : c1 + 1 ≤ room_1.cells := by show c1 + 1 ≤ 647948; omega
  have g2 : s1 + 6 ≤ room_1.slots := by show s1 + 6 ≤ 7158403; omega
  exact v_newI (k := 6) h1 (by decide) g1 g2 hd (fun q => vM.rot2 (k q _ ⟨c1 + 1, s1 + 6, nm, h1.grow g1 g2, h3.grow, h4.grow, by omega, by omega⟩))
