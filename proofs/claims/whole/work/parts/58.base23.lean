/-! what both sides keep from call to call -/
def LV (n : Nat) (w : Nat → Nat) (hn : Nat) (kd pt : Nat → Nat) (sn : Nat) (sb sf ss sw srt len : Nat → Nat) : Prop := wfT n w ∧ wfH hn kd pt ∧ (sn ≤ 10 ∧ (∀ j, j < sn → sb j < hn) ∧ (∀ j, j < sn → sf j < n) ∧ (∀ j, j < sn → ss j < n) ∧ ∀ j, sw j ≤ 1) ∧ ((n = 0 ∧ hn = 0) ∨ 2 ≤ n) ∧ (∀ k, srt k ≤ 2) ∧ ∀ k, len k ≤ 40
theorem LV.hn2 {n : Nat} {w : Nat → Nat} {hn : Nat} {kd pt : Nat → Nat} {sn : Nat} {sb sf ss sw srt len : Nat → Nat} (h : LV n w hn kd pt sn sb sf ss sw srt len) : hn = 0 ∨ 2 ≤ n := h.2.2.2.1.elim (fun q => Or.inl q.2) Or.inr
theorem rN_some {x : Int32} {n j : Nat} (h : rN x n = some j) (hn : n < 2 ^ 31) : j < n ∧ x = nI j := by
  unfold rN at h
  by_cases c : inR x n = true
  · rw [if_pos c] at h
    obtain ⟨i, hi, rfl⟩ := inR_of c hn
    rw [tn_N (by omega)] at h
    cases h
    exact ⟨hi, rfl⟩
  · rw [if_neg c] at h; cases h
theorem rW_some {v : Int32} {a b j : Nat} (h : rW v a b = some j) (hb : b < 2 ^ 31) (hab : a ≤ b) : a ≤ j ∧ j ≤ b := by
  unfold rW at h
  by_cases c : nI a ≤ v ∧ v ≤ nI b
  · rw [if_pos c] at h
    obtain ⟨i, h1, h2, rfl⟩ := rW_of c.1 c.2 hb hab
    rw [tn_N (by omega)] at h
    cases h
    exact ⟨h1, h2⟩
  · rw [if_neg c] at h; cases h
section LVS
variable {n : Nat} {w : Nat → Nat} {hn : Nat} {kd pt : Nat → Nat} {sn : Nat} {sb sf ss sw srt len : Nat → Nat} {fil : Nat → Bool} {cc : Nat → Nat → Int32} {msrt mc : Nat → Int32}
theorem LV.market {p0 p1 p2 p3 : Int32} (h : LV n w hn kd pt sn sb sf ss sw srt len) : LV (s_market n w hn sn fil srt len cc p0 p1 p2 p3).2.2.1 (s_market n w hn sn fil srt len cc p0 p1 p2 p3).2.2.2.1 (s_market n w hn sn fil srt len cc p0 p1 p2 p3).2.2.2.2.1 kd pt (s_market n w hn sn fil srt len cc p0 p1 p2 p3).2.2.2.2.2 sb sf ss sw srt len := by
  unfold s_market
  split
  · exact h
  · split
    · exact h
    · split
      · rename_i k _ _ _ _ _ he
        obtain ⟨-, -, i9, m9, -, rfl, -⟩ := ftk_0 he (h.2.2.2.2.2 k)
        split
        · rename_i hf
          have hm9 : tn (nI m9) < 2 ^ 31 := by unfold tn; have := (nI m9).toInt_lt; unfold Int32.toNatClampNeg; omega
          generalize tn (nI m9) = m at hf hm9
          obtain ⟨g1, g2, g3, g4⟩ := ffS_ok hm9 hf
          have hd : ∀ j z, j < (m + 1) / 4 → z < 3 → goB (fun z => cc k (tn p2 + z)) (4 * j + z) = true := fun j z hj hz => g4 _ (by omega)
          refine ⟨⟨by show (m + 1) / 4 ≤ 8; omega, fun j => ?_, fun j hj => ?_⟩, ⟨Nat.zero_le _, h.2.1.2.1, h.2.1.2.2.1, fun j hj => absurd hj (Nat.not_lt_zero j)⟩, ⟨Nat.zero_le _, fun j hj => absurd hj (Nat.not_lt_zero j), fun j hj => absurd hj (Nat.not_lt_zero j), fun j hj => absurd hj (Nat.not_lt_zero j), h.2.2.1.2.2.2.2⟩, Or.inr (by show 2 ≤ (m + 1) / 4; omega), h.2.2.2.2⟩
          · show layF w ((m + 1) / 4) (fun q => numV (fun z => cc k (tn p2 + z)) (4 * q)) j ≤ 999
            by_cases c : j < (m + 1) / 4
            · rw [layF_in c]
              exact numV_b (fun z hz => (goB_dig (by omega) (hd j z c hz)).2)
            · unfold layF; rw [if_neg c]; exact h.1.2.1 j
          · show 1 ≤ layF w ((m + 1) / 4) (fun q => numV (fun z => cc k (tn p2 + z)) (4 * q)) j
            rw [layF_in hj]
            have h2 := hd j 2 hj (by decide)
            rw [goB_d (by omega)] at h2
            have h3 := (of_decide_eq_true h2).2.2 (by omega)
            rw [Nat.add_sub_cancel] at h3
            exact Nat.pos_of_ne_zero h3
        · exact h
      · exact h
theorem LV.weigh {p0 p1 : Int32} (h : LV n w hn kd pt sn sb sf ss sw srt len) : LV n (s_weigh n w p0 p1).2 hn kd pt sn sb sf ss sw srt len := by
  unfold s_weigh
  split
  · exact h
  · split
    · exact h
    · rename_i x _ _ v hv
      have h1 := rW_some hv (by decide) (by decide)
      refine ⟨⟨h.1.1, fun j => ?_, fun j hj => ?_⟩, h.2⟩
      · show up w x v j ≤ 999
        unfold up; split; exact h1.2; exact h.1.2.1 j
      · show 1 ≤ up w x v j
        unfold up; split; exact h1.1; exact h.1.2.2 j hj
theorem LV.hand {p0 p1 : Int32} (h : LV n w hn kd pt sn sb sf ss sw srt len) : LV n w (s_hand n hn kd pt p0 p1).2.1 (s_hand n hn kd pt p0 p1).2.2.1 (s_hand n hn kd pt p0 p1).2.2.2 sn sb sf ss sw srt len := by
  unfold s_hand
  split
  · exact h
  · split
    · exact h
    · rename_i k hk _ p hp
      have h1 := rW_some hk (by decide) (by decide)
      have h2 := rW_some hp (by decide) (by decide)
      split
      · exact h
      · split
        · rename_i hn0 h6
          refine ⟨h.1, ⟨by show hn + 1 ≤ 6; omega, fun j => ?_, fun j => ?_, fun j hj => ?_⟩, ⟨h.2.2.1.1, fun j hj => Nat.lt_succ_of_lt (h.2.2.1.2.1 j hj), h.2.2.1.2.2⟩, Or.inr (h.2.2.2.1.resolve_left (fun q => hn0 q.1)), h.2.2.2.2⟩
          · show up kd hn k j ≤ 2
            unfold up; split; exact h1.2; exact h.2.1.2.1 j
          · show up pt hn p j ≤ 20
            unfold up; split; exact h2.2; exact h.2.1.2.2.1 j
          · show 1 ≤ up pt hn p j
            unfold up
            split
            · exact h2.1
            · have hj2 : j < hn + 1 := hj
              exact h.2.1.2.2.2 j (by omega)
        · exact h
theorem LV.saying {p0 p1 p2 p3 : Int32} (h : LV n w hn kd pt sn sb sf ss sw srt len) : LV n w hn kd pt (s_saying n hn sn sb sf ss sw p0 p1 p2 p3).2.1 (s_saying n hn sn sb sf ss sw p0 p1 p2 p3).2.2.1 (s_saying n hn sn sb sf ss sw p0 p1 p2 p3).2.2.2.1 (s_saying n hn sn sb sf ss sw p0 p1 p2 p3).2.2.2.2.1 (s_saying n hn sn sb sf ss sw p0 p1 p2 p3).2.2.2.2.2 srt len := by
  have hn6 := h.2.1.1
  have hn8 := h.1.1
  unfold s_saying
  split
  · exact h
  · split
    · exact h
    · split
      · exact h
      · split
        · exact h
        · split
          · exact h
          · split
            · rename_i a ha _ b hb _ c hc hne _ u hu h10
              have a1 := (rN_some ha (by omega)).1
              have b1 := (rN_some hb (by omega)).1
              have c1 := (rN_some hc (by omega)).1
              have u1 := rW_some hu (by decide) (by decide)
              refine ⟨h.1, h.2.1, ⟨by show sn + 1 ≤ 10; omega, fun j hj => ?_, fun j hj => ?_, fun j hj => ?_, fun j => ?_⟩, h.2.2.2⟩
              · show up sb sn a j < hn
                have hj2 : j < sn + 1 := hj
                unfold up; split; exact a1; exact h.2.2.1.2.1 j (by omega)
              · show up sf sn b j < n
                have hj2 : j < sn + 1 := hj
                unfold up; split; exact b1; exact h.2.2.1.2.2.1 j (by omega)
              · show up ss sn c j < n
                have hj2 : j < sn + 1 := hj
                unfold up; split; exact c1; exact h.2.2.1.2.2.2.1 j (by omega)
              · show up sw sn u j ≤ 1
                unfold up; split; exact u1.2; exact h.2.2.1.2.2.2.2 j
            · exact h
theorem LV.back {p0 : Int32} (h : LV n w hn kd pt sn sb sf ss sw srt len) : LV n w hn kd pt (s_back sn p0).2 sb sf ss sw srt len := by
  unfold s_back
  split
  · exact h
  · rename_i k _
    refine ⟨h.1, h.2.1, ⟨Nat.le_trans (Nat.sub_le _ _) h.2.2.1.1, fun j hj => ?_, fun j hj => ?_, fun j hj => ?_, h.2.2.1.2.2.2.2⟩, h.2.2.2⟩
    · exact h.2.2.1.2.1 j (Nat.lt_of_lt_of_le hj (Nat.sub_le _ _))
    · exact h.2.2.1.2.2.1 j (Nat.lt_of_lt_of_le hj (Nat.sub_le _ _))
    · exact h.2.2.1.2.2.2.1 j (Nat.lt_of_lt_of_le hj (Nat.sub_le _ _))
theorem LV.sheet {p0 p1 p2 : Int32} (h : LV n w hn kd pt sn sb sf ss sw srt len) : LV n w hn kd pt sn sb sf ss sw (s_sheet fil srt len cc p0 p1 p2).2.2.2.1 (s_sheet fil srt len cc p0 p1 p2).2.2.2.2.1 := by
  unfold s_sheet
  split
  · exact h
  · split
    · exact h
    · split
      · exact h
      · split
        · exact h
        · rename_i k _ _ r hr h40 h0
          have h1 := rW_some hr (by decide) (by decide)
          obtain ⟨j, -, hj, rfl⟩ := rW_of (a := 0) (b := 40) (Int32.not_lt.mp h0) (Int32.not_lt.mp h40) (by decide) (by decide)
          refine ⟨h.1, h.2.1, h.2.2.1, h.2.2.2.1, fun z => ?_, fun z => ?_⟩
          · show up srt k r z ≤ 2
            unfold up; split; exact h1.2; exact h.2.2.2.2.1 z
          · show up len k (tn (nI j)) z ≤ 40
            rw [tn_N (by omega)]
            unfold up; split; exact hj; exact h.2.2.2.2.2 z
theorem hmc_lose {p0 : Int32} (hmc : ∀ k, k < 4 → fil k = true → ∀ j, j < len k → mc (40 * k + j) = cc k j) : ∀ k, k < 4 → (s_lose fil p0).2 k = true → ∀ j, j < len k → mc (40 * k + j) = cc k j := by
  unfold s_lose
  split
  · exact hmc
  · intro k hk hf
    refine hmc k hk ?_
    rename_i z _
    have hf2 : upB fil z false k = true := hf
    unfold upB at hf2
    split at hf2
    · cases hf2
    · exact hf2
end LVS
theorem and63 (v : Int32) : ∃ j, j < 64 ∧ v &&& nI 63 = nI j := by
  have h : (v &&& 63).toInt = v.toInt % 64 := Jvm.Kit.i32_mask (k := 6) v 63 (by decide) (by decide)
  refine ⟨(v.toInt % 64).toNat, by omega, ?_⟩
  apply Int32.toInt_inj.mp
  rw [nI_toInt (by omega)]
  show (v &&& 63).toInt = _
  rw [h]
  omega
/-! the law's frame -/
def LwX (x : vX) (b L : Nat) (xs : Nat → Int32) : Prop := match x with
  | (_, _, _, _, s, _, _, _, _, _, _, _, _, A, _) => va_X b L xs s s.heap ∧ b < s.heap.size ∧ ¬ A b ∧ L ≤ 3584
/-- what the law's end needs -/
def LwE (x : vX) : Prop := ∀ (lv : List (Option Value)) (ws : va_W) (pc : Nat), decode code pc = .ok (.ireturn, 1) → vM x pc lv [.int 1] ws
theorem LwX.hL {x : vX} {b L : Nat} {xs : Nat → Int32} (h : LwX x b L xs) : L ≤ 3584 := by
  obtain ⟨g0, p, e, R, s, m, args, below, meth, c, cells, slots, Q, A, nL0⟩ := x
  exact h.2.2.2
section VML
variable {x : vX} {g : vG} {cc : ByteArray} {own : String} {rm : Room} {nL : Nat} {pc : Nat} {lv : List (Option Value)} {st : List Value} {ws : va_W} {b L : Nat} {xs : Nat → Int32}
theorem v_sld {i : Nat} (h : Ok x g cc own rm nL) (hX : LwX x b L xs) (hi : i < L) (hd : decode cc pc = .ok (.iaload, 1)) (k : vM x (pc + 1) lv (.int (xs i) :: st) ws) : vM x pc lv (.int (nI i) :: .ref b :: st) ws := by
  obtain ⟨g0, p, e, R, s, m, args, below, meth, c, cells, slots, Q, A, nL0⟩ := x
  obtain ⟨rfl, rfl, rfl, hx, hb, hml, hown, hts, hK, hA, hlk, hnw, hcl, hsl⟩ := h
  obtain ⟨h1, h2, h3, h4⟩ := hX
  intro H locs ls hP hD hS hl
  refine va_sld hx hb h1 h2 h3 hS (vp_in_nI hi (by omega)) hd ?_
  rw [nI_clamp (by omega)]
  exact k H locs ls hP hD hS hl
theorem v_slen (h : Ok x g cc own rm nL) (hX : LwX x b L xs) (hd : decode cc pc = .ok (.arraylength, 1)) (k : vM x (pc + 1) lv (.int (nI L) :: st) ws) : vM x pc lv (.ref b :: st) ws := by
  obtain ⟨g0, p, e, R, s, m, args, below, meth, c, cells, slots, Q, A, nL0⟩ := x
  obtain ⟨rfl, rfl, rfl, hx, hb, hml, hown, hts, hK, hA, hlk, hnw, hcl, hsl⟩ := h
  obtain ⟨h1, h2, h3, h4⟩ := hX
  intro H locs ls hP hD hS hl
  exact va_slen hx hb h1 h2 h3 hS hd (k H locs ls hP hD hS hl)
theorem v_tabIn {dflt lo hi : Int} {offs : Array Int} {len : Nat} {v : Int32} {off : Int} {tgt : Nat} (h : Ok x g cc own rm nL) (hd : decode cc pc = .ok (.tableswitch dflt lo hi offs, len)) (h1 : ¬ v.toInt < lo) (h2 : ¬ hi < v.toInt) (ho : offs[(v.toInt - lo).toNat]? = some off) (ht : (pc : Int) + off = (tgt : Int)) (k : vM x tgt lv st ws) : vM x pc lv (.int v :: st) ws := by
  obtain ⟨g0, p, e, R, s, m, args, below, meth, c, cells, slots, Q, A, nL0⟩ := x
  obtain ⟨rfl, rfl, rfl, hx, hb, hml, hown, hts, hK, hA, hlk, hnw, hcl, hsl⟩ := h
  exact fun H locs ls hP hD hS hl => lv_tableIn hx hb hd h1 h2 ho ht (k H locs ls hP hD hS hl)
theorem v_tabOut {dflt lo hi : Int} {offs : Array Int} {len : Nat} {v : Int32} {tgt : Nat} (h : Ok x g cc own rm nL) (hd : decode cc pc = .ok (.tableswitch dflt lo hi offs, len)) (h1 : v.toInt < lo ∨ hi < v.toInt) (ht : (pc : Int) + dflt = (tgt : Int)) (k : vM x tgt lv st ws) : vM x pc lv (.int v :: st) ws := by
  obtain ⟨g0, p, e, R, s, m, args, below, meth, c, cells, slots, Q, A, nL0⟩ := x
  obtain ⟨rfl, rfl, rfl, hx, hb, hml, hown, hts, hK, hA, hlk, hnw, hcl, hsl⟩ := h
  exact fun H locs ls hP hD hS hl => lv_tableOut hx hb hd h1 ht (k H locs ls hP hD hS hl)
theorem v_lcmp {u v : Int64} (h : Ok x g cc own rm nL) (hd : decode cc pc = .ok (.lcmp, 1)) (k : vM x (pc + 1) lv (.int (lg_cmp u v) :: st) ws) : vM x pc lv (.long v :: .long u :: st) ws := by
  obtain ⟨g0, p, e, R, s, m, args, below, meth, c, cells, slots, Q, A, nL0⟩ := x
  obtain ⟨rfl, rfl, rfl, hx, hb, hml, hown, hts, hK, hA, hlk, hnw, hcl, hsl⟩ := h
  exact fun H locs ls hP hD hS hl => W.lcmp hx hb hd (k H locs ls hP hD hS hl)
end VML
/-! a call in one half of the world -/
theorem vset_app : ∀ (is : List Nat) (wo a b : va_W), (∀ i ∈ is, i < a.length) → vset (a ++ b) is wo = vset a is wo ++ b
  | [], wo, a, b, _ => by cases wo <;> rfl
  | i :: is, [], a, b, _ => rfl
  | i :: is, d :: wo, a, b, h => by
    show vset ((a ++ b).set i d) is wo = vset (a.set i d) is wo ++ b
    rw [List.set_append_left _ _ (h i List.mem_cons_self)]
    exact vset_app is wo (a.set i d) b (fun j hj => by rw [List.length_set]; exact h j (List.mem_cons_of_mem _ hj))
theorem vset_all : ∀ (b wo a : va_W), wo.length = b.length → vset (a ++ b) (List.range' a.length b.length) wo = a ++ wo
  | [], [], a, _ => rfl
  | [], _ :: _, a, h => by simp at h
  | _ :: _, [], a, h => by simp at h
  | c :: b, d :: wo, a, h => by
    rw [List.length_cons, List.range'_succ]
    show vset ((a ++ c :: b).set a.length d) (List.range' (a.length + 1) b.length) wo = a ++ d :: wo
    have e1 : (a ++ c :: b).set a.length d = (a ++ [d]) ++ b := by
      rw [List.set_append_right _ _ (Nat.le_refl _), Nat.sub_self]
      simp
    have e2 : a.length + 1 = (a ++ [d]).length := by simp
    rw [e1, e2, vset_all b wo (a ++ [d]) (by simpa using h)]
    simp
/-- two halves of a world -/
def wcat (a b : va_W) : va_W := a ++ b
section VMA
variable {x : vX} {g : vG} {cc : ByteArray} {own : String} {rm : Room} {nL : Nat} {pc : Nat} {lv : List (Option Value)}
theorem v_callVPr {idx n : Nat} {y : MethodName} {bytes : ByteArray} {ml : Nat} {ret : Option FieldType} {rmc : Room} {wa wi : va_W} {a : Nat} {As rest : List Value} {P : Option Value → va_W → Prop} {ci : Nat} {q : vw_C} {fs : List Value} (h : Ok x g cc own rm nL) (hc : CtP g y bytes ml ret rmc wi (.ref a :: As) P) (lk : LkV own idx y bytes ml ret n) (hrm : RmOk rmc rm ml) (hcl : vwCl[ci]? = some q) (hq : y.cls = q.1) (h0 : wi[0]? = some (a, .inr (ci, fs))) (hn : As.length = n) (isC : List Nat) (hr : isC = List.range' wa.length wi.length) (hC : isC.map (fun i => (wa ++ wi)[i]?) = wi.map some) (hnd : va_nd isC = true) (hW : (rest.map fun v => v.category).sum ≤ 8) (hd : decode cc pc = .ok (.invokevirtual idx, 3)) (hlen : ∀ r wo, P r wo → wo.length = wi.length) (k : ∀ (r : Option Value) (wo : va_W), P r wo → vM x (pc + 3) lv (r.toList ++ rest) (wcat wa wo)) : vM x pc lv (As.reverse ++ .ref a :: rest) (wcat wa wi) :=
  v_callVP h hc lk hrm hcl hq h0 hn isC hC hnd hW hd (fun r wo hp => by show vM x (pc + 3) lv (r.toList ++ rest) (vset (wa ++ wi) isC wo); rw [hr, vset_all wi wo wa (hlen r wo hp)]; exact k r wo hp)
theorem v_callVPl {idx n : Nat} {y : MethodName} {bytes : ByteArray} {ml : Nat} {ret : Option FieldType} {rmc : Room} {wa wb wi : va_W} {a : Nat} {As rest : List Value} {P : Option Value → va_W → Prop} {ci : Nat} {q : vw_C} {fs : List Value} (h : Ok x g cc own rm nL) (hc : CtP g y bytes ml ret rmc wi (.ref a :: As) P) (lk : LkV own idx y bytes ml ret n) (hrm : RmOk rmc rm ml) (hcl : vwCl[ci]? = some q) (hq : y.cls = q.1) (h0 : wi[0]? = some (a, .inr (ci, fs))) (hn : As.length = n) (isC : List Nat) (hC : isC.map (fun i => wa[i]?) = wi.map some) (hnd : va_nd isC = true) (hW : (rest.map fun v => v.category).sum ≤ 8) (hd : decode cc pc = .ok (.invokevirtual idx, 3)) (k : ∀ (r : Option Value) (wo : va_W), P r wo → vM x (pc + 3) lv (r.toList ++ rest) (wcat (vset wa isC wo) wb)) : vM x pc lv (As.reverse ++ .ref a :: rest) (wcat wa wb) := by
  have hlt : ∀ i ∈ isC, i < wa.length := fun i hi => by
    obtain ⟨j, hj⟩ := List.getElem?_of_mem hi
    have h1 : (isC.map (fun i => wa[i]?))[j]? = some (wa[i]?) := by rw [List.getElem?_map, hj]; rfl
    rw [hC, List.getElem?_map] at h1
    cases hz : wi[j]? with
    | none => rw [hz] at h1; simp at h1
    | some z =>
      rw [hz] at h1
      have h2 : wa[i]? = some z := by simpa using h1.symm
      exact (List.getElem?_eq_some_iff.mp h2).1
  have hC2 : isC.map (fun i => (wa ++ wb)[i]?) = wi.map some := by
    rw [← hC]
    exact List.map_congr_left (fun i hi => List.getElem?_append_left (hlt i hi))
  exact v_callVP h hc lk hrm hcl hq h0 hn isC hC2 hnd hW hd (fun r wo hp => by show vM x (pc + 3) lv (r.toList ++ rest) (vset (wa ++ wb) isC wo); rw [vset_app isC wo wa wb hlt]; exact k r wo hp)
end VMA
