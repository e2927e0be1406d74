/-! the law's frame: the script, that is no cell of the world -/
def LwX (x : vX) (b L : Nat) (xs : Nat → Int32) : Prop := match x with
  | (_, _, _, _, s, _, _, _, _, _, _, _, _, A, _) => va_X b L xs s s.heap ∧ b < s.heap.size ∧ ¬ A b ∧ L ≤ 260
theorem LwX.hL {x : vX} {b L : Nat} {xs : Nat → Int32} (h : LwX x b L xs) : L ≤ 260 := by
  obtain ⟨g0, p, e, R, s, m, args, below, meth, c, cells, slots, Q, A, nL0⟩ := x
  exact h.2.2.2
theorem LwX.grow {x : vX} {b L a1 a2 : Nat} {xs : Nat → Int32} (h : LwX x b L xs) : LwX (vgr x a1 a2) b L xs := by
  obtain ⟨g0, p, e, R, s, m, args, below, meth, c, cells, slots, Q, A, nL0⟩ := x
  exact h
/-- two parts of a world -/
def wcat (a b : va_W) : va_W := a ++ b
/-- contracts of methods that read the script -/
def vPreX (g : vG) (b L : Nat) (xs : Nat → Int32) (wi : va_W) (sz : Nat) (U : State) : Prop := vPre g wi sz U ∧ va_X b L xs U U.heap ∧ b < U.heap.size ∧ ∀ (k : Nat) (q : Nat × va_E), wi[k]? = some q → q.1 ≠ b
def CtX (g : vG) (b L : Nat) (xs : Nat → Int32) (y : MethodName) (cc : ByteArray) (maxL : Nat) (ret : Option FieldType) (rm : Room) (wi : va_W) (av : List Value) (P : Option Value → va_W → Prop) : Prop :=
  L ≤ 260 → ∀ sz : Nat, Met g.1 y (.code y cc maxL ret :: wsL_law) rm (va_Pc av (vPreX g b L xs wi sz)) (vPostP g wi P sz) 0 0 (va_A wi sz)
theorem CtX.ofV {g : vG} {b L : Nat} {xs : Nat → Int32} {y : MethodName} {cc : ByteArray} {maxL : Nat} {ret : Option FieldType} {rm : Room} {wi : va_W} {av : List Value} {P : Option Value → va_W → Prop} (own : String) (hown : y.cls = own) (hy : plainName y.cls = true) (hcs : rm.cells = 0) (hsl : rm.slots = 0) (hn : av.length ≤ maxL) (hc : ∀ v ∈ av, v.category = 1)
    (body : ∀ x : vX, Ok x g cc own rm maxL → LwX x b L xs → RetP x ret wi P → vM x 0 (av.map some ++ List.replicate (maxL - av.length) none) [] wi) : CtX g b L xs y cc maxL ret rm wi av P := by
  refine fun hL sz => Met.ofW (cc := cc) (maxL := maxL) (ret := ret) hy rfl ?_
  intro p e s m args below meth c s₁ B hml hv
  obtain ⟨rfl, ⟨hsz, hP, hK, hD0, hnw⟩, hXX, hbl, hne⟩ := hv
  have hts := atoms_spec (ws := .code y cc maxL ret :: wsL_law) B.pre
  have hfc : s.vm.findClass own = some m.cls := hown ▸ findClass_of_methodNamed B.named
  subst hsz
  have hb := body (g, p, e, (headSpec (.code y cc maxL ret :: wsL_law) rm).room, s, m, av.toArray, below, meth, c, 0, 0, MQ below (vPostP g wi P s.heap.size) av.toArray s 0 0 (va_A wi s.heap.size), va_A wi s.heap.size, maxL)
    ⟨rfl, rfl, rfl, B.exec, B.bytes, hml, hfc, fun w hw => hts w (List.mem_cons_of_mem _ hw), hK, fun q hq => Or.inr hq, B.notSynchronized, hnw, Nat.zero_le _, Nat.zero_le _⟩
    ⟨hXX, hbl, fun z => by
      rcases z with ⟨k, e9, hk⟩ | z
      · exact hne k _ hk rfl
      · exact Nat.lt_irrefl _ (Nat.lt_of_lt_of_le hbl z), hL⟩
    (fun r wo hPr hfst => ⟨B.returns, _, _, rfl, fun q h => h, fun t H locs ht hW hP2 hS => ⟨⟨r, wo, rfl, hPr, hfst, by rw [ht]; exact hP2⟩, hS.F ht⟩⟩)
  rw [lg_entry_eq]
  exact hb s.heap [] _ hP hD0.self va_S.rf (vL_entry av maxL hn hc)
theorem vPreX_blind {g : vG} {b L : Nat} {xs : Nat → Int32} {wi : va_W} {av : List Value} {sz : Nat} : FrameBlind (va_Pc av (vPreX g b L xs wi sz)) := fun a U g1 mk q => by
  obtain ⟨q0, ⟨q1, qP, qK, qD, qn⟩, qX, qb, qe⟩ := q
  exact ⟨q0, ⟨q1, qP, va_K.moved (u := U) (U := U.calling g1 mk a) (Vm.Alike.refl U.vm) qK, qD, vNw.same rfl qn⟩, va_X.moved (u := U) (U := U.calling g1 mk a) (Vm.Alike.refl U.vm) qX, qb, qe⟩
section VMX
variable {x : vX} {g : vG} {cc : ByteArray} {own : String} {rm : Room} {nL : Nat} {pc : Nat} {lv : List (Option Value)} {st : List Value} {ws : va_W} {b L : Nat} {xs : Nat → Int32}
theorem v_sld {i : Nat} (h : Ok x g cc own rm nL) (hX : LwX x b L xs) (hi : i < L) (hd : decode cc pc = .ok (.iaload, 1)) (k : vM x (pc + 1) lv (.int (xs i) :: st) ws) : vM x pc lv (.int (nI i) :: .ref b :: st) ws := by
  obtain ⟨g0, p, e, R, s, m, args, below, meth, c, cells, slots, Q, A, nL0⟩ := x
  obtain ⟨rfl, rfl, rfl, hx, hb, hml, hown, hts, hK, hA, hlk, hnw, hcl, hsl⟩ := h
  obtain ⟨h1, h2, h3, h4⟩ := hX
  intro H locs ls hP hD hS hl
  refine va_sld hx hb h1 h2 h3 hS (vp_in_nI hi (by omega)) hd ?_
  rw [nI_clamp (by omega)]
  exact k H locs ls hP hD hS hl
theorem v_slen (h : Ok x g cc own rm nL) (hX : LwX x b L xs) (hd : decode cc pc = .ok (.arraylength, 1)) (k : vM x (pc + 1) lv (.int (nI L) :: st) ws) : vM x pc lv (.ref b :: st) ws := by
  obtain ⟨g0, p, e, R, s, m, args, below, meth, c, cells, slots, Q, A, nL0⟩ := x
  obtain ⟨rfl, rfl, rfl, hx, hb, hml, hown, hts, hK, hA, hlk, hnw, hcl, hsl⟩ := h
  obtain ⟨h1, h2, h3, h4⟩ := hX
  intro H locs ls hP hD hS hl
  exact va_slen hx hb h1 h2 h3 hS hd (k H locs ls hP hD hS hl)
theorem v_lcmp {u v : Int64} (h : Ok x g cc own rm nL) (hd : decode cc pc = .ok (.lcmp, 1)) (k : vM x (pc + 1) lv (.int (lg_cmp u v) :: st) ws) : vM x pc lv (.long v :: .long u :: st) ws := by
  obtain ⟨g0, p, e, R, s, m, args, below, meth, c, cells, slots, Q, A, nL0⟩ := x
  obtain ⟨rfl, rfl, rfl, hx, hb, hml, hown, hts, hK, hA, hlk, hnw, hcl, hsl⟩ := h
  exact fun H locs ls hP hD hS hl => W.lcmp hx hb hd (k H locs ls hP hD hS hl)
theorem v_ldc {idx : Nat} {v : Int32} (h : Ok x g cc own rm nL) (hc : Cond.constant own idx v ∈ wsL_law) (hd : decode cc pc = .ok (.ldc idx, 2)) (k : vM x (pc + 2) lv (.int v :: st) ws) : vM x pc lv st ws := by
  obtain ⟨g0, p, e, R, s, m, args, below, meth, c, cells, slots, Q, A, nL0⟩ := x
  obtain ⟨rfl, rfl, rfl, hx, hb, hml, hown, hts, hK, hA, hlk, hnw, hcl, hsl⟩ := h
  exact fun H locs ls hP hD hS hl => lv_ldc hx hb hown (hts _ hc) hd (k H locs ls hP hD hS hl)
/-- a static call of a method that reads the script -/
theorem v_callSX {idx n : Nat} {y : MethodName} {bytes : ByteArray} {ml : Nat} {ret : Option FieldType} {rmc : Room} {wi : va_W} {As rest : List Value} {P : Option Value → va_W → Prop} (h : Ok x g cc own rm nL) (hX : LwX x b L xs) (hc : CtX g b L xs y bytes ml ret rmc wi As P) (lk : LkS own idx y bytes ml ret n) (hrm : RmOk rmc rm ml) (hn : As.length = n) (isC : List Nat) (hC : isC.map (fun i => ws[i]?) = wi.map some) (hnd : va_nd isC = true) (hW : (rest.map fun v => v.category).sum ≤ 8) (hd : decode cc pc = .ok (.invokestatic idx, 3)) (k : ∀ (r : Option Value) (wo : va_W), P r wo → wo.map (fun q => q.1) = wi.map (fun q => q.1) → vM x (pc + 3) lv (r.toList ++ rest) (vset ws isC wo)) : vM x pc lv (As.reverse ++ rest) ws := by
  obtain ⟨g0, p, e, R, s, m, args, below, meth, c, cells, slots, Q, A, nL0⟩ := x
  obtain ⟨rfl, rfl, rfl, hx, hb, hml, hown, hts, hK, hA, hlk, hnw, hcl', hsl⟩ := h
  obtain ⟨hl1, hl3, hl4, hl5, hl6⟩ := lk
  obtain ⟨hr1, hr2, hr3, hr4⟩ := hrm
  obtain ⟨x1, x2, x3, x4⟩ := hX
  intro H locs ls hP hD hS hl
  have hPc := hP.sub isC (filterMap_of_map hC)
  have hDc := hD.sub isC hnd hC
  have hFc := va_free (wc := wi) hD hS hA isC hC
  have hX1 := x1.kept (hS.2.1 b x2 x3)
  have hrun := va_runS (H := H) (locs := locs) (cells := cells) (slots := slots) (below := below) (meth := meth) (e := e) (As := As) (rest := rest) (g := F0 m pc ls (As.reverse ++ rest)) (Ts := wsL_law) (own := own) ⟨hx, hb, hml, hown, hts⟩ (hc x4 H.size) ⟨callB_of n hts (ws_goodIn hl5) rfl hr1 hr2 (hts _ hl4) (hts _ hl1) hl6 ⟨hr3, hr4⟩, hts _ hl3⟩ ⟨vPreX_blind, fun U hU hW2 => ⟨rfl, ⟨by rw [hU], by rw [hU]; exact hPc, va_K.moved hW2.alike hK, hDc.weaken (fun _ _ _ _ => trivial), hnw.warm hW2⟩, va_X.moved hW2.alike (by rw [hU]; exact hX1), by rw [hU]; exact Nat.lt_of_lt_of_le x2 hS.1, fun k9 q9 hq9 e9 => x3 (e9 ▸ hDc.2 k9 q9 hq9)⟩⟩ rfl hn hl.1 rfl (lv_room hW) hd ⟨hcl', hsl⟩
  intro T hT X
  obtain ⟨v, st₀, t, T', L, e0, X', hL, e1, e2, ⟨⟨r, wo, hv, hPr, hfst, hPo⟩, hz, hk⟩, stp⟩ := hrun T hT X
  cases hv
  rw [e0] at hz hk
  obtain ⟨hP', hD'⟩ := vset_P (H1 := T'.heap) hP hD hC (by rw [e1]; exact hPo) hfst (fun q h1 h2 => by rw [e1]; exact hk q h1 h2)
  obtain ⟨t2, a1, b1⟩ := k _ wo hPr hfst T'.heap (locs ++ L) ls hP' hD' ⟨Nat.le_trans hS.1 (by rw [e1]; exact hz), fun q h1 h2 => by rw [e1, hk q (Nat.lt_of_lt_of_le h1 hS.1) (fun z => h2 (hFc q z))]; exact hS.2.1 q h1 h2, fun q hq => by
      rcases List.mem_append.mp hq with h | h
      · exact hS.2.2 q h
      · exact hFc _ (hL q h)⟩ hl T' rfl X'
  exact ⟨t2, stp t2 a1, b1⟩
/-- forget the second cell of the first part -/
theorem vM.drop2 {c0 c1 : Nat × va_E} {wb : va_W} (k : vM x pc lv st (wcat [c0] wb)) : vM x pc lv st (wcat [c0, c1] wb) := by
  obtain ⟨g0, p, e, R, s, m, args, below, meth, c, cells, slots, Q, A, nL0⟩ := x
  intro H locs ls hP hD hS hl
  have key : ∀ (i : Nat) (q : Nat × va_E), (wcat [c0] wb)[i]? = some q → (wcat [c0, c1] wb)[if i = 0 then 0 else i + 1]? = some q := by
    intro i q hq
    rcases i with _ | i
    · exact hq
    · rw [if_neg (by omega)]
      exact hq
  refine k H locs ls (fun i q hq => hP _ q (key i q hq)) ⟨fun i j p q h1 h2 e9 => ?_, fun i q hq => hD.2 _ q (key i q hq)⟩ hS hl
  have := hD.1 _ _ p q (key i p h1) (key j q h2) e9
  by_cases hi : i = 0
  · by_cases hj : j = 0
    · omega
    · rw [if_pos hi, if_neg hj] at this; omega
  · by_cases hj : j = 0
    · rw [if_neg hi, if_pos hj] at this; omega
    · rw [if_neg hi, if_neg hj] at this; omega
end VMX
theorem vset_shift : ∀ (is : List Nat) (wo a b : va_W), vset (a ++ b) (is.map (fun i => i + a.length)) wo = a ++ vset b is wo
  | [], wo, a, b => by cases wo <;> rfl
  | i :: is, [], a, b => rfl
  | i :: is, d :: wo, a, b => by
    show vset ((a ++ b).set (i + a.length) d) (is.map (fun i => i + a.length)) wo = a ++ vset (b.set i d) is wo
    rw [List.set_append_right _ _ (by omega), Nat.add_sub_cancel]
    exact vset_shift is wo a (b.set i d)
theorem nd_shift (c : Nat) : ∀ l : List Nat, va_nd l = true → va_nd (l.map (fun i => i + c)) = true
  | [], h => h
  | i :: l, h => by
    simp only [va_nd, List.map_cons, Bool.and_eq_true, decide_eq_true_eq] at h ⊢
    refine ⟨fun hm => ?_, nd_shift c l h.2⟩
    obtain ⟨j, hj, e⟩ := List.mem_map.mp hm
    have : j = i := by omega
    subst this
    exact h.1 hj
theorem nd_range : ∀ (n a : Nat), va_nd (List.range' a n) = true
  | 0, a => rfl
  | n + 1, a => by
    rw [List.range'_succ]
    simp only [va_nd, Bool.and_eq_true, decide_eq_true_eq]
    refine ⟨fun hm => ?_, nd_range n (a + 1)⟩
    have := (List.mem_range'_1.mp hm).1
    omega
theorem map_all : ∀ (b a : va_W), (List.range' a.length b.length).map (fun i => (a ++ b)[i]?) = b.map some
  | [], a => rfl
  | c :: b, a => by
    rw [List.length_cons, List.range'_succ, List.map_cons, List.map_cons]
    have e1 : (a ++ c :: b)[a.length]? = some c := by rw [List.getElem?_append_right (Nat.le_refl _), Nat.sub_self]; rfl
    have e2 : a ++ c :: b = (a ++ [c]) ++ b := by simp
    have e3 : a.length + 1 = (a ++ [c]).length := by simp
    rw [e1, e2, e3, map_all b (a ++ [c])]
theorem vset_all : ∀ (b wo a : va_W), wo.length = b.length → vset (a ++ b) (List.range' a.length b.length) wo = a ++ wo
  | [], [], a, _ => rfl
  | [], _ :: _, a, h => by simp at h
  | _ :: _, [], a, h => by simp at h
  | c :: b, d :: wo, a, h => by
    rw [List.length_cons, List.range'_succ]
    show vset ((a ++ c :: b).set a.length d) (List.range' (a.length + 1) b.length) wo = a ++ d :: wo
    have e1 : (a ++ c :: b).set a.length d = (a ++ [d]) ++ b := by
      rw [List.set_append_right _ _ (Nat.le_refl _), Nat.sub_self]
      simp
    have e2 : a.length + 1 = (a ++ [d]).length := by simp
    rw [e1, e2, vset_all b wo (a ++ [d]) (by simpa using h)]
    simp
section VMA
variable {x : vX} {g : vG} {cc : ByteArray} {own : String} {rm : Room} {nL : Nat} {pc : Nat} {lv : List (Option Value)} {b L : Nat} {xs : Nat → Int32}
/-- a call of a method that reads the script, over the whole world -/
theorem v_callSXa {idx n : Nat} {y : MethodName} {bytes : ByteArray} {ml : Nat} {ret : Option FieldType} {rmc : Room} {ws : va_W} {As rest : List Value} {P : Option Value → va_W → Prop} (h : Ok x g cc own rm nL) (hX : LwX x b L xs) (hc : CtX g b L xs y bytes ml ret rmc ws As P) (lk : LkS own idx y bytes ml ret n) (hrm : RmOk rmc rm ml) (hn : As.length = n) (hW : (rest.map fun v => v.category).sum ≤ 8) (hd : decode cc pc = .ok (.invokestatic idx, 3)) (k : ∀ (r : Option Value) (wo : va_W), P r wo → vM x (pc + 3) lv (r.toList ++ rest) wo) : vM x pc lv (As.reverse ++ rest) ws := by
  refine v_callSX h hX hc lk hrm hn (List.range' 0 ws.length) (map_all ws []) (nd_range _ _) hW hd (fun r wo hp hf => ?_)
  have e := vset_all ws wo [] (by have := congrArg List.length hf; simpa using this)
  simp only [List.nil_append, List.length_nil] at e
  rw [e]
  exact k r wo hp
/-- a call in the second part of the world -/
theorem v_callVPq {idx n : Nat} {y : MethodName} {bytes : ByteArray} {ml : Nat} {ret : Option FieldType} {rmc : Room} {wa wb wi : va_W} {a : Nat} {As rest : List Value} {P : Option Value → va_W → Prop} {ci : Nat} {q : vw_C} {fs : List Value} (h : Ok x g cc own rm nL) (hc : CtP g y bytes ml ret rmc wi (.ref a :: As) P) (lk : LkV own idx y bytes ml ret n) (hrm : RmOk rmc rm ml) (hcl : vwCl[ci]? = some q) (hq : y.cls = q.1) (h0 : wi[0]? = some (a, .inr (ci, fs))) (hn : As.length = n) (isC : List Nat) (hC : isC.map (fun i => wb[i]?) = wi.map some) (hnd : va_nd isC = true) (hW : (rest.map fun v => v.category).sum ≤ 8) (hd : decode cc pc = .ok (.invokevirtual idx, 3)) (k : ∀ (r : Option Value) (wo : va_W), P r wo → vM x (pc + 3) lv (r.toList ++ rest) (wcat wa (vset wb isC wo))) : vM x pc lv (As.reverse ++ .ref a :: rest) (wcat wa wb) := by
  have hC2 : (isC.map (fun i => i + wa.length)).map (fun i => (wa ++ wb)[i]?) = wi.map some := by
    rw [← hC, List.map_map]
    exact List.map_congr_left (fun i _ => by show (wa ++ wb)[i + wa.length]? = wb[i]?; rw [List.getElem?_append_right (by omega), Nat.add_sub_cancel])
  exact v_callVP h hc lk hrm hcl hq h0 hn _ hC2 (nd_shift _ _ hnd) hW hd (fun r wo hp => by show vM x (pc + 3) lv (r.toList ++ rest) (vset (wa ++ wb) (isC.map (fun i => i + wa.length)) wo); rw [vset_shift]; exact k r wo hp)
end VMA
