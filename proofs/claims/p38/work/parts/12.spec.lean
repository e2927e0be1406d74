/-! contracts whose end is told by a predicate (scratch cells are any) -/
def vPostP (g : vG) (wi : va_W) (P : Option Value → va_W → Prop) (sz : Nat) : Array Value → State → Outcome → State → Prop := fun _ st oc t => (∃ (r : Option Value) (wo : va_W), oc = .returned r ∧ P r wo ∧ wo.map (fun q => q.1) = wi.map (fun q => q.1) ∧ va_P (gD g) vwCl wo t.heap) ∧ va_F (va_A wi sz) st t
def CtP (g : vG) (y : MethodName) (cc : ByteArray) (maxL : Nat) (ret : Option FieldType) (rm : Room) (wi : va_W) (av : List Value) (P : Option Value → va_W → Prop) : Prop :=
  ∀ sz : Nat, Met g.1 y (.code y cc maxL ret :: wsL_law) rm (va_Pc av (vPre g wi sz)) (vPostP g wi P sz) 0 0 (va_A wi sz)
def RetP (x : vX) (ret : Option FieldType) (wi : va_W) (P : Option Value → va_W → Prop) : Prop := ∀ (r : Option Value) (wo : va_W), P r wo → wo.map (fun q => q.1) = wi.map (fun q => q.1) → Ret x ret r wo
theorem CtP.ofV {g : vG} {y : MethodName} {cc : ByteArray} {maxL : Nat} {ret : Option FieldType} {rm : Room} {wi : va_W} {av : List Value} {P : Option Value → va_W → Prop} (own : String) (hown : y.cls = own) (hy : plainName y.cls = true) (hcs : rm.cells = 0) (hsl : rm.slots = 0) (hn : av.length ≤ maxL) (hc : ∀ v ∈ av, v.category = 1)
    (body : ∀ x : vX, Ok x g cc own rm maxL → RetP x ret wi P → vM x 0 (av.map some ++ List.replicate (maxL - av.length) none) [] wi) : CtP g y cc maxL ret rm wi av P := by
  refine fun sz => Met.ofW (cc := cc) (maxL := maxL) (ret := ret) hy rfl ?_
  intro p e s m args below meth c s₁ B hml hv
  obtain ⟨rfl, hsz, hP, hK, hD0, hnw⟩ := hv
  have hts := atoms_spec (ws := .code y cc maxL ret :: wsL_law) B.pre
  have hfc : s.vm.findClass own = some m.cls := hown ▸ findClass_of_methodNamed B.named
  subst hsz
  have hb := body (g, p, e, (headSpec (.code y cc maxL ret :: wsL_law) rm).room, s, m, av.toArray, below, meth, c, 0, 0, MQ below (vPostP g wi P s.heap.size) av.toArray s 0 0 (va_A wi s.heap.size), va_A wi s.heap.size, maxL)
    ⟨rfl, rfl, rfl, B.exec, B.bytes, hml, hfc, fun w hw => hts w (List.mem_cons_of_mem _ hw), hK, fun q hq => Or.inr hq, B.notSynchronized, hnw, Nat.zero_le _, Nat.zero_le _⟩
    (fun r wo hPr hfst => ⟨B.returns, _, _, rfl, fun q h => h, fun t H locs ht hW hP2 hS => ⟨⟨r, wo, rfl, hPr, hfst, by rw [ht]; exact hP2⟩, hS.F ht⟩⟩)
  rw [lg_entry_eq]
  exact hb s.heap [] _ hP hD0.self va_S.rf (vL_entry av maxL hn hc)
section VMP
variable {x : vX} {g : vG} {cc : ByteArray} {own : String} {rm : Room} {nL : Nat} {pc : Nat} {lv : List (Option Value)} {st : List Value} {ws : va_W}
theorem v_iretP {v : Int32} {wi : va_W} {P : Option Value → va_W → Prop} (h : Ok x g cc own rm nL) (hr : RetP x (some .int) wi P) (hd : decode cc pc = .ok (.ireturn, 1)) (hp : P (some (.int v)) ws) (hf : ws.map (fun q => q.1) = wi.map (fun q => q.1)) : vM x pc lv [.int v] ws := v_iret h (hr _ _ hp hf) hd rfl rfl
theorem v_lretP {v : Int64} {wi : va_W} {P : Option Value → va_W → Prop} (h : Ok x g cc own rm nL) (hr : RetP x (some .long) wi P) (hd : decode cc pc = .ok (.lreturn, 1)) (hp : P (some (.long v)) ws) (hf : ws.map (fun q => q.1) = wi.map (fun q => q.1)) : vM x pc lv [.long v] ws := v_lret h (hr _ _ hp hf) hd rfl rfl
theorem v_callVP {idx n : Nat} {y : MethodName} {bytes : ByteArray} {ml : Nat} {ret : Option FieldType} {rmc : Room} {wi : va_W} {a : Nat} {As rest : List Value} {P : Option Value → va_W → Prop} {ci : Nat} {q : vw_C} {fs : List Value} (h : Ok x g cc own rm nL) (hc : CtP g y bytes ml ret rmc wi (.ref a :: As) P) (lk : LkV own idx y bytes ml ret n) (hrm : RmOk rmc rm ml) (hcl : vwCl[ci]? = some q) (hq : y.cls = q.1) (h0 : wi[0]? = some (a, .inr (ci, fs))) (hn : As.length = n) (isC : List Nat) (hC : isC.map (fun i => ws[i]?) = wi.map some) (hnd : va_nd isC = true) (hW : (rest.map fun v => v.category).sum ≤ 8) (hd : decode cc pc = .ok (.invokevirtual idx, 3)) (k : ∀ (r : Option Value) (wo : va_W), P r wo → vM x (pc + 3) lv (r.toList ++ rest) (vset ws isC wo)) : vM x pc lv (As.reverse ++ .ref a :: rest) ws := by
  obtain ⟨g0, p, e, R, s, m, args, below, meth, c, cells, slots, Q, A, nL0⟩ := x
  obtain ⟨rfl, rfl, rfl, hx, hb, hml, hown, hts, hK, hA, hlk, hnw, hcl', hsl⟩ := h
  obtain ⟨hl1, hl2, hl3, hl4, hl5, hl6⟩ := lk
  obtain ⟨hr1, hr2, hr3, hr4⟩ := hrm
  intro H locs ls hP hD hS hl
  have hPc := hP.sub isC (filterMap_of_map hC)
  have hDc := hD.sub isC hnd hC
  have hFc := va_free (wc := wi) hD hS hA isC hC
  have cw : CallW R s args own y.cls idx y bytes ml ret (.code y bytes ml ret :: wsL_law) rmc 0 0 n := ⟨callB_of n hts (ws_goodIn hl5) rfl hr1 hr2 (hts _ hl4) (hts _ hl1) hl6 ⟨hr3, hr4⟩, hts _ hl2, hts _ hl3⟩
  have hrun := va_runV (H := H) (locs := locs) (cells := cells) (slots := slots) (below := below) (meth := meth) (e := e) (As := As) (rest := rest) (b := a) (g := F0 m pc ls (As.reverse ++ .ref a :: rest)) (Ts := wsL_law) (own := own) (C := y.cls) ⟨hx, hb, hml, hown, hts⟩ (hc H.size) cw ⟨vPre_blind, by rw [hq]; exact va_recv hK hPc hcl h0, fun U hU hW2 => ⟨rfl, by rw [hU], by rw [hU]; exact hPc, va_K.moved hW2.alike hK, hDc.weaken (fun _ _ _ _ => trivial), hnw.warm hW2⟩⟩ rfl hn hl.1 rfl (lv_room hW) hd ⟨hcl', hsl⟩
  intro T hT X
  obtain ⟨v, st₀, t, T', L, e0, X', hL, e1, e2, ⟨⟨r, wo, hv, hPr, hfst, hPo⟩, hz, hk⟩, stp⟩ := hrun T hT X
  cases hv
  rw [e0] at hz hk
  obtain ⟨hP', hD'⟩ := vset_P (H1 := T'.heap) hP hD hC (by rw [e1]; exact hPo) hfst (fun q h1 h2 => by rw [e1]; exact hk q h1 h2)
  obtain ⟨t2, a1, b1⟩ := k _ wo hPr T'.heap (locs ++ L) ls hP' hD' ⟨Nat.le_trans hS.1 (by rw [e1]; exact hz), fun q h1 h2 => by rw [e1, hk q (Nat.lt_of_lt_of_le h1 hS.1) (fun z => h2 (hFc q z))]; exact hS.2.1 q h1 h2, fun q hq => by
      rcases List.mem_append.mp hq with h | h
      · exact hS.2.2 q h
      · exact hFc _ (hL q h)⟩ hl T' rfl X'
  exact ⟨t2, stp t2 a1, b1⟩
end VMP
/-! what the public methods answer, and leave, as functions of raw ints -/
def rN (x : Int32) (n : Nat) : Option Nat := if inR x n = true then some (tn x) else none
def rW (v : Int32) (a b : Nat) : Option Nat := if nI a ≤ v ∧ v ≤ nI b then some (tn v) else none
theorem rN_f {x : Int32} {n : Nat} (h : inR x n = false) : rN x n = none := by unfold rN; rw [h]; rfl
theorem rN_N {j n : Nat} (hj : j < n) (hn : n < 2 ^ 31) : rN (nI j) n = some j := by unfold rN; rw [if_pos (inR_N hj hn), tn_N (by omega)]
theorem rW_N {j a b : Nat} (h1 : a ≤ j) (h2 : j ≤ b) (hb : b < 2 ^ 31) : rW (nI j) a b = some j := by unfold rW; rw [if_pos ⟨nI_le h1 (by omega), nI_le h2 hb⟩, tn_N (by omega)]
theorem rW_f {v : Int32} {a b : Nat} (h : ¬ (nI a ≤ v ∧ v ≤ nI b)) : rW v a b = none := if_neg h
theorem rW_f1 {v : Int32} {a b : Nat} (h : v < nI a) : rW v a b = none := if_neg (fun q => Int32.not_le.mpr h q.1)
theorem rW_f2 {v : Int32} {a b : Nat} (h : nI b < v) : rW v a b = none := if_neg (fun q => Int32.not_le.mpr h q.2)
theorem rW_of {v : Int32} {a b : Nat} (h1 : nI a ≤ v) (h2 : v ≤ nI b) (hb : b < 2 ^ 31) (ha : a ≤ b) : ∃ j : Nat, a ≤ j ∧ j ≤ b ∧ v = nI j := by
  have h0 : ¬ v < 0 := Int32.not_lt.mpr (Int32.le_trans (nI_pos' (by omega)) h1)
  obtain ⟨j, hj, rfl⟩ := nI_of h0
  exact ⟨j, (nI_leI (by omega) hj).mp h1, (nI_leI hj hb).mp h2, rfl⟩
def wr (v a b : Int32) : Bool := decide (a ≤ v ∧ v ≤ b)
abbrev wi (v : Int32) (a b : Nat) : Bool := wr v (nI a) (nI b)
theorem wi_t {v : Int32} {a b : Nat} (h1 : nI a ≤ v) (h2 : v ≤ nI b) : wi v a b = true := decide_eq_true ⟨h1, h2⟩
theorem wi_f1 {v : Int32} {a b : Nat} (h : v < nI a) : wi v a b = false := decide_eq_false (fun q => Int32.not_le.mpr h q.1)
theorem wi_f2 {v : Int32} {a b : Nat} (h : nI b < v) : wi v a b = false := decide_eq_false (fun q => Int32.not_le.mpr h q.2)
theorem wi_of {v : Int32} {a b : Nat} (h : wi v a b = true) (hb : b < 2 ^ 31) (ha : a ≤ b) : ∃ j : Nat, a ≤ j ∧ j ≤ b ∧ v = nI j := rW_of (of_decide_eq_true h).1 (of_decide_eq_true h).2 hb ha
theorem wi_no {v : Int32} {a b : Nat} (h : wi v a b = false) : rW v a b = none := rW_f (of_decide_eq_false h)
theorem wi01 {v : Int32} (h0 : ¬ v = 0) (h1 : ¬ v = nI 1) : wi v 0 1 = false := by
  cases q : wi v 0 1 with
  | false => rfl
  | true =>
    obtain ⟨j, -, hj, rfl⟩ := wi_of q (by decide) (by decide)
    rcases (show j = 0 ∨ j = 1 by omega) with rfl | rfl
    · exact absurd rfl h0
    · exact absurd rfl h1
def s_weight (n : Nat) (w : Nat → Nat) (x : Int32) : Int32 := match rN x n with
  | none => -1
  | some x => nI (w x)
def s_weigh (n : Nat) (w : Nat → Nat) (x v : Int32) : Int32 × (Nat → Nat) := match rN x n with
  | none => (-1, w)
  | some x => match rW v 1 999 with
    | none => (-2, w)
    | some v => (nI (w x), up w x v)
def s_hand (n hn : Nat) (kd pt : Nat → Nat) (k p : Int32) : Int32 × Nat × (Nat → Nat) × (Nat → Nat) := match rW k 0 2 with
  | none => (-2, hn, kd, pt)
  | some k => match rW p 1 20 with
    | none => (-2, hn, kd, pt)
    | some p => if n = 0 then (-3, hn, kd, pt) else if hn < 6 then (nI hn, hn + 1, up kd hn k, up pt hn p) else (-4, hn, kd, pt)
def s_ofHand (hn : Nat) (kd pt : Nat → Nat) (h u : Int32) : Int32 := match rN h hn with
  | none => -1
  | some h => match rW u 0 1 with
    | none => -2
    | some u => if u = 0 then nI (kd h) else nI (pt h)
def s_tells (hn : Nat) (kd pt : Nat → Nat) (h a b : Int32) : Int32 := match rN h hn with
  | none => -1
  | some h => match rW a 1 9999 with
    | none => -2
    | some a => match rW b 1 9999 with
      | none => -2
      | some b => nI (bN (tls (kd h) (pt h) a b))
def s_alike (n : Nat) (w : Nat → Nat) (hn : Nat) (kd pt : Nat → Nat) (h x : Int32) : Int32 := match rN h hn with
  | none => -1
  | some h => match rN x n with
    | none => -1
    | some x => nI (alkS (kd h) (pt h) w n x)
def s_finer (n : Nat) (w : Nat → Nat) (hn : Nat) (kd pt : Nat → Nat) (h t : Int32) : Int32 := match rN h hn with
  | none => -1
  | some h => match rN t hn with
    | none => -1
    | some t => nI (bN (finM n (ligS (kd h) (pt h) w n) (ligS (kd t) (pt t) w n)))
def s_way (n : Nat) (w : Nat → Nat) (hn : Nat) (kd pt : Nat → Nat) (h f t q : Int32) : Int32 := match rN h hn with
  | none => -1
  | some h => match rN f n with
    | none => -1
    | some f => match rN t n with
      | none => -1
      | some t => if q < -1 then -1 else if q = -1 then oN (fstTo (fun s => (wth (alkS (kd h) (pt h) w n) n (2 ^ t) s).testBit f) n) else wayS (alkS (kd h) (pt h) w n) n f t (tn q)
def s_noon (n : Nat) (w : Nat → Nat) (hn : Nat) (kd pt : Nat → Nat) (h x k : Int32) : Int32 := match rN h hn with
  | none => -1
  | some h => match rN x n with
    | none => -1
    | some x => match rW k 0 99 with
      | none => -2
      | some k => nI (wth (alkS (kd h) (pt h) w n) n (2 ^ x) (min k n))
def swpS (ea ol : Nat → Nat) (n a : Nat) : Nat := orTo (fun y => if a &&& ea y &&& ol y = 0 then 0 else 2 ^ y) n
def gnR (ea ol : Nat → Nat) (n x : Nat) : Nat → Nat
  | 0 => 2 ^ x
  | k + 1 => swpS ea ol n (gnR ea ol n x k)
def gnB (ea ol w : Nat → Nat) (n x : Nat) : Nat → Nat × Nat
  | 0 => (w x, 0)
  | k + 1 => if (gnB ea ol w n x k).1 < maxTo (fun z => if (gnR ea ol n x (k + 1)).testBit z then w z else 0) n then (maxTo (fun z => if (gnR ea ol n x (k + 1)).testBit z then w z else 0) n, k + 1) else gnB ea ol w n x k
def s_gain (n : Nat) (w : Nat → Nat) (hn : Nat) (kd pt : Nat → Nat) (h o x k u : Int32) : Int32 := match rN h hn with
  | none => -1
  | some h => match rN o hn with
    | none => -1
    | some o => match rN x n with
      | none => -1
      | some x => match rW k 0 8 with
        | none => -2
        | some k => match rW u 0 1 with
          | none => -2
          | some u => if u = 0 then nI (gnB (alkS (kd h) (pt h) w n) (ligS (kd o) (pt o) w n) w n x k).1 else nI (gnB (alkS (kd h) (pt h) w n) (ligS (kd o) (pt o) w n) w n x k).2
def s_saying (n hn sn : Nat) (sb sf ss sw : Nat → Nat) (h x y u : Int32) : Int32 × Nat × (Nat → Nat) × (Nat → Nat) × (Nat → Nat) × (Nat → Nat) := match rN h hn with
  | none => (-1, sn, sb, sf, ss, sw)
  | some h => match rN x n with
    | none => (-1, sn, sb, sf, ss, sw)
    | some x => match rN y n with
      | none => (-1, sn, sb, sf, ss, sw)
      | some y => if x = y then (-1, sn, sb, sf, ss, sw) else match rW u 0 1 with
        | none => (-2, sn, sb, sf, ss, sw)
        | some u => if sn < 10 then (nI sn, sn + 1, up sb sn h, up sf sn x, up ss sn y, up sw sn u) else (-4, sn, sb, sf, ss, sw)
def s_back (sn : Nat) (k : Int32) : Int32 × Nat := match rW k 0 sn with
  | none => (-2, sn)
  | some k => (nI (sn - k), sn - k)
def s_untrue (w kd pt : Nat → Nat) (sn : Nat) (sb sf ss sw : Nat → Nat) : Int32 := nI (orTo (fun s => if flsN kd pt (sb s) (sw s) (w (sf s)) (w (ss s)) = true then 2 ^ s else 0) sn)
def fbwF (w kd pt sb sf ss sw : Nat → Nat) (x v : Nat) : Nat → Nat := fun s => if (sf s = x ∨ ss s = x) ∧ flsN kd pt (sb s) (sw s) (if sf s = x then v else w (sf s)) (if ss s = x then v else w (ss s)) = true then 1 else 0
def fbw (w kd pt : Nat → Nat) (sn : Nat) (sb sf ss sw : Nat → Nat) (x v : Nat) : Nat := sumTo (fbwF w kd pt sb sf ss sw x v) sn
def lvK (f : Nat → Nat) : Nat → Nat × Int32 × Int32
  | 0 => (0, -9, -9)
  | k + 1 => if f (k + 1) = 0 then ((lvK f k).1 + 1, if (lvK f k).2.1 = -9 then nI (k + 1) else (lvK f k).2.1, nI (k + 1)) else lvK f k
def brK (f : Nat → Nat) : Nat → Nat × Nat
  | 0 => (11, 1)
  | k + 1 => if f (k + 1) < (brK f k).1 then (f (k + 1), k + 1) else brK f k
def s_leaves (n : Nat) (w kd pt : Nat → Nat) (sn : Nat) (sb sf ss sw : Nat → Nat) (x u : Int32) : Int32 := match rN x n with
  | none => -1
  | some x => match rW u 0 2 with
    | none => -2
    | some u => if u = 0 then nI (lvK (fbw w kd pt sn sb sf ss sw x) 999).1 else if u = 1 then (lvK (fbw w kd pt sn sb sf ss sw x) 999).2.1 else (lvK (fbw w kd pt sn sb sf ss sw x) 999).2.2
def s_breaks (n : Nat) (w kd pt : Nat → Nat) (sn : Nat) (sb sf ss sw : Nat → Nat) (x u : Int32) : Int32 := match rN x n with
  | none => -1
  | some x => match rW u 0 1 with
    | none => -2
    | some u => if u = 0 then nI (brK (fbw w kd pt sn sb sf ss sw x) 999).1 else nI (brK (fbw w kd pt sn sb sf ss sw x) 999).2
def s_rows (n : Nat) (w : Nat → Nat) (hn : Nat) (kd pt : Nat → Nat) (h q : Int32) : Int32 := match rN h hn with
  | none => -1
  | some h => if q = -1 then nI (ordN (ligS (kd h) (pt h) w n) n (2 ^ n - 1) (2 ^ n - 1)) else match rN q n with
    | none => -1
    | some q => nxtK (ligS (kd h) (pt h) w n) n (q + 1)
def s_longest (n : Nat) (w : Nat → Nat) (hn : Nat) (kd pt : Nat → Nat) (h : Int32) : Int32 := match rN h hn with
  | none => -1
  | some h => nI (chnN (ligS (kd h) (pt h) w n) n)
def s_crowd (n : Nat) (w : Nat → Nat) (hn : Nat) (kd pt : Nat → Nat) (h : Int32) : Int32 := match rN h hn with
  | none => -1
  | some h => nI (bstS (allAlk (alkS (kd h) (pt h) w n) n) (2 ^ n - 1))
def msK (f : Nat → Nat) : Nat → Nat
  | 0 => 0
  | k + 1 => if f (msK f k) < f (k + 1) then k + 1 else msK f k
def s_measure (n : Nat) (w : Nat → Nat) (hn : Nat) (kd pt : Nat → Nat) (h u : Int32) : Int32 := match rN h hn with
  | none => -1
  | some h => match rW u 0 1 with
    | none => -2
    | some u => if u = 0 then nI (msK (fun x => popN (alkS (kd h) (pt h) w n x) - 1) (n - 1)) else nI (popN (alkS (kd h) (pt h) w n (msK (fun x => popN (alkS (kd h) (pt h) w n x) - 1) (n - 1))) - 1)
