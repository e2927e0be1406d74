/-! constructors: walks that make cells -/
/-- a context that has made a cells of b places more -/
def vgr (x : vX) (a b : Nat) : vX := match x with
  | (g, p, e, R, s, m, args, below, meth, c, cells, slots, Q, A, nL) => (g, p, e, R, s, m, args, below, meth, c, cells + a, slots + b, Q, A, nL)
def OkC (x : vX) (g : vG) (cc : ByteArray) (own : String) (rm : Room) (nL c0 s0 : Nat) (nm : String) : Prop := Ok x g cc own rm nL ∧ (match x with
  | (_, _, _, _, s, _, _, _, meth, _, cells, slots, _, _, _) => cells = c0 ∧ slots = s0 ∧ meth.name = nm ∧ vNi s)
theorem OkC.grow {x : vX} {g : vG} {cc : ByteArray} {own : String} {rm : Room} {nL c0 s0 a b : Nat} {nm : String} (h : OkC x g cc own rm nL c0 s0 nm) (h1 : c0 + a ≤ rm.cells) (h2 : s0 + b ≤ rm.slots) : OkC (vgr x a b) g cc own rm nL (c0 + a) (s0 + b) nm := by
  obtain ⟨g0, p, e, R, s, m, args, below, meth, c, cells, slots, Q, A, nL0⟩ := x
  obtain ⟨⟨rfl, rfl, rfl, hx, hb, hml, hown, hts, hK, hA, hlk, hnw, hcl, hsl⟩, rfl, rfl, hnm, hni⟩ := h
  exact ⟨⟨rfl, rfl, rfl, hx, hb, hml, hown, hts, hK, hA, hlk, hnw, h1, h2⟩, rfl, rfl, hnm, hni⟩
/-- what a constructor's return needs -/
def RetC (x : vX) (P : va_W → Prop) (mc ms : Nat) : Prop := match x with
  | (g, _, _, _, s, _, args, below, meth, _, _, _, Q, A, _) => meth.sig.returnType = none ∧ ∃ (Qc : Array Value → State → Outcome → State → Prop) (free : Addr → Prop), Q = MQ below Qc args s mc ms free ∧ (∀ q, A q → free q) ∧ ∀ (t : State) (H : Heap) (locs : List Loc) (ws : va_W), t.heap = H → s.WarmedH t.vm → va_P (gD g) vwCl ws H → va_D A ws → va_S A s.heap H locs → P ws → Qc args s (.returned none) t
theorem RetC.grow {x : vX} {P : va_W → Prop} {mc ms a b : Nat} (h : RetC x P mc ms) : RetC (vgr x a b) P mc ms := by
  obtain ⟨g0, p, e, R, s, m, args, below, meth, c, cells, slots, Q, A, nL0⟩ := x
  exact h
/-- a constructor's contract: from the cells wi it comes to cells of which P holds, new ones among them -/
def CtA (g : vG) (y : MethodName) (cc : ByteArray) (maxL : Nat) (rm : Room) (mc ms : Nat) (wi : va_W) (a : Nat) (P : va_W → Prop) : Prop :=
  ∀ sz : Nat, Met g.1 y (.code y cc maxL none :: wsL_law) rm (va_Pc [.ref a] (fun U => vPre g wi sz U ∧ vNi U)) (fun _ st oc t => (oc = .returned none ∧ ∃ wo : va_W, P wo ∧ va_P (gD g) vwCl wo t.heap ∧ va_D (va_A wi sz) wo) ∧ va_F (va_A wi sz) st t) mc ms (va_A wi sz)
theorem CtA.ofV {g : vG} {y : MethodName} {cc : ByteArray} {rm : Room} {mc ms : Nat} {wi : va_W} {a : Nat} {P : va_W → Prop} (own : String) (hown : y.cls = own) (hy : plainName y.cls = true) (hnm : y.name = "<init>")
    (body : ∀ x : vX, OkC x g cc own rm 1 0 0 "<init>" → RetC x P mc ms → vM x 0 [some (.ref a)] [] wi) : CtA g y cc 1 rm mc ms wi a P := by
  refine fun sz => Met.ofW (cc := cc) (maxL := 1) (ret := none) hy rfl ?_
  intro p e s m args below meth c s₁ B hml hv
  obtain ⟨rfl, ⟨hsz, hP, hK, hD0, hnw⟩, hni⟩ := hv
  have hts := atoms_spec (ws := .code y cc 1 none :: wsL_law) B.pre
  have hfc : s.vm.findClass own = some m.cls := hown ▸ findClass_of_methodNamed B.named
  subst hsz
  have hb := body (g, p, e, (headSpec (.code y cc 1 none :: wsL_law) rm).room, s, m, ([.ref a] : List Value).toArray, below, meth, c, 0, 0, MQ below (fun _ st oc t => (oc = .returned none ∧ ∃ wo : va_W, P wo ∧ va_P (gD g) vwCl wo t.heap ∧ va_D (va_A wi s.heap.size) wo) ∧ va_F (va_A wi s.heap.size) st t) ([.ref a] : List Value).toArray s mc ms (va_A wi s.heap.size), va_A wi s.heap.size, 1)
    ⟨⟨rfl, rfl, rfl, B.exec, B.bytes, hml, hfc, fun w hw => hts w (List.mem_cons_of_mem _ hw), hK, fun q hq => Or.inr hq, B.notSynchronized, hnw, Nat.zero_le _, Nat.zero_le _⟩, rfl, rfl, (name_of_methodNamed B.named B.method).1.trans hnm, hni⟩
    ⟨B.returns, _, _, rfl, fun q h => h, fun t H locs ws ht hW hP2 hD2 hS hp => ⟨⟨rfl, ws, hp, by rw [ht]; exact hP2, hD2⟩, hS.F ht⟩⟩
  rw [lg_entry_eq]
  exact hb s.heap [] _ hP hD0.self va_S.rf (vL_entry [.ref a] 1 (Nat.le_refl 1) (fun v hv => by rw [List.mem_singleton.mp hv]; rfl))
section VMC
variable {x : vX} {g : vG} {cc : ByteArray} {own : String} {rm : Room} {nL c0 s0 : Nat} {nm : String} {pc : Nat} {lv : List (Option Value)} {st : List Value} {ws : va_W}
theorem v_objI {idx a : Nat} (h : Ok x g cc own rm nL) (hlink : Cond.methodLink own idx Lib.objectInit ∈ wsL_law) (hf : 1 ≤ rm.frames) (hlo : (st.map fun v => v.category).sum + 12 ≤ rm.locals) (hd : decode cc pc = .ok (.invokespecial idx, 3)) (k : vM x (pc + 3) lv st ws) : vM x pc lv (.ref a :: st) ws := by
  obtain ⟨g0, p, e, R, s, m, args, below, meth, c, cells, slots, Q, A, nL0⟩ := x
  obtain ⟨rfl, rfl, rfl, hx, hb, hml, hown, hts, hK, hA, hlk, hnw, hcl, hsl⟩ := h
  intro H locs ls hP hD hS hl
  refine W.objInit hx hb hown (hts _ hlink) (hts _ m_oInst) (hts _ m_oCode) rfl (hl.1.trans hml.symm) rfl hd hf (by show 2 * 0 + _ + 12 ≤ _; omega) ?_
  exact k H locs ls hP hD hS hl
theorem v_newI {k : Nat} (h : OkC x g cc own rm nL c0 s0 nm) (hk : k < 2 ^ 20) (h1 : c0 + 1 ≤ rm.cells) (h2 : s0 + k ≤ rm.slots) (hd : decode cc pc = .ok (.newarray .int, 2)) (kk : ∀ q : Nat, vM (vgr x 1 k) (pc + 2) lv (.ref q :: st) (ws ++ [(q, .inl (gI g, k, .inl (fun _ => nI 0)))])) : vM x pc lv (.int (nI k) :: st) ws := by
  obtain ⟨g0, p, e, R, s, m, args, below, meth, c, cells, slots, Q, A, nL0⟩ := x
  obtain ⟨⟨rfl, rfl, rfl, hx, hb, hml, hown, hts, hK, hA, hlk, hnw, hcl, hsl⟩, rfl, rfl, hnm, hni⟩ := h
  intro H locs ls hP hD hS hl
  refine va_newa (atype := .int) (ty := .int) (N' := k) (a0 := (k, .inl (fun _ => nI 0))) hx hb (hts _ m_arrI) rfl hK hP hD hS hA (fun cA => rfl) (nI_pos (by omega)) (nI_clamp (by omega)) (by show k * 4 ≤ _; omega) h1 h2 hd (fun q cA H1 hK1 hP1 hD1 hS1 => ?_)
  have e1 : cA = gI g0 := Option.some.inj ((hK1.2 3 (cA, .int) rfl).2.symm.trans (hK.2 0 (gI g0, .int) rfl).2)
  subst e1
  exact kk q H1 locs ls hP1 hD1 hS1 hl
theorem v_newZ {k : Nat} (h : OkC x g cc own rm nL c0 s0 nm) (hk : k < 2 ^ 20) (h1 : c0 + 1 ≤ rm.cells) (h2 : s0 + k ≤ rm.slots) (hd : decode cc pc = .ok (.newarray .boolean, 2)) (kk : ∀ q : Nat, vM (vgr x 1 k) (pc + 2) lv (.ref q :: st) (ws ++ [(q, .inl (gZ g, k, .inl (fun _ => nI (bN false))))])) : vM x pc lv (.int (nI k) :: st) ws := by
  obtain ⟨g0, p, e, R, s, m, args, below, meth, c, cells, slots, Q, A, nL0⟩ := x
  obtain ⟨⟨rfl, rfl, rfl, hx, hb, hml, hown, hts, hK, hA, hlk, hnw, hcl, hsl⟩, rfl, rfl, hnm, hni⟩ := h
  intro H locs ls hP hD hS hl
  refine va_newa (atype := .boolean) (ty := .boolean) (N' := k) (a0 := (k, .inl (fun _ => nI (bN false)))) hx hb (hts _ m_arrZ) rfl hK hP hD hS hA (fun cA => rfl) (nI_pos (by omega)) (nI_clamp (by omega)) (by show k * 1 ≤ _; omega) h1 h2 hd (fun q cA H1 hK1 hP1 hD1 hS1 => ?_)
  have e1 : cA = gZ g0 := Option.some.inj ((hK1.2 3 (cA, .boolean) rfl).2.symm.trans (hK.2 1 (gZ g0, .boolean) rfl).2)
  subst e1
  exact kk q H1 locs ls hP1 hD1 hS1 hl
theorem v_newO {C : String} {T : u_T} {N ci idx : Nat} {fs : List Value} (h : OkC x g cc own rm nL c0 s0 nm) (hin : ∀ w ∈ u_ws C T N, w ∈ wsL_law) (ty : Nat → FieldType) (hty : ∀ k, k < N → parseFieldDescriptor (T k).2.2.1 = some (ty k)) (hcl2 : Cond.classLink own idx C ∈ wsL_law) (hinst : Cond.instantiable C N ∈ wsL_law) (hini : Cond.initialized C ∈ wsL_law) (hc : vwCl[ci]? = some (C, T, N)) (hfs : ∀ j, j < N → defaultValue (ty j) = vp_V fs j) (h1 : c0 + 1 ≤ rm.cells) (h2 : s0 + N ≤ rm.slots) (hd : decode cc pc = .ok (.new idx, 3)) (kk : ∀ q : Nat, vM (vgr x 1 N) (pc + 3) lv (.ref q :: st) (ws ++ [(q, .inr (ci, fs))])) : vM x pc lv st ws := by
  obtain ⟨g0, p, e, R, s, m, args, below, meth, c, cells, slots, Q, A, nL0⟩ := x
  obtain ⟨⟨rfl, rfl, rfl, hx, hb, hml, hown, hts, hK, hA, hlk, hnw, hcl, hsl⟩, rfl, rfl, hnm, hni⟩ := h
  intro H locs ls hP hD hS hl
  exact va_new hx hb hts hin ty hty hown (hts _ hcl2) (hts _ hinst) (hts _ hini) hK hP hD hS hA hc hfs h1 h2 hd (fun q H1 hP1 hD1 hS1 => kk q H1 locs ls hP1 hD1 hS1 hl)
theorem v_putF {C : String} {T : u_T} {N ci idx a : Nat} {fs : List Value} {v : Value} {ty : FieldType} {ws' : va_W} (h : OkC x g cc own rm nL c0 s0 "<init>") (hin : ∀ w ∈ u_ws C T N, w ∈ wsL_law) (ty0 : Nat → FieldType) (hty : ∀ k, k < N → parseFieldDescriptor (T k).2.2.1 = some (ty0 k)) (hnm : ∀ a, a < N → ∀ b, b < N → a ≠ b → (T a).2.1 ≠ (T b).2.1) (q0 : Nat) (he : ws[q0]? = some (a, .inr (ci, fs))) (hc : vwCl[ci]? = some (C, T, N)) (k : Nat) (hk : k < N) (hlink : Cond.fieldLink own idx (T k).1 (T k).2.1 (T k).2.2.1 ∈ wsL_law) (hfin : (T k).2.2.2 = true) (hdecl : (T k).1 = own) (hd2 : parseFieldDescriptor (T k).2.2.1 = some ty) (hn : narrow ty v = v) (hfit : fits ty v = true) (hl2 : k < fs.length) (hd : decode cc pc = .ok (.putfield idx, 3)) (hws : ws.set q0 (a, .inr (ci, fs.set k v)) = ws') (kk : vM x (pc + 3) lv st ws') : vM x pc lv (v :: .ref a :: st) ws := by
  subst hws
  obtain ⟨g0, p, e, R, s, m, args, below, meth, c, cells, slots, Q, A, nL0⟩ := x
  obtain ⟨⟨rfl, rfl, rfl, hx, hb, hml, hown, hts, hK, hA, hlk, hnw, hcl, hsl⟩, rfl, rfl, hnm2, hni⟩ := h
  intro H locs ls hP hD hS hl
  exact va_putF (D := gD g0) (own := own) hx hb hts hin ty0 hty hnm hown hK hP hD hS q0 he hc k hk (hts _ hlink) (fun _ h9 => h9) hfin hnm2 hdecl hd2 hn hfit hl2 hd (fun H1 locs1 hP1 hD1 hS1 => kk H1 locs1 ls hP1 hD1 hS1 hl)
theorem v_vretC {P : va_W → Prop} {mc ms : Nat} (h : OkC x g cc own rm nL mc ms nm) (hr : RetC x P mc ms) (hd : decode cc pc = .ok (.return_, 1)) (hp : P ws) : vM x pc lv [] ws := by
  obtain ⟨g0, p, e, R, s, m, args, below, meth, c, cells, slots, Q, A, nL0⟩ := x
  obtain ⟨⟨rfl, rfl, rfl, hx, hb, hml, hown, hts, hK, hA, hlk, hnw, hcl, hsl⟩, rfl, rfl, hnm, hni⟩ := h
  obtain ⟨hrt, Qc, free, rfl, hfr, hq⟩ := hr
  exact fun H locs ls hP hD hS hl => W.vret hx hb hrt (fun t ht hW => hq t _ _ _ ht hW hP hD hS hp) (fun q hq2 => hfr _ (hS.2.2 q hq2)) hd
/-- what links a constructor -/
def LkI (y : MethodName) (cc : ByteArray) (ml : Nat) : Prop := Cond.instanceMethod y ∈ wsL_law ∧ Cond.initialized y.cls ∈ wsL_law ∧ Cond.code y cc ml none ∈ wsL_law ∧ (y.cls ≠ "java/lang/invoke/MethodHandle" ∧ y.cls ≠ "java/lang/invoke/VarHandle" ∧ (parseMethodDescriptor y.desc).map (fun d => d.parameters.length) = some 0) ∧ y.name = "<init>"
theorem vPreN_blind {g : vG} {wi : va_W} {av : List Value} {sz : Nat} : FrameBlind (va_Pc av (fun U => vPre g wi sz U ∧ vNi U)) := fun a U g1 mk q => by
  obtain ⟨q0, ⟨q1, qP, qK, qD, qn⟩, qi⟩ := q
  exact ⟨q0, ⟨q1, qP, va_K.moved (u := U) (U := U.calling g1 mk a) (Vm.Alike.refl U.vm) qK, qD, vNw.same rfl qn⟩, vNi.same rfl qi⟩
def RmI (rmc rm : Room) (ml mc ms : Nat) : Prop := rmc.cells = mc ∧ rmc.slots = ms ∧ rmc.frames + 1 ≤ rm.frames ∧ 8 + (ml + 11) + rmc.locals ≤ rm.locals
theorem v_callIN {idx : Nat} {y : MethodName} {bytes : ByteArray} {ml mc ms : Nat} {rmc : Room} {wi wr : va_W} {a : Nat} {rest : List Value} {P : va_W → Prop} (h : OkC x g cc own rm nL c0 s0 nm) (hc : CtA g y bytes ml rmc mc ms wi a P) (lk : LkI y bytes ml) (hln : ∀ s, vNi s → va_Nw (.methodLinkNest own idx y RX7) s) (hrm : RmI rmc rm ml mc ms) (h1 : c0 + mc ≤ rm.cells) (h2 : s0 + ms ≤ rm.slots) (isC isR : List Nat) (hC : isC.map (fun i => ws[i]?) = wi.map some) (hR : isR.map (fun i => ws[i]?) = wr.map some) (hnC : va_nd isC = true) (hnR : va_nd isR = true) (hdis : ∀ i ∈ isR, i ∉ isC) (hW : (rest.map fun v => v.category).sum ≤ 8) (hd : decode cc pc = .ok (.invokespecial idx, 3)) (k : ∀ wo : va_W, P wo → vM (vgr x mc ms) (pc + 3) lv rest (wr ++ wo)) : vM x pc lv (.ref a :: rest) ws := by
  obtain ⟨g0, p, e, R, s, m, args, below, meth, c, cells, slots, Q, A, nL0⟩ := x
  obtain ⟨⟨rfl, rfl, rfl, hx, hb, hml, hown, hts, hK, hA, hlk, hnw, hcl, hsl⟩, rfl, rfl, hnm, hni⟩ := h
  obtain ⟨hl2, hl3, hl5, hl6, hl7⟩ := lk
  obtain ⟨hr1, hr2, hr3, hr4⟩ := hrm
  intro H locs ls hP hD hS hl
  have hPc := hP.sub isC (filterMap_of_map hC)
  have hDc := hD.sub isC hnC hC
  have hFc := va_free (wc := wi) hD hS hA isC hC
  have hrun := va_runIN (H := H) (locs := locs) (cells := cells) (slots := slots) (below := below) (meth := meth) (e := e) (As := []) (rest := rest) (b := a) (g := F0 m pc ls (.ref a :: rest)) (Ts := wsL_law) (own := own) ⟨hx, hb, hml, hown, hts⟩ (hc H.size) ⟨va_cnB 0 hts (ws_goodIn hl5) rfl hr1 hr2 (hln s hni) (hts _ hl3) hl6 ⟨hr3, hr4⟩, hl7, hts _ hl2⟩ ⟨vPreN_blind, fun U hU hW2 => ⟨rfl, ⟨by rw [hU], by rw [hU]; exact hPc, va_K.moved hW2.alike hK, hDc.weaken (fun _ _ _ _ => trivial), hnw.warm hW2⟩, hni.warm hW2⟩⟩ rfl rfl hl.1 rfl (lv_room hW) hd ⟨h1, h2⟩
  intro T hT X
  obtain ⟨v, st₀, t, T', L, e0, X', hL, e1, e2, ⟨⟨hv, wo, hPr, hPo, hDo⟩, hz, hk⟩, stp⟩ := hrun T hT X
  cases hv
  rw [e0] at hz hk
  obtain ⟨hP', hD'⟩ := va_join (H1 := T'.heap) hP hD isC isR hC hR hnR hdis (fun q g1 g2 => by rw [e1]; exact hk q g1 g2) hFc (by rw [e1]; exact hPo) hDo
  obtain ⟨t2, a1, b1⟩ := k wo hPr T'.heap (locs ++ L) ls hP' hD' ⟨Nat.le_trans hS.1 (by rw [e1]; exact hz), fun q g1 g2 => by rw [e1, hk q (Nat.lt_of_lt_of_le g1 hS.1) (fun z => g2 (hFc q z))]; exact hS.2.1 q g1 g2, fun q hq => by
      rcases List.mem_append.mp hq with h | h
      · exact hS.2.2 q h
      · exact hFc _ (hL q h)⟩ hl T' rfl X'
  exact ⟨t2, stp t2 a1, b1⟩
theorem v_callI {idx : Nat} {y : MethodName} {bytes : ByteArray} {ml mc ms : Nat} {rmc : Room} {wi wr : va_W} {a : Nat} {rest : List Value} {P : va_W → Prop} (h : OkC x g cc own rm nL c0 s0 nm) (hc : CtA g y bytes ml rmc mc ms wi a P) (lk : LkI y bytes ml) (hln : Cond.methodLink own idx y ∈ wsL_law) (hrm : RmI rmc rm ml mc ms) (h1 : c0 + mc ≤ rm.cells) (h2 : s0 + ms ≤ rm.slots) (isC isR : List Nat) (hC : isC.map (fun i => ws[i]?) = wi.map some) (hR : isR.map (fun i => ws[i]?) = wr.map some) (hnC : va_nd isC = true) (hnR : va_nd isR = true) (hdis : ∀ i ∈ isR, i ∉ isC) (hW : (rest.map fun v => v.category).sum ≤ 8) (hd : decode cc pc = .ok (.invokespecial idx, 3)) (k : ∀ wo : va_W, P wo → vM (vgr x mc ms) (pc + 3) lv rest (wr ++ wo)) : vM x pc lv (.ref a :: rest) ws := by
  obtain ⟨g0, p, e, R, s, m, args, below, meth, c, cells, slots, Q, A, nL0⟩ := x
  obtain ⟨⟨rfl, rfl, rfl, hx, hb, hml, hown, hts, hK, hA, hlk, hnw, hcl, hsl⟩, rfl, rfl, hnm, hni⟩ := h
  obtain ⟨hl2, hl3, hl5, hl6, hl7⟩ := lk
  obtain ⟨hr1, hr2, hr3, hr4⟩ := hrm
  intro H locs ls hP hD hS hl
  have hPc := hP.sub isC (filterMap_of_map hC)
  have hDc := hD.sub isC hnC hC
  have hFc := va_free (wc := wi) hD hS hA isC hC
  have hrun := va_runI (H := H) (locs := locs) (cells := cells) (slots := slots) (below := below) (meth := meth) (e := e) (As := []) (rest := rest) (b := a) (g := F0 m pc ls (.ref a :: rest)) (Ts := wsL_law) (own := own) ⟨hx, hb, hml, hown, hts⟩ (hc H.size) (cwI 0 hts (ws_goodIn hl5) rfl hr1 hr2 (hts _ hl3) (hts _ hln) (hts _ hl2) hl7 hl6 ⟨hr3, hr4⟩) ⟨vPreN_blind, fun U hU hW2 => ⟨rfl, ⟨by rw [hU], by rw [hU]; exact hPc, va_K.moved hW2.alike hK, hDc.weaken (fun _ _ _ _ => trivial), hnw.warm hW2⟩, hni.warm hW2⟩⟩ rfl rfl hl.1 rfl (lv_room hW) hd ⟨h1, h2⟩
  intro T hT X
  obtain ⟨v, st₀, t, T', L, e0, X', hL, e1, e2, ⟨⟨hv, wo, hPr, hPo, hDo⟩, hz, hk⟩, stp⟩ := hrun T hT X
  cases hv
  rw [e0] at hz hk
  obtain ⟨hP', hD'⟩ := va_join (H1 := T'.heap) hP hD isC isR hC hR hnR hdis (fun q g1 g2 => by rw [e1]; exact hk q g1 g2) hFc (by rw [e1]; exact hPo) hDo
  obtain ⟨t2, a1, b1⟩ := k wo hPr T'.heap (locs ++ L) ls hP' hD' ⟨Nat.le_trans hS.1 (by rw [e1]; exact hz), fun q g1 g2 => by rw [e1, hk q (Nat.lt_of_lt_of_le g1 hS.1) (fun z => g2 (hFc q z))]; exact hS.2.1 q g1 g2, fun q hq => by
      rcases List.mem_append.mp hq with h | h
      · exact hS.2.2 q h
      · exact hFc _ (hL q h)⟩ hl T' rfl X'
  exact ⟨t2, stp t2 a1, b1⟩
end VMC
