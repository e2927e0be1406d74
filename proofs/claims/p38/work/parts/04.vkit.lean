/-! Nats in ints, cells put back by places -/
theorem nI_bv (n : Nat) : (nI n).toBitVec = BitVec.ofNat 32 n := rfl
theorem nI_and (a b : Nat) : nI a &&& nI b = nI (a &&& b) := by
  apply Int32.toBitVec_inj.mp
  rw [Int32.toBitVec_and, nI_bv, nI_bv, nI_bv, BitVec.ofNat_and]
theorem nI_or (a b : Nat) : nI a ||| nI b = nI (a ||| b) := by
  apply Int32.toBitVec_inj.mp
  rw [Int32.toBitVec_or, nI_bv, nI_bv, nI_bv, BitVec.ofNat_or]
/-- the bits of b that a has not -/
def sdiff (b a : Nat) : Nat := b ^^^ (b &&& a)
theorem sdiff_bit (b a i : Nat) : (sdiff b a).testBit i = (b.testBit i && !a.testBit i) := by
  simp only [sdiff, Nat.testBit_xor, Nat.testBit_and]
  cases b.testBit i <;> cases a.testBit i <;> rfl
theorem nI_sdiff (b a : Nat) : nI b &&& (nI a ^^^ (-1)) = nI (sdiff b a) := by
  apply Int32.toBitVec_inj.mp
  rw [Int32.toBitVec_and, Int32.toBitVec_xor, nI_bv, nI_bv, nI_bv]
  unfold sdiff
  rw [BitVec.ofNat_xor, BitVec.ofNat_and]
  generalize BitVec.ofNat 32 a = u
  generalize BitVec.ofNat 32 b = v
  show v &&& (u ^^^ BitVec.allOnes 32) = v ^^^ (v &&& u)
  ext i hi
  simp only [BitVec.getElem_and, BitVec.getElem_xor, BitVec.getElem_allOnes]
  cases v[i] <;> cases u[i] <;> rfl
theorem smod32 : ∀ k : Fin 32, ((nI k.1).toBitVec.smod 32).toNat = k.1 := by decide +kernel
theorem nI_31 {b : Nat} (hb : b < 32) : nI b &&& 31 = nI b := by
  rw [pk_andN (by omega) 5 (by decide), Nat.mod_eq_of_lt (by omega)]
theorem nI_shl1 {b : Nat} (hb : b < 32) : nI 1 <<< (nI b &&& 31) = nI (2 ^ b) := by
  rw [nI_31 hb]
  have h2 : (2 : Nat) ^ b ≤ 2 ^ 31 := Nat.pow_le_pow_right (by decide) (by omega)
  rw [pk_shlN (n := 1) (nI b) b (smod32 ⟨b, hb⟩) (by omega), Nat.one_mul]
theorem nI_shr {a b : Nat} (ha : a < 2 ^ 31) (hb : b < 32) : nI a >>> (nI b &&& 31) = nI (a / 2 ^ b) := by
  rw [nI_31 hb]
  exact pk_shrN ha (nI b) b (smod32 ⟨b, hb⟩)
/-- f, but v at i -/
def up (w : Nat → Nat) (i v : Nat) : Nat → Nat := fun j => if j = i then v else w j
theorem up_self (w : Nat → Nat) (i v : Nat) : up w i v i = v := by simp [up]
theorem up_ne (w : Nat → Nat) {i j : Nat} (v : Nat) (h : j ≠ i) : up w i v j = w j := by simp [up, h]
theorem upd_nI (w : Nat → Nat) (i v : Nat) : upd (fun j => nI (w j)) i (nI v) = fun j => nI (up w i v j) := by
  funext j
  by_cases h : j = i <;> simp [upd, up, h]
def vset : va_W → List Nat → va_W → va_W
  | ws, i :: is, d :: ds => vset (ws.set i d) is ds
  | ws, [], _ => ws
  | ws, _ :: _, [] => ws
theorem vset_get : ∀ (is : List Nat) (wo ws : va_W) (k : Nat) (q : Nat × va_E), is.length = wo.length → (vset ws is wo)[k]? = some q → (∃ j : Nat, is[j]? = some k ∧ wo[j]? = some q) ∨ (ws[k]? = some q ∧ k ∉ is)
  | [], wo, ws, k, q, _, h => by
    right
    refine ⟨?_, by simp⟩
    cases wo <;> exact h
  | i :: is, [], ws, k, q, hl, _ => by simp at hl
  | i :: is, d :: wo, ws, k, q, hl, h => by
    rcases vset_get is wo (ws.set i d) k q (by simpa using hl) h with ⟨j, h1, h2⟩ | ⟨h1, h2⟩
    · exact Or.inl ⟨j + 1, by simpa using h1, by simpa using h2⟩
    · by_cases e : k = i
      · subst e
        left
        refine ⟨0, by simp, ?_⟩
        have hlt : k < ws.length := by
          have := (List.getElem?_eq_some_iff.mp h1).1
          simpa using this
        rw [List.getElem?_set_self hlt] at h1
        simpa using h1
      · right
        rw [List.getElem?_set_ne (fun z => e z.symm)] at h1
        exact ⟨h1, by simp [e, h2]⟩
theorem vset_fst : ∀ (is : List Nat) (wo ws : va_W), (∀ (j i : Nat) (d : Nat × va_E), is[j]? = some i → wo[j]? = some d → (ws.map (fun q => q.1))[i]? = some d.1) → (vset ws is wo).map (fun q => q.1) = ws.map (fun q => q.1)
  | [], wo, ws, _ => by cases wo <;> rfl
  | i :: is, [], ws, _ => rfl
  | i :: is, d :: wo, ws, h => by
    have h0 := h 0 i d (by simp) (by simp)
    have e : (ws.set i d).map (fun q => q.1) = ws.map (fun q => q.1) := by
      apply List.ext_getElem?
      intro k
      rw [List.getElem?_map, List.getElem?_map]
      by_cases hk : k = i
      · subst hk
        rw [List.getElem?_map] at h0
        cases hw : ws[k]? with
        | none => rw [hw] at h0; simp at h0
        | some z =>
          rw [hw] at h0
          have hlt := (List.getElem?_eq_some_iff.mp hw).1
          rw [List.getElem?_set_self hlt]
          simpa using h0.symm
      · rw [List.getElem?_set_ne (fun z => hk z.symm)]
    show (vset (ws.set i d) is wo).map _ = _
    rw [vset_fst is wo (ws.set i d) (fun j i2 d2 h1 h2 => by rw [e]; exact h (j + 1) i2 d2 (by simpa using h1) (by simpa using h2)), e]
theorem va_D_fst {A : Nat → Prop} {ws ws' : va_W} (he : ws'.map (fun q => q.1) = ws.map (fun q => q.1)) (h : va_D A ws) : va_D A ws' := by
  have key : ∀ (i : Nat) (p : Nat × va_E), ws'[i]? = some p → ∃ q, ws[i]? = some q ∧ q.1 = p.1 := by
    intro i p hp
    have h1 : (ws'.map (fun q => q.1))[i]? = some p.1 := by rw [List.getElem?_map, hp]; rfl
    rw [he, List.getElem?_map] at h1
    cases hw : ws[i]? with
    | none => rw [hw] at h1; simp at h1
    | some z => rw [hw] at h1; exact ⟨z, rfl, by simpa using h1⟩
  refine ⟨fun i j p q hp hq e => ?_, fun k q hq => ?_⟩
  · obtain ⟨p', h1, h2⟩ := key i p hp
    obtain ⟨q', h3, h4⟩ := key j q hq
    exact h.1 i j p' q' h1 h3 (by rw [h2, h4, e])
  · obtain ⟨q', h3, h4⟩ := key k q hq
    rw [← h4]
    exact h.2 k q' h3
theorem filterMap_of_map {α β : Type} {f : α → Option β} : ∀ {l : List α} {w : List β}, l.map f = w.map some → l.filterMap f = w
  | [], [], _ => rfl
  | [], _ :: _, h => by simp at h
  | _ :: _, [], h => by simp at h
  | a :: l, b :: w, h => by
    have h1 : f a = some b := by simpa using (List.cons.inj (by simpa using h)).1
    have h2 : l.map f = w.map some := (List.cons.inj (by simpa using h)).2
    rw [List.filterMap_cons, h1, filterMap_of_map h2]
/-! the walk's own judgement: a context x, the pc, the locals by position, the operand stack, the cells -/
abbrev vG : Type := Launch × va_G × ClassId × ClassId × ClassId
abbrev gD (g : vG) : va_G := g.2.1
abbrev gI (g : vG) : ClassId := g.2.2.1
abbrev gZ (g : vG) : ClassId := g.2.2.2.1
abbrev gA (g : vG) : ClassId := g.2.2.2.2
abbrev gT (g : vG) : List (ClassId × FieldType) := [(gI g, .int), (gZ g, .boolean), (gA g, .array .int)]
/-- the links between nest mates -/
def vNw (U : State) : Prop := va_Nw (.methodLinkNest RX6 23 yX7_isIn RX7) U ∧ va_Nw (.methodLinkNest RX4 67 yX7_isIn RX7) U
theorem vNw.warm {s U : State} (hW : s.WarmedH U.vm) (h : vNw s) : vNw U := ⟨va_Nw.warmM hW h.1, va_Nw.warmM hW h.2⟩
theorem vNw.same {u U : State} (hv : u.vm = U.vm) (h : vNw u) : vNw U := ⟨va_Nw.same rfl hv h.1, va_Nw.same rfl hv h.2⟩
def vL (ls : Array Slot) (nL : Nat) (lv : List (Option Value)) : Prop := ls.size = nL ∧ lv_wf ls ∧ ∀ (i : Nat) (v : Value), lv[i]? = some (some v) → ls[i]? = some (.val v) ∧ v.category = 1
abbrev vX : Type := vG × Program × Env × Room × State × MethodId × Array Value × List Frame × Method × Code × Nat × Nat × (State → Prop) × (Nat → Prop) × Nat
def vM : vX → Nat → List (Option Value) → List Value → va_W → Prop
  | (g, p, e, R, s, m, args, below, meth, c, cells, slots, Q, A, nL), pc, lv, st, ws => ∀ (H : Heap) (locs : List Loc) (ls : Array Slot), va_P (gD g) vwCl ws H → va_D A ws → va_S A s.heap H locs → vL ls nL lv → W p g.1 e R s m args below meth c H locs cells slots Q (F0 m pc ls st)
def Ok : vX → vG → ByteArray → String → Room → Nat → Prop
  | (g, p, e, R, s, m, args, below, meth, c, cells, slots, Q, A, nL), g', cc, own, rm, nL' => g = g' ∧ R = rm ∧ nL = nL' ∧ p.tables.exec = Jvm.exec ∧ c.code = cc ∧ c.maxLocals = nL ∧ s.vm.findClass own = some m.cls ∧ (∀ w ∈ wsL_law, w.before args s = true) ∧ va_K (gD g) vwCl (gT g) s ∧ (∀ q : Nat, s.heap.size ≤ q → A q) ∧ meth.locks = false ∧ vNw s ∧ cells ≤ R.cells ∧ slots ≤ R.slots
/-- what a return needs -/
def Ret : vX → Option FieldType → Option Value → va_W → Prop
  | (g, p, e, R, s, m, args, below, meth, c, cells, slots, Q, A, nL), ret, r, wo => meth.sig.returnType = ret ∧ ∃ (Qc : Array Value → State → Outcome → State → Prop) (free : Addr → Prop), Q = MQ below Qc args s cells slots free ∧ (∀ q, A q → free q) ∧ ∀ (t : State) (H : Heap) (locs : List Loc), t.heap = H → s.WarmedH t.vm → va_P (gD g) vwCl wo H → va_S A s.heap H locs → Qc args s (.returned r) t
/-- a contract: from the cells wi, with these arguments, the method answers r and leaves the cells wo -/
def vPre (g : vG) (wi : va_W) (sz : Nat) (U : State) : Prop := U.heap.size = sz ∧ va_P (gD g) vwCl wi U.heap ∧ va_K (gD g) vwCl (gT g) U ∧ va_D (fun _ => True) wi ∧ vNw U
def vPost (g : vG) (wi : va_W) (r : Option Value) (wo : va_W) (sz : Nat) : Array Value → State → Outcome → State → Prop := fun _ st oc t => (oc = .returned r ∧ va_P (gD g) vwCl wo t.heap) ∧ va_F (va_A wi sz) st t
def Ct (g : vG) (y : MethodName) (cc : ByteArray) (maxL : Nat) (ret : Option FieldType) (rm : Room) (wi : va_W) (av : List Value) (r : Option Value) (wo : va_W) : Prop :=
  wo.map (fun q => q.1) = wi.map (fun q => q.1) ∧ ∀ sz : Nat, Met g.1 y (.code y cc maxL ret :: wsL_law) rm (va_Pc av (vPre g wi sz)) (vPost g wi r wo sz) 0 0 (va_A wi sz)
/-- a room by frames and words of locals, no cells -/
abbrev rmOf (f w : Nat) : Room := { frames := f, cells := 0, slots := 0, locals := w }
theorem vL_entry (av : List Value) (nL : Nat) (hn : av.length ≤ nL) (hc : ∀ v ∈ av, v.category = 1) : vL ((lg_sl av ++ List.replicate (nL - (lg_sl av).length) Slot.unset).toArray) nL (av.map some ++ List.replicate (nL - av.length) none) := by
  have hsl : ∀ (l : List Value), (∀ v ∈ l, v.category = 1) → (lg_sl l).length = l.length := by
    intro l
    induction l with
    | nil => intro _; rfl
    | cons v vs ih =>
      intro h
      have h1 : v.category = 1 := h v List.mem_cons_self
      have h2 := ih (fun w hw => h w (List.mem_cons_of_mem _ hw))
      have e : lg_sl (v :: vs) = Slot.val v :: lg_sl vs := by simp [lg_sl, h1]
      rw [e, List.length_cons, h2, List.length_cons]
  have har : ∀ (l : List Value) (k : Nat), (∀ v ∈ l, v.category = 1) → ∀ (i : Nat) (v : Value), l[i]? = some v → (k + i, v) ∈ lv_args k l := by
    intro l
    induction l with
    | nil => intro k _ i v h; simp at h
    | cons w ws ih =>
      intro k h i v hi
      have h1 : w.category = 1 := h w List.mem_cons_self
      cases i with
      | zero => simp at hi; subst hi; simp [lv_args]
      | succ i =>
        have h2 := ih (k + 1) (fun z hz => h z (List.mem_cons_of_mem _ hz)) i v (by simpa using hi)
        have h3 : (if w.category = 2 then k + 2 else k + 1) = k + 1 := by rw [if_neg (by omega)]
        unfold lv_args
        rw [h3]
        refine List.mem_cons_of_mem _ ?_
        rw [show k + (i + 1) = k + 1 + i by omega]
        exact h2
  have h0 := lv_entry av (n := nL) (by rw [hsl av hc]; exact hn)
  refine ⟨h0.1, h0.2.1, fun i v hi => ?_⟩
  have hi2 : av[i]? = some v := by
    by_cases hlt : i < av.length
    · rw [List.getElem?_append_left (by simpa using hlt)] at hi
      simpa using hi
    · rw [List.getElem?_append_right (by simpa using hlt)] at hi
      rw [List.getElem?_replicate] at hi
      split at hi <;> simp at hi
  have h1 := h0.2.2 (i, v) (by have := har av 0 hc i v hi2; simpa using this)
  exact ⟨h1, hc v (List.mem_of_getElem? hi2)⟩
theorem Ct.ofV {g : vG} {y : MethodName} {cc : ByteArray} {maxL : Nat} {ret : Option FieldType} {rm : Room} {wi wo : va_W} {av : List Value} {r : Option Value} (own : String) (hown : y.cls = own) (hy : plainName y.cls = true) (hcs : rm.cells = 0) (hsl : rm.slots = 0) (hwo : wo.map (fun q => q.1) = wi.map (fun q => q.1)) (hn : av.length ≤ maxL) (hc : ∀ v ∈ av, v.category = 1)
    (body : ∀ x : vX, Ok x g cc own rm maxL → Ret x ret r wo → vM x 0 (av.map some ++ List.replicate (maxL - av.length) none) [] wi) : Ct g y cc maxL ret rm wi av r wo := by
  refine ⟨hwo, fun sz => Met.ofW (cc := cc) (maxL := maxL) (ret := ret) hy rfl ?_⟩
  intro p e s m args below meth c s₁ B hml hv
  obtain ⟨rfl, hsz, hP, hK, hD0, hnw⟩ := hv
  have hts := atoms_spec (ws := .code y cc maxL ret :: wsL_law) B.pre
  have hfc : s.vm.findClass own = some m.cls := hown ▸ findClass_of_methodNamed B.named
  subst hsz
  have hb := body (g, p, e, (headSpec (.code y cc maxL ret :: wsL_law) rm).room, s, m, av.toArray, below, meth, c, 0, 0, MQ below (vPost g wi r wo s.heap.size) av.toArray s 0 0 (va_A wi s.heap.size), va_A wi s.heap.size, maxL)
    ⟨rfl, rfl, rfl, B.exec, B.bytes, hml, hfc, fun w hw => hts w (List.mem_cons_of_mem _ hw), hK, fun q hq => Or.inr hq, B.notSynchronized, hnw, Nat.zero_le _, Nat.zero_le _⟩
    ⟨B.returns, _, _, rfl, fun q h => h, fun t H locs ht hW hP2 hS => ⟨⟨rfl, by rw [ht]; exact hP2⟩, hS.F ht⟩⟩
  rw [lg_entry_eq]
  exact hb s.heap [] _ hP hD0.self va_S.rf (vL_entry av maxL hn hc)
theorem vM.le {x : vX} {pc : Nat} {lv : List (Option Value)} {st : List Value} {ws ws' : va_W} {st' : List Value} {lv' : List (Option Value)} (h1 : lv = lv') (h2 : st = st') (h3 : ws = ws') (k : vM x pc lv' st' ws') : vM x pc lv st ws := by subst h1; subst h2; subst h3; exact k
/-- forget locals -/
theorem vL.weak {ls : Array Slot} {nL : Nat} {lv lv' : List (Option Value)} (h : vL ls nL lv) (hw : ∀ (i : Nat) (v : Value), lv'[i]? = some (some v) → lv[i]? = some (some v)) : vL ls nL lv' := ⟨h.1, h.2.1, fun i v hi => h.2.2 i v (hw i v hi)⟩
/-- which local lists say less -/
def vfg : List (Option Value) → List (Option Value) → Prop
  | _, [] => True
  | a :: l, none :: l' => vfg l l'
  | a :: l, some b :: l' => a = some b ∧ vfg l l'
  | [], _ :: _ => False
theorem vfg_get : ∀ {l l' : List (Option Value)}, vfg l l' → ∀ (i : Nat) (v : Value), l'[i]? = some (some v) → l[i]? = some (some v)
  | _, [], _, i, v, h => by simp at h
  | a :: l, none :: l', h, 0, v, hi => by simp at hi
  | a :: l, none :: l', h, i + 1, v, hi => by
    have := vfg_get (l := l) (l' := l') h i v (by simpa using hi)
    simpa using this
  | a :: l, some b :: l', h, 0, v, hi => by
    have : b = v := by simpa using hi
    rw [← this]; simpa using h.1
  | a :: l, some b :: l', h, i + 1, v, hi => by
    have := vfg_get (l := l) (l' := l') h.2 i v (by simpa using hi)
    simpa using this
  | [], none :: _, h, _, _, _ => False.elim (by simp [vfg] at h)
  | [], some _ :: _, h, _, _, _ => False.elim (by simp [vfg] at h)
theorem vM.forget {x : vX} {pc : Nat} {lv lv' : List (Option Value)} {st : List Value} {ws : va_W} (h : vfg lv lv') (k : vM x pc lv' st ws) : vM x pc lv st ws := by
  obtain ⟨g, p, e, R, s, m, args, below, meth, c, cells, slots, Q, A, nL⟩ := x
  exact fun H locs ls hP hD hS hl => k H locs ls hP hD hS (hl.weak (vfg_get h))
theorem vM.fg {x : vX} {pc : Nat} {lv lv' : List (Option Value)} {st : List Value} {ws : va_W} (k : vM x pc lv' st ws) (h : vfg lv lv') : vM x pc lv st ws := vM.forget h k
theorem vL_enum {ls : Array Slot} {nL : Nat} {lv : List (Option Value)} (h : vL ls nL lv) : ∃ l : List (Nat × Value), lv_has ls nL l ∧ (∀ q ∈ l, q.2.category = 1) ∧ ∀ (i : Nat) (v : Value), lv[i]? = some (some v) → (i, v) ∈ l := by
  refine ⟨(List.range lv.length).filterMap (fun i => (lv[i]?).bind (fun o => o.map (fun v => (i, v)))), ⟨h.1, h.2.1, fun q hq => ?_⟩, fun q hq => ?_, fun i v hi => ?_⟩
  · obtain ⟨i, -, hi⟩ := List.mem_filterMap.mp hq
    rcases ho : lv[i]? with _ | _ | v
    · rw [ho] at hi; simp at hi
    · rw [ho] at hi; simp at hi
    · rw [ho] at hi
      have : q = (i, v) := by simpa using hi.symm
      rw [this]
      exact (h.2.2 i v ho).1
  · obtain ⟨i, -, hi⟩ := List.mem_filterMap.mp hq
    rcases ho : lv[i]? with _ | _ | v
    · rw [ho] at hi; simp at hi
    · rw [ho] at hi; simp at hi
    · rw [ho] at hi
      have : q = (i, v) := by simpa using hi.symm
      rw [this]
      exact (h.2.2 i v ho).2
  · refine List.mem_filterMap.mpr ⟨i, ?_, by rw [hi]; rfl⟩
    exact List.mem_range.mpr (List.getElem?_eq_some_iff.mp hi).1
theorem vL_store {ls' : Array Slot} {nL i : Nat} {w : Value} {lv : List (Option Value)} {l : List (Nat × Value)} (hl : ∀ q ∈ l, q.2.category = 1) (he : ∀ (j : Nat) (v : Value), lv[j]? = some (some v) → (j, v) ∈ l) (hw : w.category = 1) (h : lv_has ls' nL ((i, w) :: l.filter (fun q => !(q.1 == i) && !(q.1 + 1 == i && q.2.category == 2)))) : vL ls' nL (lv.set i (some w)) := by
  refine ⟨h.1, h.2.1, fun j v hj => ?_⟩
  by_cases e : j = i
  · subst e
    have hlen : j < lv.length := by
      have := (List.getElem?_eq_some_iff.mp hj).1
      simpa using this
    rw [List.getElem?_set_self hlen] at hj
    have : w = v := by simpa using hj
    subst this
    exact ⟨h.2.2 (j, w) List.mem_cons_self, hw⟩
  · rw [List.getElem?_set_ne (fun q => e q.symm)] at hj
    have hm := he j v hj
    have hc := hl _ hm
    refine ⟨h.2.2 (j, v) (List.mem_cons_of_mem _ (List.mem_filter.mpr ⟨hm, ?_⟩)), hc⟩
    have hc2 : v.category = 1 := hc
    simp [e, hc2]
def bN (b : Bool) : Nat := if b then 1 else 0
theorem bN_t {b : Bool} (h : b = true) : bN b = 1 := by simp [bN, h]
theorem bN_f {b : Bool} (h : b = false) : bN b = 0 := by simp [bN, h]
theorem bN_le (b : Bool) : bN b ≤ 1 := by cases b <;> simp [bN]
theorem nI_int (k : Nat) (v : Int32) (h : v = Int32.ofNat k) : Value.int v = .int (nI k) := by rw [h]; rfl
theorem vcI (a : Int32) : (Value.int a).category = 1 := rfl
section VMR
variable {x : vX} {g : vG} {cc : ByteArray} {own : String} {rm : Room} {nL : Nat} {pc : Nat} {lv : List (Option Value)} {st : List Value} {ws : va_W}
theorem v_iload_n0 (h : Ok x g cc own rm nL) {lt : List (Option Value)} {v : Int32} (hd : decode cc pc = .ok (.iload_n 0, 1)) (k : vM x (pc + 1) (some (.int v) :: lt) (.int v :: st) ws) : vM x pc (some (.int v) :: lt) (st) ws := by
  obtain ⟨g0, p, e, R, s, m, args, below, meth, c, cells, slots, Q, A, nL0⟩ := x
  obtain ⟨rfl, rfl, rfl, hx, hb, hml, hown, hts, hK, hA, hlk, hnw, hcl, hsl⟩ := h
  exact fun H locs ls hP hD hS hl => lv_iload_n hx hb hd rfl (hl.2.2 0 _ rfl).1 (k _ _ _ hP hD hS hl)
theorem v_iload0 (h : Ok x g cc own rm nL) {lt : List (Option Value)} {v : Int32} (hd : decode cc pc = .ok (.iload 0, 2)) (k : vM x (pc + 2) (some (.int v) :: lt) (.int v :: st) ws) : vM x pc (some (.int v) :: lt) (st) ws := by
  obtain ⟨g0, p, e, R, s, m, args, below, meth, c, cells, slots, Q, A, nL0⟩ := x
  obtain ⟨rfl, rfl, rfl, hx, hb, hml, hown, hts, hK, hA, hlk, hnw, hcl, hsl⟩ := h
  exact fun H locs ls hP hD hS hl => lv_iload hx hb hd (hl.2.2 0 _ rfl).1 (k _ _ _ hP hD hS hl)
theorem v_istore_n0 (h : Ok x g cc own rm nL) {lt : List (Option Value)} {lo : Option Value} {v : Int32} (hn : 0 < nL) (hd : decode cc pc = .ok (.istore_n 0, 1)) (k : vM x (pc + 1) (some (.int v) :: lt) st ws) : vM x pc (lo :: lt) (.int v :: st) ws := by
  obtain ⟨g0, p, e, R, s, m, args, below, meth, c, cells, slots, Q, A, nL0⟩ := x
  obtain ⟨rfl, rfl, rfl, hx, hb, hml, hown, hts, hK, hA, hlk, hnw, hcl, hsl⟩ := h
  intro H locs ls hP hD hS hl
  obtain ⟨l, q1, q2, q3⟩ := vL_enum hl
  exact lv_istore_n hx hb hd rfl q1 hn rfl (fun ls2 hl2 => k _ _ _ hP hD hS (by have q4 := vL_store q2 q3 rfl hl2; exact q4))
theorem v_istore0 (h : Ok x g cc own rm nL) {lt : List (Option Value)} {lo : Option Value} {v : Int32} (hn : 0 < nL) (hd : decode cc pc = .ok (.istore 0, 2)) (k : vM x (pc + 2) (some (.int v) :: lt) st ws) : vM x pc (lo :: lt) (.int v :: st) ws := by
  obtain ⟨g0, p, e, R, s, m, args, below, meth, c, cells, slots, Q, A, nL0⟩ := x
  obtain ⟨rfl, rfl, rfl, hx, hb, hml, hown, hts, hK, hA, hlk, hnw, hcl, hsl⟩ := h
  intro H locs ls hP hD hS hl
  obtain ⟨l, q1, q2, q3⟩ := vL_enum hl
  exact lv_istore hx hb hd q1 hn rfl (fun ls2 hl2 => k _ _ _ hP hD hS (by have q4 := vL_store q2 q3 rfl hl2; exact q4))
theorem v_aload_n0 (h : Ok x g cc own rm nL) {lt : List (Option Value)} {v : Nat} (hd : decode cc pc = .ok (.aload_n 0, 1)) (k : vM x (pc + 1) (some (.ref v) :: lt) (.ref v :: st) ws) : vM x pc (some (.ref v) :: lt) (st) ws := by
  obtain ⟨g0, p, e, R, s, m, args, below, meth, c, cells, slots, Q, A, nL0⟩ := x
  obtain ⟨rfl, rfl, rfl, hx, hb, hml, hown, hts, hK, hA, hlk, hnw, hcl, hsl⟩ := h
  exact fun H locs ls hP hD hS hl => lv_aload_n hx hb hd rfl (hl.2.2 0 _ rfl).1 (k _ _ _ hP hD hS hl)
theorem v_aload0 (h : Ok x g cc own rm nL) {lt : List (Option Value)} {v : Nat} (hd : decode cc pc = .ok (.aload 0, 2)) (k : vM x (pc + 2) (some (.ref v) :: lt) (.ref v :: st) ws) : vM x pc (some (.ref v) :: lt) (st) ws := by
  obtain ⟨g0, p, e, R, s, m, args, below, meth, c, cells, slots, Q, A, nL0⟩ := x
  obtain ⟨rfl, rfl, rfl, hx, hb, hml, hown, hts, hK, hA, hlk, hnw, hcl, hsl⟩ := h
  exact fun H locs ls hP hD hS hl => lv_aload hx hb hd (hl.2.2 0 _ rfl).1 (k _ _ _ hP hD hS hl)
theorem v_astore_n0 (h : Ok x g cc own rm nL) {lt : List (Option Value)} {lo : Option Value} {v : Nat} (hn : 0 < nL) (hd : decode cc pc = .ok (.astore_n 0, 1)) (k : vM x (pc + 1) (some (.ref v) :: lt) st ws) : vM x pc (lo :: lt) (.ref v :: st) ws := by
  obtain ⟨g0, p, e, R, s, m, args, below, meth, c, cells, slots, Q, A, nL0⟩ := x
  obtain ⟨rfl, rfl, rfl, hx, hb, hml, hown, hts, hK, hA, hlk, hnw, hcl, hsl⟩ := h
  intro H locs ls hP hD hS hl
  obtain ⟨l, q1, q2, q3⟩ := vL_enum hl
  exact lv_astore_n hx hb hd rfl q1 hn rfl (fun ls2 hl2 => k _ _ _ hP hD hS (by have q4 := vL_store q2 q3 rfl hl2; exact q4))
theorem v_astore0 (h : Ok x g cc own rm nL) {lt : List (Option Value)} {lo : Option Value} {v : Nat} (hn : 0 < nL) (hd : decode cc pc = .ok (.astore 0, 2)) (k : vM x (pc + 2) (some (.ref v) :: lt) st ws) : vM x pc (lo :: lt) (.ref v :: st) ws := by
  obtain ⟨g0, p, e, R, s, m, args, below, meth, c, cells, slots, Q, A, nL0⟩ := x
  obtain ⟨rfl, rfl, rfl, hx, hb, hml, hown, hts, hK, hA, hlk, hnw, hcl, hsl⟩ := h
  intro H locs ls hP hD hS hl
  obtain ⟨l, q1, q2, q3⟩ := vL_enum hl
  exact lv_astore hx hb hd q1 hn rfl (fun ls2 hl2 => k _ _ _ hP hD hS (by have q4 := vL_store q2 q3 rfl hl2; exact q4))
theorem v_iinc0 (h : Ok x g cc own rm nL) {lt : List (Option Value)} {v : Int32} {d : Int} (hn : 0 < nL) (hd : decode cc pc = .ok (.iinc 0 d, 3)) (k : vM x (pc + 3) (some (.int (v + Int32.ofInt d)) :: lt) st ws) : vM x pc (some (.int v) :: lt) st ws := by
  obtain ⟨g0, p, e, R, s, m, args, below, meth, c, cells, slots, Q, A, nL0⟩ := x
  obtain ⟨rfl, rfl, rfl, hx, hb, hml, hown, hts, hK, hA, hlk, hnw, hcl, hsl⟩ := h
  intro H locs ls hP hD hS hl
  obtain ⟨l, q1, q2, q3⟩ := vL_enum hl
  obtain ⟨kk, hkk⟩ := List.getElem?_of_mem (q3 0 _ rfl)
  exact lv_iinc hx hb hd q1 hkk rfl hn rfl (fun ls2 hl2 => k _ _ _ hP hD hS (by have q4 := vL_store q2 q3 rfl hl2; exact q4))
theorem v_iincN0 (h : Ok x g cc own rm nL) {lt : List (Option Value)} {v : Nat} (hn : 0 < nL) (hd : decode cc pc = .ok (.iinc 0 1, 3)) (k : vM x (pc + 3) (some (.int (nI (v + 1))) :: lt) st ws) : vM x pc (some (.int (nI v)) :: lt) st ws := by
  refine v_iinc0 h hn hd ?_
  rw [show nI v + Int32.ofInt 1 = nI (v + 1) from nI_1 v]
  exact k
theorem v_idecN0 (h : Ok x g cc own rm nL) {lt : List (Option Value)} {v : Nat} (hn : 0 < nL) (hd : decode cc pc = .ok (.iinc 0 (-1), 3)) (k : vM x (pc + 3) (some (.int (nI v)) :: lt) st ws) : vM x pc (some (.int (nI (v + 1))) :: lt) st ws := by
  refine v_iinc0 h hn hd ?_
  rw [show nI (v + 1) + Int32.ofInt (-1) = nI v from pk_m1 v]
  exact k
theorem v_iload_n1 (h : Ok x g cc own rm nL) {l0 : Option Value} {lt : List (Option Value)} {v : Int32} (hd : decode cc pc = .ok (.iload_n 1, 1)) (k : vM x (pc + 1) (l0 :: some (.int v) :: lt) (.int v :: st) ws) : vM x pc (l0 :: some (.int v) :: lt) (st) ws := by
  obtain ⟨g0, p, e, R, s, m, args, below, meth, c, cells, slots, Q, A, nL0⟩ := x
  obtain ⟨rfl, rfl, rfl, hx, hb, hml, hown, hts, hK, hA, hlk, hnw, hcl, hsl⟩ := h
  exact fun H locs ls hP hD hS hl => lv_iload_n hx hb hd rfl (hl.2.2 1 _ rfl).1 (k _ _ _ hP hD hS hl)
theorem v_iload1 (h : Ok x g cc own rm nL) {l0 : Option Value} {lt : List (Option Value)} {v : Int32} (hd : decode cc pc = .ok (.iload 1, 2)) (k : vM x (pc + 2) (l0 :: some (.int v) :: lt) (.int v :: st) ws) : vM x pc (l0 :: some (.int v) :: lt) (st) ws := by
  obtain ⟨g0, p, e, R, s, m, args, below, meth, c, cells, slots, Q, A, nL0⟩ := x
  obtain ⟨rfl, rfl, rfl, hx, hb, hml, hown, hts, hK, hA, hlk, hnw, hcl, hsl⟩ := h
  exact fun H locs ls hP hD hS hl => lv_iload hx hb hd (hl.2.2 1 _ rfl).1 (k _ _ _ hP hD hS hl)
theorem v_istore_n1 (h : Ok x g cc own rm nL) {l0 : Option Value} {lt : List (Option Value)} {lo : Option Value} {v : Int32} (hn : 1 < nL) (hd : decode cc pc = .ok (.istore_n 1, 1)) (k : vM x (pc + 1) (l0 :: some (.int v) :: lt) st ws) : vM x pc (l0 :: lo :: lt) (.int v :: st) ws := by
  obtain ⟨g0, p, e, R, s, m, args, below, meth, c, cells, slots, Q, A, nL0⟩ := x
  obtain ⟨rfl, rfl, rfl, hx, hb, hml, hown, hts, hK, hA, hlk, hnw, hcl, hsl⟩ := h
  intro H locs ls hP hD hS hl
  obtain ⟨l, q1, q2, q3⟩ := vL_enum hl
  exact lv_istore_n hx hb hd rfl q1 hn rfl (fun ls2 hl2 => k _ _ _ hP hD hS (by have q4 := vL_store q2 q3 rfl hl2; exact q4))
theorem v_istore1 (h : Ok x g cc own rm nL) {l0 : Option Value} {lt : List (Option Value)} {lo : Option Value} {v : Int32} (hn : 1 < nL) (hd : decode cc pc = .ok (.istore 1, 2)) (k : vM x (pc + 2) (l0 :: some (.int v) :: lt) st ws) : vM x pc (l0 :: lo :: lt) (.int v :: st) ws := by
  obtain ⟨g0, p, e, R, s, m, args, below, meth, c, cells, slots, Q, A, nL0⟩ := x
  obtain ⟨rfl, rfl, rfl, hx, hb, hml, hown, hts, hK, hA, hlk, hnw, hcl, hsl⟩ := h
  intro H locs ls hP hD hS hl
  obtain ⟨l, q1, q2, q3⟩ := vL_enum hl
  exact lv_istore hx hb hd q1 hn rfl (fun ls2 hl2 => k _ _ _ hP hD hS (by have q4 := vL_store q2 q3 rfl hl2; exact q4))
theorem v_aload_n1 (h : Ok x g cc own rm nL) {l0 : Option Value} {lt : List (Option Value)} {v : Nat} (hd : decode cc pc = .ok (.aload_n 1, 1)) (k : vM x (pc + 1) (l0 :: some (.ref v) :: lt) (.ref v :: st) ws) : vM x pc (l0 :: some (.ref v) :: lt) (st) ws := by
  obtain ⟨g0, p, e, R, s, m, args, below, meth, c, cells, slots, Q, A, nL0⟩ := x
  obtain ⟨rfl, rfl, rfl, hx, hb, hml, hown, hts, hK, hA, hlk, hnw, hcl, hsl⟩ := h
  exact fun H locs ls hP hD hS hl => lv_aload_n hx hb hd rfl (hl.2.2 1 _ rfl).1 (k _ _ _ hP hD hS hl)
theorem v_aload1 (h : Ok x g cc own rm nL) {l0 : Option Value} {lt : List (Option Value)} {v : Nat} (hd : decode cc pc = .ok (.aload 1, 2)) (k : vM x (pc + 2) (l0 :: some (.ref v) :: lt) (.ref v :: st) ws) : vM x pc (l0 :: some (.ref v) :: lt) (st) ws := by
  obtain ⟨g0, p, e, R, s, m, args, below, meth, c, cells, slots, Q, A, nL0⟩ := x
  obtain ⟨rfl, rfl, rfl, hx, hb, hml, hown, hts, hK, hA, hlk, hnw, hcl, hsl⟩ := h
  exact fun H locs ls hP hD hS hl => lv_aload hx hb hd (hl.2.2 1 _ rfl).1 (k _ _ _ hP hD hS hl)
theorem v_astore_n1 (h : Ok x g cc own rm nL) {l0 : Option Value} {lt : List (Option Value)} {lo : Option Value} {v : Nat} (hn : 1 < nL) (hd : decode cc pc = .ok (.astore_n 1, 1)) (k : vM x (pc + 1) (l0 :: some (.ref v) :: lt) st ws) : vM x pc (l0 :: lo :: lt) (.ref v :: st) ws := by
  obtain ⟨g0, p, e, R, s, m, args, below, meth, c, cells, slots, Q, A, nL0⟩ := x
  obtain ⟨rfl, rfl, rfl, hx, hb, hml, hown, hts, hK, hA, hlk, hnw, hcl, hsl⟩ := h
  intro H locs ls hP hD hS hl
  obtain ⟨l, q1, q2, q3⟩ := vL_enum hl
  exact lv_astore_n hx hb hd rfl q1 hn rfl (fun ls2 hl2 => k _ _ _ hP hD hS (by have q4 := vL_store q2 q3 rfl hl2; exact q4))
theorem v_astore1 (h : Ok x g cc own rm nL) {l0 : Option Value} {lt : List (Option Value)} {lo : Option Value} {v : Nat} (hn : 1 < nL) (hd : decode cc pc = .ok (.astore 1, 2)) (k : vM x (pc + 2) (l0 :: some (.ref v) :: lt) st ws) : vM x pc (l0 :: lo :: lt) (.ref v :: st) ws := by
  obtain ⟨g0, p, e, R, s, m, args, below, meth, c, cells, slots, Q, A, nL0⟩ := x
  obtain ⟨rfl, rfl, rfl, hx, hb, hml, hown, hts, hK, hA, hlk, hnw, hcl, hsl⟩ := h
  intro H locs ls hP hD hS hl
  obtain ⟨l, q1, q2, q3⟩ := vL_enum hl
  exact lv_astore hx hb hd q1 hn rfl (fun ls2 hl2 => k _ _ _ hP hD hS (by have q4 := vL_store q2 q3 rfl hl2; exact q4))
theorem v_iinc1 (h : Ok x g cc own rm nL) {l0 : Option Value} {lt : List (Option Value)} {v : Int32} {d : Int} (hn : 1 < nL) (hd : decode cc pc = .ok (.iinc 1 d, 3)) (k : vM x (pc + 3) (l0 :: some (.int (v + Int32.ofInt d)) :: lt) st ws) : vM x pc (l0 :: some (.int v) :: lt) st ws := by
  obtain ⟨g0, p, e, R, s, m, args, below, meth, c, cells, slots, Q, A, nL0⟩ := x
  obtain ⟨rfl, rfl, rfl, hx, hb, hml, hown, hts, hK, hA, hlk, hnw, hcl, hsl⟩ := h
  intro H locs ls hP hD hS hl
  obtain ⟨l, q1, q2, q3⟩ := vL_enum hl
  obtain ⟨kk, hkk⟩ := List.getElem?_of_mem (q3 1 _ rfl)
  exact lv_iinc hx hb hd q1 hkk rfl hn rfl (fun ls2 hl2 => k _ _ _ hP hD hS (by have q4 := vL_store q2 q3 rfl hl2; exact q4))
theorem v_iincN1 (h : Ok x g cc own rm nL) {l0 : Option Value} {lt : List (Option Value)} {v : Nat} (hn : 1 < nL) (hd : decode cc pc = .ok (.iinc 1 1, 3)) (k : vM x (pc + 3) (l0 :: some (.int (nI (v + 1))) :: lt) st ws) : vM x pc (l0 :: some (.int (nI v)) :: lt) st ws := by
  refine v_iinc1 h hn hd ?_
  rw [show nI v + Int32.ofInt 1 = nI (v + 1) from nI_1 v]
  exact k
theorem v_idecN1 (h : Ok x g cc own rm nL) {l0 : Option Value} {lt : List (Option Value)} {v : Nat} (hn : 1 < nL) (hd : decode cc pc = .ok (.iinc 1 (-1), 3)) (k : vM x (pc + 3) (l0 :: some (.int (nI v)) :: lt) st ws) : vM x pc (l0 :: some (.int (nI (v + 1))) :: lt) st ws := by
  refine v_iinc1 h hn hd ?_
  rw [show nI (v + 1) + Int32.ofInt (-1) = nI v from pk_m1 v]
  exact k
theorem v_iload_n2 (h : Ok x g cc own rm nL) {l0 l1 : Option Value} {lt : List (Option Value)} {v : Int32} (hd : decode cc pc = .ok (.iload_n 2, 1)) (k : vM x (pc + 1) (l0 :: l1 :: some (.int v) :: lt) (.int v :: st) ws) : vM x pc (l0 :: l1 :: some (.int v) :: lt) (st) ws := by
  obtain ⟨g0, p, e, R, s, m, args, below, meth, c, cells, slots, Q, A, nL0⟩ := x
  obtain ⟨rfl, rfl, rfl, hx, hb, hml, hown, hts, hK, hA, hlk, hnw, hcl, hsl⟩ := h
  exact fun H locs ls hP hD hS hl => lv_iload_n hx hb hd rfl (hl.2.2 2 _ rfl).1 (k _ _ _ hP hD hS hl)
theorem v_iload2 (h : Ok x g cc own rm nL) {l0 l1 : Option Value} {lt : List (Option Value)} {v : Int32} (hd : decode cc pc = .ok (.iload 2, 2)) (k : vM x (pc + 2) (l0 :: l1 :: some (.int v) :: lt) (.int v :: st) ws) : vM x pc (l0 :: l1 :: some (.int v) :: lt) (st) ws := by
  obtain ⟨g0, p, e, R, s, m, args, below, meth, c, cells, slots, Q, A, nL0⟩ := x
  obtain ⟨rfl, rfl, rfl, hx, hb, hml, hown, hts, hK, hA, hlk, hnw, hcl, hsl⟩ := h
  exact fun H locs ls hP hD hS hl => lv_iload hx hb hd (hl.2.2 2 _ rfl).1 (k _ _ _ hP hD hS hl)
theorem v_istore_n2 (h : Ok x g cc own rm nL) {l0 l1 : Option Value} {lt : List (Option Value)} {lo : Option Value} {v : Int32} (hn : 2 < nL) (hd : decode cc pc = .ok (.istore_n 2, 1)) (k : vM x (pc + 1) (l0 :: l1 :: some (.int v) :: lt) st ws) : vM x pc (l0 :: l1 :: lo :: lt) (.int v :: st) ws := by
  obtain ⟨g0, p, e, R, s, m, args, below, meth, c, cells, slots, Q, A, nL0⟩ := x
  obtain ⟨rfl, rfl, rfl, hx, hb, hml, hown, hts, hK, hA, hlk, hnw, hcl, hsl⟩ := h
  intro H locs ls hP hD hS hl
  obtain ⟨l, q1, q2, q3⟩ := vL_enum hl
  exact lv_istore_n hx hb hd rfl q1 hn rfl (fun ls2 hl2 => k _ _ _ hP hD hS (by have q4 := vL_store q2 q3 rfl hl2; exact q4))
theorem v_istore2 (h : Ok x g cc own rm nL) {l0 l1 : Option Value} {lt : List (Option Value)} {lo : Option Value} {v : Int32} (hn : 2 < nL) (hd : decode cc pc = .ok (.istore 2, 2)) (k : vM x (pc + 2) (l0 :: l1 :: some (.int v) :: lt) st ws) : vM x pc (l0 :: l1 :: lo :: lt) (.int v :: st) ws := by
  obtain ⟨g0, p, e, R, s, m, args, below, meth, c, cells, slots, Q, A, nL0⟩ := x
  obtain ⟨rfl, rfl, rfl, hx, hb, hml, hown, hts, hK, hA, hlk, hnw, hcl, hsl⟩ := h
  intro H locs ls hP hD hS hl
  obtain ⟨l, q1, q2, q3⟩ := vL_enum hl
  exact lv_istore hx hb hd q1 hn rfl (fun ls2 hl2 => k _ _ _ hP hD hS (by have q4 := vL_store q2 q3 rfl hl2; exact q4))
theorem v_aload_n2 (h : Ok x g cc own rm nL) {l0 l1 : Option Value} {lt : List (Option Value)} {v : Nat} (hd : decode cc pc = .ok (.aload_n 2, 1)) (k : vM x (pc + 1) (l0 :: l1 :: some (.ref v) :: lt) (.ref v :: st) ws) : vM x pc (l0 :: l1 :: some (.ref v) :: lt) (st) ws := by
  obtain ⟨g0, p, e, R, s, m, args, below, meth, c, cells, slots, Q, A, nL0⟩ := x
  obtain ⟨rfl, rfl, rfl, hx, hb, hml, hown, hts, hK, hA, hlk, hnw, hcl, hsl⟩ := h
  exact fun H locs ls hP hD hS hl => lv_aload_n hx hb hd rfl (hl.2.2 2 _ rfl).1 (k _ _ _ hP hD hS hl)
theorem v_aload2 (h : Ok x g cc own rm nL) {l0 l1 : Option Value} {lt : List (Option Value)} {v : Nat} (hd : decode cc pc = .ok (.aload 2, 2)) (k : vM x (pc + 2) (l0 :: l1 :: some (.ref v) :: lt) (.ref v :: st) ws) : vM x pc (l0 :: l1 :: some (.ref v) :: lt) (st) ws := by
  obtain ⟨g0, p, e, R, s, m, args, below, meth, c, cells, slots, Q, A, nL0⟩ := x
  obtain ⟨rfl, rfl, rfl, hx, hb, hml, hown, hts, hK, hA, hlk, hnw, hcl, hsl⟩ := h
  exact fun H locs ls hP hD hS hl => lv_aload hx hb hd (hl.2.2 2 _ rfl).1 (k _ _ _ hP hD hS hl)
theorem v_astore_n2 (h : Ok x g cc own rm nL) {l0 l1 : Option Value} {lt : List (Option Value)} {lo : Option Value} {v : Nat} (hn : 2 < nL) (hd : decode cc pc = .ok (.astore_n 2, 1)) (k : vM x (pc + 1) (l0 :: l1 :: some (.ref v) :: lt) st ws) : vM x pc (l0 :: l1 :: lo :: lt) (.ref v :: st) ws := by
  obtain ⟨g0, p, e, R, s, m, args, below, meth, c, cells, slots, Q, A, nL0⟩ := x
  obtain ⟨rfl, rfl, rfl, hx, hb, hml, hown, hts, hK, hA, hlk, hnw, hcl, hsl⟩ := h
  intro H locs ls hP hD hS hl
  obtain ⟨l, q1, q2, q3⟩ := vL_enum hl
  exact lv_astore_n hx hb hd rfl q1 hn rfl (fun ls2 hl2 => k _ _ _ hP hD hS (by have q4 := vL_store q2 q3 rfl hl2; exact q4))
theorem v_astore2 (h : Ok x g cc own rm nL) {l0 l1 : Option Value} {lt : List (Option Value)} {lo : Option Value} {v : Nat} (hn : 2 < nL) (hd : decode cc pc = .ok (.astore 2, 2)) (k : vM x (pc + 2) (l0 :: l1 :: some (.ref v) :: lt) st ws) : vM x pc (l0 :: l1 :: lo :: lt) (.ref v :: st) ws := by
  obtain ⟨g0, p, e, R, s, m, args, below, meth, c, cells, slots, Q, A, nL0⟩ := x
  obtain ⟨rfl, rfl, rfl, hx, hb, hml, hown, hts, hK, hA, hlk, hnw, hcl, hsl⟩ := h
  intro H locs ls hP hD hS hl
  obtain ⟨l, q1, q2, q3⟩ := vL_enum hl
  exact lv_astore hx hb hd q1 hn rfl (fun ls2 hl2 => k _ _ _ hP hD hS (by have q4 := vL_store q2 q3 rfl hl2; exact q4))
theorem v_iinc2 (h : Ok x g cc own rm nL) {l0 l1 : Option Value} {lt : List (Option Value)} {v : Int32} {d : Int} (hn : 2 < nL) (hd : decode cc pc = .ok (.iinc 2 d, 3)) (k : vM x (pc + 3) (l0 :: l1 :: some (.int (v + Int32.ofInt d)) :: lt) st ws) : vM x pc (l0 :: l1 :: some (.int v) :: lt) st ws := by
  obtain ⟨g0, p, e, R, s, m, args, below, meth, c, cells, slots, Q, A, nL0⟩ := x
  obtain ⟨rfl, rfl, rfl, hx, hb, hml, hown, hts, hK, hA, hlk, hnw, hcl, hsl⟩ := h
  intro H locs ls hP hD hS hl
  obtain ⟨l, q1, q2, q3⟩ := vL_enum hl
  obtain ⟨kk, hkk⟩ := List.getElem?_of_mem (q3 2 _ rfl)
  exact lv_iinc hx hb hd q1 hkk rfl hn rfl (fun ls2 hl2 => k _ _ _ hP hD hS (by have q4 := vL_store q2 q3 rfl hl2; exact q4))
theorem v_iincN2 (h : Ok x g cc own rm nL) {l0 l1 : Option Value} {lt : List (Option Value)} {v : Nat} (hn : 2 < nL) (hd : decode cc pc = .ok (.iinc 2 1, 3)) (k : vM x (pc + 3) (l0 :: l1 :: some (.int (nI (v + 1))) :: lt) st ws) : vM x pc (l0 :: l1 :: some (.int (nI v)) :: lt) st ws := by
  refine v_iinc2 h hn hd ?_
  rw [show nI v + Int32.ofInt 1 = nI (v + 1) from nI_1 v]
  exact k
theorem v_idecN2 (h : Ok x g cc own rm nL) {l0 l1 : Option Value} {lt : List (Option Value)} {v : Nat} (hn : 2 < nL) (hd : decode cc pc = .ok (.iinc 2 (-1), 3)) (k : vM x (pc + 3) (l0 :: l1 :: some (.int (nI v)) :: lt) st ws) : vM x pc (l0 :: l1 :: some (.int (nI (v + 1))) :: lt) st ws := by
  refine v_iinc2 h hn hd ?_
  rw [show nI (v + 1) + Int32.ofInt (-1) = nI v from pk_m1 v]
  exact k
theorem v_iload_n3 (h : Ok x g cc own rm nL) {l0 l1 l2 : Option Value} {lt : List (Option Value)} {v : Int32} (hd : decode cc pc = .ok (.iload_n 3, 1)) (k : vM x (pc + 1) (l0 :: l1 :: l2 :: some (.int v) :: lt) (.int v :: st) ws) : vM x pc (l0 :: l1 :: l2 :: some (.int v) :: lt) (st) ws := by
  obtain ⟨g0, p, e, R, s, m, args, below, meth, c, cells, slots, Q, A, nL0⟩ := x
  obtain ⟨rfl, rfl, rfl, hx, hb, hml, hown, hts, hK, hA, hlk, hnw, hcl, hsl⟩ := h
  exact fun H locs ls hP hD hS hl => lv_iload_n hx hb hd rfl (hl.2.2 3 _ rfl).1 (k _ _ _ hP hD hS hl)
theorem v_iload3 (h : Ok x g cc own rm nL) {l0 l1 l2 : Option Value} {lt : List (Option Value)} {v : Int32} (hd : decode cc pc = .ok (.iload 3, 2)) (k : vM x (pc + 2) (l0 :: l1 :: l2 :: some (.int v) :: lt) (.int v :: st) ws) : vM x pc (l0 :: l1 :: l2 :: some (.int v) :: lt) (st) ws := by
  obtain ⟨g0, p, e, R, s, m, args, below, meth, c, cells, slots, Q, A, nL0⟩ := x
  obtain ⟨rfl, rfl, rfl, hx, hb, hml, hown, hts, hK, hA, hlk, hnw, hcl, hsl⟩ := h
  exact fun H locs ls hP hD hS hl => lv_iload hx hb hd (hl.2.2 3 _ rfl).1 (k _ _ _ hP hD hS hl)
theorem v_istore_n3 (h : Ok x g cc own rm nL) {l0 l1 l2 : Option Value} {lt : List (Option Value)} {lo : Option Value} {v : Int32} (hn : 3 < nL) (hd : decode cc pc = .ok (.istore_n 3, 1)) (k : vM x (pc + 1) (l0 :: l1 :: l2 :: some (.int v) :: lt) st ws) : vM x pc (l0 :: l1 :: l2 :: lo :: lt) (.int v :: st) ws := by
  obtain ⟨g0, p, e, R, s, m, args, below, meth, c, cells, slots, Q, A, nL0⟩ := x
  obtain ⟨rfl, rfl, rfl, hx, hb, hml, hown, hts, hK, hA, hlk, hnw, hcl, hsl⟩ := h
  intro H locs ls hP hD hS hl
  obtain ⟨l, q1, q2, q3⟩ := vL_enum hl
  exact lv_istore_n hx hb hd rfl q1 hn rfl (fun ls2 hl2 => k _ _ _ hP hD hS (by have q4 := vL_store q2 q3 rfl hl2; exact q4))
theorem v_istore3 (h : Ok x g cc own rm nL) {l0 l1 l2 : Option Value} {lt : List (Option Value)} {lo : Option Value} {v : Int32} (hn : 3 < nL) (hd : decode cc pc = .ok (.istore 3, 2)) (k : vM x (pc + 2) (l0 :: l1 :: l2 :: some (.int v) :: lt) st ws) : vM x pc (l0 :: l1 :: l2 :: lo :: lt) (.int v :: st) ws := by
  obtain ⟨g0, p, e, R, s, m, args, below, meth, c, cells, slots, Q, A, nL0⟩ := x
  obtain ⟨rfl, rfl, rfl, hx, hb, hml, hown, hts, hK, hA, hlk, hnw, hcl, hsl⟩ := h
  intro H locs ls hP hD hS hl
  obtain ⟨l, q1, q2, q3⟩ := vL_enum hl
  exact lv_istore hx hb hd q1 hn rfl (fun ls2 hl2 => k _ _ _ hP hD hS (by have q4 := vL_store q2 q3 rfl hl2; exact q4))
theorem v_aload_n3 (h : Ok x g cc own rm nL) {l0 l1 l2 : Option Value} {lt : List (Option Value)} {v : Nat} (hd : decode cc pc = .ok (.aload_n 3, 1)) (k : vM x (pc + 1) (l0 :: l1 :: l2 :: some (.ref v) :: lt) (.ref v :: st) ws) : vM x pc (l0 :: l1 :: l2 :: some (.ref v) :: lt) (st) ws := by
  obtain ⟨g0, p, e, R, s, m, args, below, meth, c, cells, slots, Q, A, nL0⟩ := x
  obtain ⟨rfl, rfl, rfl, hx, hb, hml, hown, hts, hK, hA, hlk, hnw, hcl, hsl⟩ := h
  exact fun H locs ls hP hD hS hl => lv_aload_n hx hb hd rfl (hl.2.2 3 _ rfl).1 (k _ _ _ hP hD hS hl)
theorem v_aload3 (h : Ok x g cc own rm nL) {l0 l1 l2 : Option Value} {lt : List (Option Value)} {v : Nat} (hd : decode cc pc = .ok (.aload 3, 2)) (k : vM x (pc + 2) (l0 :: l1 :: l2 :: some (.ref v) :: lt) (.ref v :: st) ws) : vM x pc (l0 :: l1 :: l2 :: some (.ref v) :: lt) (st) ws := by
  obtain ⟨g0, p, e, R, s, m, args, below, meth, c, cells, slots, Q, A, nL0⟩ := x
  obtain ⟨rfl, rfl, rfl, hx, hb, hml, hown, hts, hK, hA, hlk, hnw, hcl, hsl⟩ := h
  exact fun H locs ls hP hD hS hl => lv_aload hx hb hd (hl.2.2 3 _ rfl).1 (k _ _ _ hP hD hS hl)
theorem v_astore_n3 (h : Ok x g cc own rm nL) {l0 l1 l2 : Option Value} {lt : List (Option Value)} {lo : Option Value} {v : Nat} (hn : 3 < nL) (hd : decode cc pc = .ok (.astore_n 3, 1)) (k : vM x (pc + 1) (l0 :: l1 :: l2 :: some (.ref v) :: lt) st ws) : vM x pc (l0 :: l1 :: l2 :: lo :: lt) (.ref v :: st) ws := by
  obtain ⟨g0, p, e, R, s, m, args, below, meth, c, cells, slots, Q, A, nL0⟩ := x
  obtain ⟨rfl, rfl, rfl, hx, hb, hml, hown, hts, hK, hA, hlk, hnw, hcl, hsl⟩ := h
  intro H locs ls hP hD hS hl
  obtain ⟨l, q1, q2, q3⟩ := vL_enum hl
  exact lv_astore_n hx hb hd rfl q1 hn rfl (fun ls2 hl2 => k _ _ _ hP hD hS (by have q4 := vL_store q2 q3 rfl hl2; exact q4))
theorem v_astore3 (h : Ok x g cc own rm nL) {l0 l1 l2 : Option Value} {lt : List (Option Value)} {lo : Option Value} {v : Nat} (hn : 3 < nL) (hd : decode cc pc = .ok (.astore 3, 2)) (k : vM x (pc + 2) (l0 :: l1 :: l2 :: some (.ref v) :: lt) st ws) : vM x pc (l0 :: l1 :: l2 :: lo :: lt) (.ref v :: st) ws := by
  obtain ⟨g0, p, e, R, s, m, args, below, meth, c, cells, slots, Q, A, nL0⟩ := x
  obtain ⟨rfl, rfl, rfl, hx, hb, hml, hown, hts, hK, hA, hlk, hnw, hcl, hsl⟩ := h
  intro H locs ls hP hD hS hl
  obtain ⟨l, q1, q2, q3⟩ := vL_enum hl
  exact lv_astore hx hb hd q1 hn rfl (fun ls2 hl2 => k _ _ _ hP hD hS (by have q4 := vL_store q2 q3 rfl hl2; exact q4))
theorem v_iinc3 (h : Ok x g cc own rm nL) {l0 l1 l2 : Option Value} {lt : List (Option Value)} {v : Int32} {d : Int} (hn : 3 < nL) (hd : decode cc pc = .ok (.iinc 3 d, 3)) (k : vM x (pc + 3) (l0 :: l1 :: l2 :: some (.int (v + Int32.ofInt d)) :: lt) st ws) : vM x pc (l0 :: l1 :: l2 :: some (.int v) :: lt) st ws := by
  obtain ⟨g0, p, e, R, s, m, args, below, meth, c, cells, slots, Q, A, nL0⟩ := x
  obtain ⟨rfl, rfl, rfl, hx, hb, hml, hown, hts, hK, hA, hlk, hnw, hcl, hsl⟩ := h
  intro H locs ls hP hD hS hl
  obtain ⟨l, q1, q2, q3⟩ := vL_enum hl
  obtain ⟨kk, hkk⟩ := List.getElem?_of_mem (q3 3 _ rfl)
  exact lv_iinc hx hb hd q1 hkk rfl hn rfl (fun ls2 hl2 => k _ _ _ hP hD hS (by have q4 := vL_store q2 q3 rfl hl2; exact q4))
theorem v_iincN3 (h : Ok x g cc own rm nL) {l0 l1 l2 : Option Value} {lt : List (Option Value)} {v : Nat} (hn : 3 < nL) (hd : decode cc pc = .ok (.iinc 3 1, 3)) (k : vM x (pc + 3) (l0 :: l1 :: l2 :: some (.int (nI (v + 1))) :: lt) st ws) : vM x pc (l0 :: l1 :: l2 :: some (.int (nI v)) :: lt) st ws := by
  refine v_iinc3 h hn hd ?_
  rw [show nI v + Int32.ofInt 1 = nI (v + 1) from nI_1 v]
  exact k
theorem v_idecN3 (h : Ok x g cc own rm nL) {l0 l1 l2 : Option Value} {lt : List (Option Value)} {v : Nat} (hn : 3 < nL) (hd : decode cc pc = .ok (.iinc 3 (-1), 3)) (k : vM x (pc + 3) (l0 :: l1 :: l2 :: some (.int (nI v)) :: lt) st ws) : vM x pc (l0 :: l1 :: l2 :: some (.int (nI (v + 1))) :: lt) st ws := by
  refine v_iinc3 h hn hd ?_
  rw [show nI (v + 1) + Int32.ofInt (-1) = nI v from pk_m1 v]
  exact k
theorem v_iload4 (h : Ok x g cc own rm nL) {l0 l1 l2 l3 : Option Value} {lt : List (Option Value)} {v : Int32} (hd : decode cc pc = .ok (.iload 4, 2)) (k : vM x (pc + 2) (l0 :: l1 :: l2 :: l3 :: some (.int v) :: lt) (.int v :: st) ws) : vM x pc (l0 :: l1 :: l2 :: l3 :: some (.int v) :: lt) (st) ws := by
  obtain ⟨g0, p, e, R, s, m, args, below, meth, c, cells, slots, Q, A, nL0⟩ := x
  obtain ⟨rfl, rfl, rfl, hx, hb, hml, hown, hts, hK, hA, hlk, hnw, hcl, hsl⟩ := h
  exact fun H locs ls hP hD hS hl => lv_iload hx hb hd (hl.2.2 4 _ rfl).1 (k _ _ _ hP hD hS hl)
theorem v_istore4 (h : Ok x g cc own rm nL) {l0 l1 l2 l3 : Option Value} {lt : List (Option Value)} {lo : Option Value} {v : Int32} (hn : 4 < nL) (hd : decode cc pc = .ok (.istore 4, 2)) (k : vM x (pc + 2) (l0 :: l1 :: l2 :: l3 :: some (.int v) :: lt) st ws) : vM x pc (l0 :: l1 :: l2 :: l3 :: lo :: lt) (.int v :: st) ws := by
  obtain ⟨g0, p, e, R, s, m, args, below, meth, c, cells, slots, Q, A, nL0⟩ := x
  obtain ⟨rfl, rfl, rfl, hx, hb, hml, hown, hts, hK, hA, hlk, hnw, hcl, hsl⟩ := h
  intro H locs ls hP hD hS hl
  obtain ⟨l, q1, q2, q3⟩ := vL_enum hl
  exact lv_istore hx hb hd q1 hn rfl (fun ls2 hl2 => k _ _ _ hP hD hS (by have q4 := vL_store q2 q3 rfl hl2; exact q4))
theorem v_aload4 (h : Ok x g cc own rm nL) {l0 l1 l2 l3 : Option Value} {lt : List (Option Value)} {v : Nat} (hd : decode cc pc = .ok (.aload 4, 2)) (k : vM x (pc + 2) (l0 :: l1 :: l2 :: l3 :: some (.ref v) :: lt) (.ref v :: st) ws) : vM x pc (l0 :: l1 :: l2 :: l3 :: some (.ref v) :: lt) (st) ws := by
  obtain ⟨g0, p, e, R, s, m, args, below, meth, c, cells, slots, Q, A, nL0⟩ := x
  obtain ⟨rfl, rfl, rfl, hx, hb, hml, hown, hts, hK, hA, hlk, hnw, hcl, hsl⟩ := h
  exact fun H locs ls hP hD hS hl => lv_aload hx hb hd (hl.2.2 4 _ rfl).1 (k _ _ _ hP hD hS hl)
theorem v_astore4 (h : Ok x g cc own rm nL) {l0 l1 l2 l3 : Option Value} {lt : List (Option Value)} {lo : Option Value} {v : Nat} (hn : 4 < nL) (hd : decode cc pc = .ok (.astore 4, 2)) (k : vM x (pc + 2) (l0 :: l1 :: l2 :: l3 :: some (.ref v) :: lt) st ws) : vM x pc (l0 :: l1 :: l2 :: l3 :: lo :: lt) (.ref v :: st) ws := by
  obtain ⟨g0, p, e, R, s, m, args, below, meth, c, cells, slots, Q, A, nL0⟩ := x
  obtain ⟨rfl, rfl, rfl, hx, hb, hml, hown, hts, hK, hA, hlk, hnw, hcl, hsl⟩ := h
  intro H locs ls hP hD hS hl
  obtain ⟨l, q1, q2, q3⟩ := vL_enum hl
  exact lv_astore hx hb hd q1 hn rfl (fun ls2 hl2 => k _ _ _ hP hD hS (by have q4 := vL_store q2 q3 rfl hl2; exact q4))
theorem v_iinc4 (h : Ok x g cc own rm nL) {l0 l1 l2 l3 : Option Value} {lt : List (Option Value)} {v : Int32} {d : Int} (hn : 4 < nL) (hd : decode cc pc = .ok (.iinc 4 d, 3)) (k : vM x (pc + 3) (l0 :: l1 :: l2 :: l3 :: some (.int (v + Int32.ofInt d)) :: lt) st ws) : vM x pc (l0 :: l1 :: l2 :: l3 :: some (.int v) :: lt) st ws := by
  obtain ⟨g0, p, e, R, s, m, args, below, meth, c, cells, slots, Q, A, nL0⟩ := x
  obtain ⟨rfl, rfl, rfl, hx, hb, hml, hown, hts, hK, hA, hlk, hnw, hcl, hsl⟩ := h
  intro H locs ls hP hD hS hl
  obtain ⟨l, q1, q2, q3⟩ := vL_enum hl
  obtain ⟨kk, hkk⟩ := List.getElem?_of_mem (q3 4 _ rfl)
  exact lv_iinc hx hb hd q1 hkk rfl hn rfl (fun ls2 hl2 => k _ _ _ hP hD hS (by have q4 := vL_store q2 q3 rfl hl2; exact q4))
theorem v_iincN4 (h : Ok x g cc own rm nL) {l0 l1 l2 l3 : Option Value} {lt : List (Option Value)} {v : Nat} (hn : 4 < nL) (hd : decode cc pc = .ok (.iinc 4 1, 3)) (k : vM x (pc + 3) (l0 :: l1 :: l2 :: l3 :: some (.int (nI (v + 1))) :: lt) st ws) : vM x pc (l0 :: l1 :: l2 :: l3 :: some (.int (nI v)) :: lt) st ws := by
  refine v_iinc4 h hn hd ?_
  rw [show nI v + Int32.ofInt 1 = nI (v + 1) from nI_1 v]
  exact k
theorem v_idecN4 (h : Ok x g cc own rm nL) {l0 l1 l2 l3 : Option Value} {lt : List (Option Value)} {v : Nat} (hn : 4 < nL) (hd : decode cc pc = .ok (.iinc 4 (-1), 3)) (k : vM x (pc + 3) (l0 :: l1 :: l2 :: l3 :: some (.int (nI v)) :: lt) st ws) : vM x pc (l0 :: l1 :: l2 :: l3 :: some (.int (nI (v + 1))) :: lt) st ws := by
  refine v_iinc4 h hn hd ?_
  rw [show nI (v + 1) + Int32.ofInt (-1) = nI v from pk_m1 v]
  exact k
theorem v_iload5 (h : Ok x g cc own rm nL) {l0 l1 l2 l3 l4 : Option Value} {lt : List (Option Value)} {v : Int32} (hd : decode cc pc = .ok (.iload 5, 2)) (k : vM x (pc + 2) (l0 :: l1 :: l2 :: l3 :: l4 :: some (.int v) :: lt) (.int v :: st) ws) : vM x pc (l0 :: l1 :: l2 :: l3 :: l4 :: some (.int v) :: lt) (st) ws := by
  obtain ⟨g0, p, e, R, s, m, args, below, meth, c, cells, slots, Q, A, nL0⟩ := x
  obtain ⟨rfl, rfl, rfl, hx, hb, hml, hown, hts, hK, hA, hlk, hnw, hcl, hsl⟩ := h
  exact fun H locs ls hP hD hS hl => lv_iload hx hb hd (hl.2.2 5 _ rfl).1 (k _ _ _ hP hD hS hl)
theorem v_istore5 (h : Ok x g cc own rm nL) {l0 l1 l2 l3 l4 : Option Value} {lt : List (Option Value)} {lo : Option Value} {v : Int32} (hn : 5 < nL) (hd : decode cc pc = .ok (.istore 5, 2)) (k : vM x (pc + 2) (l0 :: l1 :: l2 :: l3 :: l4 :: some (.int v) :: lt) st ws) : vM x pc (l0 :: l1 :: l2 :: l3 :: l4 :: lo :: lt) (.int v :: st) ws := by
  obtain ⟨g0, p, e, R, s, m, args, below, meth, c, cells, slots, Q, A, nL0⟩ := x
  obtain ⟨rfl, rfl, rfl, hx, hb, hml, hown, hts, hK, hA, hlk, hnw, hcl, hsl⟩ := h
  intro H locs ls hP hD hS hl
  obtain ⟨l, q1, q2, q3⟩ := vL_enum hl
  exact lv_istore hx hb hd q1 hn rfl (fun ls2 hl2 => k _ _ _ hP hD hS (by have q4 := vL_store q2 q3 rfl hl2; exact q4))
theorem v_aload5 (h : Ok x g cc own rm nL) {l0 l1 l2 l3 l4 : Option Value} {lt : List (Option Value)} {v : Nat} (hd : decode cc pc = .ok (.aload 5, 2)) (k : vM x (pc + 2) (l0 :: l1 :: l2 :: l3 :: l4 :: some (.ref v) :: lt) (.ref v :: st) ws) : vM x pc (l0 :: l1 :: l2 :: l3 :: l4 :: some (.ref v) :: lt) (st) ws := by
  obtain ⟨g0, p, e, R, s, m, args, below, meth, c, cells, slots, Q, A, nL0⟩ := x
  obtain ⟨rfl, rfl, rfl, hx, hb, hml, hown, hts, hK, hA, hlk, hnw, hcl, hsl⟩ := h
  exact fun H locs ls hP hD hS hl => lv_aload hx hb hd (hl.2.2 5 _ rfl).1 (k _ _ _ hP hD hS hl)
theorem v_astore5 (h : Ok x g cc own rm nL) {l0 l1 l2 l3 l4 : Option Value} {lt : List (Option Value)} {lo : Option Value} {v : Nat} (hn : 5 < nL) (hd : decode cc pc = .ok (.astore 5, 2)) (k : vM x (pc + 2) (l0 :: l1 :: l2 :: l3 :: l4 :: some (.ref v) :: lt) st ws) : vM x pc (l0 :: l1 :: l2 :: l3 :: l4 :: lo :: lt) (.ref v :: st) ws := by
  obtain ⟨g0, p, e, R, s, m, args, below, meth, c, cells, slots, Q, A, nL0⟩ := x
  obtain ⟨rfl, rfl, rfl, hx, hb, hml, hown, hts, hK, hA, hlk, hnw, hcl, hsl⟩ := h
  intro H locs ls hP hD hS hl
  obtain ⟨l, q1, q2, q3⟩ := vL_enum hl
  exact lv_astore hx hb hd q1 hn rfl (fun ls2 hl2 => k _ _ _ hP hD hS (by have q4 := vL_store q2 q3 rfl hl2; exact q4))
theorem v_iinc5 (h : Ok x g cc own rm nL) {l0 l1 l2 l3 l4 : Option Value} {lt : List (Option Value)} {v : Int32} {d : Int} (hn : 5 < nL) (hd : decode cc pc = .ok (.iinc 5 d, 3)) (k : vM x (pc + 3) (l0 :: l1 :: l2 :: l3 :: l4 :: some (.int (v + Int32.ofInt d)) :: lt) st ws) : vM x pc (l0 :: l1 :: l2 :: l3 :: l4 :: some (.int v) :: lt) st ws := by
  obtain ⟨g0, p, e, R, s, m, args, below, meth, c, cells, slots, Q, A, nL0⟩ := x
  obtain ⟨rfl, rfl, rfl, hx, hb, hml, hown, hts, hK, hA, hlk, hnw, hcl, hsl⟩ := h
  intro H locs ls hP hD hS hl
  obtain ⟨l, q1, q2, q3⟩ := vL_enum hl
  obtain ⟨kk, hkk⟩ := List.getElem?_of_mem (q3 5 _ rfl)
  exact lv_iinc hx hb hd q1 hkk rfl hn rfl (fun ls2 hl2 => k _ _ _ hP hD hS (by have q4 := vL_store q2 q3 rfl hl2; exact q4))
theorem v_iincN5 (h : Ok x g cc own rm nL) {l0 l1 l2 l3 l4 : Option Value} {lt : List (Option Value)} {v : Nat} (hn : 5 < nL) (hd : decode cc pc = .ok (.iinc 5 1, 3)) (k : vM x (pc + 3) (l0 :: l1 :: l2 :: l3 :: l4 :: some (.int (nI (v + 1))) :: lt) st ws) : vM x pc (l0 :: l1 :: l2 :: l3 :: l4 :: some (.int (nI v)) :: lt) st ws := by
  refine v_iinc5 h hn hd ?_
  rw [show nI v + Int32.ofInt 1 = nI (v + 1) from nI_1 v]
  exact k
theorem v_idecN5 (h : Ok x g cc own rm nL) {l0 l1 l2 l3 l4 : Option Value} {lt : List (Option Value)} {v : Nat} (hn : 5 < nL) (hd : decode cc pc = .ok (.iinc 5 (-1), 3)) (k : vM x (pc + 3) (l0 :: l1 :: l2 :: l3 :: l4 :: some (.int (nI v)) :: lt) st ws) : vM x pc (l0 :: l1 :: l2 :: l3 :: l4 :: some (.int (nI (v + 1))) :: lt) st ws := by
  refine v_iinc5 h hn hd ?_
  rw [show nI (v + 1) + Int32.ofInt (-1) = nI v from pk_m1 v]
  exact k
theorem v_iload6 (h : Ok x g cc own rm nL) {l0 l1 l2 l3 l4 l5 : Option Value} {lt : List (Option Value)} {v : Int32} (hd : decode cc pc = .ok (.iload 6, 2)) (k : vM x (pc + 2) (l0 :: l1 :: l2 :: l3 :: l4 :: l5 :: some (.int v) :: lt) (.int v :: st) ws) : vM x pc (l0 :: l1 :: l2 :: l3 :: l4 :: l5 :: some (.int v) :: lt) (st) ws := by
  obtain ⟨g0, p, e, R, s, m, args, below, meth, c, cells, slots, Q, A, nL0⟩ := x
  obtain ⟨rfl, rfl, rfl, hx, hb, hml, hown, hts, hK, hA, hlk, hnw, hcl, hsl⟩ := h
  exact fun H locs ls hP hD hS hl => lv_iload hx hb hd (hl.2.2 6 _ rfl).1 (k _ _ _ hP hD hS hl)
theorem v_istore6 (h : Ok x g cc own rm nL) {l0 l1 l2 l3 l4 l5 : Option Value} {lt : List (Option Value)} {lo : Option Value} {v : Int32} (hn : 6 < nL) (hd : decode cc pc = .ok (.istore 6, 2)) (k : vM x (pc + 2) (l0 :: l1 :: l2 :: l3 :: l4 :: l5 :: some (.int v) :: lt) st ws) : vM x pc (l0 :: l1 :: l2 :: l3 :: l4 :: l5 :: lo :: lt) (.int v :: st) ws := by
  obtain ⟨g0, p, e, R, s, m, args, below, meth, c, cells, slots, Q, A, nL0⟩ := x
  obtain ⟨rfl, rfl, rfl, hx, hb, hml, hown, hts, hK, hA, hlk, hnw, hcl, hsl⟩ := h
  intro H locs ls hP hD hS hl
  obtain ⟨l, q1, q2, q3⟩ := vL_enum hl
  exact lv_istore hx hb hd q1 hn rfl (fun ls2 hl2 => k _ _ _ hP hD hS (by have q4 := vL_store q2 q3 rfl hl2; exact q4))
theorem v_aload6 (h : Ok x g cc own rm nL) {l0 l1 l2 l3 l4 l5 : Option Value} {lt : List (Option Value)} {v : Nat} (hd : decode cc pc = .ok (.aload 6, 2)) (k : vM x (pc + 2) (l0 :: l1 :: l2 :: l3 :: l4 :: l5 :: some (.ref v) :: lt) (.ref v :: st) ws) : vM x pc (l0 :: l1 :: l2 :: l3 :: l4 :: l5 :: some (.ref v) :: lt) (st) ws := by
  obtain ⟨g0, p, e, R, s, m, args, below, meth, c, cells, slots, Q, A, nL0⟩ := x
  obtain ⟨rfl, rfl, rfl, hx, hb, hml, hown, hts, hK, hA, hlk, hnw, hcl, hsl⟩ := h
  exact fun H locs ls hP hD hS hl => lv_aload hx hb hd (hl.2.2 6 _ rfl).1 (k _ _ _ hP hD hS hl)
theorem v_astore6 (h : Ok x g cc own rm nL) {l0 l1 l2 l3 l4 l5 : Option Value} {lt : List (Option Value)} {lo : Option Value} {v : Nat} (hn : 6 < nL) (hd : decode cc pc = .ok (.astore 6, 2)) (k : vM x (pc + 2) (l0 :: l1 :: l2 :: l3 :: l4 :: l5 :: some (.ref v) :: lt) st ws) : vM x pc (l0 :: l1 :: l2 :: l3 :: l4 :: l5 :: lo :: lt) (.ref v :: st) ws := by
  obtain ⟨g0, p, e, R, s, m, args, below, meth, c, cells, slots, Q, A, nL0⟩ := x
  obtain ⟨rfl, rfl, rfl, hx, hb, hml, hown, hts, hK, hA, hlk, hnw, hcl, hsl⟩ := h
  intro H locs ls hP hD hS hl
  obtain ⟨l, q1, q2, q3⟩ := vL_enum hl
  exact lv_astore hx hb hd q1 hn rfl (fun ls2 hl2 => k _ _ _ hP hD hS (by have q4 := vL_store q2 q3 rfl hl2; exact q4))
theorem v_iinc6 (h : Ok x g cc own rm nL) {l0 l1 l2 l3 l4 l5 : Option Value} {lt : List (Option Value)} {v : Int32} {d : Int} (hn : 6 < nL) (hd : decode cc pc = .ok (.iinc 6 d, 3)) (k : vM x (pc + 3) (l0 :: l1 :: l2 :: l3 :: l4 :: l5 :: some (.int (v + Int32.ofInt d)) :: lt) st ws) : vM x pc (l0 :: l1 :: l2 :: l3 :: l4 :: l5 :: some (.int v) :: lt) st ws := by
  obtain ⟨g0, p, e, R, s, m, args, below, meth, c, cells, slots, Q, A, nL0⟩ := x
  obtain ⟨rfl, rfl, rfl, hx, hb, hml, hown, hts, hK, hA, hlk, hnw, hcl, hsl⟩ := h
  intro H locs ls hP hD hS hl
  obtain ⟨l, q1, q2, q3⟩ := vL_enum hl
  obtain ⟨kk, hkk⟩ := List.getElem?_of_mem (q3 6 _ rfl)
  exact lv_iinc hx hb hd q1 hkk rfl hn rfl (fun ls2 hl2 => k _ _ _ hP hD hS (by have q4 := vL_store q2 q3 rfl hl2; exact q4))
theorem v_iincN6 (h : Ok x g cc own rm nL) {l0 l1 l2 l3 l4 l5 : Option Value} {lt : List (Option Value)} {v : Nat} (hn : 6 < nL) (hd : decode cc pc = .ok (.iinc 6 1, 3)) (k : vM x (pc + 3) (l0 :: l1 :: l2 :: l3 :: l4 :: l5 :: some (.int (nI (v + 1))) :: lt) st ws) : vM x pc (l0 :: l1 :: l2 :: l3 :: l4 :: l5 :: some (.int (nI v)) :: lt) st ws := by
  refine v_iinc6 h hn hd ?_
  rw [show nI v + Int32.ofInt 1 = nI (v + 1) from nI_1 v]
  exact k
theorem v_idecN6 (h : Ok x g cc own rm nL) {l0 l1 l2 l3 l4 l5 : Option Value} {lt : List (Option Value)} {v : Nat} (hn : 6 < nL) (hd : decode cc pc = .ok (.iinc 6 (-1), 3)) (k : vM x (pc + 3) (l0 :: l1 :: l2 :: l3 :: l4 :: l5 :: some (.int (nI v)) :: lt) st ws) : vM x pc (l0 :: l1 :: l2 :: l3 :: l4 :: l5 :: some (.int (nI (v + 1))) :: lt) st ws := by
  refine v_iinc6 h hn hd ?_
  rw [show nI (v + 1) + Int32.ofInt (-1) = nI v from pk_m1 v]
  exact k
theorem v_iload7 (h : Ok x g cc own rm nL) {l0 l1 l2 l3 l4 l5 l6 : Option Value} {lt : List (Option Value)} {v : Int32} (hd : decode cc pc = .ok (.iload 7, 2)) (k : vM x (pc + 2) (l0 :: l1 :: l2 :: l3 :: l4 :: l5 :: l6 :: some (.int v) :: lt) (.int v :: st) ws) : vM x pc (l0 :: l1 :: l2 :: l3 :: l4 :: l5 :: l6 :: some (.int v) :: lt) (st) ws := by
  obtain ⟨g0, p, e, R, s, m, args, below, meth, c, cells, slots, Q, A, nL0⟩ := x
  obtain ⟨rfl, rfl, rfl, hx, hb, hml, hown, hts, hK, hA, hlk, hnw, hcl, hsl⟩ := h
  exact fun H locs ls hP hD hS hl => lv_iload hx hb hd (hl.2.2 7 _ rfl).1 (k _ _ _ hP hD hS hl)
theorem v_istore7 (h : Ok x g cc own rm nL) {l0 l1 l2 l3 l4 l5 l6 : Option Value} {lt : List (Option Value)} {lo : Option Value} {v : Int32} (hn : 7 < nL) (hd : decode cc pc = .ok (.istore 7, 2)) (k : vM x (pc + 2) (l0 :: l1 :: l2 :: l3 :: l4 :: l5 :: l6 :: some (.int v) :: lt) st ws) : vM x pc (l0 :: l1 :: l2 :: l3 :: l4 :: l5 :: l6 :: lo :: lt) (.int v :: st) ws := by
  obtain ⟨g0, p, e, R, s, m, args, below, meth, c, cells, slots, Q, A, nL0⟩ := x
  obtain ⟨rfl, rfl, rfl, hx, hb, hml, hown, hts, hK, hA, hlk, hnw, hcl, hsl⟩ := h
  intro H locs ls hP hD hS hl
  obtain ⟨l, q1, q2, q3⟩ := vL_enum hl
  exact lv_istore hx hb hd q1 hn rfl (fun ls2 hl2 => k _ _ _ hP hD hS (by have q4 := vL_store q2 q3 rfl hl2; exact q4))
theorem v_aload7 (h : Ok x g cc own rm nL) {l0 l1 l2 l3 l4 l5 l6 : Option Value} {lt : List (Option Value)} {v : Nat} (hd : decode cc pc = .ok (.aload 7, 2)) (k : vM x (pc + 2) (l0 :: l1 :: l2 :: l3 :: l4 :: l5 :: l6 :: some (.ref v) :: lt) (.ref v :: st) ws) : vM x pc (l0 :: l1 :: l2 :: l3 :: l4 :: l5 :: l6 :: some (.ref v) :: lt) (st) ws := by
  obtain ⟨g0, p, e, R, s, m, args, below, meth, c, cells, slots, Q, A, nL0⟩ := x
  obtain ⟨rfl, rfl, rfl, hx, hb, hml, hown, hts, hK, hA, hlk, hnw, hcl, hsl⟩ := h
  exact fun H locs ls hP hD hS hl => lv_aload hx hb hd (hl.2.2 7 _ rfl).1 (k _ _ _ hP hD hS hl)
theorem v_astore7 (h : Ok x g cc own rm nL) {l0 l1 l2 l3 l4 l5 l6 : Option Value} {lt : List (Option Value)} {lo : Option Value} {v : Nat} (hn : 7 < nL) (hd : decode cc pc = .ok (.astore 7, 2)) (k : vM x (pc + 2) (l0 :: l1 :: l2 :: l3 :: l4 :: l5 :: l6 :: some (.ref v) :: lt) st ws) : vM x pc (l0 :: l1 :: l2 :: l3 :: l4 :: l5 :: l6 :: lo :: lt) (.ref v :: st) ws := by
  obtain ⟨g0, p, e, R, s, m, args, below, meth, c, cells, slots, Q, A, nL0⟩ := x
  obtain ⟨rfl, rfl, rfl, hx, hb, hml, hown, hts, hK, hA, hlk, hnw, hcl, hsl⟩ := h
  intro H locs ls hP hD hS hl
  obtain ⟨l, q1, q2, q3⟩ := vL_enum hl
  exact lv_astore hx hb hd q1 hn rfl (fun ls2 hl2 => k _ _ _ hP hD hS (by have q4 := vL_store q2 q3 rfl hl2; exact q4))
theorem v_iinc7 (h : Ok x g cc own rm nL) {l0 l1 l2 l3 l4 l5 l6 : Option Value} {lt : List (Option Value)} {v : Int32} {d : Int} (hn : 7 < nL) (hd : decode cc pc = .ok (.iinc 7 d, 3)) (k : vM x (pc + 3) (l0 :: l1 :: l2 :: l3 :: l4 :: l5 :: l6 :: some (.int (v + Int32.ofInt d)) :: lt) st ws) : vM x pc (l0 :: l1 :: l2 :: l3 :: l4 :: l5 :: l6 :: some (.int v) :: lt) st ws := by
  obtain ⟨g0, p, e, R, s, m, args, below, meth, c, cells, slots, Q, A, nL0⟩ := x
  obtain ⟨rfl, rfl, rfl, hx, hb, hml, hown, hts, hK, hA, hlk, hnw, hcl, hsl⟩ := h
  intro H locs ls hP hD hS hl
  obtain ⟨l, q1, q2, q3⟩ := vL_enum hl
  obtain ⟨kk, hkk⟩ := List.getElem?_of_mem (q3 7 _ rfl)
  exact lv_iinc hx hb hd q1 hkk rfl hn rfl (fun ls2 hl2 => k _ _ _ hP hD hS (by have q4 := vL_store q2 q3 rfl hl2; exact q4))
theorem v_iincN7 (h : Ok x g cc own rm nL) {l0 l1 l2 l3 l4 l5 l6 : Option Value} {lt : List (Option Value)} {v : Nat} (hn : 7 < nL) (hd : decode cc pc = .ok (.iinc 7 1, 3)) (k : vM x (pc + 3) (l0 :: l1 :: l2 :: l3 :: l4 :: l5 :: l6 :: some (.int (nI (v + 1))) :: lt) st ws) : vM x pc (l0 :: l1 :: l2 :: l3 :: l4 :: l5 :: l6 :: some (.int (nI v)) :: lt) st ws := by
  refine v_iinc7 h hn hd ?_
  rw [show nI v + Int32.ofInt 1 = nI (v + 1) from nI_1 v]
  exact k
theorem v_idecN7 (h : Ok x g cc own rm nL) {l0 l1 l2 l3 l4 l5 l6 : Option Value} {lt : List (Option Value)} {v : Nat} (hn : 7 < nL) (hd : decode cc pc = .ok (.iinc 7 (-1), 3)) (k : vM x (pc + 3) (l0 :: l1 :: l2 :: l3 :: l4 :: l5 :: l6 :: some (.int (nI v)) :: lt) st ws) : vM x pc (l0 :: l1 :: l2 :: l3 :: l4 :: l5 :: l6 :: some (.int (nI (v + 1))) :: lt) st ws := by
  refine v_iinc7 h hn hd ?_
  rw [show nI (v + 1) + Int32.ofInt (-1) = nI v from pk_m1 v]
  exact k
theorem v_iload8 (h : Ok x g cc own rm nL) {l0 l1 l2 l3 l4 l5 l6 l7 : Option Value} {lt : List (Option Value)} {v : Int32} (hd : decode cc pc = .ok (.iload 8, 2)) (k : vM x (pc + 2) (l0 :: l1 :: l2 :: l3 :: l4 :: l5 :: l6 :: l7 :: some (.int v) :: lt) (.int v :: st) ws) : vM x pc (l0 :: l1 :: l2 :: l3 :: l4 :: l5 :: l6 :: l7 :: some (.int v) :: lt) (st) ws := by
  obtain ⟨g0, p, e, R, s, m, args, below, meth, c, cells, slots, Q, A, nL0⟩ := x
  obtain ⟨rfl, rfl, rfl, hx, hb, hml, hown, hts, hK, hA, hlk, hnw, hcl, hsl⟩ := h
  exact fun H locs ls hP hD hS hl => lv_iload hx hb hd (hl.2.2 8 _ rfl).1 (k _ _ _ hP hD hS hl)
theorem v_istore8 (h : Ok x g cc own rm nL) {l0 l1 l2 l3 l4 l5 l6 l7 : Option Value} {lt : List (Option Value)} {lo : Option Value} {v : Int32} (hn : 8 < nL) (hd : decode cc pc = .ok (.istore 8, 2)) (k : vM x (pc + 2) (l0 :: l1 :: l2 :: l3 :: l4 :: l5 :: l6 :: l7 :: some (.int v) :: lt) st ws) : vM x pc (l0 :: l1 :: l2 :: l3 :: l4 :: l5 :: l6 :: l7 :: lo :: lt) (.int v :: st) ws := by
  obtain ⟨g0, p, e, R, s, m, args, below, meth, c, cells, slots, Q, A, nL0⟩ := x
  obtain ⟨rfl, rfl, rfl, hx, hb, hml, hown, hts, hK, hA, hlk, hnw, hcl, hsl⟩ := h
  intro H locs ls hP hD hS hl
  obtain ⟨l, q1, q2, q3⟩ := vL_enum hl
  exact lv_istore hx hb hd q1 hn rfl (fun ls2 hl2 => k _ _ _ hP hD hS (by have q4 := vL_store q2 q3 rfl hl2; exact q4))
theorem v_aload8 (h : Ok x g cc own rm nL) {l0 l1 l2 l3 l4 l5 l6 l7 : Option Value} {lt : List (Option Value)} {v : Nat} (hd : decode cc pc = .ok (.aload 8, 2)) (k : vM x (pc + 2) (l0 :: l1 :: l2 :: l3 :: l4 :: l5 :: l6 :: l7 :: some (.ref v) :: lt) (.ref v :: st) ws) : vM x pc (l0 :: l1 :: l2 :: l3 :: l4 :: l5 :: l6 :: l7 :: some (.ref v) :: lt) (st) ws := by
  obtain ⟨g0, p, e, R, s, m, args, below, meth, c, cells, slots, Q, A, nL0⟩ := x
  obtain ⟨rfl, rfl, rfl, hx, hb, hml, hown, hts, hK, hA, hlk, hnw, hcl, hsl⟩ := h
  exact fun H locs ls hP hD hS hl => lv_aload hx hb hd (hl.2.2 8 _ rfl).1 (k _ _ _ hP hD hS hl)
theorem v_astore8 (h : Ok x g cc own rm nL) {l0 l1 l2 l3 l4 l5 l6 l7 : Option Value} {lt : List (Option Value)} {lo : Option Value} {v : Nat} (hn : 8 < nL) (hd : decode cc pc = .ok (.astore 8, 2)) (k : vM x (pc + 2) (l0 :: l1 :: l2 :: l3 :: l4 :: l5 :: l6 :: l7 :: some (.ref v) :: lt) st ws) : vM x pc (l0 :: l1 :: l2 :: l3 :: l4 :: l5 :: l6 :: l7 :: lo :: lt) (.ref v :: st) ws := by
  obtain ⟨g0, p, e, R, s, m, args, below, meth, c, cells, slots, Q, A, nL0⟩ := x
  obtain ⟨rfl, rfl, rfl, hx, hb, hml, hown, hts, hK, hA, hlk, hnw, hcl, hsl⟩ := h
  intro H locs ls hP hD hS hl
  obtain ⟨l, q1, q2, q3⟩ := vL_enum hl
  exact lv_astore hx hb hd q1 hn rfl (fun ls2 hl2 => k _ _ _ hP hD hS (by have q4 := vL_store q2 q3 rfl hl2; exact q4))
theorem v_iinc8 (h : Ok x g cc own rm nL) {l0 l1 l2 l3 l4 l5 l6 l7 : Option Value} {lt : List (Option Value)} {v : Int32} {d : Int} (hn : 8 < nL) (hd : decode cc pc = .ok (.iinc 8 d, 3)) (k : vM x (pc + 3) (l0 :: l1 :: l2 :: l3 :: l4 :: l5 :: l6 :: l7 :: some (.int (v + Int32.ofInt d)) :: lt) st ws) : vM x pc (l0 :: l1 :: l2 :: l3 :: l4 :: l5 :: l6 :: l7 :: some (.int v) :: lt) st ws := by
  obtain ⟨g0, p, e, R, s, m, args, below, meth, c, cells, slots, Q, A, nL0⟩ := x
  obtain ⟨rfl, rfl, rfl, hx, hb, hml, hown, hts, hK, hA, hlk, hnw, hcl, hsl⟩ := h
  intro H locs ls hP hD hS hl
  obtain ⟨l, q1, q2, q3⟩ := vL_enum hl
  obtain ⟨kk, hkk⟩ := List.getElem?_of_mem (q3 8 _ rfl)
  exact lv_iinc hx hb hd q1 hkk rfl hn rfl (fun ls2 hl2 => k _ _ _ hP hD hS (by have q4 := vL_store q2 q3 rfl hl2; exact q4))
theorem v_iincN8 (h : Ok x g cc own rm nL) {l0 l1 l2 l3 l4 l5 l6 l7 : Option Value} {lt : List (Option Value)} {v : Nat} (hn : 8 < nL) (hd : decode cc pc = .ok (.iinc 8 1, 3)) (k : vM x (pc + 3) (l0 :: l1 :: l2 :: l3 :: l4 :: l5 :: l6 :: l7 :: some (.int (nI (v + 1))) :: lt) st ws) : vM x pc (l0 :: l1 :: l2 :: l3 :: l4 :: l5 :: l6 :: l7 :: some (.int (nI v)) :: lt) st ws := by
  refine v_iinc8 h hn hd ?_
  rw [show nI v + Int32.ofInt 1 = nI (v + 1) from nI_1 v]
  exact k
theorem v_idecN8 (h : Ok x g cc own rm nL) {l0 l1 l2 l3 l4 l5 l6 l7 : Option Value} {lt : List (Option Value)} {v : Nat} (hn : 8 < nL) (hd : decode cc pc = .ok (.iinc 8 (-1), 3)) (k : vM x (pc + 3) (l0 :: l1 :: l2 :: l3 :: l4 :: l5 :: l6 :: l7 :: some (.int (nI v)) :: lt) st ws) : vM x pc (l0 :: l1 :: l2 :: l3 :: l4 :: l5 :: l6 :: l7 :: some (.int (nI (v + 1))) :: lt) st ws := by
  refine v_iinc8 h hn hd ?_
  rw [show nI (v + 1) + Int32.ofInt (-1) = nI v from pk_m1 v]
  exact k
theorem v_iload9 (h : Ok x g cc own rm nL) {l0 l1 l2 l3 l4 l5 l6 l7 l8 : Option Value} {lt : List (Option Value)} {v : Int32} (hd : decode cc pc = .ok (.iload 9, 2)) (k : vM x (pc + 2) (l0 :: l1 :: l2 :: l3 :: l4 :: l5 :: l6 :: l7 :: l8 :: some (.int v) :: lt) (.int v :: st) ws) : vM x pc (l0 :: l1 :: l2 :: l3 :: l4 :: l5 :: l6 :: l7 :: l8 :: some (.int v) :: lt) (st) ws := by
  obtain ⟨g0, p, e, R, s, m, args, below, meth, c, cells, slots, Q, A, nL0⟩ := x
  obtain ⟨rfl, rfl, rfl, hx, hb, hml, hown, hts, hK, hA, hlk, hnw, hcl, hsl⟩ := h
  exact fun H locs ls hP hD hS hl => lv_iload hx hb hd (hl.2.2 9 _ rfl).1 (k _ _ _ hP hD hS hl)
theorem v_istore9 (h : Ok x g cc own rm nL) {l0 l1 l2 l3 l4 l5 l6 l7 l8 : Option Value} {lt : List (Option Value)} {lo : Option Value} {v : Int32} (hn : 9 < nL) (hd : decode cc pc = .ok (.istore 9, 2)) (k : vM x (pc + 2) (l0 :: l1 :: l2 :: l3 :: l4 :: l5 :: l6 :: l7 :: l8 :: some (.int v) :: lt) st ws) : vM x pc (l0 :: l1 :: l2 :: l3 :: l4 :: l5 :: l6 :: l7 :: l8 :: lo :: lt) (.int v :: st) ws := by
  obtain ⟨g0, p, e, R, s, m, args, below, meth, c, cells, slots, Q, A, nL0⟩ := x
  obtain ⟨rfl, rfl, rfl, hx, hb, hml, hown, hts, hK, hA, hlk, hnw, hcl, hsl⟩ := h
  intro H locs ls hP hD hS hl
  obtain ⟨l, q1, q2, q3⟩ := vL_enum hl
  exact lv_istore hx hb hd q1 hn rfl (fun ls2 hl2 => k _ _ _ hP hD hS (by have q4 := vL_store q2 q3 rfl hl2; exact q4))
theorem v_aload9 (h : Ok x g cc own rm nL) {l0 l1 l2 l3 l4 l5 l6 l7 l8 : Option Value} {lt : List (Option Value)} {v : Nat} (hd : decode cc pc = .ok (.aload 9, 2)) (k : vM x (pc + 2) (l0 :: l1 :: l2 :: l3 :: l4 :: l5 :: l6 :: l7 :: l8 :: some (.ref v) :: lt) (.ref v :: st) ws) : vM x pc (l0 :: l1 :: l2 :: l3 :: l4 :: l5 :: l6 :: l7 :: l8 :: some (.ref v) :: lt) (st) ws := by
  obtain ⟨g0, p, e, R, s, m, args, below, meth, c, cells, slots, Q, A, nL0⟩ := x
  obtain ⟨rfl, rfl, rfl, hx, hb, hml, hown, hts, hK, hA, hlk, hnw, hcl, hsl⟩ := h
  exact fun H locs ls hP hD hS hl => lv_aload hx hb hd (hl.2.2 9 _ rfl).1 (k _ _ _ hP hD hS hl)
theorem v_astore9 (h : Ok x g cc own rm nL) {l0 l1 l2 l3 l4 l5 l6 l7 l8 : Option Value} {lt : List (Option Value)} {lo : Option Value} {v : Nat} (hn : 9 < nL) (hd : decode cc pc = .ok (.astore 9, 2)) (k : vM x (pc + 2) (l0 :: l1 :: l2 :: l3 :: l4 :: l5 :: l6 :: l7 :: l8 :: some (.ref v) :: lt) st ws) : vM x pc (l0 :: l1 :: l2 :: l3 :: l4 :: l5 :: l6 :: l7 :: l8 :: lo :: lt) (.ref v :: st) ws := by
  obtain ⟨g0, p, e, R, s, m, args, below, meth, c, cells, slots, Q, A, nL0⟩ := x
  obtain ⟨rfl, rfl, rfl, hx, hb, hml, hown, hts, hK, hA, hlk, hnw, hcl, hsl⟩ := h
  intro H locs ls hP hD hS hl
  obtain ⟨l, q1, q2, q3⟩ := vL_enum hl
  exact lv_astore hx hb hd q1 hn rfl (fun ls2 hl2 => k _ _ _ hP hD hS (by have q4 := vL_store q2 q3 rfl hl2; exact q4))
theorem v_iinc9 (h : Ok x g cc own rm nL) {l0 l1 l2 l3 l4 l5 l6 l7 l8 : Option Value} {lt : List (Option Value)} {v : Int32} {d : Int} (hn : 9 < nL) (hd : decode cc pc = .ok (.iinc 9 d, 3)) (k : vM x (pc + 3) (l0 :: l1 :: l2 :: l3 :: l4 :: l5 :: l6 :: l7 :: l8 :: some (.int (v + Int32.ofInt d)) :: lt) st ws) : vM x pc (l0 :: l1 :: l2 :: l3 :: l4 :: l5 :: l6 :: l7 :: l8 :: some (.int v) :: lt) st ws := by
  obtain ⟨g0, p, e, R, s, m, args, below, meth, c, cells, slots, Q, A, nL0⟩ := x
  obtain ⟨rfl, rfl, rfl, hx, hb, hml, hown, hts, hK, hA, hlk, hnw, hcl, hsl⟩ := h
  intro H locs ls hP hD hS hl
  obtain ⟨l, q1, q2, q3⟩ := vL_enum hl
  obtain ⟨kk, hkk⟩ := List.getElem?_of_mem (q3 9 _ rfl)
  exact lv_iinc hx hb hd q1 hkk rfl hn rfl (fun ls2 hl2 => k _ _ _ hP hD hS (by have q4 := vL_store q2 q3 rfl hl2; exact q4))
theorem v_iincN9 (h : Ok x g cc own rm nL) {l0 l1 l2 l3 l4 l5 l6 l7 l8 : Option Value} {lt : List (Option Value)} {v : Nat} (hn : 9 < nL) (hd : decode cc pc = .ok (.iinc 9 1, 3)) (k : vM x (pc + 3) (l0 :: l1 :: l2 :: l3 :: l4 :: l5 :: l6 :: l7 :: l8 :: some (.int (nI (v + 1))) :: lt) st ws) : vM x pc (l0 :: l1 :: l2 :: l3 :: l4 :: l5 :: l6 :: l7 :: l8 :: some (.int (nI v)) :: lt) st ws := by
  refine v_iinc9 h hn hd ?_
  rw [show nI v + Int32.ofInt 1 = nI (v + 1) from nI_1 v]
  exact k
theorem v_idecN9 (h : Ok x g cc own rm nL) {l0 l1 l2 l3 l4 l5 l6 l7 l8 : Option Value} {lt : List (Option Value)} {v : Nat} (hn : 9 < nL) (hd : decode cc pc = .ok (.iinc 9 (-1), 3)) (k : vM x (pc + 3) (l0 :: l1 :: l2 :: l3 :: l4 :: l5 :: l6 :: l7 :: l8 :: some (.int (nI v)) :: lt) st ws) : vM x pc (l0 :: l1 :: l2 :: l3 :: l4 :: l5 :: l6 :: l7 :: l8 :: some (.int (nI (v + 1))) :: lt) st ws := by
  refine v_iinc9 h hn hd ?_
  rw [show nI (v + 1) + Int32.ofInt (-1) = nI v from pk_m1 v]
  exact k
theorem v_iload10 (h : Ok x g cc own rm nL) {l0 l1 l2 l3 l4 l5 l6 l7 l8 l9 : Option Value} {lt : List (Option Value)} {v : Int32} (hd : decode cc pc = .ok (.iload 10, 2)) (k : vM x (pc + 2) (l0 :: l1 :: l2 :: l3 :: l4 :: l5 :: l6 :: l7 :: l8 :: l9 :: some (.int v) :: lt) (.int v :: st) ws) : vM x pc (l0 :: l1 :: l2 :: l3 :: l4 :: l5 :: l6 :: l7 :: l8 :: l9 :: some (.int v) :: lt) (st) ws := by
  obtain ⟨g0, p, e, R, s, m, args, below, meth, c, cells, slots, Q, A, nL0⟩ := x
  obtain ⟨rfl, rfl, rfl, hx, hb, hml, hown, hts, hK, hA, hlk, hnw, hcl, hsl⟩ := h
  exact fun H locs ls hP hD hS hl => lv_iload hx hb hd (hl.2.2 10 _ rfl).1 (k _ _ _ hP hD hS hl)
theorem v_istore10 (h : Ok x g cc own rm nL) {l0 l1 l2 l3 l4 l5 l6 l7 l8 l9 : Option Value} {lt : List (Option Value)} {lo : Option Value} {v : Int32} (hn : 10 < nL) (hd : decode cc pc = .ok (.istore 10, 2)) (k : vM x (pc + 2) (l0 :: l1 :: l2 :: l3 :: l4 :: l5 :: l6 :: l7 :: l8 :: l9 :: some (.int v) :: lt) st ws) : vM x pc (l0 :: l1 :: l2 :: l3 :: l4 :: l5 :: l6 :: l7 :: l8 :: l9 :: lo :: lt) (.int v :: st) ws := by
  obtain ⟨g0, p, e, R, s, m, args, below, meth, c, cells, slots, Q, A, nL0⟩ := x
  obtain ⟨rfl, rfl, rfl, hx, hb, hml, hown, hts, hK, hA, hlk, hnw, hcl, hsl⟩ := h
  intro H locs ls hP hD hS hl
  obtain ⟨l, q1, q2, q3⟩ := vL_enum hl
  exact lv_istore hx hb hd q1 hn rfl (fun ls2 hl2 => k _ _ _ hP hD hS (by have q4 := vL_store q2 q3 rfl hl2; exact q4))
theorem v_aload10 (h : Ok x g cc own rm nL) {l0 l1 l2 l3 l4 l5 l6 l7 l8 l9 : Option Value} {lt : List (Option Value)} {v : Nat} (hd : decode cc pc = .ok (.aload 10, 2)) (k : vM x (pc + 2) (l0 :: l1 :: l2 :: l3 :: l4 :: l5 :: l6 :: l7 :: l8 :: l9 :: some (.ref v) :: lt) (.ref v :: st) ws) : vM x pc (l0 :: l1 :: l2 :: l3 :: l4 :: l5 :: l6 :: l7 :: l8 :: l9 :: some (.ref v) :: lt) (st) ws := by
  obtain ⟨g0, p, e, R, s, m, args, below, meth, c, cells, slots, Q, A, nL0⟩ := x
  obtain ⟨rfl, rfl, rfl, hx, hb, hml, hown, hts, hK, hA, hlk, hnw, hcl, hsl⟩ := h
  exact fun H locs ls hP hD hS hl => lv_aload hx hb hd (hl.2.2 10 _ rfl).1 (k _ _ _ hP hD hS hl)
theorem v_astore10 (h : Ok x g cc own rm nL) {l0 l1 l2 l3 l4 l5 l6 l7 l8 l9 : Option Value} {lt : List (Option Value)} {lo : Option Value} {v : Nat} (hn : 10 < nL) (hd : decode cc pc = .ok (.astore 10, 2)) (k : vM x (pc + 2) (l0 :: l1 :: l2 :: l3 :: l4 :: l5 :: l6 :: l7 :: l8 :: l9 :: some (.ref v) :: lt) st ws) : vM x pc (l0 :: l1 :: l2 :: l3 :: l4 :: l5 :: l6 :: l7 :: l8 :: l9 :: lo :: lt) (.ref v :: st) ws := by
  obtain ⟨g0, p, e, R, s, m, args, below, meth, c, cells, slots, Q, A, nL0⟩ := x
  obtain ⟨rfl, rfl, rfl, hx, hb, hml, hown, hts, hK, hA, hlk, hnw, hcl, hsl⟩ := h
  intro H locs ls hP hD hS hl
  obtain ⟨l, q1, q2, q3⟩ := vL_enum hl
  exact lv_astore hx hb hd q1 hn rfl (fun ls2 hl2 => k _ _ _ hP hD hS (by have q4 := vL_store q2 q3 rfl hl2; exact q4))
theorem v_iinc10 (h : Ok x g cc own rm nL) {l0 l1 l2 l3 l4 l5 l6 l7 l8 l9 : Option Value} {lt : List (Option Value)} {v : Int32} {d : Int} (hn : 10 < nL) (hd : decode cc pc = .ok (.iinc 10 d, 3)) (k : vM x (pc + 3) (l0 :: l1 :: l2 :: l3 :: l4 :: l5 :: l6 :: l7 :: l8 :: l9 :: some (.int (v + Int32.ofInt d)) :: lt) st ws) : vM x pc (l0 :: l1 :: l2 :: l3 :: l4 :: l5 :: l6 :: l7 :: l8 :: l9 :: some (.int v) :: lt) st ws := by
  obtain ⟨g0, p, e, R, s, m, args, below, meth, c, cells, slots, Q, A, nL0⟩ := x
  obtain ⟨rfl, rfl, rfl, hx, hb, hml, hown, hts, hK, hA, hlk, hnw, hcl, hsl⟩ := h
  intro H locs ls hP hD hS hl
  obtain ⟨l, q1, q2, q3⟩ := vL_enum hl
  obtain ⟨kk, hkk⟩ := List.getElem?_of_mem (q3 10 _ rfl)
  exact lv_iinc hx hb hd q1 hkk rfl hn rfl (fun ls2 hl2 => k _ _ _ hP hD hS (by have q4 := vL_store q2 q3 rfl hl2; exact q4))
theorem v_iincN10 (h : Ok x g cc own rm nL) {l0 l1 l2 l3 l4 l5 l6 l7 l8 l9 : Option Value} {lt : List (Option Value)} {v : Nat} (hn : 10 < nL) (hd : decode cc pc = .ok (.iinc 10 1, 3)) (k : vM x (pc + 3) (l0 :: l1 :: l2 :: l3 :: l4 :: l5 :: l6 :: l7 :: l8 :: l9 :: some (.int (nI (v + 1))) :: lt) st ws) : vM x pc (l0 :: l1 :: l2 :: l3 :: l4 :: l5 :: l6 :: l7 :: l8 :: l9 :: some (.int (nI v)) :: lt) st ws := by
  refine v_iinc10 h hn hd ?_
  rw [show nI v + Int32.ofInt 1 = nI (v + 1) from nI_1 v]
  exact k
theorem v_idecN10 (h : Ok x g cc own rm nL) {l0 l1 l2 l3 l4 l5 l6 l7 l8 l9 : Option Value} {lt : List (Option Value)} {v : Nat} (hn : 10 < nL) (hd : decode cc pc = .ok (.iinc 10 (-1), 3)) (k : vM x (pc + 3) (l0 :: l1 :: l2 :: l3 :: l4 :: l5 :: l6 :: l7 :: l8 :: l9 :: some (.int (nI v)) :: lt) st ws) : vM x pc (l0 :: l1 :: l2 :: l3 :: l4 :: l5 :: l6 :: l7 :: l8 :: l9 :: some (.int (nI (v + 1))) :: lt) st ws := by
  refine v_iinc10 h hn hd ?_
  rw [show nI (v + 1) + Int32.ofInt (-1) = nI v from pk_m1 v]
  exact k
theorem v_iload11 (h : Ok x g cc own rm nL) {l0 l1 l2 l3 l4 l5 l6 l7 l8 l9 l10 : Option Value} {lt : List (Option Value)} {v : Int32} (hd : decode cc pc = .ok (.iload 11, 2)) (k : vM x (pc + 2) (l0 :: l1 :: l2 :: l3 :: l4 :: l5 :: l6 :: l7 :: l8 :: l9 :: l10 :: some (.int v) :: lt) (.int v :: st) ws) : vM x pc (l0 :: l1 :: l2 :: l3 :: l4 :: l5 :: l6 :: l7 :: l8 :: l9 :: l10 :: some (.int v) :: lt) (st) ws := by
  obtain ⟨g0, p, e, R, s, m, args, below, meth, c, cells, slots, Q, A, nL0⟩ := x
  obtain ⟨rfl, rfl, rfl, hx, hb, hml, hown, hts, hK, hA, hlk, hnw, hcl, hsl⟩ := h
  exact fun H locs ls hP hD hS hl => lv_iload hx hb hd (hl.2.2 11 _ rfl).1 (k _ _ _ hP hD hS hl)
theorem v_istore11 (h : Ok x g cc own rm nL) {l0 l1 l2 l3 l4 l5 l6 l7 l8 l9 l10 : Option Value} {lt : List (Option Value)} {lo : Option Value} {v : Int32} (hn : 11 < nL) (hd : decode cc pc = .ok (.istore 11, 2)) (k : vM x (pc + 2) (l0 :: l1 :: l2 :: l3 :: l4 :: l5 :: l6 :: l7 :: l8 :: l9 :: l10 :: some (.int v) :: lt) st ws) : vM x pc (l0 :: l1 :: l2 :: l3 :: l4 :: l5 :: l6 :: l7 :: l8 :: l9 :: l10 :: lo :: lt) (.int v :: st) ws := by
  obtain ⟨g0, p, e, R, s, m, args, below, meth, c, cells, slots, Q, A, nL0⟩ := x
  obtain ⟨rfl, rfl, rfl, hx, hb, hml, hown, hts, hK, hA, hlk, hnw, hcl, hsl⟩ := h
  intro H locs ls hP hD hS hl
  obtain ⟨l, q1, q2, q3⟩ := vL_enum hl
  exact lv_istore hx hb hd q1 hn rfl (fun ls2 hl2 => k _ _ _ hP hD hS (by have q4 := vL_store q2 q3 rfl hl2; exact q4))
theorem v_aload11 (h : Ok x g cc own rm nL) {l0 l1 l2 l3 l4 l5 l6 l7 l8 l9 l10 : Option Value} {lt : List (Option Value)} {v : Nat} (hd : decode cc pc = .ok (.aload 11, 2)) (k : vM x (pc + 2) (l0 :: l1 :: l2 :: l3 :: l4 :: l5 :: l6 :: l7 :: l8 :: l9 :: l10 :: some (.ref v) :: lt) (.ref v :: st) ws) : vM x pc (l0 :: l1 :: l2 :: l3 :: l4 :: l5 :: l6 :: l7 :: l8 :: l9 :: l10 :: some (.ref v) :: lt) (st) ws := by
  obtain ⟨g0, p, e, R, s, m, args, below, meth, c, cells, slots, Q, A, nL0⟩ := x
  obtain ⟨rfl, rfl, rfl, hx, hb, hml, hown, hts, hK, hA, hlk, hnw, hcl, hsl⟩ := h
  exact fun H locs ls hP hD hS hl => lv_aload hx hb hd (hl.2.2 11 _ rfl).1 (k _ _ _ hP hD hS hl)
theorem v_astore11 (h : Ok x g cc own rm nL) {l0 l1 l2 l3 l4 l5 l6 l7 l8 l9 l10 : Option Value} {lt : List (Option Value)} {lo : Option Value} {v : Nat} (hn : 11 < nL) (hd : decode cc pc = .ok (.astore 11, 2)) (k : vM x (pc + 2) (l0 :: l1 :: l2 :: l3 :: l4 :: l5 :: l6 :: l7 :: l8 :: l9 :: l10 :: some (.ref v) :: lt) st ws) : vM x pc (l0 :: l1 :: l2 :: l3 :: l4 :: l5 :: l6 :: l7 :: l8 :: l9 :: l10 :: lo :: lt) (.ref v :: st) ws := by
  obtain ⟨g0, p, e, R, s, m, args, below, meth, c, cells, slots, Q, A, nL0⟩ := x
  obtain ⟨rfl, rfl, rfl, hx, hb, hml, hown, hts, hK, hA, hlk, hnw, hcl, hsl⟩ := h
  intro H locs ls hP hD hS hl
  obtain ⟨l, q1, q2, q3⟩ := vL_enum hl
  exact lv_astore hx hb hd q1 hn rfl (fun ls2 hl2 => k _ _ _ hP hD hS (by have q4 := vL_store q2 q3 rfl hl2; exact q4))
theorem v_iinc11 (h : Ok x g cc own rm nL) {l0 l1 l2 l3 l4 l5 l6 l7 l8 l9 l10 : Option Value} {lt : List (Option Value)} {v : Int32} {d : Int} (hn : 11 < nL) (hd : decode cc pc = .ok (.iinc 11 d, 3)) (k : vM x (pc + 3) (l0 :: l1 :: l2 :: l3 :: l4 :: l5 :: l6 :: l7 :: l8 :: l9 :: l10 :: some (.int (v + Int32.ofInt d)) :: lt) st ws) : vM x pc (l0 :: l1 :: l2 :: l3 :: l4 :: l5 :: l6 :: l7 :: l8 :: l9 :: l10 :: some (.int v) :: lt) st ws := by
  obtain ⟨g0, p, e, R, s, m, args, below, meth, c, cells, slots, Q, A, nL0⟩ := x
  obtain ⟨rfl, rfl, rfl, hx, hb, hml, hown, hts, hK, hA, hlk, hnw, hcl, hsl⟩ := h
  intro H locs ls hP hD hS hl
  obtain ⟨l, q1, q2, q3⟩ := vL_enum hl
  obtain ⟨kk, hkk⟩ := List.getElem?_of_mem (q3 11 _ rfl)
  exact lv_iinc hx hb hd q1 hkk rfl hn rfl (fun ls2 hl2 => k _ _ _ hP hD hS (by have q4 := vL_store q2 q3 rfl hl2; exact q4))
theorem v_iincN11 (h : Ok x g cc own rm nL) {l0 l1 l2 l3 l4 l5 l6 l7 l8 l9 l10 : Option Value} {lt : List (Option Value)} {v : Nat} (hn : 11 < nL) (hd : decode cc pc = .ok (.iinc 11 1, 3)) (k : vM x (pc + 3) (l0 :: l1 :: l2 :: l3 :: l4 :: l5 :: l6 :: l7 :: l8 :: l9 :: l10 :: some (.int (nI (v + 1))) :: lt) st ws) : vM x pc (l0 :: l1 :: l2 :: l3 :: l4 :: l5 :: l6 :: l7 :: l8 :: l9 :: l10 :: some (.int (nI v)) :: lt) st ws := by
  refine v_iinc11 h hn hd ?_
  rw [show nI v + Int32.ofInt 1 = nI (v + 1) from nI_1 v]
  exact k
theorem v_idecN11 (h : Ok x g cc own rm nL) {l0 l1 l2 l3 l4 l5 l6 l7 l8 l9 l10 : Option Value} {lt : List (Option Value)} {v : Nat} (hn : 11 < nL) (hd : decode cc pc = .ok (.iinc 11 (-1), 3)) (k : vM x (pc + 3) (l0 :: l1 :: l2 :: l3 :: l4 :: l5 :: l6 :: l7 :: l8 :: l9 :: l10 :: some (.int (nI v)) :: lt) st ws) : vM x pc (l0 :: l1 :: l2 :: l3 :: l4 :: l5 :: l6 :: l7 :: l8 :: l9 :: l10 :: some (.int (nI (v + 1))) :: lt) st ws := by
  refine v_iinc11 h hn hd ?_
  rw [show nI (v + 1) + Int32.ofInt (-1) = nI v from pk_m1 v]
  exact k
theorem v_iload12 (h : Ok x g cc own rm nL) {l0 l1 l2 l3 l4 l5 l6 l7 l8 l9 l10 l11 : Option Value} {lt : List (Option Value)} {v : Int32} (hd : decode cc pc = .ok (.iload 12, 2)) (k : vM x (pc + 2) (l0 :: l1 :: l2 :: l3 :: l4 :: l5 :: l6 :: l7 :: l8 :: l9 :: l10 :: l11 :: some (.int v) :: lt) (.int v :: st) ws) : vM x pc (l0 :: l1 :: l2 :: l3 :: l4 :: l5 :: l6 :: l7 :: l8 :: l9 :: l10 :: l11 :: some (.int v) :: lt) (st) ws := by
  obtain ⟨g0, p, e, R, s, m, args, below, meth, c, cells, slots, Q, A, nL0⟩ := x
  obtain ⟨rfl, rfl, rfl, hx, hb, hml, hown, hts, hK, hA, hlk, hnw, hcl, hsl⟩ := h
  exact fun H locs ls hP hD hS hl => lv_iload hx hb hd (hl.2.2 12 _ rfl).1 (k _ _ _ hP hD hS hl)
theorem v_istore12 (h : Ok x g cc own rm nL) {l0 l1 l2 l3 l4 l5 l6 l7 l8 l9 l10 l11 : Option Value} {lt : List (Option Value)} {lo : Option Value} {v : Int32} (hn : 12 < nL) (hd : decode cc pc = .ok (.istore 12, 2)) (k : vM x (pc + 2) (l0 :: l1 :: l2 :: l3 :: l4 :: l5 :: l6 :: l7 :: l8 :: l9 :: l10 :: l11 :: some (.int v) :: lt) st ws) : vM x pc (l0 :: l1 :: l2 :: l3 :: l4 :: l5 :: l6 :: l7 :: l8 :: l9 :: l10 :: l11 :: lo :: lt) (.int v :: st) ws := by
  obtain ⟨g0, p, e, R, s, m, args, below, meth, c, cells, slots, Q, A, nL0⟩ := x
  obtain ⟨rfl, rfl, rfl, hx, hb, hml, hown, hts, hK, hA, hlk, hnw, hcl, hsl⟩ := h
  intro H locs ls hP hD hS hl
  obtain ⟨l, q1, q2, q3⟩ := vL_enum hl
  exact lv_istore hx hb hd q1 hn rfl (fun ls2 hl2 => k _ _ _ hP hD hS (by have q4 := vL_store q2 q3 rfl hl2; exact q4))
theorem v_aload12 (h : Ok x g cc own rm nL) {l0 l1 l2 l3 l4 l5 l6 l7 l8 l9 l10 l11 : Option Value} {lt : List (Option Value)} {v : Nat} (hd : decode cc pc = .ok (.aload 12, 2)) (k : vM x (pc + 2) (l0 :: l1 :: l2 :: l3 :: l4 :: l5 :: l6 :: l7 :: l8 :: l9 :: l10 :: l11 :: some (.ref v) :: lt) (.ref v :: st) ws) : vM x pc (l0 :: l1 :: l2 :: l3 :: l4 :: l5 :: l6 :: l7 :: l8 :: l9 :: l10 :: l11 :: some (.ref v) :: lt) (st) ws := by
  obtain ⟨g0, p, e, R, s, m, args, below, meth, c, cells, slots, Q, A, nL0⟩ := x
  obtain ⟨rfl, rfl, rfl, hx, hb, hml, hown, hts, hK, hA, hlk, hnw, hcl, hsl⟩ := h
  exact fun H locs ls hP hD hS hl => lv_aload hx hb hd (hl.2.2 12 _ rfl).1 (k _ _ _ hP hD hS hl)
theorem v_astore12 (h : Ok x g cc own rm nL) {l0 l1 l2 l3 l4 l5 l6 l7 l8 l9 l10 l11 : Option Value} {lt : List (Option Value)} {lo : Option Value} {v : Nat} (hn : 12 < nL) (hd : decode cc pc = .ok (.astore 12, 2)) (k : vM x (pc + 2) (l0 :: l1 :: l2 :: l3 :: l4 :: l5 :: l6 :: l7 :: l8 :: l9 :: l10 :: l11 :: some (.ref v) :: lt) st ws) : vM x pc (l0 :: l1 :: l2 :: l3 :: l4 :: l5 :: l6 :: l7 :: l8 :: l9 :: l10 :: l11 :: lo :: lt) (.ref v :: st) ws := by
  obtain ⟨g0, p, e, R, s, m, args, below, meth, c, cells, slots, Q, A, nL0⟩ := x
  obtain ⟨rfl, rfl, rfl, hx, hb, hml, hown, hts, hK, hA, hlk, hnw, hcl, hsl⟩ := h
  intro H locs ls hP hD hS hl
  obtain ⟨l, q1, q2, q3⟩ := vL_enum hl
  exact lv_astore hx hb hd q1 hn rfl (fun ls2 hl2 => k _ _ _ hP hD hS (by have q4 := vL_store q2 q3 rfl hl2; exact q4))
theorem v_iinc12 (h : Ok x g cc own rm nL) {l0 l1 l2 l3 l4 l5 l6 l7 l8 l9 l10 l11 : Option Value} {lt : List (Option Value)} {v : Int32} {d : Int} (hn : 12 < nL) (hd : decode cc pc = .ok (.iinc 12 d, 3)) (k : vM x (pc + 3) (l0 :: l1 :: l2 :: l3 :: l4 :: l5 :: l6 :: l7 :: l8 :: l9 :: l10 :: l11 :: some (.int (v + Int32.ofInt d)) :: lt) st ws) : vM x pc (l0 :: l1 :: l2 :: l3 :: l4 :: l5 :: l6 :: l7 :: l8 :: l9 :: l10 :: l11 :: some (.int v) :: lt) st ws := by
  obtain ⟨g0, p, e, R, s, m, args, below, meth, c, cells, slots, Q, A, nL0⟩ := x
  obtain ⟨rfl, rfl, rfl, hx, hb, hml, hown, hts, hK, hA, hlk, hnw, hcl, hsl⟩ := h
  intro H locs ls hP hD hS hl
  obtain ⟨l, q1, q2, q3⟩ := vL_enum hl
  obtain ⟨kk, hkk⟩ := List.getElem?_of_mem (q3 12 _ rfl)
  exact lv_iinc hx hb hd q1 hkk rfl hn rfl (fun ls2 hl2 => k _ _ _ hP hD hS (by have q4 := vL_store q2 q3 rfl hl2; exact q4))
theorem v_iincN12 (h : Ok x g cc own rm nL) {l0 l1 l2 l3 l4 l5 l6 l7 l8 l9 l10 l11 : Option Value} {lt : List (Option Value)} {v : Nat} (hn : 12 < nL) (hd : decode cc pc = .ok (.iinc 12 1, 3)) (k : vM x (pc + 3) (l0 :: l1 :: l2 :: l3 :: l4 :: l5 :: l6 :: l7 :: l8 :: l9 :: l10 :: l11 :: some (.int (nI (v + 1))) :: lt) st ws) : vM x pc (l0 :: l1 :: l2 :: l3 :: l4 :: l5 :: l6 :: l7 :: l8 :: l9 :: l10 :: l11 :: some (.int (nI v)) :: lt) st ws := by
  refine v_iinc12 h hn hd ?_
  rw [show nI v + Int32.ofInt 1 = nI (v + 1) from nI_1 v]
  exact k
theorem v_idecN12 (h : Ok x g cc own rm nL) {l0 l1 l2 l3 l4 l5 l6 l7 l8 l9 l10 l11 : Option Value} {lt : List (Option Value)} {v : Nat} (hn : 12 < nL) (hd : decode cc pc = .ok (.iinc 12 (-1), 3)) (k : vM x (pc + 3) (l0 :: l1 :: l2 :: l3 :: l4 :: l5 :: l6 :: l7 :: l8 :: l9 :: l10 :: l11 :: some (.int (nI v)) :: lt) st ws) : vM x pc (l0 :: l1 :: l2 :: l3 :: l4 :: l5 :: l6 :: l7 :: l8 :: l9 :: l10 :: l11 :: some (.int (nI (v + 1))) :: lt) st ws := by
  refine v_iinc12 h hn hd ?_
  rw [show nI (v + 1) + Int32.ofInt (-1) = nI v from pk_m1 v]
  exact k
theorem v_iload13 (h : Ok x g cc own rm nL) {l0 l1 l2 l3 l4 l5 l6 l7 l8 l9 l10 l11 l12 : Option Value} {lt : List (Option Value)} {v : Int32} (hd : decode cc pc = .ok (.iload 13, 2)) (k : vM x (pc + 2) (l0 :: l1 :: l2 :: l3 :: l4 :: l5 :: l6 :: l7 :: l8 :: l9 :: l10 :: l11 :: l12 :: some (.int v) :: lt) (.int v :: st) ws) : vM x pc (l0 :: l1 :: l2 :: l3 :: l4 :: l5 :: l6 :: l7 :: l8 :: l9 :: l10 :: l11 :: l12 :: some (.int v) :: lt) (st) ws := by
  obtain ⟨g0, p, e, R, s, m, args, below, meth, c, cells, slots, Q, A, nL0⟩ := x
  obtain ⟨rfl, rfl, rfl, hx, hb, hml, hown, hts, hK, hA, hlk, hnw, hcl, hsl⟩ := h
  exact fun H locs ls hP hD hS hl => lv_iload hx hb hd (hl.2.2 13 _ rfl).1 (k _ _ _ hP hD hS hl)
theorem v_istore13 (h : Ok x g cc own rm nL) {l0 l1 l2 l3 l4 l5 l6 l7 l8 l9 l10 l11 l12 : Option Value} {lt : List (Option Value)} {lo : Option Value} {v : Int32} (hn : 13 < nL) (hd : decode cc pc = .ok (.istore 13, 2)) (k : vM x (pc + 2) (l0 :: l1 :: l2 :: l3 :: l4 :: l5 :: l6 :: l7 :: l8 :: l9 :: l10 :: l11 :: l12 :: some (.int v) :: lt) st ws) : vM x pc (l0 :: l1 :: l2 :: l3 :: l4 :: l5 :: l6 :: l7 :: l8 :: l9 :: l10 :: l11 :: l12 :: lo :: lt) (.int v :: st) ws := by
  obtain ⟨g0, p, e, R, s, m, args, below, meth, c, cells, slots, Q, A, nL0⟩ := x
  obtain ⟨rfl, rfl, rfl, hx, hb, hml, hown, hts, hK, hA, hlk, hnw, hcl, hsl⟩ := h
  intro H locs ls hP hD hS hl
  obtain ⟨l, q1, q2, q3⟩ := vL_enum hl
  exact lv_istore hx hb hd q1 hn rfl (fun ls2 hl2 => k _ _ _ hP hD hS (by have q4 := vL_store q2 q3 rfl hl2; exact q4))
theorem v_aload13 (h : Ok x g cc own rm nL) {l0 l1 l2 l3 l4 l5 l6 l7 l8 l9 l10 l11 l12 : Option Value} {lt : List (Option Value)} {v : Nat} (hd : decode cc pc = .ok (.aload 13, 2)) (k : vM x (pc + 2) (l0 :: l1 :: l2 :: l3 :: l4 :: l5 :: l6 :: l7 :: l8 :: l9 :: l10 :: l11 :: l12 :: some (.ref v) :: lt) (.ref v :: st) ws) : vM x pc (l0 :: l1 :: l2 :: l3 :: l4 :: l5 :: l6 :: l7 :: l8 :: l9 :: l10 :: l11 :: l12 :: some (.ref v) :: lt) (st) ws := by
  obtain ⟨g0, p, e, R, s, m, args, below, meth, c, cells, slots, Q, A, nL0⟩ := x
  obtain ⟨rfl, rfl, rfl, hx, hb, hml, hown, hts, hK, hA, hlk, hnw, hcl, hsl⟩ := h
  exact fun H locs ls hP hD hS hl => lv_aload hx hb hd (hl.2.2 13 _ rfl).1 (k _ _ _ hP hD hS hl)
theorem v_astore13 (h : Ok x g cc own rm nL) {l0 l1 l2 l3 l4 l5 l6 l7 l8 l9 l10 l11 l12 : Option Value} {lt : List (Option Value)} {lo : Option Value} {v : Nat} (hn : 13 < nL) (hd : decode cc pc = .ok (.astore 13, 2)) (k : vM x (pc + 2) (l0 :: l1 :: l2 :: l3 :: l4 :: l5 :: l6 :: l7 :: l8 :: l9 :: l10 :: l11 :: l12 :: some (.ref v) :: lt) st ws) : vM x pc (l0 :: l1 :: l2 :: l3 :: l4 :: l5 :: l6 :: l7 :: l8 :: l9 :: l10 :: l11 :: l12 :: lo :: lt) (.ref v :: st) ws := by
  obtain ⟨g0, p, e, R, s, m, args, below, meth, c, cells, slots, Q, A, nL0⟩ := x
  obtain ⟨rfl, rfl, rfl, hx, hb, hml, hown, hts, hK, hA, hlk, hnw, hcl, hsl⟩ := h
  intro H locs ls hP hD hS hl
  obtain ⟨l, q1, q2, q3⟩ := vL_enum hl
  exact lv_astore hx hb hd q1 hn rfl (fun ls2 hl2 => k _ _ _ hP hD hS (by have q4 := vL_store q2 q3 rfl hl2; exact q4))
theorem v_iinc13 (h : Ok x g cc own rm nL) {l0 l1 l2 l3 l4 l5 l6 l7 l8 l9 l10 l11 l12 : Option Value} {lt : List (Option Value)} {v : Int32} {d : Int} (hn : 13 < nL) (hd : decode cc pc = .ok (.iinc 13 d, 3)) (k : vM x (pc + 3) (l0 :: l1 :: l2 :: l3 :: l4 :: l5 :: l6 :: l7 :: l8 :: l9 :: l10 :: l11 :: l12 :: some (.int (v + Int32.ofInt d)) :: lt) st ws) : vM x pc (l0 :: l1 :: l2 :: l3 :: l4 :: l5 :: l6 :: l7 :: l8 :: l9 :: l10 :: l11 :: l12 :: some (.int v) :: lt) st ws := by
  obtain ⟨g0, p, e, R, s, m, args, below, meth, c, cells, slots, Q, A, nL0⟩ := x
  obtain ⟨rfl, rfl, rfl, hx, hb, hml, hown, hts, hK, hA, hlk, hnw, hcl, hsl⟩ := h
  intro H locs ls hP hD hS hl
  obtain ⟨l, q1, q2, q3⟩ := vL_enum hl
  obtain ⟨kk, hkk⟩ := List.getElem?_of_mem (q3 13 _ rfl)
  exact lv_iinc hx hb hd q1 hkk rfl hn rfl (fun ls2 hl2 => k _ _ _ hP hD hS (by have q4 := vL_store q2 q3 rfl hl2; exact q4))
theorem v_iincN13 (h : Ok x g cc own rm nL) {l0 l1 l2 l3 l4 l5 l6 l7 l8 l9 l10 l11 l12 : Option Value} {lt : List (Option Value)} {v : Nat} (hn : 13 < nL) (hd : decode cc pc = .ok (.iinc 13 1, 3)) (k : vM x (pc + 3) (l0 :: l1 :: l2 :: l3 :: l4 :: l5 :: l6 :: l7 :: l8 :: l9 :: l10 :: l11 :: l12 :: some (.int (nI (v + 1))) :: lt) st ws) : vM x pc (l0 :: l1 :: l2 :: l3 :: l4 :: l5 :: l6 :: l7 :: l8 :: l9 :: l10 :: l11 :: l12 :: some (.int (nI v)) :: lt) st ws := by
  refine v_iinc13 h hn hd ?_
  rw [show nI v + Int32.ofInt 1 = nI (v + 1) from nI_1 v]
  exact k
theorem v_idecN13 (h : Ok x g cc own rm nL) {l0 l1 l2 l3 l4 l5 l6 l7 l8 l9 l10 l11 l12 : Option Value} {lt : List (Option Value)} {v : Nat} (hn : 13 < nL) (hd : decode cc pc = .ok (.iinc 13 (-1), 3)) (k : vM x (pc + 3) (l0 :: l1 :: l2 :: l3 :: l4 :: l5 :: l6 :: l7 :: l8 :: l9 :: l10 :: l11 :: l12 :: some (.int (nI v)) :: lt) st ws) : vM x pc (l0 :: l1 :: l2 :: l3 :: l4 :: l5 :: l6 :: l7 :: l8 :: l9 :: l10 :: l11 :: l12 :: some (.int (nI (v + 1))) :: lt) st ws := by
  refine v_iinc13 h hn hd ?_
  rw [show nI (v + 1) + Int32.ofInt (-1) = nI v from pk_m1 v]
  exact k
theorem v_iload14 (h : Ok x g cc own rm nL) {l0 l1 l2 l3 l4 l5 l6 l7 l8 l9 l10 l11 l12 l13 : Option Value} {lt : List (Option Value)} {v : Int32} (hd : decode cc pc = .ok (.iload 14, 2)) (k : vM x (pc + 2) (l0 :: l1 :: l2 :: l3 :: l4 :: l5 :: l6 :: l7 :: l8 :: l9 :: l10 :: l11 :: l12 :: l13 :: some (.int v) :: lt) (.int v :: st) ws) : vM x pc (l0 :: l1 :: l2 :: l3 :: l4 :: l5 :: l6 :: l7 :: l8 :: l9 :: l10 :: l11 :: l12 :: l13 :: some (.int v) :: lt) (st) ws := by
  obtain ⟨g0, p, e, R, s, m, args, below, meth, c, cells, slots, Q, A, nL0⟩ := x
  obtain ⟨rfl, rfl, rfl, hx, hb, hml, hown, hts, hK, hA, hlk, hnw, hcl, hsl⟩ := h
  exact fun H locs ls hP hD hS hl => lv_iload hx hb hd (hl.2.2 14 _ rfl).1 (k _ _ _ hP hD hS hl)
theorem v_istore14 (h : Ok x g cc own rm nL) {l0 l1 l2 l3 l4 l5 l6 l7 l8 l9 l10 l11 l12 l13 : Option Value} {lt : List (Option Value)} {lo : Option Value} {v : Int32} (hn : 14 < nL) (hd : decode cc pc = .ok (.istore 14, 2)) (k : vM x (pc + 2) (l0 :: l1 :: l2 :: l3 :: l4 :: l5 :: l6 :: l7 :: l8 :: l9 :: l10 :: l11 :: l12 :: l13 :: some (.int v) :: lt) st ws) : vM x pc (l0 :: l1 :: l2 :: l3 :: l4 :: l5 :: l6 :: l7 :: l8 :: l9 :: l10 :: l11 :: l12 :: l13 :: lo :: lt) (.int v :: st) ws := by
  obtain ⟨g0, p, e, R, s, m, args, below, meth, c, cells, slots, Q, A, nL0⟩ := x
  obtain ⟨rfl, rfl, rfl, hx, hb, hml, hown, hts, hK, hA, hlk, hnw, hcl, hsl⟩ := h
  intro H locs ls hP hD hS hl
  obtain ⟨l, q1, q2, q3⟩ := vL_enum hl
  exact lv_istore hx hb hd q1 hn rfl (fun ls2 hl2 => k _ _ _ hP hD hS (by have q4 := vL_store q2 q3 rfl hl2; exact q4))
theorem v_aload14 (h : Ok x g cc own rm nL) {l0 l1 l2 l3 l4 l5 l6 l7 l8 l9 l10 l11 l12 l13 : Option Value} {lt : List (Option Value)} {v : Nat} (hd : decode cc pc = .ok (.aload 14, 2)) (k : vM x (pc + 2) (l0 :: l1 :: l2 :: l3 :: l4 :: l5 :: l6 :: l7 :: l8 :: l9 :: l10 :: l11 :: l12 :: l13 :: some (.ref v) :: lt) (.ref v :: st) ws) : vM x pc (l0 :: l1 :: l2 :: l3 :: l4 :: l5 :: l6 :: l7 :: l8 :: l9 :: l10 :: l11 :: l12 :: l13 :: some (.ref v) :: lt) (st) ws := by
  obtain ⟨g0, p, e, R, s, m, args, below, meth, c, cells, slots, Q, A, nL0⟩ := x
  obtain ⟨rfl, rfl, rfl, hx, hb, hml, hown, hts, hK, hA, hlk, hnw, hcl, hsl⟩ := h
  exact fun H locs ls hP hD hS hl => lv_aload hx hb hd (hl.2.2 14 _ rfl).1 (k _ _ _ hP hD hS hl)
theorem v_astore14 (h : Ok x g cc own rm nL) {l0 l1 l2 l3 l4 l5 l6 l7 l8 l9 l10 l11 l12 l13 : Option Value} {lt : List (Option Value)} {lo : Option Value} {v : Nat} (hn : 14 < nL) (hd : decode cc pc = .ok (.astore 14, 2)) (k : vM x (pc + 2) (l0 :: l1 :: l2 :: l3 :: l4 :: l5 :: l6 :: l7 :: l8 :: l9 :: l10 :: l11 :: l12 :: l13 :: some (.ref v) :: lt) st ws) : vM x pc (l0 :: l1 :: l2 :: l3 :: l4 :: l5 :: l6 :: l7 :: l8 :: l9 :: l10 :: l11 :: l12 :: l13 :: lo :: lt) (.ref v :: st) ws := by
  obtain ⟨g0, p, e, R, s, m, args, below, meth, c, cells, slots, Q, A, nL0⟩ := x
  obtain ⟨rfl, rfl, rfl, hx, hb, hml, hown, hts, hK, hA, hlk, hnw, hcl, hsl⟩ := h
  intro H locs ls hP hD hS hl
  obtain ⟨l, q1, q2, q3⟩ := vL_enum hl
  exact lv_astore hx hb hd q1 hn rfl (fun ls2 hl2 => k _ _ _ hP hD hS (by have q4 := vL_store q2 q3 rfl hl2; exact q4))
theorem v_iinc14 (h : Ok x g cc own rm nL) {l0 l1 l2 l3 l4 l5 l6 l7 l8 l9 l10 l11 l12 l13 : Option Value} {lt : List (Option Value)} {v : Int32} {d : Int} (hn : 14 < nL) (hd : decode cc pc = .ok (.iinc 14 d, 3)) (k : vM x (pc + 3) (l0 :: l1 :: l2 :: l3 :: l4 :: l5 :: l6 :: l7 :: l8 :: l9 :: l10 :: l11 :: l12 :: l13 :: some (.int (v + Int32.ofInt d)) :: lt) st ws) : vM x pc (l0 :: l1 :: l2 :: l3 :: l4 :: l5 :: l6 :: l7 :: l8 :: l9 :: l10 :: l11 :: l12 :: l13 :: some (.int v) :: lt) st ws := by
  obtain ⟨g0, p, e, R, s, m, args, below, meth, c, cells, slots, Q, A, nL0⟩ := x
  obtain ⟨rfl, rfl, rfl, hx, hb, hml, hown, hts, hK, hA, hlk, hnw, hcl, hsl⟩ := h
  intro H locs ls hP hD hS hl
  obtain ⟨l, q1, q2, q3⟩ := vL_enum hl
  obtain ⟨kk, hkk⟩ := List.getElem?_of_mem (q3 14 _ rfl)
  exact lv_iinc hx hb hd q1 hkk rfl hn rfl (fun ls2 hl2 => k _ _ _ hP hD hS (by have q4 := vL_store q2 q3 rfl hl2; exact q4))
theorem v_iincN14 (h : Ok x g cc own rm nL) {l0 l1 l2 l3 l4 l5 l6 l7 l8 l9 l10 l11 l12 l13 : Option Value} {lt : List (Option Value)} {v : Nat} (hn : 14 < nL) (hd : decode cc pc = .ok (.iinc 14 1, 3)) (k : vM x (pc + 3) (l0 :: l1 :: l2 :: l3 :: l4 :: l5 :: l6 :: l7 :: l8 :: l9 :: l10 :: l11 :: l12 :: l13 :: some (.int (nI (v + 1))) :: lt) st ws) : vM x pc (l0 :: l1 :: l2 :: l3 :: l4 :: l5 :: l6 :: l7 :: l8 :: l9 :: l10 :: l11 :: l12 :: l13 :: some (.int (nI v)) :: lt) st ws := by
  refine v_iinc14 h hn hd ?_
  rw [show nI v + Int32.ofInt 1 = nI (v + 1) from nI_1 v]
  exact k
theorem v_idecN14 (h : Ok x g cc own rm nL) {l0 l1 l2 l3 l4 l5 l6 l7 l8 l9 l10 l11 l12 l13 : Option Value} {lt : List (Option Value)} {v : Nat} (hn : 14 < nL) (hd : decode cc pc = .ok (.iinc 14 (-1), 3)) (k : vM x (pc + 3) (l0 :: l1 :: l2 :: l3 :: l4 :: l5 :: l6 :: l7 :: l8 :: l9 :: l10 :: l11 :: l12 :: l13 :: some (.int (nI v)) :: lt) st ws) : vM x pc (l0 :: l1 :: l2 :: l3 :: l4 :: l5 :: l6 :: l7 :: l8 :: l9 :: l10 :: l11 :: l12 :: l13 :: some (.int (nI (v + 1))) :: lt) st ws := by
  refine v_iinc14 h hn hd ?_
  rw [show nI (v + 1) + Int32.ofInt (-1) = nI v from pk_m1 v]
  exact k
theorem v_iload15 (h : Ok x g cc own rm nL) {l0 l1 l2 l3 l4 l5 l6 l7 l8 l9 l10 l11 l12 l13 l14 : Option Value} {lt : List (Option Value)} {v : Int32} (hd : decode cc pc = .ok (.iload 15, 2)) (k : vM x (pc + 2) (l0 :: l1 :: l2 :: l3 :: l4 :: l5 :: l6 :: l7 :: l8 :: l9 :: l10 :: l11 :: l12 :: l13 :: l14 :: some (.int v) :: lt) (.int v :: st) ws) : vM x pc (l0 :: l1 :: l2 :: l3 :: l4 :: l5 :: l6 :: l7 :: l8 :: l9 :: l10 :: l11 :: l12 :: l13 :: l14 :: some (.int v) :: lt) (st) ws := by
  obtain ⟨g0, p, e, R, s, m, args, below, meth, c, cells, slots, Q, A, nL0⟩ := x
  obtain ⟨rfl, rfl, rfl, hx, hb, hml, hown, hts, hK, hA, hlk, hnw, hcl, hsl⟩ := h
  exact fun H locs ls hP hD hS hl => lv_iload hx hb hd (hl.2.2 15 _ rfl).1 (k _ _ _ hP hD hS hl)
theorem v_istore15 (h : Ok x g cc own rm nL) {l0 l1 l2 l3 l4 l5 l6 l7 l8 l9 l10 l11 l12 l13 l14 : Option Value} {lt : List (Option Value)} {lo : Option Value} {v : Int32} (hn : 15 < nL) (hd : decode cc pc = .ok (.istore 15, 2)) (k : vM x (pc + 2) (l0 :: l1 :: l2 :: l3 :: l4 :: l5 :: l6 :: l7 :: l8 :: l9 :: l10 :: l11 :: l12 :: l13 :: l14 :: some (.int v) :: lt) st ws) : vM x pc (l0 :: l1 :: l2 :: l3 :: l4 :: l5 :: l6 :: l7 :: l8 :: l9 :: l10 :: l11 :: l12 :: l13 :: l14 :: lo :: lt) (.int v :: st) ws := by
  obtain ⟨g0, p, e, R, s, m, args, below, meth, c, cells, slots, Q, A, nL0⟩ := x
  obtain ⟨rfl, rfl, rfl, hx, hb, hml, hown, hts, hK, hA, hlk, hnw, hcl, hsl⟩ := h
  intro H locs ls hP hD hS hl
  obtain ⟨l, q1, q2, q3⟩ := vL_enum hl
  exact lv_istore hx hb hd q1 hn rfl (fun ls2 hl2 => k _ _ _ hP hD hS (by have q4 := vL_store q2 q3 rfl hl2; exact q4))
theorem v_aload15 (h : Ok x g cc own rm nL) {l0 l1 l2 l3 l4 l5 l6 l7 l8 l9 l10 l11 l12 l13 l14 : Option Value} {lt : List (Option Value)} {v : Nat} (hd : decode cc pc = .ok (.aload 15, 2)) (k : vM x (pc + 2) (l0 :: l1 :: l2 :: l3 :: l4 :: l5 :: l6 :: l7 :: l8 :: l9 :: l10 :: l11 :: l12 :: l13 :: l14 :: some (.ref v) :: lt) (.ref v :: st) ws) : vM x pc (l0 :: l1 :: l2 :: l3 :: l4 :: l5 :: l6 :: l7 :: l8 :: l9 :: l10 :: l11 :: l12 :: l13 :: l14 :: some (.ref v) :: lt) (st) ws := by
  obtain ⟨g0, p, e, R, s, m, args, below, meth, c, cells, slots, Q, A, nL0⟩ := x
  obtain ⟨rfl, rfl, rfl, hx, hb, hml, hown, hts, hK, hA, hlk, hnw, hcl, hsl⟩ := h
  exact fun H locs ls hP hD hS hl => lv_aload hx hb hd (hl.2.2 15 _ rfl).1 (k _ _ _ hP hD hS hl)
theorem v_astore15 (h : Ok x g cc own rm nL) {l0 l1 l2 l3 l4 l5 l6 l7 l8 l9 l10 l11 l12 l13 l14 : Option Value} {lt : List (Option Value)} {lo : Option Value} {v : Nat} (hn : 15 < nL) (hd : decode cc pc = .ok (.astore 15, 2)) (k : vM x (pc + 2) (l0 :: l1 :: l2 :: l3 :: l4 :: l5 :: l6 :: l7 :: l8 :: l9 :: l10 :: l11 :: l12 :: l13 :: l14 :: some (.ref v) :: lt) st ws) : vM x pc (l0 :: l1 :: l2 :: l3 :: l4 :: l5 :: l6 :: l7 :: l8 :: l9 :: l10 :: l11 :: l12 :: l13 :: l14 :: lo :: lt) (.ref v :: st) ws := by
  obtain ⟨g0, p, e, R, s, m, args, below, meth, c, cells, slots, Q, A, nL0⟩ := x
  obtain ⟨rfl, rfl, rfl, hx, hb, hml, hown, hts, hK, hA, hlk, hnw, hcl, hsl⟩ := h
  intro H locs ls hP hD hS hl
  obtain ⟨l, q1, q2, q3⟩ := vL_enum hl
  exact lv_astore hx hb hd q1 hn rfl (fun ls2 hl2 => k _ _ _ hP hD hS (by have q4 := vL_store q2 q3 rfl hl2; exact q4))
theorem v_iinc15 (h : Ok x g cc own rm nL) {l0 l1 l2 l3 l4 l5 l6 l7 l8 l9 l10 l11 l12 l13 l14 : Option Value} {lt : List (Option Value)} {v : Int32} {d : Int} (hn : 15 < nL) (hd : decode cc pc = .ok (.iinc 15 d, 3)) (k : vM x (pc + 3) (l0 :: l1 :: l2 :: l3 :: l4 :: l5 :: l6 :: l7 :: l8 :: l9 :: l10 :: l11 :: l12 :: l13 :: l14 :: some (.int (v + Int32.ofInt d)) :: lt) st ws) : vM x pc (l0 :: l1 :: l2 :: l3 :: l4 :: l5 :: l6 :: l7 :: l8 :: l9 :: l10 :: l11 :: l12 :: l13 :: l14 :: some (.int v) :: lt) st ws := by
  obtain ⟨g0, p, e, R, s, m, args, below, meth, c, cells, slots, Q, A, nL0⟩ := x
  obtain ⟨rfl, rfl, rfl, hx, hb, hml, hown, hts, hK, hA, hlk, hnw, hcl, hsl⟩ := h
  intro H locs ls hP hD hS hl
  obtain ⟨l, q1, q2, q3⟩ := vL_enum hl
  obtain ⟨kk, hkk⟩ := List.getElem?_of_mem (q3 15 _ rfl)
  exact lv_iinc hx hb hd q1 hkk rfl hn rfl (fun ls2 hl2 => k _ _ _ hP hD hS (by have q4 := vL_store q2 q3 rfl hl2; exact q4))
theorem v_iincN15 (h : Ok x g cc own rm nL) {l0 l1 l2 l3 l4 l5 l6 l7 l8 l9 l10 l11 l12 l13 l14 : Option Value} {lt : List (Option Value)} {v : Nat} (hn : 15 < nL) (hd : decode cc pc = .ok (.iinc 15 1, 3)) (k : vM x (pc + 3) (l0 :: l1 :: l2 :: l3 :: l4 :: l5 :: l6 :: l7 :: l8 :: l9 :: l10 :: l11 :: l12 :: l13 :: l14 :: some (.int (nI (v + 1))) :: lt) st ws) : vM x pc (l0 :: l1 :: l2 :: l3 :: l4 :: l5 :: l6 :: l7 :: l8 :: l9 :: l10 :: l11 :: l12 :: l13 :: l14 :: some (.int (nI v)) :: lt) st ws := by
  refine v_iinc15 h hn hd ?_
  rw [show nI v + Int32.ofInt 1 = nI (v + 1) from nI_1 v]
  exact k
theorem v_idecN15 (h : Ok x g cc own rm nL) {l0 l1 l2 l3 l4 l5 l6 l7 l8 l9 l10 l11 l12 l13 l14 : Option Value} {lt : List (Option Value)} {v : Nat} (hn : 15 < nL) (hd : decode cc pc = .ok (.iinc 15 (-1), 3)) (k : vM x (pc + 3) (l0 :: l1 :: l2 :: l3 :: l4 :: l5 :: l6 :: l7 :: l8 :: l9 :: l10 :: l11 :: l12 :: l13 :: l14 :: some (.int (nI v)) :: lt) st ws) : vM x pc (l0 :: l1 :: l2 :: l3 :: l4 :: l5 :: l6 :: l7 :: l8 :: l9 :: l10 :: l11 :: l12 :: l13 :: l14 :: some (.int (nI (v + 1))) :: lt) st ws := by
  refine v_iinc15 h hn hd ?_
  rw [show nI (v + 1) + Int32.ofInt (-1) = nI v from pk_m1 v]
  exact k
theorem v_iload16 (h : Ok x g cc own rm nL) {l0 l1 l2 l3 l4 l5 l6 l7 l8 l9 l10 l11 l12 l13 l14 l15 : Option Value} {lt : List (Option Value)} {v : Int32} (hd : decode cc pc = .ok (.iload 16, 2)) (k : vM x (pc + 2) (l0 :: l1 :: l2 :: l3 :: l4 :: l5 :: l6 :: l7 :: l8 :: l9 :: l10 :: l11 :: l12 :: l13 :: l14 :: l15 :: some (.int v) :: lt) (.int v :: st) ws) : vM x pc (l0 :: l1 :: l2 :: l3 :: l4 :: l5 :: l6 :: l7 :: l8 :: l9 :: l10 :: l11 :: l12 :: l13 :: l14 :: l15 :: some (.int v) :: lt) (st) ws := by
  obtain ⟨g0, p, e, R, s, m, args, below, meth, c, cells, slots, Q, A, nL0⟩ := x
  obtain ⟨rfl, rfl, rfl, hx, hb, hml, hown, hts, hK, hA, hlk, hnw, hcl, hsl⟩ := h
  exact fun H locs ls hP hD hS hl => lv_iload hx hb hd (hl.2.2 16 _ rfl).1 (k _ _ _ hP hD hS hl)
theorem v_istore16 (h : Ok x g cc own rm nL) {l0 l1 l2 l3 l4 l5 l6 l7 l8 l9 l10 l11 l12 l13 l14 l15 : Option Value} {lt : List (Option Value)} {lo : Option Value} {v : Int32} (hn : 16 < nL) (hd : decode cc pc = .ok (.istore 16, 2)) (k : vM x (pc + 2) (l0 :: l1 :: l2 :: l3 :: l4 :: l5 :: l6 :: l7 :: l8 :: l9 :: l10 :: l11 :: l12 :: l13 :: l14 :: l15 :: some (.int v) :: lt) st ws) : vM x pc (l0 :: l1 :: l2 :: l3 :: l4 :: l5 :: l6 :: l7 :: l8 :: l9 :: l10 :: l11 :: l12 :: l13 :: l14 :: l15 :: lo :: lt) (.int v :: st) ws := by
  obtain ⟨g0, p, e, R, s, m, args, below, meth, c, cells, slots, Q, A, nL0⟩ := x
  obtain ⟨rfl, rfl, rfl, hx, hb, hml, hown, hts, hK, hA, hlk, hnw, hcl, hsl⟩ := h
  intro H locs ls hP hD hS hl
  obtain ⟨l, q1, q2, q3⟩ := vL_enum hl
  exact lv_istore hx hb hd q1 hn rfl (fun ls2 hl2 => k _ _ _ hP hD hS (by have q4 := vL_store q2 q3 rfl hl2; exact q4))
theorem v_aload16 (h : Ok x g cc own rm nL) {l0 l1 l2 l3 l4 l5 l6 l7 l8 l9 l10 l11 l12 l13 l14 l15 : Option Value} {lt : List (Option Value)} {v : Nat} (hd : decode cc pc = .ok (.aload 16, 2)) (k : vM x (pc + 2) (l0 :: l1 :: l2 :: l3 :: l4 :: l5 :: l6 :: l7 :: l8 :: l9 :: l10 :: l11 :: l12 :: l13 :: l14 :: l15 :: some (.ref v) :: lt) (.ref v :: st) ws) : vM x pc (l0 :: l1 :: l2 :: l3 :: l4 :: l5 :: l6 :: l7 :: l8 :: l9 :: l10 :: l11 :: l12 :: l13 :: l14 :: l15 :: some (.ref v) :: lt) (st) ws := by
  obtain ⟨g0, p, e, R, s, m, args, below, meth, c, cells, slots, Q, A, nL0⟩ := x
  obtain ⟨rfl, rfl, rfl, hx, hb, hml, hown, hts, hK, hA, hlk, hnw, hcl, hsl⟩ := h
  exact fun H locs ls hP hD hS hl => lv_aload hx hb hd (hl.2.2 16 _ rfl).1 (k _ _ _ hP hD hS hl)
theorem v_astore16 (h : Ok x g cc own rm nL) {l0 l1 l2 l3 l4 l5 l6 l7 l8 l9 l10 l11 l12 l13 l14 l15 : Option Value} {lt : List (Option Value)} {lo : Option Value} {v : Nat} (hn : 16 < nL) (hd : decode cc pc = .ok (.astore 16, 2)) (k : vM x (pc + 2) (l0 :: l1 :: l2 :: l3 :: l4 :: l5 :: l6 :: l7 :: l8 :: l9 :: l10 :: l11 :: l12 :: l13 :: l14 :: l15 :: some (.ref v) :: lt) st ws) : vM x pc (l0 :: l1 :: l2 :: l3 :: l4 :: l5 :: l6 :: l7 :: l8 :: l9 :: l10 :: l11 :: l12 :: l13 :: l14 :: l15 :: lo :: lt) (.ref v :: st) ws := by
  obtain ⟨g0, p, e, R, s, m, args, below, meth, c, cells, slots, Q, A, nL0⟩ := x
  obtain ⟨rfl, rfl, rfl, hx, hb, hml, hown, hts, hK, hA, hlk, hnw, hcl, hsl⟩ := h
  intro H locs ls hP hD hS hl
  obtain ⟨l, q1, q2, q3⟩ := vL_enum hl
  exact lv_astore hx hb hd q1 hn rfl (fun ls2 hl2 => k _ _ _ hP hD hS (by have q4 := vL_store q2 q3 rfl hl2; exact q4))
theorem v_iinc16 (h : Ok x g cc own rm nL) {l0 l1 l2 l3 l4 l5 l6 l7 l8 l9 l10 l11 l12 l13 l14 l15 : Option Value} {lt : List (Option Value)} {v : Int32} {d : Int} (hn : 16 < nL) (hd : decode cc pc = .ok (.iinc 16 d, 3)) (k : vM x (pc + 3) (l0 :: l1 :: l2 :: l3 :: l4 :: l5 :: l6 :: l7 :: l8 :: l9 :: l10 :: l11 :: l12 :: l13 :: l14 :: l15 :: some (.int (v + Int32.ofInt d)) :: lt) st ws) : vM x pc (l0 :: l1 :: l2 :: l3 :: l4 :: l5 :: l6 :: l7 :: l8 :: l9 :: l10 :: l11 :: l12 :: l13 :: l14 :: l15 :: some (.int v) :: lt) st ws := by
  obtain ⟨g0, p, e, R, s, m, args, below, meth, c, cells, slots, Q, A, nL0⟩ := x
  obtain ⟨rfl, rfl, rfl, hx, hb, hml, hown, hts, hK, hA, hlk, hnw, hcl, hsl⟩ := h
  intro H locs ls hP hD hS hl
  obtain ⟨l, q1, q2, q3⟩ := vL_enum hl
  obtain ⟨kk, hkk⟩ := List.getElem?_of_mem (q3 16 _ rfl)
  exact lv_iinc hx hb hd q1 hkk rfl hn rfl (fun ls2 hl2 => k _ _ _ hP hD hS (by have q4 := vL_store q2 q3 rfl hl2; exact q4))
theorem v_iincN16 (h : Ok x g cc own rm nL) {l0 l1 l2 l3 l4 l5 l6 l7 l8 l9 l10 l11 l12 l13 l14 l15 : Option Value} {lt : List (Option Value)} {v : Nat} (hn : 16 < nL) (hd : decode cc pc = .ok (.iinc 16 1, 3)) (k : vM x (pc + 3) (l0 :: l1 :: l2 :: l3 :: l4 :: l5 :: l6 :: l7 :: l8 :: l9 :: l10 :: l11 :: l12 :: l13 :: l14 :: l15 :: some (.int (nI (v + 1))) :: lt) st ws) : vM x pc (l0 :: l1 :: l2 :: l3 :: l4 :: l5 :: l6 :: l7 :: l8 :: l9 :: l10 :: l11 :: l12 :: l13 :: l14 :: l15 :: some (.int (nI v)) :: lt) st ws := by
  refine v_iinc16 h hn hd ?_
  rw [show nI v + Int32.ofInt 1 = nI (v + 1) from nI_1 v]
  exact k
theorem v_idecN16 (h : Ok x g cc own rm nL) {l0 l1 l2 l3 l4 l5 l6 l7 l8 l9 l10 l11 l12 l13 l14 l15 : Option Value} {lt : List (Option Value)} {v : Nat} (hn : 16 < nL) (hd : decode cc pc = .ok (.iinc 16 (-1), 3)) (k : vM x (pc + 3) (l0 :: l1 :: l2 :: l3 :: l4 :: l5 :: l6 :: l7 :: l8 :: l9 :: l10 :: l11 :: l12 :: l13 :: l14 :: l15 :: some (.int (nI v)) :: lt) st ws) : vM x pc (l0 :: l1 :: l2 :: l3 :: l4 :: l5 :: l6 :: l7 :: l8 :: l9 :: l10 :: l11 :: l12 :: l13 :: l14 :: l15 :: some (.int (nI (v + 1))) :: lt) st ws := by
  refine v_iinc16 h hn hd ?_
  rw [show nI (v + 1) + Int32.ofInt (-1) = nI v from pk_m1 v]
  exact k
theorem v_iload17 (h : Ok x g cc own rm nL) {l0 l1 l2 l3 l4 l5 l6 l7 l8 l9 l10 l11 l12 l13 l14 l15 l16 : Option Value} {lt : List (Option Value)} {v : Int32} (hd : decode cc pc = .ok (.iload 17, 2)) (k : vM x (pc + 2) (l0 :: l1 :: l2 :: l3 :: l4 :: l5 :: l6 :: l7 :: l8 :: l9 :: l10 :: l11 :: l12 :: l13 :: l14 :: l15 :: l16 :: some (.int v) :: lt) (.int v :: st) ws) : vM x pc (l0 :: l1 :: l2 :: l3 :: l4 :: l5 :: l6 :: l7 :: l8 :: l9 :: l10 :: l11 :: l12 :: l13 :: l14 :: l15 :: l16 :: some (.int v) :: lt) (st) ws := by
  obtain ⟨g0, p, e, R, s, m, args, below, meth, c, cells, slots, Q, A, nL0⟩ := x
  obtain ⟨rfl, rfl, rfl, hx, hb, hml, hown, hts, hK, hA, hlk, hnw, hcl, hsl⟩ := h
  exact fun H locs ls hP hD hS hl => lv_iload hx hb hd (hl.2.2 17 _ rfl).1 (k _ _ _ hP hD hS hl)
theorem v_istore17 (h : Ok x g cc own rm nL) {l0 l1 l2 l3 l4 l5 l6 l7 l8 l9 l10 l11 l12 l13 l14 l15 l16 : Option Value} {lt : List (Option Value)} {lo : Option Value} {v : Int32} (hn : 17 < nL) (hd : decode cc pc = .ok (.istore 17, 2)) (k : vM x (pc + 2) (l0 :: l1 :: l2 :: l3 :: l4 :: l5 :: l6 :: l7 :: l8 :: l9 :: l10 :: l11 :: l12 :: l13 :: l14 :: l15 :: l16 :: some (.int v) :: lt) st ws) : vM x pc (l0 :: l1 :: l2 :: l3 :: l4 :: l5 :: l6 :: l7 :: l8 :: l9 :: l10 :: l11 :: l12 :: l13 :: l14 :: l15 :: l16 :: lo :: lt) (.int v :: st) ws := by
  obtain ⟨g0, p, e, R, s, m, args, below, meth, c, cells, slots, Q, A, nL0⟩ := x
  obtain ⟨rfl, rfl, rfl, hx, hb, hml, hown, hts, hK, hA, hlk, hnw, hcl, hsl⟩ := h
  intro H locs ls hP hD hS hl
  obtain ⟨l, q1, q2, q3⟩ := vL_enum hl
  exact lv_istore hx hb hd q1 hn rfl (fun ls2 hl2 => k _ _ _ hP hD hS (by have q4 := vL_store q2 q3 rfl hl2; exact q4))
theorem v_aload17 (h : Ok x g cc own rm nL) {l0 l1 l2 l3 l4 l5 l6 l7 l8 l9 l10 l11 l12 l13 l14 l15 l16 : Option Value} {lt : List (Option Value)} {v : Nat} (hd : decode cc pc = .ok (.aload 17, 2)) (k : vM x (pc + 2) (l0 :: l1 :: l2 :: l3 :: l4 :: l5 :: l6 :: l7 :: l8 :: l9 :: l10 :: l11 :: l12 :: l13 :: l14 :: l15 :: l16 :: some (.ref v) :: lt) (.ref v :: st) ws) : vM x pc (l0 :: l1 :: l2 :: l3 :: l4 :: l5 :: l6 :: l7 :: l8 :: l9 :: l10 :: l11 :: l12 :: l13 :: l14 :: l15 :: l16 :: some (.ref v) :: lt) (st) ws := by
  obtain ⟨g0, p, e, R, s, m, args, below, meth, c, cells, slots, Q, A, nL0⟩ := x
  obtain ⟨rfl, rfl, rfl, hx, hb, hml, hown, hts, hK, hA, hlk, hnw, hcl, hsl⟩ := h
  exact fun H locs ls hP hD hS hl => lv_aload hx hb hd (hl.2.2 17 _ rfl).1 (k _ _ _ hP hD hS hl)
theorem v_astore17 (h : Ok x g cc own rm nL) {l0 l1 l2 l3 l4 l5 l6 l7 l8 l9 l10 l11 l12 l13 l14 l15 l16 : Option Value} {lt : List (Option Value)} {lo : Option Value} {v : Nat} (hn : 17 < nL) (hd : decode cc pc = .ok (.astore 17, 2)) (k : vM x (pc + 2) (l0 :: l1 :: l2 :: l3 :: l4 :: l5 :: l6 :: l7 :: l8 :: l9 :: l10 :: l11 :: l12 :: l13 :: l14 :: l15 :: l16 :: some (.ref v) :: lt) st ws) : vM x pc (l0 :: l1 :: l2 :: l3 :: l4 :: l5 :: l6 :: l7 :: l8 :: l9 :: l10 :: l11 :: l12 :: l13 :: l14 :: l15 :: l16 :: lo :: lt) (.ref v :: st) ws := by
  obtain ⟨g0, p, e, R, s, m, args, below, meth, c, cells, slots, Q, A, nL0⟩ := x
  obtain ⟨rfl, rfl, rfl, hx, hb, hml, hown, hts, hK, hA, hlk, hnw, hcl, hsl⟩ := h
  intro H locs ls hP hD hS hl
  obtain ⟨l, q1, q2, q3⟩ := vL_enum hl
  exact lv_astore hx hb hd q1 hn rfl (fun ls2 hl2 => k _ _ _ hP hD hS (by have q4 := vL_store q2 q3 rfl hl2; exact q4))
theorem v_iinc17 (h : Ok x g cc own rm nL) {l0 l1 l2 l3 l4 l5 l6 l7 l8 l9 l10 l11 l12 l13 l14 l15 l16 : Option Value} {lt : List (Option Value)} {v : Int32} {d : Int} (hn : 17 < nL) (hd : decode cc pc = .ok (.iinc 17 d, 3)) (k : vM x (pc + 3) (l0 :: l1 :: l2 :: l3 :: l4 :: l5 :: l6 :: l7 :: l8 :: l9 :: l10 :: l11 :: l12 :: l13 :: l14 :: l15 :: l16 :: some (.int (v + Int32.ofInt d)) :: lt) st ws) : vM x pc (l0 :: l1 :: l2 :: l3 :: l4 :: l5 :: l6 :: l7 :: l8 :: l9 :: l10 :: l11 :: l12 :: l13 :: l14 :: l15 :: l16 :: some (.int v) :: lt) st ws := by
  obtain ⟨g0, p, e, R, s, m, args, below, meth, c, cells, slots, Q, A, nL0⟩ := x
  obtain ⟨rfl, rfl, rfl, hx, hb, hml, hown, hts, hK, hA, hlk, hnw, hcl, hsl⟩ := h
  intro H locs ls hP hD hS hl
  obtain ⟨l, q1, q2, q3⟩ := vL_enum hl
  obtain ⟨kk, hkk⟩ := List.getElem?_of_mem (q3 17 _ rfl)
  exact lv_iinc hx hb hd q1 hkk rfl hn rfl (fun ls2 hl2 => k _ _ _ hP hD hS (by have q4 := vL_store q2 q3 rfl hl2; exact q4))
theorem v_iincN17 (h : Ok x g cc own rm nL) {l0 l1 l2 l3 l4 l5 l6 l7 l8 l9 l10 l11 l12 l13 l14 l15 l16 : Option Value} {lt : List (Option Value)} {v : Nat} (hn : 17 < nL) (hd : decode cc pc = .ok (.iinc 17 1, 3)) (k : vM x (pc + 3) (l0 :: l1 :: l2 :: l3 :: l4 :: l5 :: l6 :: l7 :: l8 :: l9 :: l10 :: l11 :: l12 :: l13 :: l14 :: l15 :: l16 :: some (.int (nI (v + 1))) :: lt) st ws) : vM x pc (l0 :: l1 :: l2 :: l3 :: l4 :: l5 :: l6 :: l7 :: l8 :: l9 :: l10 :: l11 :: l12 :: l13 :: l14 :: l15 :: l16 :: some (.int (nI v)) :: lt) st ws := by
  refine v_iinc17 h hn hd ?_
  rw [show nI v + Int32.ofInt 1 = nI (v + 1) from nI_1 v]
  exact k
theorem v_idecN17 (h : Ok x g cc own rm nL) {l0 l1 l2 l3 l4 l5 l6 l7 l8 l9 l10 l11 l12 l13 l14 l15 l16 : Option Value} {lt : List (Option Value)} {v : Nat} (hn : 17 < nL) (hd : decode cc pc = .ok (.iinc 17 (-1), 3)) (k : vM x (pc + 3) (l0 :: l1 :: l2 :: l3 :: l4 :: l5 :: l6 :: l7 :: l8 :: l9 :: l10 :: l11 :: l12 :: l13 :: l14 :: l15 :: l16 :: some (.int (nI v)) :: lt) st ws) : vM x pc (l0 :: l1 :: l2 :: l3 :: l4 :: l5 :: l6 :: l7 :: l8 :: l9 :: l10 :: l11 :: l12 :: l13 :: l14 :: l15 :: l16 :: some (.int (nI (v + 1))) :: lt) st ws := by
  refine v_iinc17 h hn hd ?_
  rw [show nI (v + 1) + Int32.ofInt (-1) = nI v from pk_m1 v]
  exact k
theorem v_iload18 (h : Ok x g cc own rm nL) {l0 l1 l2 l3 l4 l5 l6 l7 l8 l9 l10 l11 l12 l13 l14 l15 l16 l17 : Option Value} {lt : List (Option Value)} {v : Int32} (hd : decode cc pc = .ok (.iload 18, 2)) (k : vM x (pc + 2) (l0 :: l1 :: l2 :: l3 :: l4 :: l5 :: l6 :: l7 :: l8 :: l9 :: l10 :: l11 :: l12 :: l13 :: l14 :: l15 :: l16 :: l17 :: some (.int v) :: lt) (.int v :: st) ws) : vM x pc (l0 :: l1 :: l2 :: l3 :: l4 :: l5 :: l6 :: l7 :: l8 :: l9 :: l10 :: l11 :: l12 :: l13 :: l14 :: l15 :: l16 :: l17 :: some (.int v) :: lt) (st) ws := by
  obtain ⟨g0, p, e, R, s, m, args, below, meth, c, cells, slots, Q, A, nL0⟩ := x
  obtain ⟨rfl, rfl, rfl, hx, hb, hml, hown, hts, hK, hA, hlk, hnw, hcl, hsl⟩ := h
  exact fun H locs ls hP hD hS hl => lv_iload hx hb hd (hl.2.2 18 _ rfl).1 (k _ _ _ hP hD hS hl)
theorem v_istore18 (h : Ok x g cc own rm nL) {l0 l1 l2 l3 l4 l5 l6 l7 l8 l9 l10 l11 l12 l13 l14 l15 l16 l17 : Option Value} {lt : List (Option Value)} {lo : Option Value} {v : Int32} (hn : 18 < nL) (hd : decode cc pc = .ok (.istore 18, 2)) (k : vM x (pc + 2) (l0 :: l1 :: l2 :: l3 :: l4 :: l5 :: l6 :: l7 :: l8 :: l9 :: l10 :: l11 :: l12 :: l13 :: l14 :: l15 :: l16 :: l17 :: some (.int v) :: lt) st ws) : vM x pc (l0 :: l1 :: l2 :: l3 :: l4 :: l5 :: l6 :: l7 :: l8 :: l9 :: l10 :: l11 :: l12 :: l13 :: l14 :: l15 :: l16 :: l17 :: lo :: lt) (.int v :: st) ws := by
  obtain ⟨g0, p, e, R, s, m, args, below, meth, c, cells, slots, Q, A, nL0⟩ := x
  obtain ⟨rfl, rfl, rfl, hx, hb, hml, hown, hts, hK, hA, hlk, hnw, hcl, hsl⟩ := h
  intro H locs ls hP hD hS hl
  obtain ⟨l, q1, q2, q3⟩ := vL_enum hl
  exact lv_istore hx hb hd q1 hn rfl (fun ls2 hl2 => k _ _ _ hP hD hS (by have q4 := vL_store q2 q3 rfl hl2; exact q4))
theorem v_aload18 (h : Ok x g cc own rm nL) {l0 l1 l2 l3 l4 l5 l6 l7 l8 l9 l10 l11 l12 l13 l14 l15 l16 l17 : Option Value} {lt : List (Option Value)} {v : Nat} (hd : decode cc pc = .ok (.aload 18, 2)) (k : vM x (pc + 2) (l0 :: l1 :: l2 :: l3 :: l4 :: l5 :: l6 :: l7 :: l8 :: l9 :: l10 :: l11 :: l12 :: l13 :: l14 :: l15 :: l16 :: l17 :: some (.ref v) :: lt) (.ref v :: st) ws) : vM x pc (l0 :: l1 :: l2 :: l3 :: l4 :: l5 :: l6 :: l7 :: l8 :: l9 :: l10 :: l11 :: l12 :: l13 :: l14 :: l15 :: l16 :: l17 :: some (.ref v) :: lt) (st) ws := by
  obtain ⟨g0, p, e, R, s, m, args, below, meth, c, cells, slots, Q, A, nL0⟩ := x
  obtain ⟨rfl, rfl, rfl, hx, hb, hml, hown, hts, hK, hA, hlk, hnw, hcl, hsl⟩ := h
  exact fun H locs ls hP hD hS hl => lv_aload hx hb hd (hl.2.2 18 _ rfl).1 (k _ _ _ hP hD hS hl)
theorem v_astore18 (h : Ok x g cc own rm nL) {l0 l1 l2 l3 l4 l5 l6 l7 l8 l9 l10 l11 l12 l13 l14 l15 l16 l17 : Option Value} {lt : List (Option Value)} {lo : Option Value} {v : Nat} (hn : 18 < nL) (hd : decode cc pc = .ok (.astore 18, 2)) (k : vM x (pc + 2) (l0 :: l1 :: l2 :: l3 :: l4 :: l5 :: l6 :: l7 :: l8 :: l9 :: l10 :: l11 :: l12 :: l13 :: l14 :: l15 :: l16 :: l17 :: some (.ref v) :: lt) st ws) : vM x pc (l0 :: l1 :: l2 :: l3 :: l4 :: l5 :: l6 :: l7 :: l8 :: l9 :: l10 :: l11 :: l12 :: l13 :: l14 :: l15 :: l16 :: l17 :: lo :: lt) (.ref v :: st) ws := by
  obtain ⟨g0, p, e, R, s, m, args, below, meth, c, cells, slots, Q, A, nL0⟩ := x
  obtain ⟨rfl, rfl, rfl, hx, hb, hml, hown, hts, hK, hA, hlk, hnw, hcl, hsl⟩ := h
  intro H locs ls hP hD hS hl
  obtain ⟨l, q1, q2, q3⟩ := vL_enum hl
  exact lv_astore hx hb hd q1 hn rfl (fun ls2 hl2 => k _ _ _ hP hD hS (by have q4 := vL_store q2 q3 rfl hl2; exact q4))
theorem v_iinc18 (h : Ok x g cc own rm nL) {l0 l1 l2 l3 l4 l5 l6 l7 l8 l9 l10 l11 l12 l13 l14 l15 l16 l17 : Option Value} {lt : List (Option Value)} {v : Int32} {d : Int} (hn : 18 < nL) (hd : decode cc pc = .ok (.iinc 18 d, 3)) (k : vM x (pc + 3) (l0 :: l1 :: l2 :: l3 :: l4 :: l5 :: l6 :: l7 :: l8 :: l9 :: l10 :: l11 :: l12 :: l13 :: l14 :: l15 :: l16 :: l17 :: some (.int (v + Int32.ofInt d)) :: lt) st ws) : vM x pc (l0 :: l1 :: l2 :: l3 :: l4 :: l5 :: l6 :: l7 :: l8 :: l9 :: l10 :: l11 :: l12 :: l13 :: l14 :: l15 :: l16 :: l17 :: some (.int v) :: lt) st ws := by
  obtain ⟨g0, p, e, R, s, m, args, below, meth, c, cells, slots, Q, A, nL0⟩ := x
  obtain ⟨rfl, rfl, rfl, hx, hb, hml, hown, hts, hK, hA, hlk, hnw, hcl, hsl⟩ := h
  intro H locs ls hP hD hS hl
  obtain ⟨l, q1, q2, q3⟩ := vL_enum hl
  obtain ⟨kk, hkk⟩ := List.getElem?_of_mem (q3 18 _ rfl)
  exact lv_iinc hx hb hd q1 hkk rfl hn rfl (fun ls2 hl2 => k _ _ _ hP hD hS (by have q4 := vL_store q2 q3 rfl hl2; exact q4))
theorem v_iincN18 (h : Ok x g cc own rm nL) {l0 l1 l2 l3 l4 l5 l6 l7 l8 l9 l10 l11 l12 l13 l14 l15 l16 l17 : Option Value} {lt : List (Option Value)} {v : Nat} (hn : 18 < nL) (hd : decode cc pc = .ok (.iinc 18 1, 3)) (k : vM x (pc + 3) (l0 :: l1 :: l2 :: l3 :: l4 :: l5 :: l6 :: l7 :: l8 :: l9 :: l10 :: l11 :: l12 :: l13 :: l14 :: l15 :: l16 :: l17 :: some (.int (nI (v + 1))) :: lt) st ws) : vM x pc (l0 :: l1 :: l2 :: l3 :: l4 :: l5 :: l6 :: l7 :: l8 :: l9 :: l10 :: l11 :: l12 :: l13 :: l14 :: l15 :: l16 :: l17 :: some (.int (nI v)) :: lt) st ws := by
  refine v_iinc18 h hn hd ?_
  rw [show nI v + Int32.ofInt 1 = nI (v + 1) from nI_1 v]
  exact k
theorem v_idecN18 (h : Ok x g cc own rm nL) {l0 l1 l2 l3 l4 l5 l6 l7 l8 l9 l10 l11 l12 l13 l14 l15 l16 l17 : Option Value} {lt : List (Option Value)} {v : Nat} (hn : 18 < nL) (hd : decode cc pc = .ok (.iinc 18 (-1), 3)) (k : vM x (pc + 3) (l0 :: l1 :: l2 :: l3 :: l4 :: l5 :: l6 :: l7 :: l8 :: l9 :: l10 :: l11 :: l12 :: l13 :: l14 :: l15 :: l16 :: l17 :: some (.int (nI v)) :: lt) st ws) : vM x pc (l0 :: l1 :: l2 :: l3 :: l4 :: l5 :: l6 :: l7 :: l8 :: l9 :: l10 :: l11 :: l12 :: l13 :: l14 :: l15 :: l16 :: l17 :: some (.int (nI (v + 1))) :: lt) st ws := by
  refine v_iinc18 h hn hd ?_
  rw [show nI (v + 1) + Int32.ofInt (-1) = nI v from pk_m1 v]
  exact k
theorem v_iconst (h : Ok x g cc own rm nL) {n : Int} {v : Int32} (hd : decode cc pc = .ok (.iconst n, 1)) (hv : Int32.ofInt n = v) (k : vM x (pc + 1) (lv) (.int v :: st) ws) : vM x pc (lv) (st) ws := by
  obtain ⟨g0, p, e, R, s, m, args, below, meth, c, cells, slots, Q, A, nL0⟩ := x
  obtain ⟨rfl, rfl, rfl, hx, hb, hml, hown, hts, hK, hA, hlk, hnw, hcl, hsl⟩ := h
  exact fun H locs ls hP hD hS hl => lv_iconst hx hb hd hv (k _ _ _ hP hD hS hl)
theorem v_bipush (h : Ok x g cc own rm nL) {n : Int} {v : Int32} (hd : decode cc pc = .ok (.bipush n, 2)) (hv : (Int8.ofInt n).toInt32 = v) (k : vM x (pc + 2) (lv) (.int v :: st) ws) : vM x pc (lv) (st) ws := by
  obtain ⟨g0, p, e, R, s, m, args, below, meth, c, cells, slots, Q, A, nL0⟩ := x
  obtain ⟨rfl, rfl, rfl, hx, hb, hml, hown, hts, hK, hA, hlk, hnw, hcl, hsl⟩ := h
  exact fun H locs ls hP hD hS hl => lv_bipush hx hb hd hv (k _ _ _ hP hD hS hl)
theorem v_sipush (h : Ok x g cc own rm nL) {n : Int} {v : Int32} (hd : decode cc pc = .ok (.sipush n, 3)) (hv : (Int16.ofInt n).toInt32 = v) (k : vM x (pc + 3) (lv) (.int v :: st) ws) : vM x pc (lv) (st) ws := by
  obtain ⟨g0, p, e, R, s, m, args, below, meth, c, cells, slots, Q, A, nL0⟩ := x
  obtain ⟨rfl, rfl, rfl, hx, hb, hml, hown, hts, hK, hA, hlk, hnw, hcl, hsl⟩ := h
  exact fun H locs ls hP hD hS hl => lv_sipush hx hb hd hv (k _ _ _ hP hD hS hl)
theorem v_ldcw (h : Ok x g cc own rm nL) {idx : Nat} {v : Int32} (hc : Cond.constant own idx v ∈ wsL_law) (hd : decode cc pc = .ok (.ldc_w idx, 3)) (k : vM x (pc + 3) (lv) (.int v :: st) ws) : vM x pc (lv) (st) ws := by
  obtain ⟨g0, p, e, R, s, m, args, below, meth, c, cells, slots, Q, A, nL0⟩ := x
  obtain ⟨rfl, rfl, rfl, hx, hb, hml, hown, hts, hK, hA, hlk, hnw, hcl, hsl⟩ := h
  exact fun H locs ls hP hD hS hl => lv_ldcw hx hb hown (hts _ hc) hd (k _ _ _ hP hD hS hl)
theorem v_ldc2 (h : Ok x g cc own rm nL) {idx : Nat} {v : Int64} (hc : Cond.constantLong own idx v ∈ wsL_law) (hd : decode cc pc = .ok (.ldc2_w idx, 3)) (k : vM x (pc + 3) (lv) (.long v :: st) ws) : vM x pc (lv) (st) ws := by
  obtain ⟨g0, p, e, R, s, m, args, below, meth, c, cells, slots, Q, A, nL0⟩ := x
  obtain ⟨rfl, rfl, rfl, hx, hb, hml, hown, hts, hK, hA, hlk, hnw, hcl, hsl⟩ := h
  exact fun H locs ls hP hD hS hl => lv_ldc2 hx hb hown (hts _ hc) hd (k _ _ _ hP hD hS hl)
theorem v_iadd (h : Ok x g cc own rm nL) {a b : Int32} (hd : decode cc pc = .ok (.iadd, 1)) (k : vM x (pc + 1) (lv) (.int (a + b) :: st) ws) : vM x pc (lv) (.int b :: .int a :: st) ws := by
  obtain ⟨g0, p, e, R, s, m, args, below, meth, c, cells, slots, Q, A, nL0⟩ := x
  obtain ⟨rfl, rfl, rfl, hx, hb, hml, hown, hts, hK, hA, hlk, hnw, hcl, hsl⟩ := h
  exact fun H locs ls hP hD hS hl => lv_iadd hx hb hd (k _ _ _ hP hD hS hl)
theorem v_isub (h : Ok x g cc own rm nL) {a b : Int32} (hd : decode cc pc = .ok (.isub, 1)) (k : vM x (pc + 1) (lv) (.int (a - b) :: st) ws) : vM x pc (lv) (.int b :: .int a :: st) ws := by
  obtain ⟨g0, p, e, R, s, m, args, below, meth, c, cells, slots, Q, A, nL0⟩ := x
  obtain ⟨rfl, rfl, rfl, hx, hb, hml, hown, hts, hK, hA, hlk, hnw, hcl, hsl⟩ := h
  exact fun H locs ls hP hD hS hl => lv_isub hx hb hd (k _ _ _ hP hD hS hl)
theorem v_imul (h : Ok x g cc own rm nL) {a b : Int32} (hd : decode cc pc = .ok (.imul, 1)) (k : vM x (pc + 1) (lv) (.int (a * b) :: st) ws) : vM x pc (lv) (.int b :: .int a :: st) ws := by
  obtain ⟨g0, p, e, R, s, m, args, below, meth, c, cells, slots, Q, A, nL0⟩ := x
  obtain ⟨rfl, rfl, rfl, hx, hb, hml, hown, hts, hK, hA, hlk, hnw, hcl, hsl⟩ := h
  exact fun H locs ls hP hD hS hl => lv_imul hx hb hd (k _ _ _ hP hD hS hl)
theorem v_iand (h : Ok x g cc own rm nL) {a b : Int32} (hd : decode cc pc = .ok (.iand, 1)) (k : vM x (pc + 1) (lv) (.int (a &&& b) :: st) ws) : vM x pc (lv) (.int b :: .int a :: st) ws := by
  obtain ⟨g0, p, e, R, s, m, args, below, meth, c, cells, slots, Q, A, nL0⟩ := x
  obtain ⟨rfl, rfl, rfl, hx, hb, hml, hown, hts, hK, hA, hlk, hnw, hcl, hsl⟩ := h
  exact fun H locs ls hP hD hS hl => lv_iand hx hb hd (k _ _ _ hP hD hS hl)
theorem v_ior (h : Ok x g cc own rm nL) {a b : Int32} (hd : decode cc pc = .ok (.ior, 1)) (k : vM x (pc + 1) (lv) (.int (a ||| b) :: st) ws) : vM x pc (lv) (.int b :: .int a :: st) ws := by
  obtain ⟨g0, p, e, R, s, m, args, below, meth, c, cells, slots, Q, A, nL0⟩ := x
  obtain ⟨rfl, rfl, rfl, hx, hb, hml, hown, hts, hK, hA, hlk, hnw, hcl, hsl⟩ := h
  exact fun H locs ls hP hD hS hl => lv_ior hx hb hd (k _ _ _ hP hD hS hl)
theorem v_ixor (h : Ok x g cc own rm nL) {a b : Int32} (hd : decode cc pc = .ok (.ixor, 1)) (k : vM x (pc + 1) (lv) (.int (a ^^^ b) :: st) ws) : vM x pc (lv) (.int b :: .int a :: st) ws := by
  obtain ⟨g0, p, e, R, s, m, args, below, meth, c, cells, slots, Q, A, nL0⟩ := x
  obtain ⟨rfl, rfl, rfl, hx, hb, hml, hown, hts, hK, hA, hlk, hnw, hcl, hsl⟩ := h
  exact fun H locs ls hP hD hS hl => lv_ixor hx hb hd (k _ _ _ hP hD hS hl)
theorem v_ishl (h : Ok x g cc own rm nL) {a b : Int32} (hd : decode cc pc = .ok (.ishl, 1)) (k : vM x (pc + 1) (lv) (.int (a <<< (b &&& 31)) :: st) ws) : vM x pc (lv) (.int b :: .int a :: st) ws := by
  obtain ⟨g0, p, e, R, s, m, args, below, meth, c, cells, slots, Q, A, nL0⟩ := x
  obtain ⟨rfl, rfl, rfl, hx, hb, hml, hown, hts, hK, hA, hlk, hnw, hcl, hsl⟩ := h
  exact fun H locs ls hP hD hS hl => lv_ishl hx hb hd (k _ _ _ hP hD hS hl)
theorem v_ishr (h : Ok x g cc own rm nL) {a b : Int32} (hd : decode cc pc = .ok (.ishr, 1)) (k : vM x (pc + 1) (lv) (.int (a >>> (b &&& 31)) :: st) ws) : vM x pc (lv) (.int b :: .int a :: st) ws := by
  obtain ⟨g0, p, e, R, s, m, args, below, meth, c, cells, slots, Q, A, nL0⟩ := x
  obtain ⟨rfl, rfl, rfl, hx, hb, hml, hown, hts, hK, hA, hlk, hnw, hcl, hsl⟩ := h
  exact fun H locs ls hP hD hS hl => lv_ishr hx hb hd (k _ _ _ hP hD hS hl)
theorem v_iushr (h : Ok x g cc own rm nL) {a b v : Int32} (hd : decode cc pc = .ok (.iushr, 1)) (hv : (a.toUInt32 >>> (b.toUInt32 &&& Int32.toUInt32 31)).toInt32 = v) (k : vM x (pc + 1) (lv) (.int v :: st) ws) : vM x pc (lv) (.int b :: .int a :: st) ws := by
  obtain ⟨g0, p, e, R, s, m, args, below, meth, c, cells, slots, Q, A, nL0⟩ := x
  obtain ⟨rfl, rfl, rfl, hx, hb, hml, hown, hts, hK, hA, hlk, hnw, hcl, hsl⟩ := h
  exact fun H locs ls hP hD hS hl => lv_iushr hx hb hd hv (k _ _ _ hP hD hS hl)
theorem v_idiv (h : Ok x g cc own rm nL) {a b : Int32} (hd : decode cc pc = .ok (.idiv, 1)) (hb0 : ¬ b = 0) (k : vM x (pc + 1) (lv) (.int (a / b) :: st) ws) : vM x pc (lv) (.int b :: .int a :: st) ws := by
  obtain ⟨g0, p, e, R, s, m, args, below, meth, c, cells, slots, Q, A, nL0⟩ := x
  obtain ⟨rfl, rfl, rfl, hx, hb, hml, hown, hts, hK, hA, hlk, hnw, hcl, hsl⟩ := h
  exact fun H locs ls hP hD hS hl => lv_idiv hx hb hd hb0 (k _ _ _ hP hD hS hl)
theorem v_irem (h : Ok x g cc own rm nL) {a b : Int32} (hd : decode cc pc = .ok (.irem, 1)) (hb0 : ¬ b = 0) (k : vM x (pc + 1) (lv) (.int (a - a / b * b) :: st) ws) : vM x pc (lv) (.int b :: .int a :: st) ws := by
  obtain ⟨g0, p, e, R, s, m, args, below, meth, c, cells, slots, Q, A, nL0⟩ := x
  obtain ⟨rfl, rfl, rfl, hx, hb, hml, hown, hts, hK, hA, hlk, hnw, hcl, hsl⟩ := h
  exact fun H locs ls hP hD hS hl => lv_irem hx hb hd hb0 (k _ _ _ hP hD hS hl)
theorem v_i2b (h : Ok x g cc own rm nL) {a : Int32} (hd : decode cc pc = .ok (.i2b, 1)) (k : vM x (pc + 1) (lv) (.int (a.toInt8.toInt32) :: st) ws) : vM x pc (lv) (.int a :: st) ws := by
  obtain ⟨g0, p, e, R, s, m, args, below, meth, c, cells, slots, Q, A, nL0⟩ := x
  obtain ⟨rfl, rfl, rfl, hx, hb, hml, hown, hts, hK, hA, hlk, hnw, hcl, hsl⟩ := h
  exact fun H locs ls hP hD hS hl => lv_i2b hx hb hd rfl (k _ _ _ hP hD hS hl)
theorem v_i2s (h : Ok x g cc own rm nL) {a : Int32} (hd : decode cc pc = .ok (.i2s, 1)) (k : vM x (pc + 1) (lv) (.int (a.toInt16.toInt32) :: st) ws) : vM x pc (lv) (.int a :: st) ws := by
  obtain ⟨g0, p, e, R, s, m, args, below, meth, c, cells, slots, Q, A, nL0⟩ := x
  obtain ⟨rfl, rfl, rfl, hx, hb, hml, hown, hts, hK, hA, hlk, hnw, hcl, hsl⟩ := h
  exact fun H locs ls hP hD hS hl => lv_i2s hx hb hd rfl (k _ _ _ hP hD hS hl)
theorem v_i2l (h : Ok x g cc own rm nL) {a : Int32} (hd : decode cc pc = .ok (.i2l, 1)) (k : vM x (pc + 1) (lv) (.long a.toInt64 :: st) ws) : vM x pc (lv) (.int a :: st) ws := by
  obtain ⟨g0, p, e, R, s, m, args, below, meth, c, cells, slots, Q, A, nL0⟩ := x
  obtain ⟨rfl, rfl, rfl, hx, hb, hml, hown, hts, hK, hA, hlk, hnw, hcl, hsl⟩ := h
  exact fun H locs ls hP hD hS hl => lv_i2l hx hb hd rfl (k _ _ _ hP hD hS hl)
theorem v_dup (h : Ok x g cc own rm nL) {v : Value} (hd : decode cc pc = .ok (.dup, 1)) (hv : v.category = 1) (k : vM x (pc + 1) (lv) (v :: v :: st) ws) : vM x pc (lv) (v :: st) ws := by
  obtain ⟨g0, p, e, R, s, m, args, below, meth, c, cells, slots, Q, A, nL0⟩ := x
  obtain ⟨rfl, rfl, rfl, hx, hb, hml, hown, hts, hK, hA, hlk, hnw, hcl, hsl⟩ := h
  exact fun H locs ls hP hD hS hl => lv_dup hx hb hd hv (k _ _ _ hP hD hS hl)
theorem v_dup2 (h : Ok x g cc own rm nL) {v w : Value} (hd : decode cc pc = .ok (.dup2, 1)) (hv : v.category = 1) (hw : w.category = 1) (k : vM x (pc + 1) (lv) (v :: w :: v :: w :: st) ws) : vM x pc (lv) (v :: w :: st) ws := by
  obtain ⟨g0, p, e, R, s, m, args, below, meth, c, cells, slots, Q, A, nL0⟩ := x
  obtain ⟨rfl, rfl, rfl, hx, hb, hml, hown, hts, hK, hA, hlk, hnw, hcl, hsl⟩ := h
  exact fun H locs ls hP hD hS hl => lv_dup2_11 hx hb hd hv hw (k _ _ _ hP hD hS hl)
theorem v_iaddN (h : Ok x g cc own rm nL) {a b : Nat} (hd : decode cc pc = .ok (.iadd, 1)) (k : vM x (pc + 1) lv (.int (nI (a + b)) :: st) ws) : vM x pc lv (.int (nI b) :: .int (nI a) :: st) ws := by
  refine v_iadd h hd ?_
  rw [nI_add]
  exact k
theorem v_isubN (h : Ok x g cc own rm nL) {a b : Nat} (hd : decode cc pc = .ok (.isub, 1)) (hle : b ≤ a) (k : vM x (pc + 1) lv (.int (nI (a - b)) :: st) ws) : vM x pc lv (.int (nI b) :: .int (nI a) :: st) ws := by
  refine v_isub h hd ?_
  rw [pk_sub hle]
  exact k
theorem v_imulN (h : Ok x g cc own rm nL) {a b : Nat} (hd : decode cc pc = .ok (.imul, 1)) (k : vM x (pc + 1) lv (.int (nI (a * b)) :: st) ws) : vM x pc lv (.int (nI b) :: .int (nI a) :: st) ws := by
  refine v_imul h hd ?_
  rw [pk_mul]
  exact k
theorem v_idivN (h : Ok x g cc own rm nL) {a b : Nat} (hd : decode cc pc = .ok (.idiv, 1)) (ha : a < 2 ^ 31) (h0 : 0 < b) (hb2 : b < 2 ^ 31) (k : vM x (pc + 1) lv (.int (nI (a / b)) :: st) ws) : vM x pc lv (.int (nI b) :: .int (nI a) :: st) ws := by
  refine v_idiv h hd (nI_ne0 h0 hb2) ?_
  rw [pk_div ha h0 hb2]
  exact k
theorem v_iremN (h : Ok x g cc own rm nL) {a b : Nat} (hd : decode cc pc = .ok (.irem, 1)) (ha : a < 2 ^ 31) (h0 : 0 < b) (hb2 : b < 2 ^ 31) (k : vM x (pc + 1) lv (.int (nI (a % b)) :: st) ws) : vM x pc lv (.int (nI b) :: .int (nI a) :: st) ws := by
  refine v_irem h hd (nI_ne0 h0 hb2) ?_
  rw [pk_rem ha h0 hb2]
  exact k
theorem v_iandN (h : Ok x g cc own rm nL) {a b : Nat} (hd : decode cc pc = .ok (.iand, 1)) (k : vM x (pc + 1) lv (.int (nI (a &&& b)) :: st) ws) : vM x pc lv (.int (nI b) :: .int (nI a) :: st) ws := by
  refine v_iand h hd ?_
  rw [nI_and]
  exact k
theorem v_iorN (h : Ok x g cc own rm nL) {a b : Nat} (hd : decode cc pc = .ok (.ior, 1)) (k : vM x (pc + 1) lv (.int (nI (a ||| b)) :: st) ws) : vM x pc lv (.int (nI b) :: .int (nI a) :: st) ws := by
  refine v_ior h hd ?_
  rw [nI_or]
  exact k
theorem v_ishlN (h : Ok x g cc own rm nL) {b : Nat} (hd : decode cc pc = .ok (.ishl, 1)) (hb2 : b < 32) (k : vM x (pc + 1) lv (.int (nI (2 ^ b)) :: st) ws) : vM x pc lv (.int (nI b) :: .int (nI 1) :: st) ws := by
  refine v_ishl h hd ?_
  rw [nI_shl1 hb2]
  exact k
theorem v_ishrN (h : Ok x g cc own rm nL) {a b : Nat} (hd : decode cc pc = .ok (.ishr, 1)) (ha : a < 2 ^ 31) (hb2 : b < 32) (k : vM x (pc + 1) lv (.int (nI (a / 2 ^ b)) :: st) ws) : vM x pc lv (.int (nI b) :: .int (nI a) :: st) ws := by
  refine v_ishr h hd ?_
  rw [nI_shr ha hb2]
  exact k
theorem v_iandM (h : Ok x g cc own rm nL) {a b : Nat} (hd : decode cc pc = .ok (.iand, 1)) (k : vM x (pc + 1) lv (.int (nI (sdiff b a)) :: st) ws) : vM x pc lv (.int (nI a ^^^ (-1)) :: .int (nI b) :: st) ws := by
  refine v_iand h hd ?_
  rw [nI_sdiff]
  exact k
theorem v_goto (h : Ok x g cc own rm nL) {off : Int} {tgt : Nat} (hd : decode cc pc = .ok (.goto off, 3)) (ht : (pc : Int) + off = (tgt : Int)) (k : vM x (tgt) (lv) (st) ws) : vM x pc (lv) (st) ws := by
  obtain ⟨g0, p, e, R, s, m, args, below, meth, c, cells, slots, Q, A, nL0⟩ := x
  obtain ⟨rfl, rfl, rfl, hx, hb, hml, hown, hts, hK, hA, hlk, hnw, hcl, hsl⟩ := h
  exact fun H locs ls hP hD hS hl => lv_goto hx hb hd ht (k _ _ _ hP hD hS hl)
theorem v_icmp_lt (h : Ok x g cc own rm nL) {a b : Int32} {off : Int} {tgt : Nat} (hd : decode cc pc = .ok (.if_icmp .lt off, 3)) (ht : (pc : Int) + off = (tgt : Int)) (kt : a < b → vM x tgt lv st ws) (kf : ¬ a < b → vM x (pc + 3) lv st ws) : vM x pc lv (.int b :: .int a :: st) ws := by
  obtain ⟨g0, p, e, R, s, m, args, below, meth, c, cells, slots, Q, A, nL0⟩ := x
  obtain ⟨rfl, rfl, rfl, hx, hb, hml, hown, hts, hK, hA, hlk, hnw, hcl, hsl⟩ := h
  exact fun H locs ls hP hD hS hl => lv_icmp_lt hx hb hd ht (fun c9 => kt c9 _ _ _ hP hD hS hl) (fun c9 => kf c9 _ _ _ hP hD hS hl)
theorem v_if_lt (h : Ok x g cc own rm nL) {a : Int32} {off : Int} {tgt : Nat} (hd : decode cc pc = .ok (.ifCond .lt off, 3)) (ht : (pc : Int) + off = (tgt : Int)) (kt : a < 0 → vM x tgt lv st ws) (kf : ¬ a < 0 → vM x (pc + 3) lv st ws) : vM x pc lv (.int a :: st) ws := by
  obtain ⟨g0, p, e, R, s, m, args, below, meth, c, cells, slots, Q, A, nL0⟩ := x
  obtain ⟨rfl, rfl, rfl, hx, hb, hml, hown, hts, hK, hA, hlk, hnw, hcl, hsl⟩ := h
  exact fun H locs ls hP hD hS hl => lv_if_lt hx hb hd ht (fun c9 => kt c9 _ _ _ hP hD hS hl) (fun c9 => kf c9 _ _ _ hP hD hS hl)
theorem v_icmp_ge (h : Ok x g cc own rm nL) {a b : Int32} {off : Int} {tgt : Nat} (hd : decode cc pc = .ok (.if_icmp .ge off, 3)) (ht : (pc : Int) + off = (tgt : Int)) (kt : b ≤ a → vM x tgt lv st ws) (kf : ¬ b ≤ a → vM x (pc + 3) lv st ws) : vM x pc lv (.int b :: .int a :: st) ws := by
  obtain ⟨g0, p, e, R, s, m, args, below, meth, c, cells, slots, Q, A, nL0⟩ := x
  obtain ⟨rfl, rfl, rfl, hx, hb, hml, hown, hts, hK, hA, hlk, hnw, hcl, hsl⟩ := h
  exact fun H locs ls hP hD hS hl => lv_icmp_ge hx hb hd ht (fun c9 => kt c9 _ _ _ hP hD hS hl) (fun c9 => kf c9 _ _ _ hP hD hS hl)
theorem v_if_ge (h : Ok x g cc own rm nL) {a : Int32} {off : Int} {tgt : Nat} (hd : decode cc pc = .ok (.ifCond .ge off, 3)) (ht : (pc : Int) + off = (tgt : Int)) (kt : 0 ≤ a → vM x tgt lv st ws) (kf : ¬ 0 ≤ a → vM x (pc + 3) lv st ws) : vM x pc lv (.int a :: st) ws := by
  obtain ⟨g0, p, e, R, s, m, args, below, meth, c, cells, slots, Q, A, nL0⟩ := x
  obtain ⟨rfl, rfl, rfl, hx, hb, hml, hown, hts, hK, hA, hlk, hnw, hcl, hsl⟩ := h
  exact fun H locs ls hP hD hS hl => lv_if_ge hx hb hd ht (fun c9 => kt c9 _ _ _ hP hD hS hl) (fun c9 => kf c9 _ _ _ hP hD hS hl)
theorem v_icmp_gt (h : Ok x g cc own rm nL) {a b : Int32} {off : Int} {tgt : Nat} (hd : decode cc pc = .ok (.if_icmp .gt off, 3)) (ht : (pc : Int) + off = (tgt : Int)) (kt : b < a → vM x tgt lv st ws) (kf : ¬ b < a → vM x (pc + 3) lv st ws) : vM x pc lv (.int b :: .int a :: st) ws := by
  obtain ⟨g0, p, e, R, s, m, args, below, meth, c, cells, slots, Q, A, nL0⟩ := x
  obtain ⟨rfl, rfl, rfl, hx, hb, hml, hown, hts, hK, hA, hlk, hnw, hcl, hsl⟩ := h
  exact fun H locs ls hP hD hS hl => lv_icmp_gt hx hb hd ht (fun c9 => kt c9 _ _ _ hP hD hS hl) (fun c9 => kf c9 _ _ _ hP hD hS hl)
theorem v_if_gt (h : Ok x g cc own rm nL) {a : Int32} {off : Int} {tgt : Nat} (hd : decode cc pc = .ok (.ifCond .gt off, 3)) (ht : (pc : Int) + off = (tgt : Int)) (kt : 0 < a → vM x tgt lv st ws) (kf : ¬ 0 < a → vM x (pc + 3) lv st ws) : vM x pc lv (.int a :: st) ws := by
  obtain ⟨g0, p, e, R, s, m, args, below, meth, c, cells, slots, Q, A, nL0⟩ := x
  obtain ⟨rfl, rfl, rfl, hx, hb, hml, hown, hts, hK, hA, hlk, hnw, hcl, hsl⟩ := h
  exact fun H locs ls hP hD hS hl => lv_if_gt hx hb hd ht (fun c9 => kt c9 _ _ _ hP hD hS hl) (fun c9 => kf c9 _ _ _ hP hD hS hl)
theorem v_icmp_le (h : Ok x g cc own rm nL) {a b : Int32} {off : Int} {tgt : Nat} (hd : decode cc pc = .ok (.if_icmp .le off, 3)) (ht : (pc : Int) + off = (tgt : Int)) (kt : a ≤ b → vM x tgt lv st ws) (kf : ¬ a ≤ b → vM x (pc + 3) lv st ws) : vM x pc lv (.int b :: .int a :: st) ws := by
  obtain ⟨g0, p, e, R, s, m, args, below, meth, c, cells, slots, Q, A, nL0⟩ := x
  obtain ⟨rfl, rfl, rfl, hx, hb, hml, hown, hts, hK, hA, hlk, hnw, hcl, hsl⟩ := h
  exact fun H locs ls hP hD hS hl => lv_icmp_le hx hb hd ht (fun c9 => kt c9 _ _ _ hP hD hS hl) (fun c9 => kf c9 _ _ _ hP hD hS hl)
theorem v_if_le (h : Ok x g cc own rm nL) {a : Int32} {off : Int} {tgt : Nat} (hd : decode cc pc = .ok (.ifCond .le off, 3)) (ht : (pc : Int) + off = (tgt : Int)) (kt : a ≤ 0 → vM x tgt lv st ws) (kf : ¬ a ≤ 0 → vM x (pc + 3) lv st ws) : vM x pc lv (.int a :: st) ws := by
  obtain ⟨g0, p, e, R, s, m, args, below, meth, c, cells, slots, Q, A, nL0⟩ := x
  obtain ⟨rfl, rfl, rfl, hx, hb, hml, hown, hts, hK, hA, hlk, hnw, hcl, hsl⟩ := h
  exact fun H locs ls hP hD hS hl => lv_if_le hx hb hd ht (fun c9 => kt c9 _ _ _ hP hD hS hl) (fun c9 => kf c9 _ _ _ hP hD hS hl)
theorem v_icmp_eq (h : Ok x g cc own rm nL) {a b : Int32} {off : Int} {tgt : Nat} (hd : decode cc pc = .ok (.if_icmp .eq off, 3)) (ht : (pc : Int) + off = (tgt : Int)) (kt : a = b → vM x tgt lv st ws) (kf : ¬ a = b → vM x (pc + 3) lv st ws) : vM x pc lv (.int b :: .int a :: st) ws := by
  obtain ⟨g0, p, e, R, s, m, args, below, meth, c, cells, slots, Q, A, nL0⟩ := x
  obtain ⟨rfl, rfl, rfl, hx, hb, hml, hown, hts, hK, hA, hlk, hnw, hcl, hsl⟩ := h
  exact fun H locs ls hP hD hS hl => lv_icmp_eq hx hb hd ht (fun c9 => kt c9 _ _ _ hP hD hS hl) (fun c9 => kf c9 _ _ _ hP hD hS hl)
theorem v_if_eq (h : Ok x g cc own rm nL) {a : Int32} {off : Int} {tgt : Nat} (hd : decode cc pc = .ok (.ifCond .eq off, 3)) (ht : (pc : Int) + off = (tgt : Int)) (kt : a = 0 → vM x tgt lv st ws) (kf : ¬ a = 0 → vM x (pc + 3) lv st ws) : vM x pc lv (.int a :: st) ws := by
  obtain ⟨g0, p, e, R, s, m, args, below, meth, c, cells, slots, Q, A, nL0⟩ := x
  obtain ⟨rfl, rfl, rfl, hx, hb, hml, hown, hts, hK, hA, hlk, hnw, hcl, hsl⟩ := h
  exact fun H locs ls hP hD hS hl => lv_if_eq hx hb hd ht (fun c9 => kt c9 _ _ _ hP hD hS hl) (fun c9 => kf c9 _ _ _ hP hD hS hl)
theorem v_icmp_ne (h : Ok x g cc own rm nL) {a b : Int32} {off : Int} {tgt : Nat} (hd : decode cc pc = .ok (.if_icmp .ne off, 3)) (ht : (pc : Int) + off = (tgt : Int)) (kt : ¬ a = b → vM x tgt lv st ws) (kf : a = b → vM x (pc + 3) lv st ws) : vM x pc lv (.int b :: .int a :: st) ws := by
  obtain ⟨g0, p, e, R, s, m, args, below, meth, c, cells, slots, Q, A, nL0⟩ := x
  obtain ⟨rfl, rfl, rfl, hx, hb, hml, hown, hts, hK, hA, hlk, hnw, hcl, hsl⟩ := h
  exact fun H locs ls hP hD hS hl => lv_icmp_ne hx hb hd ht (fun c9 => kt c9 _ _ _ hP hD hS hl) (fun c9 => kf c9 _ _ _ hP hD hS hl)
theorem v_if_ne (h : Ok x g cc own rm nL) {a : Int32} {off : Int} {tgt : Nat} (hd : decode cc pc = .ok (.ifCond .ne off, 3)) (ht : (pc : Int) + off = (tgt : Int)) (kt : ¬ a = 0 → vM x tgt lv st ws) (kf : a = 0 → vM x (pc + 3) lv st ws) : vM x pc lv (.int a :: st) ws := by
  obtain ⟨g0, p, e, R, s, m, args, below, meth, c, cells, slots, Q, A, nL0⟩ := x
  obtain ⟨rfl, rfl, rfl, hx, hb, hml, hown, hts, hK, hA, hlk, hnw, hcl, hsl⟩ := h
  exact fun H locs ls hP hD hS hl => lv_if_ne hx hb hd ht (fun c9 => kt c9 _ _ _ hP hD hS hl) (fun c9 => kf c9 _ _ _ hP hD hS hl)
theorem v_icmp_ltN (h : Ok x g cc own rm nL) {a b : Nat} {off : Int} {tgt : Nat} (hd : decode cc pc = .ok (.if_icmp .lt off, 3)) (ht : (pc : Int) + off = (tgt : Int)) (ha : a < 2 ^ 31) (hb2 : b < 2 ^ 31) (kt : a < b → vM x tgt lv st ws) (kf : b ≤ a → vM x (pc + 3) lv st ws) : vM x pc lv (.int (nI b) :: .int (nI a) :: st) ws := v_icmp_lt h hd ht (fun c9 => kt ((nI_ltI ha hb2).mp c9)) (fun c9 => kf (by have q9 := mt (nI_ltI ha hb2).mpr c9; omega))
theorem v_icmp_geN (h : Ok x g cc own rm nL) {a b : Nat} {off : Int} {tgt : Nat} (hd : decode cc pc = .ok (.if_icmp .ge off, 3)) (ht : (pc : Int) + off = (tgt : Int)) (ha : a < 2 ^ 31) (hb2 : b < 2 ^ 31) (kt : b ≤ a → vM x tgt lv st ws) (kf : a < b → vM x (pc + 3) lv st ws) : vM x pc lv (.int (nI b) :: .int (nI a) :: st) ws := v_icmp_ge h hd ht (fun c9 => kt ((nI_leI hb2 ha).mp c9)) (fun c9 => kf (by have q9 := mt (nI_leI hb2 ha).mpr c9; omega))
theorem v_icmp_gtN (h : Ok x g cc own rm nL) {a b : Nat} {off : Int} {tgt : Nat} (hd : decode cc pc = .ok (.if_icmp .gt off, 3)) (ht : (pc : Int) + off = (tgt : Int)) (ha : a < 2 ^ 31) (hb2 : b < 2 ^ 31) (kt : b < a → vM x tgt lv st ws) (kf : a ≤ b → vM x (pc + 3) lv st ws) : vM x pc lv (.int (nI b) :: .int (nI a) :: st) ws := v_icmp_gt h hd ht (fun c9 => kt ((nI_ltI hb2 ha).mp c9)) (fun c9 => kf (by have q9 := mt (nI_ltI hb2 ha).mpr c9; omega))
theorem v_icmp_leN (h : Ok x g cc own rm nL) {a b : Nat} {off : Int} {tgt : Nat} (hd : decode cc pc = .ok (.if_icmp .le off, 3)) (ht : (pc : Int) + off = (tgt : Int)) (ha : a < 2 ^ 31) (hb2 : b < 2 ^ 31) (kt : a ≤ b → vM x tgt lv st ws) (kf : b < a → vM x (pc + 3) lv st ws) : vM x pc lv (.int (nI b) :: .int (nI a) :: st) ws := v_icmp_le h hd ht (fun c9 => kt ((nI_leI ha hb2).mp c9)) (fun c9 => kf (by have q9 := mt (nI_leI ha hb2).mpr c9; omega))
theorem v_icmp_eqN (h : Ok x g cc own rm nL) {a b : Nat} {off : Int} {tgt : Nat} (hd : decode cc pc = .ok (.if_icmp .eq off, 3)) (ht : (pc : Int) + off = (tgt : Int)) (ha : a < 2 ^ 31) (hb2 : b < 2 ^ 31) (kt : a = b → vM x tgt lv st ws) (kf : ¬ a = b → vM x (pc + 3) lv st ws) : vM x pc lv (.int (nI b) :: .int (nI a) :: st) ws := v_icmp_eq h hd ht (fun c9 => kt ((nI_eq ha hb2).mp c9)) (fun c9 => kf (fun z => c9 ((nI_eq ha hb2).mpr z)))
theorem v_icmp_neN (h : Ok x g cc own rm nL) {a b : Nat} {off : Int} {tgt : Nat} (hd : decode cc pc = .ok (.if_icmp .ne off, 3)) (ht : (pc : Int) + off = (tgt : Int)) (ha : a < 2 ^ 31) (hb2 : b < 2 ^ 31) (kt : ¬ a = b → vM x tgt lv st ws) (kf : a = b → vM x (pc + 3) lv st ws) : vM x pc lv (.int (nI b) :: .int (nI a) :: st) ws := v_icmp_ne h hd ht (fun c9 => kt (fun z => c9 ((nI_eq ha hb2).mpr z))) (fun c9 => kf ((nI_eq ha hb2).mp c9))
theorem v_if_eqN (h : Ok x g cc own rm nL) {a : Nat} {off : Int} {tgt : Nat} (hd : decode cc pc = .ok (.ifCond .eq off, 3)) (ht : (pc : Int) + off = (tgt : Int)) (ha : a < 2 ^ 31) (kt : a = 0 → vM x tgt lv st ws) (kf : 0 < a → vM x (pc + 3) lv st ws) : vM x pc lv (.int (nI a) :: st) ws := v_if_eq h hd ht (fun c9 => kt ((nI_eq (b := 0) ha (by decide)).mp c9)) (fun c9 => kf (by rcases Nat.eq_zero_or_pos a with z | z; (subst z; exact absurd rfl c9); exact z))
theorem v_if_neN (h : Ok x g cc own rm nL) {a : Nat} {off : Int} {tgt : Nat} (hd : decode cc pc = .ok (.ifCond .ne off, 3)) (ht : (pc : Int) + off = (tgt : Int)) (ha : a < 2 ^ 31) (kt : 0 < a → vM x tgt lv st ws) (kf : a = 0 → vM x (pc + 3) lv st ws) : vM x pc lv (.int (nI a) :: st) ws := v_if_ne h hd ht (fun c9 => kt (by rcases Nat.eq_zero_or_pos a with z | z; (subst z; exact absurd rfl c9); exact z)) (fun c9 => kf ((nI_eq (b := 0) ha (by decide)).mp c9))
theorem v_if_leN (h : Ok x g cc own rm nL) {a : Nat} {off : Int} {tgt : Nat} (hd : decode cc pc = .ok (.ifCond .le off, 3)) (ht : (pc : Int) + off = (tgt : Int)) (ha : a < 2 ^ 31) (kt : a = 0 → vM x tgt lv st ws) (kf : 0 < a → vM x (pc + 3) lv st ws) : vM x pc lv (.int (nI a) :: st) ws := v_if_le h hd ht (fun c9 => kt (by have := (nI_leI (b := 0) ha (by decide)).mp c9; omega)) (fun c9 => kf (by rcases Nat.eq_zero_or_pos a with z | z; (subst z; exact absurd (by decide) c9); exact z))
theorem v_if_ltN (h : Ok x g cc own rm nL) {a : Nat} {off : Int} {tgt : Nat} (hd : decode cc pc = .ok (.ifCond .lt off, 3)) (ha : a < 2 ^ 31) (ht : (pc : Int) + off = (tgt : Int)) (kf : vM x (pc + 3) lv st ws) : vM x pc lv (.int (nI a) :: st) ws := v_if_lt h hd ht (fun c9 => absurd c9 (nI_pos ha)) (fun _ => kf)
theorem v_if_geN (h : Ok x g cc own rm nL) {a : Nat} {off : Int} {tgt : Nat} (hd : decode cc pc = .ok (.ifCond .ge off, 3)) (ha : a < 2 ^ 31) (ht : (pc : Int) + off = (tgt : Int)) (kt : vM x tgt lv st ws) : vM x pc lv (.int (nI a) :: st) ws := v_if_ge h hd ht (fun _ => kt) (fun c9 => absurd (nI_pos' ha) c9)
theorem v_if_eqB (h : Ok x g cc own rm nL) {b : Bool} {off : Int} {tgt : Nat} (hd : decode cc pc = .ok (.ifCond .eq off, 3)) (ht : (pc : Int) + off = (tgt : Int)) (kt : b = false → vM x tgt lv st ws) (kf : b = true → vM x (pc + 3) lv st ws) : vM x pc lv (.int (nI (bN b)) :: st) ws := v_if_eq h hd ht (fun c9 => kt (by cases b; rfl; exact absurd c9 (by decide))) (fun c9 => kf (by cases b; exact absurd rfl c9; rfl))
theorem v_if_neB (h : Ok x g cc own rm nL) {b : Bool} {off : Int} {tgt : Nat} (hd : decode cc pc = .ok (.ifCond .ne off, 3)) (ht : (pc : Int) + off = (tgt : Int)) (kt : b = true → vM x tgt lv st ws) (kf : b = false → vM x (pc + 3) lv st ws) : vM x pc lv (.int (nI (bN b)) :: st) ws := v_if_ne h hd ht (fun c9 => kt (by cases b; exact absurd rfl c9; rfl)) (fun c9 => kf (by cases b; rfl; exact absurd c9 (by decide)))
theorem v_iret (h : Ok x g cc own rm nL) {v w : Int32} {wo : va_W} (hr : Ret x (some .int) (some (.int w)) wo) (hd : decode cc pc = .ok (.ireturn, 1)) (hv : v = w) (hw : ws = wo) : vM x pc lv [.int v] ws := by
  subst hv; subst hw
  obtain ⟨g0, p, e, R, s, m, args, below, meth, c, cells, slots, Q, A, nL0⟩ := x
  obtain ⟨rfl, rfl, rfl, hx, hb, hml, hown, hts, hK, hA, hlk, hnw, hcl, hsl⟩ := h
  obtain ⟨hrt, Qc, free, rfl, hfr, hq⟩ := hr
  exact fun H locs ls hP hD hS hl => W.iret hx hb hrt (fun t ht hW => hq t _ _ ht hW hP hS) (fun q hq2 => hfr _ (hS.2.2 q hq2)) hd
theorem v_zret (h : Ok x g cc own rm nL) {v w : Bool} {wo : va_W} (hr : Ret x (some .boolean) (some (.int (nI (bN w)))) wo) (hd : decode cc pc = .ok (.ireturn, 1)) (hv : v = w) (hw : ws = wo) : vM x pc lv [.int (nI (bN v))] ws := by
  subst hv; subst hw
  obtain ⟨g0, p, e, R, s, m, args, below, meth, c, cells, slots, Q, A, nL0⟩ := x
  obtain ⟨rfl, rfl, rfl, hx, hb, hml, hown, hts, hK, hA, hlk, hnw, hcl, hsl⟩ := h
  obtain ⟨hrt, Qc, free, rfl, hfr, hq⟩ := hr
  exact fun H locs ls hP hD hS hl => W.zret hx hb hrt (by cases v <;> rfl) (fun t ht hW => hq t _ _ ht hW hP hS) (fun q hq2 => hfr _ (hS.2.2 q hq2)) hd
theorem v_lret (h : Ok x g cc own rm nL) {v w : Int64} {wo : va_W} (hr : Ret x (some .long) (some (.long w)) wo) (hd : decode cc pc = .ok (.lreturn, 1)) (hv : v = w) (hw : ws = wo) : vM x pc lv [.long v] ws := by
  subst hv; subst hw
  obtain ⟨g0, p, e, R, s, m, args, below, meth, c, cells, slots, Q, A, nL0⟩ := x
  obtain ⟨rfl, rfl, rfl, hx, hb, hml, hown, hts, hK, hA, hlk, hnw, hcl, hsl⟩ := h
  obtain ⟨hrt, Qc, free, rfl, hfr, hq⟩ := hr
  exact fun H locs ls hP hD hS hl => W.lret hx hb hrt (fun t ht hW => hq t _ _ ht hW hP hS) (fun q hq2 => hfr _ (hS.2.2 q hq2)) hd
theorem v_vret (h : Ok x g cc own rm nL) {wo : va_W} (hr : Ret x none none wo) (hd : decode cc pc = .ok (.return_, 1)) (hw : ws = wo) : vM x pc lv [] ws := by
  subst hw
  obtain ⟨g0, p, e, R, s, m, args, below, meth, c, cells, slots, Q, A, nL0⟩ := x
  obtain ⟨rfl, rfl, rfl, hx, hb, hml, hown, hts, hK, hA, hlk, hnw, hcl, hsl⟩ := h
  obtain ⟨hrt, Qc, free, rfl, hfr, hq⟩ := hr
  exact fun H locs ls hP hD hS hl => W.vret hx hb hrt (fun t ht hW => hq t _ _ ht hW hP hS) (fun q hq2 => hfr _ (hS.2.2 q hq2)) hd

theorem v_get {C : String} {T : u_T} {N ci idx a : Nat} {fs : List Value} {v : Value} (h : Ok x g cc own rm nL) (hin : ∀ w ∈ u_ws C T N, w ∈ wsL_law) (q0 : Nat) (he : ws[q0]? = some (a, .inr (ci, fs))) (hc : vwCl[ci]? = some (C, T, N)) (k : Nat) (hk : k < N) (hlink : Cond.fieldLink own idx (T k).1 (T k).2.1 (T k).2.2.1 ∈ wsL_law) (hv : fs[k]? = some v) (hd : decode cc pc = .ok (.getfield idx, 3)) (kk : vM x (pc + 3) lv (v :: st) ws) : vM x pc lv (.ref a :: st) ws := by
  obtain ⟨g0, p, e, R, s, m, args, below, meth, c, cells, slots, Q, A, nL0⟩ := x
  obtain ⟨rfl, rfl, rfl, hx, hb, hml, hown, hts, hK, hA, hlk, hnw, hcl', hsl⟩ := h
  intro H locs ls hP hD hS hl
  exact va_get (D := gD g0) (own := own) hx hb hts hin hown hK hP q0 he hc k hk (hts _ hlink) (fun _ h9 => h9) hv hd (kk H locs ls hP hD hS hl)
theorem v_put {C : String} {T : u_T} {N ci idx a : Nat} {fs : List Value} {v : Value} {ty : FieldType} {ws' : va_W} (h : Ok x g cc own rm nL) (hin : ∀ w ∈ u_ws C T N, w ∈ wsL_law) (ty0 : Nat → FieldType) (hty : ∀ k, k < N → parseFieldDescriptor (T k).2.2.1 = some (ty0 k)) (hnm : ∀ a, a < N → ∀ b, b < N → a ≠ b → (T a).2.1 ≠ (T b).2.1) (q0 : Nat) (he : ws[q0]? = some (a, .inr (ci, fs))) (hc : vwCl[ci]? = some (C, T, N)) (k : Nat) (hk : k < N) (hlink : Cond.fieldLink own idx (T k).1 (T k).2.1 (T k).2.2.1 ∈ wsL_law) (hfin : (T k).2.2.2 = false) (hd2 : parseFieldDescriptor (T k).2.2.1 = some ty) (hn : narrow ty v = v) (hfit : fits ty v = true) (hl2 : k < fs.length) (hd : decode cc pc = .ok (.putfield idx, 3)) (hws : ws.set q0 (a, .inr (ci, fs.set k v)) = ws') (kk : vM x (pc + 3) lv st ws') : vM x pc lv (v :: .ref a :: st) ws := by
  subst hws
  obtain ⟨g0, p, e, R, s, m, args, below, meth, c, cells, slots, Q, A, nL0⟩ := x
  obtain ⟨rfl, rfl, rfl, hx, hb, hml, hown, hts, hK, hA, hlk, hnw, hcl', hsl⟩ := h
  intro H locs ls hP hD hS hl
  exact va_put (D := gD g0) (own := own) hx hb hts hin ty0 hty hnm hown hK hP hD hS q0 he hc k hk (hts _ hlink) (fun _ h9 => h9) hfin hd2 hn hfit hl2 hd (fun H1 locs1 hP1 hD1 hS1 => kk H1 locs1 ls hP1 hD1 hS1 hl)
theorem v_iald {n a : Nat} {f : Nat → Int32} {i : Int32} (h : Ok x g cc own rm nL) (q0 : Nat) (ha : ws[q0]? = some (a, .inl (gI g, n, .inl f))) (hin : vp_in i n) (hd : decode cc pc = .ok (.iaload, 1)) (kk : vM x (pc + 1) lv (.int (f i.toNatClampNeg) :: st) ws) : vM x pc lv (.int i :: .ref a :: st) ws := by
  obtain ⟨g0, p, e, R, s, m, args, below, meth, c, cells, slots, Q, A, nL0⟩ := x
  obtain ⟨rfl, rfl, rfl, hx, hb, hml, hown, hts, hK, hA, hlk, hnw, hcl', hsl⟩ := h
  intro H locs ls hP hD hS hl
  exact va_iald hx hb hK hP q0 0 ha rfl hin hd (kk H locs ls hP hD hS hl)
theorem v_ialdF {n a i : Nat} {f : Nat → Int32} (h : Ok x g cc own rm nL) (q0 : Nat) (ha : ws[q0]? = some (a, .inl (gI g, n, .inl f))) (hi : i < n) (hn : n < 2 ^ 31) (hd : decode cc pc = .ok (.iaload, 1)) (kk : vM x (pc + 1) lv (.int (f i) :: st) ws) : vM x pc lv (.int (nI i) :: .ref a :: st) ws := by
  refine v_iald h q0 ha (vp_in_nI hi hn) hd ?_
  rw [nI_clamp (by omega)]
  exact kk
theorem v_ialdN {n a i : Nat} {w : Nat → Nat} (h : Ok x g cc own rm nL) (q0 : Nat) (ha : ws[q0]? = some (a, .inl (gI g, n, .inl (fun j => nI (w j))))) (hi : i < n) (hn : n < 2 ^ 31) (hd : decode cc pc = .ok (.iaload, 1)) (kk : vM x (pc + 1) lv (.int (nI (w i)) :: st) ws) : vM x pc lv (.int (nI i) :: .ref a :: st) ws := v_ialdF h q0 ha hi hn hd kk
theorem v_zaldN {n a i : Nat} {w : Nat → Bool} (h : Ok x g cc own rm nL) (q0 : Nat) (ha : ws[q0]? = some (a, .inl (gZ g, n, .inl (fun j => nI (bN (w j)))))) (hi : i < n) (hn : n < 2 ^ 31) (hd : decode cc pc = .ok (.baload, 1)) (kk : vM x (pc + 1) lv (.int (nI (bN (w i))) :: st) ws) : vM x pc lv (.int (nI i) :: .ref a :: st) ws := by
  obtain ⟨g0, p, e, R, s, m, args, below, meth, c, cells, slots, Q, A, nL0⟩ := x
  obtain ⟨rfl, rfl, rfl, hx, hb, hml, hown, hts, hK, hA, hlk, hnw, hcl', hsl⟩ := h
  intro H locs ls hP hD hS hl
  refine va_zald hx hb hK hP q0 1 ha rfl (vp_in_nI hi hn) hd ?_
  rw [nI_clamp (by omega)]
  exact kk H locs ls hP hD hS hl
theorem v_aaldN {n a i : Nat} {f : Nat → Option Nat} (h : Ok x g cc own rm nL) (q0 : Nat) (ha : ws[q0]? = some (a, .inl (gA g, n, .inr (.inr (.inr (.inr f)))))) (hi : i < n) (hn : n < 2 ^ 31) {r : Nat} (hr : f i = some r) (hd : decode cc pc = .ok (.aaload, 1)) (kk : vM x (pc + 1) lv (.ref r :: st) ws) : vM x pc lv (.int (nI i) :: .ref a :: st) ws := by
  obtain ⟨g0, p, e, R, s, m, args, below, meth, c, cells, slots, Q, A, nL0⟩ := x
  obtain ⟨rfl, rfl, rfl, hx, hb, hml, hown, hts, hK, hA, hlk, hnw, hcl', hsl⟩ := h
  intro H locs ls hP hD hS hl
  have hin : vp_in (nI i) n := vp_in_nI hi hn
  have hlt : (nI i).toNatClampNeg < n := Nat.not_le.mp fun q => hin (Or.inr q)
  exact W.aald (v := .ref r) (ty := .array .int) hx hb (hP q0 _ ha) ((hK.2 2 _ rfl).1 n (fun j => va_rf (f j))) rfl (fun q => by cases q) (by show ¬ (nI i < 0 ∨ (arrV _ _ _).slots.size ≤ _); rw [arrV_size]; exact hin) (by show (arrV _ _ _).slots[_]? = _; rw [arrV_read _ _ hlt, nI_clamp (by omega), hr]; rfl) rfl rfl hd (kk H locs ls hP hD hS hl)
theorem v_iastF {n a i : Nat} {f : Nat → Int32} {v : Int32} {ws' : va_W} (h : Ok x g cc own rm nL) (q0 : Nat) (ha : ws[q0]? = some (a, .inl (gI g, n, .inl f))) (hi : i < n) (hn : n < 2 ^ 31) (hd : decode cc pc = .ok (.iastore, 1)) (hws : ws.set q0 (a, .inl (gI g, n, .inl (upd f i v))) = ws') (kk : vM x (pc + 1) lv st ws') : vM x pc lv (.int v :: .int (nI i) :: .ref a :: st) ws := by
  subst hws
  obtain ⟨g0, p, e, R, s, m, args, below, meth, c, cells, slots, Q, A, nL0⟩ := x
  obtain ⟨rfl, rfl, rfl, hx, hb, hml, hown, hts, hK, hA, hlk, hnw, hcl', hsl⟩ := h
  intro H locs ls hP hD hS hl
  refine va_iast hx hb hK hP hD hS q0 0 ha rfl (vp_in_nI hi hn) hd (fun H1 locs1 hP1 hD1 hS1 => ?_)
  rw [nI_clamp (by omega)] at hP1 hD1
  exact kk H1 locs1 ls hP1 hD1 hS1 hl
theorem v_iastN {n a i v : Nat} {w : Nat → Nat} {ws' : va_W} (h : Ok x g cc own rm nL) (q0 : Nat) (ha : ws[q0]? = some (a, .inl (gI g, n, .inl (fun j => nI (w j))))) (hi : i < n) (hn : n < 2 ^ 31) (hd : decode cc pc = .ok (.iastore, 1)) (hws : ws.set q0 (a, .inl (gI g, n, .inl (fun j => nI (up w i v j)))) = ws') (kk : vM x (pc + 1) lv st ws') : vM x pc lv (.int (nI v) :: .int (nI i) :: .ref a :: st) ws := v_iastF h q0 ha hi hn hd (by rw [upd_nI]; exact hws) kk
theorem nar_bN (b : Bool) : vp_nar .boolean (nI (bN b)) = nI (bN b) := by cases b <;> rfl
/-- f, but v at i -/
def upB (w : Nat → Bool) (i : Nat) (v : Bool) : Nat → Bool := fun j => if j = i then v else w j
theorem v_zastN {n a i : Nat} {v : Bool} {w : Nat → Bool} {ws' : va_W} (h : Ok x g cc own rm nL) (q0 : Nat) (ha : ws[q0]? = some (a, .inl (gZ g, n, .inl (fun j => nI (bN (w j)))))) (hi : i < n) (hn : n < 2 ^ 31) (hd : decode cc pc = .ok (.bastore, 1)) (hws : ws.set q0 (a, .inl (gZ g, n, .inl (fun j => nI (bN (upB w i v j))))) = ws') (kk : vM x (pc + 1) lv st ws') : vM x pc lv (.int (nI (bN v)) :: .int (nI i) :: .ref a :: st) ws := by
  subst hws
  obtain ⟨g0, p, e, R, s, m, args, below, meth, c, cells, slots, Q, A, nL0⟩ := x
  obtain ⟨rfl, rfl, rfl, hx, hb, hml, hown, hts, hK, hA, hlk, hnw, hcl', hsl⟩ := h
  intro H locs ls hP hD hS hl
  refine va_zast hx hb hK hP hD hS q0 1 ha rfl (vp_in_nI hi hn) hd (fun H1 locs1 hP1 hD1 hS1 => ?_)
  have e : upd (fun j => nI (bN (w j))) (nI i).toNatClampNeg (vp_nar .boolean (nI (bN v))) = fun j => nI (bN (upB w i v j)) := by
    rw [nar_bN, nI_clamp (by omega)]
    funext j
    by_cases hj : j = i <;> simp [upd, upB, hj]
  rw [e] at hP1 hD1
  exact kk H1 locs1 ls hP1 hD1 hS1 hl
theorem v_alen {n a : Nat} {f : Nat → Int32} (h : Ok x g cc own rm nL) (q0 : Nat) (ha : ws[q0]? = some (a, .inl (gI g, n, .inl f))) (hd : decode cc pc = .ok (.arraylength, 1)) (kk : vM x (pc + 1) lv (.int (nI n) :: st) ws) : vM x pc lv (.ref a :: st) ws := by
  obtain ⟨g0, p, e, R, s, m, args, below, meth, c, cells, slots, Q, A, nL0⟩ := x
  obtain ⟨rfl, rfl, rfl, hx, hb, hml, hown, hts, hK, hA, hlk, hnw, hcl', hsl⟩ := h
  intro H locs ls hP hD hS hl
  exact va_alen hx hb hK hP q0 0 ha rfl rfl hd (kk H locs ls hP hD hS hl)
/-- what links a call: instance methods, static ones, a nest mate's static ones -/
def LkV (own : String) (idx : Nat) (y : MethodName) (cc : ByteArray) (ml : Nat) (ret : Option FieldType) (n : Nat) : Prop := Cond.methodLink own idx y ∈ wsL_law ∧ Cond.instanceMethod y ∈ wsL_law ∧ Cond.selects y.cls y y ∈ wsL_law ∧ Cond.initialized y.cls ∈ wsL_law ∧ Cond.code y cc ml ret ∈ wsL_law ∧ (y.cls ≠ "java/lang/invoke/MethodHandle" ∧ y.cls ≠ "java/lang/invoke/VarHandle" ∧ (parseMethodDescriptor y.desc).map (fun d => d.parameters.length) = some n)
def LkS (own : String) (idx : Nat) (y : MethodName) (cc : ByteArray) (ml : Nat) (ret : Option FieldType) (n : Nat) : Prop := Cond.methodLink own idx y ∈ wsL_law ∧ Cond.static y ∈ wsL_law ∧ Cond.initialized y.cls ∈ wsL_law ∧ Cond.code y cc ml ret ∈ wsL_law ∧ (y.cls ≠ "java/lang/invoke/MethodHandle" ∧ y.cls ≠ "java/lang/invoke/VarHandle" ∧ (parseMethodDescriptor y.desc).map (fun d => d.parameters.length) = some n)
theorem ws_goodIn {y : MethodName} {cc : ByteArray} {ml : Nat} {ret : Option FieldType} (hc : Cond.code y cc ml ret ∈ wsL_law) : GoodIn wsL_law (Cond.code y cc ml ret :: wsL_law) := fun w hw => by
  rcases List.mem_cons.mp hw with rfl | hw
  · exact ⟨hc, wsL_good _ hc⟩
  · exact ⟨hw, wsL_good _ hw⟩
theorem vPre_blind {g : vG} {wi : va_W} {av : List Value} {sz : Nat} : FrameBlind (va_Pc av (vPre g wi sz)) := fun a U g1 mk q => by
  obtain ⟨q0, q1, qP, qK, qD, qn⟩ := q
  exact ⟨q0, q1, qP, va_K.moved (u := U) (U := U.calling g1 mk a) (Vm.Alike.refl U.vm) qK, qD, vNw.same rfl qn⟩
def RmOk (rmc rm : Room) (ml : Nat) : Prop := rmc.cells = 0 ∧ rmc.slots = 0 ∧ rmc.frames + 1 ≤ rm.frames ∧ 8 + (ml + 11) + rmc.locals ≤ rm.locals
theorem vset_P {D : va_G} {wi wo : va_W} {is : List Nat} {H H1 : Heap} {A : Nat → Prop} (hP : va_P D vwCl ws H) (hD : va_D A ws) (hC : is.map (fun i => ws[i]?) = wi.map some) (ho : va_P D vwCl wo H1) (hfst : wo.map (fun q => q.1) = wi.map (fun q => q.1)) (hk : ∀ q : Nat, q < H.size → ¬ va_A wi H.size q → H1[q]? = H[q]?) : va_P D vwCl (vset ws is wo) H1 ∧ va_D A (vset ws is wo) := by
  have hlen : is.length = wo.length := by
    have h1 := congrArg List.length hC
    have h2 := congrArg List.length hfst
    simp at h1 h2
    omega
  have hw : ∀ (j i : Nat), is[j]? = some i → ∃ z, wi[j]? = some z ∧ ws[i]? = some z := by
    intro j i hj
    have h1 : (is.map (fun i => ws[i]?))[j]? = some (ws[i]?) := by rw [List.getElem?_map, hj]; rfl
    rw [hC, List.getElem?_map] at h1
    cases hz : wi[j]? with
    | none => rw [hz] at h1; simp at h1
    | some z => rw [hz] at h1; exact ⟨z, rfl, (by simpa using h1.symm)⟩
  refine ⟨fun k q hq => ?_, va_D_fst (vset_fst is wo ws (fun j i d hj hd => ?_)) hD⟩
  · rcases vset_get is wo ws k q hlen hq with ⟨j, -, h2⟩ | ⟨h1, h2⟩
    · exact ho j q h2
    · refine (hP k q h1).kept (hk q.1 (hP k q h1).lt (fun hA => ?_))
      rcases hA with ⟨j, e, hj⟩ | hA
      · have hjl : j < is.length := by
          have := (List.getElem?_eq_some_iff.mp hj).1
          have h3 := congrArg List.length hC
          simp at h3
          omega
        obtain ⟨i, hi⟩ : ∃ i, is[j]? = some i := ⟨is[j], List.getElem?_eq_getElem hjl⟩
        obtain ⟨z, hz1, hz2⟩ := hw j i hi
        rw [hj] at hz1
        have hz3 : (q.1, e) = z := by simpa using hz1
        have := hD.1 k i q z h1 hz2 (by rw [← hz3])
        subst this
        exact h2 (List.mem_of_getElem? hi)
      · have := (hP k q h1).lt
        omega
  · obtain ⟨z, hz1, hz2⟩ := hw j i hj
    rw [List.getElem?_map, hz2]
    have h1 : (wo.map (fun q => q.1))[j]? = some d.1 := by rw [List.getElem?_map, hd]; rfl
    rw [hfst, List.getElem?_map, hz1] at h1
    simpa using h1
theorem v_callV {idx n : Nat} {y : MethodName} {bytes : ByteArray} {ml : Nat} {ret : Option FieldType} {rmc : Room} {wi wo : va_W} {a : Nat} {As rest : List Value} {r : Option Value} {ci : Nat} {q : vw_C} {fs : List Value} (h : Ok x g cc own rm nL) (hc : Ct g y bytes ml ret rmc wi (.ref a :: As) r wo) (lk : LkV own idx y bytes ml ret n) (hrm : RmOk rmc rm ml) (hcl : vwCl[ci]? = some q) (hq : y.cls = q.1) (h0 : wi[0]? = some (a, .inr (ci, fs))) (hn : As.length = n) (isC : List Nat) (hC : isC.map (fun i => ws[i]?) = wi.map some) (hnd : va_nd isC = true) (hW : (rest.map fun v => v.category).sum ≤ 8) (hd : decode cc pc = .ok (.invokevirtual idx, 3)) {ws' : va_W} (hws : vset ws isC wo = ws') (k : vM x (pc + 3) lv (r.toList ++ rest) ws') : vM x pc lv (As.reverse ++ .ref a :: rest) ws := by
  subst hws
  obtain ⟨g0, p, e, R, s, m, args, below, meth, c, cells, slots, Q, A, nL0⟩ := x
  obtain ⟨rfl, rfl, rfl, hx, hb, hml, hown, hts, hK, hA, hlk, hnw, hcl', hsl⟩ := h
  obtain ⟨hfst, hM⟩ := hc
  obtain ⟨hl1, hl2, hl3, hl4, hl5, hl6⟩ := lk
  obtain ⟨hr1, hr2, hr3, hr4⟩ := hrm
  intro H locs ls hP hD hS hl
  have hPc := hP.sub isC (filterMap_of_map hC)
  have hDc := hD.sub isC hnd hC
  have hFc := va_free (wc := wi) hD hS hA isC hC
  have cw : CallW R s args own y.cls idx y bytes ml ret (.code y bytes ml ret :: wsL_law) rmc 0 0 n := ⟨callB_of n hts (ws_goodIn hl5) rfl hr1 hr2 (hts _ hl4) (hts _ hl1) hl6 ⟨hr3, hr4⟩, hts _ hl2, hts _ hl3⟩
  have hrun := va_runV (H := H) (locs := locs) (cells := cells) (slots := slots) (below := below) (meth := meth) (e := e) (As := As) (rest := rest) (b := a) (g := F0 m pc ls (As.reverse ++ .ref a :: rest)) (Ts := wsL_law) (own := own) (C := y.cls) ⟨hx, hb, hml, hown, hts⟩ (hM H.size) cw ⟨vPre_blind, by rw [hq]; exact va_recv hK hPc hcl h0, fun U hU hW2 => ⟨rfl, by rw [hU], by rw [hU]; exact hPc, va_K.moved hW2.alike hK, hDc.weaken (fun _ _ _ _ => trivial), hnw.warm hW2⟩⟩ rfl hn hl.1 rfl (lv_room hW) hd ⟨hcl', hsl⟩
  intro T hT X
  obtain ⟨v, st₀, t, T', L, e0, X', hL, e1, e2, ⟨⟨hv, hPo⟩, hz, hk⟩, stp⟩ := hrun T hT X
  cases hv
  rw [e0] at hz hk
  obtain ⟨hP', hD'⟩ := vset_P (H1 := T'.heap) hP hD hC (by rw [e1]; exact hPo) hfst (fun q h1 h2 => by rw [e1]; exact hk q h1 h2)
  obtain ⟨t2, a1, b1⟩ := k T'.heap (locs ++ L) ls hP' hD' ⟨Nat.le_trans hS.1 (by rw [e1]; exact hz), fun q h1 h2 => by rw [e1, hk q (Nat.lt_of_lt_of_le h1 hS.1) (fun z => h2 (hFc q z))]; exact hS.2.1 q h1 h2, fun q hq => by
      rcases List.mem_append.mp hq with h | h
      · exact hS.2.2 q h
      · exact hFc _ (hL q h)⟩ hl T' rfl X'
  exact ⟨t2, stp t2 a1, b1⟩
theorem v_callS {idx n : Nat} {y : MethodName} {bytes : ByteArray} {ml : Nat} {ret : Option FieldType} {rmc : Room} {wi wo : va_W} {As rest : List Value} {r : Option Value} (h : Ok x g cc own rm nL) (hc : Ct g y bytes ml ret rmc wi As r wo) (lk : LkS own idx y bytes ml ret n) (hrm : RmOk rmc rm ml) (hn : As.length = n) (isC : List Nat) (hC : isC.map (fun i => ws[i]?) = wi.map some) (hnd : va_nd isC = true) (hW : (rest.map fun v => v.category).sum ≤ 8) (hd : decode cc pc = .ok (.invokestatic idx, 3)) {ws' : va_W} (hws : vset ws isC wo = ws') (k : vM x (pc + 3) lv (r.toList ++ rest) ws') : vM x pc lv (As.reverse ++ rest) ws := by
  subst hws
  obtain ⟨g0, p, e, R, s, m, args, below, meth, c, cells, slots, Q, A, nL0⟩ := x
  obtain ⟨rfl, rfl, rfl, hx, hb, hml, hown, hts, hK, hA, hlk, hnw, hcl', hsl⟩ := h
  obtain ⟨hfst, hM⟩ := hc
  obtain ⟨hl1, hl3, hl4, hl5, hl6⟩ := lk
  obtain ⟨hr1, hr2, hr3, hr4⟩ := hrm
  intro H locs ls hP hD hS hl
  have hPc := hP.sub isC (filterMap_of_map hC)
  have hDc := hD.sub isC hnd hC
  have hFc := va_free (wc := wi) hD hS hA isC hC
  have hrun := va_runS (H := H) (locs := locs) (cells := cells) (slots := slots) (below := below) (meth := meth) (e := e) (As := As) (rest := rest) (g := F0 m pc ls (As.reverse ++ rest)) (Ts := wsL_law) (own := own) ⟨hx, hb, hml, hown, hts⟩ (hM H.size) ⟨callB_of n hts (ws_goodIn hl5) rfl hr1 hr2 (hts _ hl4) (hts _ hl1) hl6 ⟨hr3, hr4⟩, hts _ hl3⟩ ⟨vPre_blind, fun U hU hW2 => ⟨rfl, by rw [hU], by rw [hU]; exact hPc, va_K.moved hW2.alike hK, hDc.weaken (fun _ _ _ _ => trivial), hnw.warm hW2⟩⟩ rfl hn hl.1 rfl (lv_room hW) hd ⟨hcl', hsl⟩
  intro T hT X
  obtain ⟨v, st₀, t, T', L, e0, X', hL, e1, e2, ⟨⟨hv, hPo⟩, hz, hk⟩, stp⟩ := hrun T hT X
  cases hv
  rw [e0] at hz hk
  obtain ⟨hP', hD'⟩ := vset_P (H1 := T'.heap) hP hD hC (by rw [e1]; exact hPo) hfst (fun q h1 h2 => by rw [e1]; exact hk q h1 h2)
  obtain ⟨t2, a1, b1⟩ := k T'.heap (locs ++ L) ls hP' hD' ⟨Nat.le_trans hS.1 (by rw [e1]; exact hz), fun q h1 h2 => by rw [e1, hk q (Nat.lt_of_lt_of_le h1 hS.1) (fun z => h2 (hFc q z))]; exact hS.2.1 q h1 h2, fun q hq => by
      rcases List.mem_append.mp hq with h | h
      · exact hS.2.2 q h
      · exact hFc _ (hL q h)⟩ hl T' rfl X'
  exact ⟨t2, stp t2 a1, b1⟩
/-- isIn, a nest mate's -/
def LkN (own : String) (idx : Nat) (y : MethodName) (cc : ByteArray) (ml : Nat) (ret : Option FieldType) (n : Nat) : Prop := (∀ s : State, vNw s → va_Nw (.methodLinkNest own idx y RX7) s) ∧ Cond.static y ∈ wsL_law ∧ Cond.initialized y.cls ∈ wsL_law ∧ Cond.code y cc ml ret ∈ wsL_law ∧ (y.cls ≠ "java/lang/invoke/MethodHandle" ∧ y.cls ≠ "java/lang/invoke/VarHandle" ∧ (parseMethodDescriptor y.desc).map (fun d => d.parameters.length) = some n)
theorem v_callN {idx n : Nat} {y : MethodName} {bytes : ByteArray} {ml : Nat} {ret : Option FieldType} {rmc : Room} {wi wo : va_W} {As rest : List Value} {r : Option Value} (h : Ok x g cc own rm nL) (hc : Ct g y bytes ml ret rmc wi As r wo) (lk : LkN own idx y bytes ml ret n) (hrm : RmOk rmc rm ml) (hn : As.length = n) (isC : List Nat) (hC : isC.map (fun i => ws[i]?) = wi.map some) (hnd : va_nd isC = true) (hW : (rest.map fun v => v.category).sum ≤ 8) (hd : decode cc pc = .ok (.invokestatic idx, 3)) {ws' : va_W} (hws : vset ws isC wo = ws') (k : vM x (pc + 3) lv (r.toList ++ rest) ws') : vM x pc lv (As.reverse ++ rest) ws := by
  subst hws
  obtain ⟨g0, p, e, R, s, m, args, below, meth, c, cells, slots, Q, A, nL0⟩ := x
  obtain ⟨rfl, rfl, rfl, hx, hb, hml, hown, hts, hK, hA, hlk, hnw, hcl', hsl⟩ := h
  obtain ⟨hfst, hM⟩ := hc
  obtain ⟨hl1, hl3, hl4, hl5, hl6⟩ := lk
  obtain ⟨hr1, hr2, hr3, hr4⟩ := hrm
  intro H locs ls hP hD hS hl
  have hPc := hP.sub isC (filterMap_of_map hC)
  have hDc := hD.sub isC hnd hC
  have hFc := va_free (wc := wi) hD hS hA isC hC
  have hrun := va_runSN (H := H) (locs := locs) (cells := cells) (slots := slots) (below := below) (meth := meth) (e := e) (As := As) (rest := rest) (g := F0 m pc ls (As.reverse ++ rest)) (Ts := wsL_law) (own := own) ⟨hx, hb, hml, hown, hts⟩ (hM H.size) ⟨va_cnB n hts (ws_goodIn hl5) rfl hr1 hr2 (hl1 s hnw) (hts _ hl4) hl6 ⟨hr3, hr4⟩, hts _ hl3, trivial⟩ ⟨vPre_blind, fun U hU hW2 => ⟨rfl, by rw [hU], by rw [hU]; exact hPc, va_K.moved hW2.alike hK, hDc.weaken (fun _ _ _ _ => trivial), hnw.warm hW2⟩⟩ rfl hn hl.1 rfl (lv_room hW) hd ⟨hcl', hsl⟩
  intro T hT X
  obtain ⟨v, st₀, t, T', L, e0, X', hL, e1, e2, ⟨⟨hv, hPo⟩, hz, hk⟩, stp⟩ := hrun T hT X
  cases hv
  rw [e0] at hz hk
  obtain ⟨hP', hD'⟩ := vset_P (H1 := T'.heap) hP hD hC (by rw [e1]; exact hPo) hfst (fun q h1 h2 => by rw [e1]; exact hk q h1 h2)
  obtain ⟨t2, a1, b1⟩ := k T'.heap (locs ++ L) ls hP' hD' ⟨Nat.le_trans hS.1 (by rw [e1]; exact hz), fun q h1 h2 => by rw [e1, hk q (Nat.lt_of_lt_of_le h1 hS.1) (fun z => h2 (hFc q z))]; exact hS.2.1 q h1 h2, fun q hq => by
      rcases List.mem_append.mp hq with h | h
      · exact hS.2.2 q h
      · exact hFc _ (hL q h)⟩ hl T' rfl X'
  exact ⟨t2, stp t2 a1, b1⟩
theorem v_max {idx : Nat} {a b : Int32} (h : Ok x g cc own rm nL) (hl1 : Cond.methodLink own idx yJ9_max_7cf53 ∈ wsL_law) (hf : 1 ≤ rm.frames) (hlo : (st.map fun v => v.category).sum + 13 ≤ rm.locals) (hd : decode cc pc = .ok (.invokestatic idx, 3)) (k : vM x (pc + 3) lv (.int (if a < b then b else a) :: st) ws) : vM x pc lv (.int b :: .int a :: st) ws := by
  obtain ⟨g0, p, e, R, s, m, args, below, meth, c, cells, slots, Q, A, nL0⟩ := x
  obtain ⟨rfl, rfl, rfl, hx, hb, hml, hown, hts, hK, hA, hlk, hnw, hcl', hsl⟩ := h
  intro H locs ls hP hD hS hl
  exact va_mmax hx hb (hml.trans hl.1.symm) hown (hts _ hl1) (hts _ ms_J9_max_7cf53) (hts _ mi_J9) (hts _ mc_J9_max_7cf53) hf hlo hcl' hsl hd (k H locs ls hP hD hS hl)
theorem v_min {idx : Nat} {a b : Int32} (h : Ok x g cc own rm nL) (hl1 : Cond.methodLink own idx yJ9_min_7cf53 ∈ wsL_law) (hf : 1 ≤ rm.frames) (hlo : (st.map fun v => v.category).sum + 13 ≤ rm.locals) (hd : decode cc pc = .ok (.invokestatic idx, 3)) (k : vM x (pc + 3) lv (.int (if b < a then b else a) :: st) ws) : vM x pc lv (.int b :: .int a :: st) ws := by
  obtain ⟨g0, p, e, R, s, m, args, below, meth, c, cells, slots, Q, A, nL0⟩ := x
  obtain ⟨rfl, rfl, rfl, hx, hb, hml, hown, hts, hK, hA, hlk, hnw, hcl', hsl⟩ := h
  intro H locs ls hP hD hS hl
  exact va_mmin hx hb (hml.trans hl.1.symm) hown (hts _ hl1) (hts _ ms_J9_min_7cf53) (hts _ mi_J9) (hts _ mc_J9_min_7cf53) hf hlo hcl' hsl hd (k H locs ls hP hD hS hl)
theorem v_maxN {idx : Nat} {a b : Nat} (h : Ok x g cc own rm nL) (hl1 : Cond.methodLink own idx yJ9_max_7cf53 ∈ wsL_law) (hf : 1 ≤ rm.frames) (hlo : (st.map fun v => v.category).sum + 13 ≤ rm.locals) (hd : decode cc pc = .ok (.invokestatic idx, 3)) (ha : a < 2 ^ 31) (hb2 : b < 2 ^ 31) (k : vM x (pc + 3) lv (.int (nI (max a b)) :: st) ws) : vM x pc lv (.int (nI b) :: .int (nI a) :: st) ws := by
  refine v_max h hl1 hf hlo hd ?_
  have e : (if nI a < nI b then nI b else nI a) = nI (max a b) := by
    by_cases q : a < b
    · rw [if_pos ((nI_ltI ha hb2).mpr q), Nat.max_eq_right (by omega)]
    · rw [if_neg (fun z => q ((nI_ltI ha hb2).mp z)), Nat.max_eq_left (by omega)]
  rw [e]
  exact k
theorem v_minN {idx : Nat} {a b : Nat} (h : Ok x g cc own rm nL) (hl1 : Cond.methodLink own idx yJ9_min_7cf53 ∈ wsL_law) (hf : 1 ≤ rm.frames) (hlo : (st.map fun v => v.category).sum + 13 ≤ rm.locals) (hd : decode cc pc = .ok (.invokestatic idx, 3)) (ha : a < 2 ^ 31) (hb2 : b < 2 ^ 31) (k : vM x (pc + 3) lv (.int (nI (min a b)) :: st) ws) : vM x pc lv (.int (nI b) :: .int (nI a) :: st) ws := by
  refine v_min h hl1 hf hlo hd ?_
  have e : (if nI b < nI a then nI b else nI a) = nI (min a b) := by
    by_cases q : b < a
    · rw [if_pos ((nI_ltI hb2 ha).mpr q), Nat.min_eq_right (by omega)]
    · rw [if_neg (fun z => q ((nI_ltI hb2 ha).mp z)), Nat.min_eq_left (by omega)]
  rw [e]
  exact k

end VMR
