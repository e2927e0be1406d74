/-! an array of rows, made at once -/
/-- the outer array when i rows are made -/
def mrF (b i : Nat) : Nat → Value := fun j => if j < i then .ref (b + 1 + j) else .null
theorem mrF_succ (b i : Nat) : updV (mrF b i) i (.ref (b + 1 + i)) = mrF b (i + 1) := by
  funext j
  unfold updV mrF
  by_cases e : j = i
  · subst e; rw [if_pos rfl, if_pos (Nat.lt_succ_self j)]
  · rw [if_neg e]
    by_cases q : j < i
    · rw [if_pos q, if_pos (by omega)]
    · rw [if_neg q, if_neg (by omega)]
abbrev mrO (cA : ClassId) (b i : Nat) : Cell := arrV cA 4 (mrF b i)
abbrev mrR (comp : ClassId) : Cell := arrV comp 40 (fun _ => .int 0)
def mrS (T : State) (cA comp : ClassId) : Nat → State
  | 0 => T.pushCell (mrO cA T.heap.size 0)
  | i + 1 => ((mrS T cA comp i).pushCell (mrR comp)).setCell T.heap.size (mrO cA T.heap.size (i + 1))
theorem mrS_size (T : State) (cA comp : ClassId) : ∀ i, (mrS T cA comp i).heap.size = T.heap.size + 1 + i
  | 0 => by show (T.heap.push _).size = _; simp
  | i + 1 => by
    have h := mrS_size T cA comp i
    show (((mrS T cA comp i).heap.push (mrR comp)).setIfInBounds _ _).size = _
    simp [h]
    omega
theorem mrS_vm (T : State) (cA comp : ClassId) : ∀ i, (mrS T cA comp i).vm = T.vm
  | 0 => rfl
  | i + 1 => mrS_vm T cA comp i
theorem mrS_used (T : State) (cA comp : ClassId) : ∀ i, (mrS T cA comp i).slotsUsed = T.slotsUsed + 4 + i * 40
  | 0 => by show T.slotsUsed + (mrO cA T.heap.size 0).slots.size = _; rw [arrV_size]
  | i + 1 => by
    have h := mrS_used T cA comp i
    show (mrS T cA comp i).slotsUsed + (mrR comp).slots.size = _
    rw [arrV_size, h]
    omega
theorem mrS_get (T : State) (cA comp : ClassId) : ∀ i q, (mrS T cA comp i).heap[q]? = if q < T.heap.size then T.heap[q]? else if q = T.heap.size then some (mrO cA T.heap.size i) else if q < T.heap.size + 1 + i then some (mrR comp) else none
  | 0, q => by
    show (T.heap.push _)[q]? = _
    rw [Array.getElem?_push]
    by_cases c1 : q = T.heap.size
    · rw [if_pos c1, if_neg (by omega), if_pos c1]
    · rw [if_neg c1]
      by_cases c2 : q < T.heap.size
      · rw [if_pos c2]
      · rw [if_neg c2, if_neg c1, if_neg (by omega)]
        exact Array.getElem?_eq_none (by omega)
  | i + 1, q => by
    have h := mrS_get T cA comp i q
    have hz := mrS_size T cA comp i
    show (((mrS T cA comp i).heap.push (mrR comp)).setIfInBounds T.heap.size _)[q]? = _
    rw [Array.getElem?_setIfInBounds]
    by_cases c1 : T.heap.size = q
    · rw [if_pos c1, if_pos (show T.heap.size < ((mrS T cA comp i).heap.push (mrR comp)).size by rw [Array.size_push, hz]; omega), if_neg (show ¬ q < T.heap.size by omega), if_pos c1.symm]
    · rw [if_neg c1, Array.getElem?_push, hz, h]
      by_cases c2 : q = T.heap.size + 1 + i
      · rw [if_pos c2, if_neg (show ¬ q < T.heap.size by omega), if_neg (show ¬ q = T.heap.size by omega), if_pos (show q < T.heap.size + 1 + (i + 1) by omega)]
      · rw [if_neg c2]
        by_cases c3 : q < T.heap.size
        · rw [if_pos c3, if_pos c3]
        · have c5 : ¬ q = T.heap.size := fun z => c1 z.symm
          rw [if_neg c3, if_neg c3, if_neg c5, if_neg c5]
          by_cases c4 : q < T.heap.size + 1 + i
          · rw [if_pos c4, if_pos (show q < T.heap.size + 1 + (i + 1) by omega)]
          · rw [if_neg c4, if_neg (show ¬ q < T.heap.size + 1 + (i + 1) by omega)]
theorem mrS_top (T : State) (f : JFrame) (cA comp : ClassId) : ∀ i, mrS (T.setTop f) cA comp i = (mrS T cA comp i).setTop f
  | 0 => by simp only [mrS, State.heap_setTop, State.pushCell_setTop]
  | i + 1 => by simp only [mrS, mrS_top T f cA comp i, State.heap_setTop, State.pushCell_setTop, State.setCell_setTop]
theorem mr_stand {p : Program} {l : Launch} {e : Env} {R : Room} {s : State} {m : MethodId} {args : Array Value} {below : List Frame} {meth : Method} {c : Code} {T : State} {locs : List Loc} {cells slots : Nat} (X : Stand p l e R s m args below meth c T locs cells slots) (cA comp : ClassId) : ∀ i, ∃ J : List Loc, (∀ x ∈ J, s.heap.size ≤ x.base) ∧ Stand p l e R s m args below meth c (mrS T cA comp i) (locs ++ J) (cells + 1 + i) (slots + 4 + i * 40)
  | 0 => ⟨[], fun x h => absurd h List.not_mem_nil, by
    have h := X.pushed (mrO cA T.heap.size 0)
    rw [arrV_size] at h
    rw [List.append_nil]
    exact h⟩
  | i + 1 => by
    obtain ⟨J, hJ, h⟩ := mr_stand X cA comp i
    have h1 := h.pushed (mrR comp)
    have hlt0 : T.heap.size < (mrS T cA comp i).heap.size := by rw [mrS_size]; omega
    have hc : ((mrS T cA comp i).pushCell (mrR comp)).heap[T.heap.size]? = some (mrO cA T.heap.size i) := by
      rw [State.heap_pushCell_of_lt (h := hlt0), mrS_get, if_neg (Nat.lt_irrefl _), if_pos rfl]
    have h2 := h1.stored hc i (.ref (T.heap.size + 1 + i))
    rw [arrV_store, mrF_succ, arrV_size] at h2
    refine ⟨J ++ [⟨T.heap.size, i⟩], fun x hx => ?_, ?_⟩
    · rcases List.mem_append.mp hx with q | q
      · exact hJ x q
      · rw [List.mem_singleton.mp q]; exact X.heapGrown
    · rw [← List.append_assoc, show slots + 4 + (i + 1) * 40 = slots + 4 + i * 40 + 40 by omega]
      exact h2
section MRW
variable {E : CtlPost} {e : Env} {d : Bool} {acts : List Action} {s : State}
theorem mr_ref {t : FieldType} (h : t.isReference = true) (v : Value) (hv : v = .null ∨ ∃ a, v = .ref a) : fits t v = true := by
  rcases hv with rfl | ⟨a, rfl⟩ <;> cases t <;> simp [FieldType.isReference] at h <;> rfl
theorem mr_0 (s : State) (cA comp : ClassId) : s.pushCell { cls := cA, slots := Array.replicate (nI 4).toNatClampNeg .null } = mrS s cA comp 0 := by
  show s.pushCell ({ cls := cA, slots := Array.replicate 4 .null, vm := .none } : Cell) = s.pushCell _
  rw [arrV_new]
  exact congrArg (fun f => s.pushCell (arrV cA 4 f)) (funext fun j => by unfold mrF; rw [if_neg (Nat.not_lt_zero j)])
theorem mr_row {comp cc : ClassId} {kc : Class} (hkc : s.vm.classes[comp]? = some kc) (hkindc : kc.kind = .array cc .int) (hl : 40 ≤ e.platform.arrayLengthLimit) (hh : 160 ≤ e.platform.maxHeapBytes) (hc : s.heap.size + 1 ≤ e.platform.maxCells) (hs : s.slotsUsed + 40 ≤ e.platform.maxSlots) {Q : Addr → Pre} (hq : ∀ acts', Q s.heap.size d acts' (s.pushCell (mrR comp))) : wp (Op.multianewarray.make comp [nI 40]) Q E e d acts s := by
  rw [Op.multianewarray.make]
  simp only [wp_bind', W.ite, show ¬ nI 40 < 0 by decide, if_false, wp_pure', W.theClass, hkc, hkindc, Option.some.injEq, exists_eq_left']
  refine W.newArray_of hkc hkindc (by show ¬ 40 > _; omega) (by show ¬ 40 * 4 > _; omega) (by omega) (by show s.slotsUsed + 40 ≤ _; omega) rfl (fun acts' => ?_)
  have h := hq acts'
  rw [show mrR comp = ({ cls := comp, slots := Array.replicate 40 (.int 0), vm := .none } : Cell) from (arrV_new comp 40 (.int 0)).symm] at h
  exact h
theorem mr_make {cA comp cc : ClassId} {k kc : Class} (hk : s.vm.classes[cA]? = some k) (hkind : k.kind = .array comp (.array .int)) (hkc : s.vm.classes[comp]? = some kc) (hkindc : kc.kind = .array cc .int)
    (hl : 40 ≤ e.platform.arrayLengthLimit) (hh : 160 ≤ e.platform.maxHeapBytes) (hc : s.heap.size + 5 ≤ e.platform.maxCells) (hs : s.slotsUsed + 164 ≤ e.platform.maxSlots)
    {Q : Addr → Pre} (hq : ∀ d' acts', Q s.heap.size d' acts' (mrS s cA comp 4)) : wp (Op.multianewarray.make cA [nI 4, nI 40]) Q E e d acts s := by
  rw [Op.multianewarray.make]
  simp only [wp_bind', W.ite, show ¬ nI 4 < 0 by decide, if_false, wp_pure', W.theClass, hk, hkind, Option.some.injEq, exists_eq_left']
  refine W.newArray_of hk hkind (by show ¬ 4 > _; omega) (by show ¬ 4 * 4 > _; omega) (by omega) (by show s.slotsUsed + 4 ≤ _; omega) (mr_ref rfl _ (Or.inl rfl)) (fun acts' => ?_)
  rw [mr_0 s cA comp]
  simp only [show (nI 4 == 0) = false by decide, Bool.false_eq_true, if_false, wp_bind', wp_pure', W.ite]
  rw [Std.Legacy.Range.forIn_eq_forIn_range']
  show wp (forIn (List.range' 0 4 1) PUnit.unit _) _ E e d _ _
  refine wp_forIn_inv (fun rest s' => ∃ i, i ≤ 4 ∧ rest = List.range' i (4 - i) ∧ s' = mrS s cA comp i) _ _ ⟨0, Nat.zero_le _, rfl, rfl⟩ ?_ ?_
  · rintro x rest s' d' acts2 Q' ⟨i, hi, hlr, rfl⟩ hnext
    have hlt : i < 4 := by
      rcases Nat.lt_or_ge i 4 with h | h
      · exact h
      · rw [show 4 - i = 0 by omega] at hlr; cases hlr
    rw [show 4 - i = (4 - (i + 1)) + 1 by omega, List.range'_succ] at hlr
    obtain ⟨rfl, hrest⟩ := List.cons.inj hlr
    have f1 := mrS_size s cA comp x
    have f2 := mrS_vm s cA comp x
    have f3 := mrS_used s cA comp x
    simp only [wp_bind']
    refine mr_row (by rw [f2]; exact hkc) hkindc hl hh (by rw [f1]; omega) (by rw [f3]; omega) (fun acts3 => ?_)
    simp only [wp_bind', W.writeLoc, wp_pure']
    have hlt0 : s.heap.size < (mrS s cA comp x).heap.size := by rw [f1]; omega
    refine ⟨mrO cA s.heap.size x, by rw [State.heap_pushCell_of_lt (h := hlt0), mrS_get, if_neg (Nat.lt_irrefl _), if_pos rfl], by show VmData.none ≠ VmData.unknown; simp, by rw [arrV_size]; exact hlt, ?_, hnext _ _ _ ⟨x + 1, hlt, hrest, ?_⟩⟩
    · simp [State.fitsSlot, State.slotType?, arrV, f2, hk, hkind, mr_ref (t := .array .int) rfl _ (Or.inr ⟨_, rfl⟩)]
    · rw [f1, arrV_store, mrF_succ]; rfl
  · rintro s' d' acts2 ⟨i, hi, hlr, rfl⟩
    have h4 : i = 4 := by
      rcases Nat.lt_or_ge i 4 with h | h
      · rw [show 4 - i = (4 - (i + 1)) + 1 by omega, List.range'_succ] at hlr; cases hlr
      · omega
    subst h4
    simp only [wp_pure']
    exact hq _ _
end MRW
section MRV
variable {p : Program} {l : Launch} {e : Env} {R : Room} {s : State} {m : MethodId} {args : Array Value} {below : List Frame} {meth : Method} {c : Code} {H : Heap} {locs : List Loc} {cells slots : Nat} {Q : State → Prop} {cc : ByteArray}
theorem mr_W (hexec : p.tables.exec = Jvm.exec) (hb : c.code = cc) {own : String} {index : Nat} (hown : s.vm.findClass own = some m.cls) (hclink : (Cond.classLink own index "[[I").before args s = true) (hover : (Cond.arrayOver (.array .int)).before args s = true) (harr : (Cond.arrayClass .int).before args s = true) {pc : Nat} {ls : Array Slot} {rest : List Value} (hdg : decode cc pc = .ok (.multianewarray index 2, 4)) (hcells : cells + 5 ≤ R.cells) (hslots : slots + 164 ≤ R.slots)
    (kk : ∀ (cA comp : ClassId) (H1 : Heap), s.vm.findClass ("[" ++ (FieldType.array .int).toString) = some cA → s.vm.findClass ("[" ++ FieldType.int.toString) = some comp → H1.size = H.size + 5 → (∀ q, q < H.size → H1[q]? = H[q]?) → H1[H.size]? = some (mrO cA H.size 4) → (∀ j, j < 4 → H1[H.size + 1 + j]? = some (mrR comp)) → W p l e R s m args below meth c H1 locs (cells + 5) (slots + 164) Q (F0 m (pc + 4) ls (.ref H.size :: rest))) : W p l e R s m args below meth c H locs cells slots Q (F0 m pc ls (.int (nI 40) :: .int (nI 4) :: rest)) := by
  intro T hT X
  subst hT; subst hb
  have hpl : e.platform.magicAccessors = ({} : Platform).magicAccessors := by rw [X.admits.platform]
  obtain ⟨comp, cA, kA, hcomp, -, hkA, hkindA, hnameA⟩ := arrayOverA_spec hover
  obtain ⟨comp', kC, cc', hcomp', hkC, hkindC⟩ := Cond.arrayClass_spec harr
  have ecomp : comp' = comp := Option.some.inj (hcomp'.symm.trans hcomp)
  subst ecomp
  obtain ⟨c0, hfc0, hcl⟩ := Cond.classLink_spec hown hclink e.platform hpl
  have e0 : "[" ++ (FieldType.array .int).toString = "[[I" := by decide +kernel
  have hnameB := hnameA
  rw [e0] at hnameB
  cases hnameB.symm.trans hfc0
  obtain ⟨hg₁, hwarm₁, hready₁⟩ := State.classEntry (e := e) X.warmed hcl
  generalize T.vm.noted m.cls index (.cls cA) = vm₁ at hg₁ hwarm₁ hready₁
  have hal : s.vm.Alike vm₁ := hwarm₁.alike
  obtain ⟨kA₁, hkA₁, heA⟩ := hal.2.2 _ _ hkA
  obtain ⟨kC₁, hkC₁, heC⟩ := hal.2.2 _ _ hkC
  have hkindA₁ : kA₁.kind = .array comp' (.array .int) := by rw [heA]; exact hkindA
  have hkindC₁ : kC₁.kind = .array cc' .int := by rw [heC]; exact hkindC
  have X₁ := X.noted hwarm₁
  obtain ⟨hr1, hr2⟩ := X.roomAbove hcells hslots
  obtain ⟨J, hJ, XF⟩ := mr_stand X₁ cA comp' 4
  have XF := XF.dropFresh hJ
  have hsz : (T.setVm vm₁).heap.size = T.heap.size := rfl
  obtain ⟨t2, a1, b1⟩ := kk cA comp' (mrS (T.setVm vm₁) cA comp' 4).heap hnameA hcomp' (by rw [mrS_size, hsz]) (fun q hq => by rw [mrS_get, if_pos (by rw [hsz]; exact hq)]; rfl) (by rw [mrS_get, hsz, if_neg (Nat.lt_irrefl _), if_pos rfl]) (fun j hj => by rw [mrS_get, hsz, if_neg (by omega), if_neg (by omega), if_pos (by omega)]) _ rfl XF
  refine ⟨t2, ?_, b1⟩
  have hl1 : 40 ≤ e.platform.arrayLengthLimit := by rw [Launch.admits_arrayLengthLimit X.admits]; omega
  have hh1 : 160 ≤ e.platform.maxHeapBytes := by rw [Launch.admits_maxHeapBytes X.admits]; omega
  jvm_step X.here [hexec, hdg]
  simp only [Op.multianewarray.sem, wp_bind', W.resolveClassAt_links (State.method?_setTop (F0 m pc ls (.int (nI 40) :: .int (nI 4) :: rest)) X.here.top) hg₁]
  rw [W.popN, if_neg (by decide)]
  refine ⟨F0 m pc ls (.int (nI 40) :: .int (nI 4) :: rest), State.topJava?_setTop' (s := T.setVm vm₁) _ X.here.top, [.int (nI 4), .int (nI 40)], rest, rfl, rfl, ?_⟩
  simp only [List.mapM_cons, List.mapM_nil, wp_bind', wp_pure']
  have eS : ((T.setTop (F0 m pc ls (.int (nI 40) :: .int (nI 4) :: rest))).setVm vm₁).setTop (F0 m pc ls rest) = (T.setVm vm₁).setTop (F0 m pc ls rest) := by
    show ((T.setVm vm₁).setTop _).setTop _ = _
    rw [State.setTop_setTop]
  rw [eS]
  refine mr_make (s := (T.setVm vm₁).setTop (F0 m pc ls rest)) (k := kA₁) (kc := kC₁) (comp := comp') (cc := cc') hkA₁ hkindA₁ hkC₁ hkindC₁ hl1 hh1 hr1 hr2 (fun d' acts' => ?_)
  rw [mrS_top]
  simp only [wp_bind', W.mark, W.pushRef, State.topJava?_setTop' _ XF.here.top, Option.some.injEq, exists_eq_left', State.setTop_setTop, State.heap_setTop]
  intro acts
  simp [jvm, XF.here.top]
  exact a1
end MRV
section VMU
variable {x : vX} {g : vG} {cc : ByteArray} {own : String} {rm : Room} {nL c0 s0 : Nat} {nm : String} {pc : Nat} {lv : List (Option Value)} {st : List Value} {ws : va_W}
theorem v_multi {idx : Nat} (h : OkC x g cc own rm nL c0 s0 nm) (hcl : Cond.classLink own idx "[[I" ∈ wsL_law) (h1 : c0 + 5 ≤ rm.cells) (h2 : s0 + 164 ≤ rm.slots) (hd : decode cc pc = .ok (.multianewarray idx 2, 4)) (kk : ∀ q : Nat, vM (vgr x 5 164) (pc + 4) lv (.ref q :: st) (ws ++ [(q, .inl (gA g, 4, .inr (.inr (.inr (.inr (fun i => if i < 4 then some (q + 1 + i) else none)))))), (q + 1 + 0, .inl (gI g, 40, .inl (fun _ => nI 0))), (q + 1 + 1, .inl (gI g, 40, .inl (fun _ => nI 0))), (q + 1 + 2, .inl (gI g, 40, .inl (fun _ => nI 0))), (q + 1 + 3, .inl (gI g, 40, .inl (fun _ => nI 0)))])) : vM x pc lv (.int (nI 40) :: .int (nI 4) :: st) ws := by
  obtain ⟨g0, p, e, R, s, m, args, below, meth, c, cells, slots, Q, A, nL0⟩ := x
  obtain ⟨⟨rfl, rfl, rfl, hx, hb, hml, hown, hts, hK, hA, hlk, hnw, hcl2, hsl⟩, rfl, rfl, hnm, hni⟩ := h
  intro H locs ls hP hD hS hl
  refine mr_W hx hb hown (hts _ hcl) hni.over (hts _ m_arrI) hd h1 h2 (fun cA comp H1 hA1 hC1 hz ho hO hR => ?_)
  have e1 : cA = gA g0 := Option.some.inj (hA1.symm.trans (hK.2 2 (gA g0, .array .int) rfl).2)
  have e2 : comp = gI g0 := Option.some.inj (hC1.symm.trans (hK.2 0 (gI g0, .int) rfl).2)
  subst e1
  subst e2
  have ho' : ∀ q, q < H.size → H1[q]? = H[q]? := ho
  generalize hL5 : ([(H.size, .inl (gA g0, 4, .inr (.inr (.inr (.inr (fun i => if i < 4 then some (H.size + 1 + i) else none)))))), (H.size + 1 + 0, .inl (gI g0, 40, .inl (fun _ => nI 0))), (H.size + 1 + 1, .inl (gI g0, 40, .inl (fun _ => nI 0))), (H.size + 1 + 2, .inl (gI g0, 40, .inl (fun _ => nI 0))), (H.size + 1 + 3, .inl (gI g0, 40, .inl (fun _ => nI 0)))] : va_W) = L5
  have hat : ∀ (k : Nat) (q : Nat × va_E), L5[k]? = some q → q.1 = H.size + k ∧ va_at (gD g0) vwCl q H1 := by
    intro k q hq
    rw [← hL5] at hq
    match k, hq with
    | 0, hq =>
      cases hq
      refine ⟨rfl, ?_⟩
      show H1[H.size]? = some (vp_cell _ _)
      rw [hO, vp_cell_q]
      exact congrArg (fun f => some (arrV (gA g0) 4 f)) (funext fun j => by unfold mrF; by_cases z : j < 4; (· rw [if_pos z, if_pos z]; rfl); (· rw [if_neg z, if_neg z]; rfl))
    | 1, hq => cases hq; exact ⟨rfl, hR 0 (by decide)⟩
    | 2, hq => cases hq; exact ⟨rfl, hR 1 (by decide)⟩
    | 3, hq => cases hq; exact ⟨rfl, hR 2 (by decide)⟩
    | 4, hq => cases hq; exact ⟨rfl, hR 3 (by decide)⟩
    | k + 5, hq => simp at hq
  have hk5 := kk H.size
  rw [hL5] at hk5
  refine hk5 H1 locs ls ((hP.kept (fun k q hk => ho' q.1 (hP k q hk).lt)).app (fun k q hq => (hat k q hq).2)) (hD.app ⟨fun i j p q hp hq hpq => ?_, fun k q hq => ?_⟩ (fun i j p q hp hq hpq => ?_)) ⟨Nat.le_trans hS.1 (by omega), fun q g1 g2 => (ho' q (Nat.lt_of_lt_of_le g1 hS.1)).trans (hS.2.1 q g1 g2), hS.2.2⟩ hl
  · have g1 := (hat i p hp).1
    have g2 := (hat j q hq).1
    omega
  · have g1 := (hat k q hq).1
    exact hA _ (by have := hS.1; omega)
  · have g1 := (hP i p hp).lt
    have g2 := (hat j q hq).1
    omega
end VMU
