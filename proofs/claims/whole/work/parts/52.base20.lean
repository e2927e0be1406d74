/-! odds: the share in least terms; pairs told -/
theorem lgc0 {x y : Int64} : lg_cmp x y = 0 ↔ x = y := by
  unfold lg_cmp
  by_cases h : x > y
  · rw [if_pos h]
    constructor
    · intro q; exact absurd q (by decide)
    · intro q
      rw [q] at h
      exact absurd (Int64.lt_iff_toInt_lt.mp h) (Int.lt_irrefl _)
  · rw [if_neg h]
    by_cases e : x = y
    · rw [if_pos e]; exact ⟨fun _ => e, fun _ => rfl⟩
    · rw [if_neg e]; exact ⟨fun q => absurd q (by decide), fun q => absurd q e⟩
set_option maxHeartbeats 4000000 in
set_option maxRecDepth 100000 in
theorem c_X8_share {g : vG} {a b u : Nat} (ha : a < 2 ^ 31) (hb0 : 0 < b) (hb2 : b < 2 ^ 31) (hu : u < 2 ^ 31) : Ct g yX8_share cX8_share 11 (some .long) (rmOf 0 0) [] [.long (nI a).toInt64, .long (nI b).toInt64, .int (nI u)] (some (.long (if u = 0 then (nI (a / Nat.gcd a b)).toInt64 else (nI (b / Nat.gcd a b)).toInt64))) [] := by
  refine ⟨rfl, fun sz => Met.ofW (cc := cX8_share) (maxL := 11) (ret := some .long) (by decide +kernel) rfl ?_⟩
  intro p e s m args below meth c s₁ B hml hv
  obtain ⟨rfl, hsz, hP, hK, hD0, hnw⟩ := hv
  have hx := B.exec
  have hb := B.bytes
  have hr := B.returns
  have hlocks := B.notSynchronized
  subst hsz
  rw [nI_l ha, nI_l hb2]
  have hl := lv_entry ([.long (lN a), .long (lN b), .int (nI u)]) (n := 11) (Nat.le_of_ble_eq_true rfl)
  rw [lg_entry_eq]
  generalize hls : (lg_sl ([.long (lN a), .long (lN b), .int (nI u)]) ++ List.replicate (11 - (lg_sl ([.long (lN a), .long (lN b), .int (nI u)])).length) Slot.unset).toArray = ls at hl ⊢
  have hl : lv_has ls 11 [(0, .long (lN a)), (2, .long (lN b)), (4, .int (nI u))] := hl
  clear hls
  refine lv_lload_n hx hb dX8_share_0 rfl (lv_at hl 0 rfl) ?_
  refine lv_lstore (lv' := [(5, .long (lN a)), (0, .long (lN a)), (2, .long (lN b)), (4, .int (nI u))]) hx hb dX8_share_1 hl (by decide) rfl (fun ls hl => ?_)
  refine lv_lload_n hx hb dX8_share_3 rfl (lv_at hl 2 rfl) ?_
  refine lv_lstore (lv' := [(7, .long (lN b)), (5, .long (lN a)), (0, .long (lN a)), (2, .long (lN b)), (4, .int (nI u))]) hx hb dX8_share_4 hl (by decide) rfl (fun ls hl => ?_)
  have L : ∀ (k x y : Nat), y = k → x < 2 ^ 31 → y < 2 ^ 31 → Nat.gcd x y = Nat.gcd a b → ∀ ls : Array Slot, lv_has ls 11 [(7, .long (lN y)), (5, .long (lN x)), (0, .long (lN a)), (2, .long (lN b)), (4, .int (nI u))] → W p g.1 e (headSpec (.code yX8_share cX8_share 11 (some .long) :: wsL_law) (rmOf 0 0)).room s m ([.long (lN a), .long (lN b), .int (nI u)] : List Value).toArray below meth c s.heap [] 0 0 (MQ below (vPost g [] (some (.long (if u = 0 then (nI (a / Nat.gcd a b)).toInt64 else (nI (b / Nat.gcd a b)).toInt64))) [] s.heap.size) ([.long (lN a), .long (lN b), .int (nI u)] : List Value).toArray s 0 0 (va_A [] s.heap.size)) (F0 m 6 ls []) := by
    intro k
    induction k using Nat.strongRecOn with
    | _ k ih =>
      intro x y hk hxl hyl hg ls hl
      refine lv_lload hx hb dX8_share_6 (lv_at hl 0 rfl) ?_
      refine lv_lconst (v := lN 0) hx hb dX8_share_8 rfl ?_
      refine W.lcmp hx hb dX8_share_9 ?_
      refine lv_if_eq (tgt := 31) hx hb dX8_share_10 (by decide) (fun c10 => ?_) (fun c10 => ?_)
      · have hy0 : y = 0 := (lN_eq hyl (by decide)).mp (lgc0.mp c10)
        subst hy0
        rw [Nat.gcd_zero_right] at hg
        have hx0 : 0 < x := by rw [hg]; exact Nat.gcd_pos_of_pos_right a hb0
        refine lv_iload hx hb dX8_share_31 (lv_at hl 4 rfl) ?_
        refine lv_if_ne (tgt := 43) hx hb dX8_share_33 (by decide) (fun c33 => ?_) (fun c33 => ?_)
        · have hu0 : ¬ u = 0 := fun q => c33 (by rw [q]; rfl)
          refine lv_lload_n hx hb dX8_share_43 rfl (lv_at hl 3 rfl) ?_
          refine lv_lload hx hb dX8_share_44 (lv_at hl 1 rfl) ?_
          refine lv_ldiv hx hb dX8_share_46 (fun q => by have := (lN_eq hxl (b := 0) (by decide)).mp q; omega) ?_
          rw [if_neg hu0, ← hg, nI_l (Nat.lt_of_le_of_lt (Nat.div_le_self _ _) hb2), pk_lDiv (by omega) hx0 (by omega)]
          exact W.lret hx hb hr (fun t ht hW => ⟨⟨rfl, fun k q h => by simp at h⟩, (va_S.rf (A := va_A [] s.heap.size)).F ht⟩) (fun q h => absurd h List.not_mem_nil) dX8_share_47
        · have hu0 : u = 0 := (nI_eq (b := 0) hu (by decide)).mp c33
          refine lv_lload_n hx hb dX8_share_36 rfl (lv_at hl 2 rfl) ?_
          refine lv_lload hx hb dX8_share_37 (lv_at hl 1 rfl) ?_
          refine lv_ldiv hx hb dX8_share_39 (fun q => by have := (lN_eq hxl (b := 0) (by decide)).mp q; omega) ?_
          refine lv_goto (tgt := 47) hx hb dX8_share_40 (by decide) ?_
          rw [if_pos hu0, ← hg, nI_l (Nat.lt_of_le_of_lt (Nat.div_le_self _ _) ha), pk_lDiv (by omega) hx0 (by omega)]
          exact W.lret hx hb hr (fun t ht hW => ⟨⟨rfl, fun k q h => by simp at h⟩, (va_S.rf (A := va_A [] s.heap.size)).F ht⟩) (fun q h => absurd h List.not_mem_nil) dX8_share_47
      · have hy0 : 0 < y := by
          rcases Nat.eq_zero_or_pos y with q | q
          · subst q; exact absurd (lgc0.mpr rfl) c10
          · exact q
        refine lv_lload hx hb dX8_share_13 (lv_at hl 1 rfl) ?_
        refine lv_lload hx hb dX8_share_15 (lv_at hl 0 rfl) ?_
        refine lv_lrem hx hb dX8_share_17 (fun q => by have := (lN_eq hyl (b := 0) (by decide)).mp q; omega) ?_
        rw [pk_lRem (by omega) hy0 (by omega)]
        refine lv_lstore (lv' := [(9, .long (lN (x % y))), (7, .long (lN y)), (5, .long (lN x)), (0, .long (lN a)), (2, .long (lN b)), (4, .int (nI u))]) hx hb dX8_share_18 hl (by decide) rfl (fun ls hl => ?_)
        refine lv_lload hx hb dX8_share_20 (lv_at hl 1 rfl) ?_
        refine lv_lstore (lv' := [(5, .long (lN y)), (9, .long (lN (x % y))), (7, .long (lN y)), (0, .long (lN a)), (2, .long (lN b)), (4, .int (nI u))]) hx hb dX8_share_22 hl (by decide) rfl (fun ls hl => ?_)
        refine lv_lload hx hb dX8_share_24 (lv_at hl 1 rfl) ?_
        refine lv_lstore (lv' := [(7, .long (lN (x % y))), (5, .long (lN y)), (9, .long (lN (x % y))), (0, .long (lN a)), (2, .long (lN b)), (4, .int (nI u))]) hx hb dX8_share_26 hl (by decide) rfl (fun ls hl => ?_)
        refine lv_goto (tgt := 6) hx hb dX8_share_28 (by decide) ?_
        have hlt := Nat.mod_lt x hy0
        exact ih (x % y) (by omega) y (x % y) rfl hyl (by omega) (by rw [Nat.gcd_comm, ← Nat.gcd_rec, Nat.gcd_comm]; exact hg) ls (lv_sub hl [0, 1, 3, 4, 5] rfl)
  exact L b a b rfl ha hb2 rfl ls hl
theorem gcd_no {a b : Nat} (hb : 1 ≤ b) (h : ∀ e, 1 < e → e ≤ b → ¬ (a % e = 0 ∧ b % e = 0)) : Nat.gcd a b = 1 := by
  have h1 := Nat.gcd_pos_of_pos_right a hb
  have h2 := Nat.gcd_dvd_left a b
  have h3 := Nat.gcd_dvd_right a b
  have h4 := Nat.le_of_dvd hb h3
  by_cases c : 1 < Nat.gcd a b
  · exact absurd ⟨Nat.mod_eq_zero_of_dvd h2, Nat.mod_eq_zero_of_dvd h3⟩ (h _ c h4)
  · omega
theorem cmd_gcd {a b : Nat} (hb : 1 ≤ b) : ∀ d, (∀ e, d < e → e ≤ b → 1 < e → ¬ (a % e = 0 ∧ b % e = 0)) → cmd a b d = Nat.gcd a b
  | 0, h => by rw [cmd, gcd_no hb (fun e h1 h2 => h e (by omega) h2 h1)]
  | d + 1, h => by
    rw [cmd]
    by_cases c : d = 0
    · subst c
      rw [if_pos rfl, gcd_no hb (fun e h1 h2 => h e (by omega) h2 h1)]
    · rw [if_neg c]
      by_cases q : a % (d + 1) = 0 ∧ b % (d + 1) = 0
      · rw [if_pos q]
        have h1 := Nat.gcd_pos_of_pos_right a hb
        have h2 := Nat.gcd_dvd_left a b
        have h3 := Nat.gcd_dvd_right a b
        have h4 := Nat.le_of_dvd hb h3
        have h5 := Nat.le_of_dvd h1 (Nat.dvd_gcd (Nat.dvd_of_mod_eq_zero q.1) (Nat.dvd_of_mod_eq_zero q.2))
        by_cases z : d + 1 < Nat.gcd a b
        · exact absurd ⟨Nat.mod_eq_zero_of_dvd h2, Nat.mod_eq_zero_of_dvd h3⟩ (h _ z h4 (by omega))
        · omega
      · rw [if_neg q]
        exact cmd_gcd hb d (fun e h1 h2 h3 => by
          rcases Nat.lt_or_ge (d + 1) e with z | z
          · exact h e z h2 h3
          · rw [show e = d + 1 by omega]; exact q)
theorem sumTo_add {f g : Nat → Nat} : ∀ n, sumTo (fun j => f j + g j) n = sumTo f n + sumTo g n
  | 0 => rfl
  | n + 1 => by rw [sumTo, sumTo, sumTo, sumTo_add n]; omega
theorem sumTo_cg {f g : Nat → Nat} : ∀ {n : Nat}, (∀ j, j < n → f j = g j) → sumTo f n = sumTo g n
  | 0, _ => rfl
  | n + 1, h => by rw [sumTo, sumTo, sumTo_cg (fun j hj => h j (by omega)), h n (by omega)]
theorem sumTo_zero : ∀ n : Nat, sumTo (fun _ => 0) n = 0
  | 0 => rfl
  | n + 1 => by rw [sumTo, sumTo_zero n]
theorem sumTo_one {n i : Nat} (h : i < n) : sumTo (fun j => if j = i then 1 else 0) n = 1 := by
  induction n with
  | zero => omega
  | succ n ih =>
    rw [sumTo]
    rcases Nat.lt_or_ge i n with q | q
    · rw [ih q, if_neg (by omega)]
    · obtain rfl : n = i := by omega
      rw [if_pos rfl, sumTo_cg (g := fun _ => 0) (fun j hj => if_neg (by omega)), sumTo_zero]
/-- pairs, each once -/
theorem sum_pairs {f : Nat → Nat → Nat} (h0 : ∀ x, f x x = 0) : ∀ n, sumTo (fun x => sumTo (fun y => f x y) n) n = sumTo (fun x => sumTo (fun y => f x y + f y x) x) n
  | 0 => rfl
  | n + 1 => by
    have e1 : sumTo (fun x => sumTo (fun y => f x y) (n + 1)) n = sumTo (fun x => sumTo (fun y => f x y) n) n + sumTo (fun x => f x n) n := by
      rw [← sumTo_add]
      exact sumTo_cg (fun j _ => by rw [sumTo])
    have e2 : sumTo (fun y => f n y) (n + 1) = sumTo (fun y => f n y) n := by rw [sumTo, h0]; rfl
    have e3 : sumTo (fun y => f n y + f y n) n = sumTo (fun y => f n y) n + sumTo (fun y => f y n) n := sumTo_add n
    show sumTo (fun x => sumTo (fun y => f x y) (n + 1)) n + sumTo (fun y => f n y) (n + 1) = sumTo (fun x => sumTo (fun y => f x y + f y x) x) n + sumTo (fun y => f n y + f y n) n
    rw [← sum_pairs h0 n, e1, e2, e3]
    omega
theorem popN_bits {a : Nat} : popN a = sumTo (fun y => if a.testBit y = true then 1 else 0) 20 := sumTo_cg (fun j _ => by
  show a / 2 ^ j &&& 1 = _
  by_cases c : a / 2 ^ j &&& 1 = 1
  · rw [if_pos (testBit_of c), c]
  · rw [if_neg (by rw [testBit_no c]; decide)]
    rw [Nat.and_one_is_mod] at c ⊢
    omega)
theorem sumTo_cut {f : Nat → Nat} {n : Nat} : ∀ {m : Nat}, n ≤ m → (∀ j, n ≤ j → f j = 0) → sumTo f m = sumTo f n
  | 0, h, _ => by rw [show n = 0 by omega]
  | m + 1, h, hz => by
    rcases Nat.lt_or_ge m n with q | q
    · rw [show m + 1 = n by omega]
    · rw [sumTo, hz m q, sumTo_cut q hz]; rfl
theorem popN_lig {kk p n x : Nat} {w : Nat → Nat} (hn : n ≤ 8) : popN (ligS kk p w n x) = sumTo (fun y => if tls kk p (w x) (w y) = true then 1 else 0) n := by
  rw [popN_bits, sumTo_cut (n := n) (by omega) (fun j hj => if_neg (by rw [ligS_bit, decide_eq_false (by omega), Bool.false_and]; decide))]
  exact sumTo_cg (fun j hj => by rw [ligS_bit, decide_eq_true hj, Bool.true_and])
theorem tls_no {kk p a : Nat} : tls kk p a a = false := tls_f (fun q => Nat.lt_irrefl _ q.1)
theorem alk_sum {kk p a b : Nat} : (if tls kk p a b = true then 1 else 0) + (if tls kk p b a = true then 1 else 0) = (if alk kk p a b = true then 0 else 1) := by
  cases q1 : tls kk p a b with
  | true =>
    rw [alk_f1 q1]
    cases q2 : tls kk p b a with
    | true =>
      have h1 := (tls_iff.mp q1).1
      have h2 := (tls_iff.mp q2).1
      omega
    | false => rfl
  | false =>
    cases q2 : tls kk p b a with
    | true => rw [alk_f2 q2]; rfl
    | false => rw [alk_t q1 q2]; rfl
/-- the pairs that the model goes through -/
def naF (kk p : Nat) (w : Nat → Nat) (x : Nat) : Nat → Nat := fun y => if alk kk p (w x) (w y) = true then 0 else 1
theorem naF_t {kk p x y : Nat} {w : Nat → Nat} (h : alk kk p (w x) (w y) = true) : naF kk p w x y = 0 := if_pos h
theorem naF_f {kk p x y : Nat} {w : Nat → Nat} (h : alk kk p (w x) (w y) = false) : naF kk p w x y = 1 := if_neg (by rw [h]; decide)
def naT (kk p : Nat) (w : Nat → Nat) (i : Nat) : Nat := sumTo (fun x => sumTo (naF kk p w x) x) i
theorem told_eq {kk p n : Nat} {w : Nat → Nat} (hn : n ≤ 8) : naT kk p w n = toldN (ligS kk p w n) n := by
  unfold toldN naT
  rw [sumTo_cg (f := fun z => popN (ligS kk p w n z)) (g := fun x => sumTo (fun y => if tls kk p (w x) (w y) = true then 1 else 0) n) (fun j _ => popN_lig hn)]
  rw [sum_pairs (f := fun x y => if tls kk p (w x) (w y) = true then 1 else 0) (fun x => if_neg (by rw [tls_no]; decide))]
  exact sumTo_cg (fun j _ => sumTo_cg (fun i _ => alk_sum.symm))
theorem naT_lt {kk p n : Nat} {w : Nat → Nat} (hn : n ≤ 8) : naT kk p w n < 2 ^ 31 := by
  have h : naT kk p w n ≤ sumTo (fun _ => 8) n := sumTo_mono (fun j hj => by
    have h1 := sumTo_le (f := naF kk p w j) (b := 1) (fun i => by show (if _ then 0 else 1) ≤ 1; split <;> omega) j
    omega)
  have h2 := sumTo_le (f := fun _ => 8) (b := 8) (fun _ => Nat.le_refl _) n
  omega
