/-! rows of the whole claim that serve here too -/
theorem v_zretP {x : vX} {g : vG} {cc : ByteArray} {own : String} {rm : Room} {nL : Nat} {pc : Nat} {lv : List (Option Value)} {ws : va_W} {v : Bool} {wi : va_W} {P : Option Value → va_W → Prop} (h : Ok x g cc own rm nL) (hr : RetP x (some .boolean) wi P) (hd : decode cc pc = .ok (.ireturn, 1)) (hp : P (some (.int (nI (bN v)))) ws) (hf : ws.map (fun q => q.1) = wi.map (fun q => q.1)) : vM x pc lv [.int (nI (bN v))] ws := v_zret h (hr _ _ hp hf) hd rfl rfl
theorem ffS_end {s : Nat → Int32} {m : Nat} (hg : ∀ q, q < m → goB s q = true) : ffS s m = if m % 4 = 3 ∧ 7 ≤ m then -1 else nI m := by
  unfold ffS
  rw [show fstTo (fun q => !goB s q) m = none from fst_none.mpr (fun j hj => by simp [hg j hj])]
def fiA (p q : Nat → Nat → Bool) (n x : Nat) : Bool := allTo (fun y => p x y || !q x y) n
def fiB (p q : Nat → Nat → Bool) (n x : Nat) : Bool := allTo (fun y => !(p x y && !q x y)) n
theorem fin_eq {k1 p1 k2 p2 n : Nat} {w : Nat → Nat} : (allTo (fiA (fun x y => tls k1 p1 (w x) (w y)) (fun x y => tls k2 p2 (w x) (w y)) n) n && !allTo (fiB (fun x y => tls k1 p1 (w x) (w y)) (fun x y => tls k2 p2 (w x) (w y)) n) n) = finM n (ligS k1 p1 w n) (ligS k2 p2 w n) := by
  unfold finM
  have e1 : allTo (fiA (fun x y => tls k1 p1 (w x) (w y)) (fun x y => tls k2 p2 (w x) (w y)) n) n = allTo (fun x => decide (sdiff (ligS k2 p2 w n x) (ligS k1 p1 w n x) = 0)) n := by
    refine allTo_congr (fun x _ => ?_)
    rw [Bool.eq_iff_iff, decide_eq_true_eq]
    unfold fiA
    rw [allTo_iff]
    constructor
    · intro h
      apply Nat.eq_of_testBit_eq
      intro i
      rw [sdiff_bit, ligS_bit, ligS_bit, Nat.zero_testBit]
      by_cases hi : i < n
      · have this : (tls k1 p1 (w x) (w i) || !tls k2 p2 (w x) (w i)) = true := h i hi
        rw [decide_eq_true hi]
        revert this
        cases tls k1 p1 (w x) (w i) <;> cases tls k2 p2 (w x) (w i) <;> simp
      · rw [decide_eq_false hi]; rfl
    · intro h y hy
      have h2 := congrArg (fun a => a.testBit y) h
      simp only [sdiff_bit, ligS_bit, Nat.zero_testBit, decide_eq_true hy, Bool.true_and] at h2
      show (tls k1 p1 (w x) (w y) || !tls k2 p2 (w x) (w y)) = true
      revert h2
      cases tls k1 p1 (w x) (w y) <;> cases tls k2 p2 (w x) (w y) <;> simp
  rw [e1]
  by_cases c : allTo (fun x => decide (sdiff (ligS k2 p2 w n x) (ligS k1 p1 w n x) = 0)) n = true
  · rw [c, Bool.true_and, Bool.true_and]
    congr 1
    refine allTo_congr (fun x hx => ?_)
    have hs := of_decide_eq_true (allTo_iff.mp c x hx)
    rw [Bool.eq_iff_iff, decide_eq_true_eq]
    unfold fiB
    rw [allTo_iff]
    constructor
    · intro h
      apply Nat.eq_of_testBit_eq
      intro i
      rw [ligS_bit, ligS_bit]
      by_cases hi : i < n
      · have h1 : (!(tls k1 p1 (w x) (w i) && !tls k2 p2 (w x) (w i))) = true := h i hi
        have h2 := congrArg (fun a => a.testBit i) hs
        simp only [sdiff_bit, ligS_bit, Nat.zero_testBit, decide_eq_true hi, Bool.true_and] at h2
        rw [decide_eq_true hi]
        revert h1 h2
        cases tls k1 p1 (w x) (w i) <;> cases tls k2 p2 (w x) (w i) <;> simp
      · rw [decide_eq_false hi]; rfl
    · intro h y hy
      have h2 := congrArg (fun a => a.testBit y) h
      simp only [ligS_bit, decide_eq_true hy, Bool.true_and] at h2
      show (!(tls k1 p1 (w x) (w y) && !tls k2 p2 (w x) (w y))) = true
      rw [h2]
      cases tls k1 p1 (w x) (w y) <;> rfl
  · have c2 : allTo (fun x => decide (sdiff (ligS k2 p2 w n x) (ligS k1 p1 w n x) = 0)) n = false := by simpa using c
    rw [c2]; rfl
theorem bnot_t {b : Bool} (h : (!b) = true) : b = false := by cases b; rfl; cases h
theorem bnot_f {b : Bool} (h : (!b) = false) : b = true := by cases b; cases h; rfl
theorem popN_or {a b : Nat} (h : a &&& b = 0) : popN (a ||| b) = popN a + popN b := by
  have key : ∀ n, sumTo (fun k => (a ||| b) / 2 ^ k &&& 1) n = sumTo (fun k => a / 2 ^ k &&& 1) n + sumTo (fun k => b / 2 ^ k &&& 1) n := by
    intro n
    induction n with
    | zero => rfl
    | succ n ih =>
      rw [sumTo, sumTo, sumTo, ih]
      have hb : ∀ x : Nat, x / 2 ^ n &&& 1 = if x.testBit n = true then 1 else 0 := by
        intro x
        rw [Nat.testBit_eq_decide_div_mod_eq, Nat.and_one_is_mod]
        by_cases c : x / 2 ^ n % 2 = 1
        · rw [if_pos (decide_eq_true c), c]
        · rw [if_neg (by simpa using c)]; omega
      have h2 := congrArg (fun x => x.testBit n) h
      simp only [Nat.testBit_and, Nat.zero_testBit] at h2
      rw [hb, hb, hb, Nat.testBit_or]
      revert h2
      cases a.testBit n <;> cases b.testBit n <;> simp <;> omega
  exact key 20
theorem lgc0 {x y : Int64} : lg_cmp x y = 0 ↔ x = y := by
  unfold lg_cmp
  by_cases h : x > y
  · rw [if_pos h]
    constructor
    · intro q; exact absurd q (by decide)
    · intro q
      rw [q] at h
      exact absurd (Int64.lt_iff_toInt_lt.mp h) (Int.lt_irrefl _)
  · rw [if_neg h]
    by_cases e : x = y
    · rw [if_pos e]; exact ⟨fun _ => e, fun _ => rfl⟩
    · rw [if_neg e]; exact ⟨fun q => absurd q (by decide), fun q => absurd q e⟩
theorem gcd_no {a b : Nat} (hb : 1 ≤ b) (h : ∀ e, 1 < e → e ≤ b → ¬ (a % e = 0 ∧ b % e = 0)) : Nat.gcd a b = 1 := by
  have h1 := Nat.gcd_pos_of_pos_right a hb
  have h2 := Nat.gcd_dvd_left a b
  have h3 := Nat.gcd_dvd_right a b
  have h4 := Nat.le_of_dvd hb h3
  by_cases c : 1 < Nat.gcd a b
  · exact absurd ⟨Nat.mod_eq_zero_of_dvd h2, Nat.mod_eq_zero_of_dvd h3⟩ (h _ c h4)
  · omega
theorem cmd_gcd {a b : Nat} (hb : 1 ≤ b) : ∀ d, (∀ e, d < e → e ≤ b → 1 < e → ¬ (a % e = 0 ∧ b % e = 0)) → cmd a b d = Nat.gcd a b
  | 0, h => by rw [cmd, gcd_no hb (fun e h1 h2 => h e (by omega) h2 h1)]
  | d + 1, h => by
    rw [cmd]
    by_cases c : d = 0
    · subst c
      rw [if_pos rfl, gcd_no hb (fun e h1 h2 => h e (by omega) h2 h1)]
    · rw [if_neg c]
      by_cases q : a % (d + 1) = 0 ∧ b % (d + 1) = 0
      · rw [if_pos q]
        have h1 := Nat.gcd_pos_of_pos_right a hb
        have h2 := Nat.gcd_dvd_left a b
        have h3 := Nat.gcd_dvd_right a b
        have h4 := Nat.le_of_dvd hb h3
        have h5 := Nat.le_of_dvd h1 (Nat.dvd_gcd (Nat.dvd_of_mod_eq_zero q.1) (Nat.dvd_of_mod_eq_zero q.2))
        by_cases z : d + 1 < Nat.gcd a b
        · exact absurd ⟨Nat.mod_eq_zero_of_dvd h2, Nat.mod_eq_zero_of_dvd h3⟩ (h _ z h4 (by omega))
        · omega
      · rw [if_neg q]
        exact cmd_gcd hb d (fun e h1 h2 h3 => by
          rcases Nat.lt_or_ge (d + 1) e with z | z
          · exact h e z h2 h3
          · rw [show e = d + 1 by omega]; exact q)
theorem sumTo_add {f g : Nat → Nat} : ∀ n, sumTo (fun j => f j + g j) n = sumTo f n + sumTo g n
  | 0 => rfl
  | n + 1 => by rw [sumTo, sumTo, sumTo, sumTo_add n]; omega
theorem sumTo_cg {f g : Nat → Nat} : ∀ {n : Nat}, (∀ j, j < n → f j = g j) → sumTo f n = sumTo g n
  | 0, _ => rfl
  | n + 1, h => by rw [sumTo, sumTo, sumTo_cg (fun j hj => h j (by omega)), h n (by omega)]
theorem sumTo_zero : ∀ n : Nat, sumTo (fun _ => 0) n = 0
  | 0 => rfl
  | n + 1 => by rw [sumTo, sumTo_zero n]
theorem sumTo_one {n i : Nat} (h : i < n) : sumTo (fun j => if j = i then 1 else 0) n = 1 := by
  induction n with
  | zero => omega
  | succ n ih =>
    rw [sumTo]
    rcases Nat.lt_or_ge i n with q | q
    · rw [ih q, if_neg (by omega)]
    · obtain rfl : n = i := by omega
      rw [if_pos rfl, sumTo_cg (g := fun _ => 0) (fun j hj => if_neg (by omega)), sumTo_zero]
theorem popN_bits {a : Nat} : popN a = sumTo (fun y => if a.testBit y = true then 1 else 0) 20 := sumTo_cg (fun j _ => by
  show a / 2 ^ j &&& 1 = _
  by_cases c : a / 2 ^ j &&& 1 = 1
  · rw [if_pos (testBit_of c), c]
  · rw [if_neg (by rw [testBit_no c]; decide)]
    rw [Nat.and_one_is_mod] at c ⊢
    omega)
theorem sumTo_cut {f : Nat → Nat} {n : Nat} : ∀ {m : Nat}, n ≤ m → (∀ j, n ≤ j → f j = 0) → sumTo f m = sumTo f n
  | 0, h, _ => by rw [show n = 0 by omega]
  | m + 1, h, hz => by
    rcases Nat.lt_or_ge m n with q | q
    · rw [show m + 1 = n by omega]
    · rw [sumTo, hz m q, sumTo_cut q hz]; rfl
theorem popN_lig {kk p n x : Nat} {w : Nat → Nat} (hn : n ≤ 8) : popN (ligS kk p w n x) = sumTo (fun y => if tls kk p (w x) (w y) = true then 1 else 0) n := by
  rw [popN_bits, sumTo_cut (n := n) (by omega) (fun j hj => if_neg (by rw [ligS_bit, decide_eq_false (by omega), Bool.false_and]; decide))]
  exact sumTo_cg (fun j hj => by rw [ligS_bit, decide_eq_true hj, Bool.true_and])
theorem tls_no {kk p a : Nat} : tls kk p a a = false := tls_f (fun q => Nat.lt_irrefl _ q.1)
