/-- no thing is first reached behind n steps: sets grow by one at least -/
theorem sum_min {f : Nat → Nat} {n : Nat} (h1 : ∀ z, f z ≤ 1) (h0 : ∀ z, n ≤ z → f z = 0) : ∀ m, sumTo f m ≤ min m n
  | 0 => Nat.zero_le _
  | m + 1 => by
    have h := sum_min h1 h0 m
    rw [sumTo]
    rcases Nat.lt_or_ge m n with c | c
    · have := h1 m; omega
    · have := h0 m c; omega
theorem pop_le_n {a n : Nat} (h : a < 2 ^ n) (hn : n ≤ 20) : popN a ≤ n := by
  have h2 := sum_min (f := fun k => a / 2 ^ k &&& 1) (n := n) (fun z => by show a / 2 ^ z &&& 1 ≤ 1; rw [Nat.and_one_is_mod]; omega) (fun z hz => by
    show a / 2 ^ z &&& 1 = 0
    rw [Nat.div_eq_of_lt (Nat.lt_of_lt_of_le h (Nat.pow_le_pow_right (by decide) hz))]
    rfl) 20
  show sumTo (fun k => a / 2 ^ k &&& 1) 20 ≤ n
  omega
theorem pop_more {a b i : Nat} (hi : i < 20) (hs : ∀ j, a.testBit j = true → b.testBit j = true) (h1 : b.testBit i = true) (h2 : a.testBit i = false) : popN a + 1 ≤ popN b := by
  have e : b = a ||| sdiff b a := by
    apply Nat.eq_of_testBit_eq
    intro j
    rw [Nat.testBit_or, sdiff_bit]
    have := hs j
    revert this
    cases a.testBit j <;> cases b.testBit j <;> simp
  have e2 : a &&& sdiff b a = 0 := by
    apply Nat.eq_of_testBit_eq
    intro j
    rw [Nat.testBit_and, sdiff_bit, Nat.zero_testBit]
    cases a.testBit j <;> simp
  have e3 := popN_or e2
  rw [← e] at e3
  have h4 := popN_pos (a := sdiff b a) hi (by rw [sdiff_bit, h1, h2]; rfl)
  omega
theorem wth_same {F : Nat → Nat} {n s0 s : Nat} (h : wth F n s0 (s + 1) = wth F n s0 s) : ∀ d, wth F n s0 (s + d) = wth F n s0 s
  | 0 => rfl
  | d + 1 => by
    have e := wth_same h d
    show wth F n s0 (s + d) ||| anyS F n (wth F n s0 (s + d)) = _
    rw [e]
    exact h
theorem wth_pop {F : Nat → Nat} {n t z d : Nat} (hlt : ∀ m, wth F n (2 ^ t) m < 2 ^ n) (hn : n ≤ 20) (h : ∀ k, k < d → (wth F n (2 ^ t) k).testBit z = false) (hz : (wth F n (2 ^ t) d).testBit z = true) : ∀ s, s ≤ d → s + 1 ≤ popN (wth F n (2 ^ t) s)
  | 0, _ => by
    have ht : (2 ^ t).testBit t = true := by rw [Nat.testBit_two_pow]; simp
    have h0 := hlt 0
    refine popN_pos (i := t) ?_ ht
    rcases Nat.lt_or_ge t 20 with c | c
    · exact c
    · have : 2 ^ n ≤ 2 ^ t := Nat.pow_le_pow_right (by decide) (by omega)
      have h1 : 2 ^ t < 2 ^ n := h0
      omega
  | s + 1, hs => by
    have ih := wth_pop hlt hn h hz s (by omega)
    by_cases c : ∀ j, (wth F n (2 ^ t) (s + 1)).testBit j = true → (wth F n (2 ^ t) s).testBit j = true
    · exfalso
      have e : wth F n (2 ^ t) (s + 1) = wth F n (2 ^ t) s := by
        apply Nat.eq_of_testBit_eq
        intro j
        cases q : (wth F n (2 ^ t) s).testBit j with
        | true => exact wth_mono (by omega) q
        | false =>
          cases r : (wth F n (2 ^ t) (s + 1)).testBit j with
          | false => rfl
          | true => rw [c j r] at q; cases q
      have e2 := wth_same e (d - s)
      rw [show s + (d - s) = d by omega] at e2
      rw [e2, h s (by omega)] at hz
      cases hz
    · obtain ⟨j, hj⟩ := Classical.not_forall.mp c
      have h1 : (wth F n (2 ^ t) (s + 1)).testBit j = true := Classical.byContradiction (fun q => hj (fun q2 => absurd q2 q))
      have h2 : (wth F n (2 ^ t) s).testBit j = false := by
        cases q : (wth F n (2 ^ t) s).testBit j with
        | false => rfl
        | true => exact absurd (fun _ => q) hj
      have hj20 : j < 20 := by
        rcases Nat.lt_or_ge j 20 with q | q
        · exact q
        · rw [Nat.testBit_lt_two_pow (Nat.lt_of_lt_of_le (hlt (s + 1)) (Nat.pow_le_pow_right (by decide) (by omega)))] at h1
          cases h1
      have := pop_more hj20 (fun i hi => wth_mono (show s ≤ s + 1 by omega) hi) h1 h2
      omega
theorem fst_n {F : Nat → Nat} {n t z : Nat} (hlt : ∀ m, wth F n (2 ^ t) m < 2 ^ n) (hn : n ≤ 20) : fstTo (fun s => (wth F n (2 ^ t) s).testBit z) (n + 1) = fstTo (fun s => (wth F n (2 ^ t) s).testBit z) n := by
  cases q : fstTo (fun s => (wth F n (2 ^ t) s).testBit z) (n + 1) with
  | none => exact (fst_none.mpr (fun j hj => fst_none.mp q j (by omega))).symm
  | some d =>
    have h := fst_some.mp q
    have h1 := wth_pop hlt hn h.2.2 h.2.1 d (Nat.le_refl _)
    have h2 := pop_le_n (hlt d) hn
    exact (fst_some.mpr ⟨by omega, h.2⟩).symm
