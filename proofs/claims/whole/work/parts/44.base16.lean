/-- noon: far is no -9 and at most k, just where the thing is behind min k n steps -/
theorem fD_le {F : Nat → Nat} {n t z k : Nat} (hn : n < 2 ^ 30) (hk : k < 2 ^ 30) (h : ¬ fD F n t n z = -9) : fD F n t n z ≤ nI k ↔ (wth F n (2 ^ t) (min k n)).testBit z = true := by
  unfold fD at h ⊢
  cases q : fstTo (fun k => (wth F n (2 ^ t) k).testBit z) (n + 1) with
  | none => rw [q] at h; exact absurd rfl h
  | some d =>
    have h1 := fst_some.mp q
    have h9 : d < n + 1 := h1.1
    show nI d ≤ nI k ↔ _
    rw [nI_leI (by omega) (by omega)]
    constructor
    · intro e; exact wth_mono (by omega) h1.2.1
    · intro e
      rcases Nat.lt_or_ge k d with c | c
      · have := h1.2.2 (min k n) (by omega)
        rw [e] at this
        cases this
      · exact c
theorem fD_no {F : Nat → Nat} {n t z k : Nat} (hn : n < 2 ^ 30) (h : fD F n t n z = -9) : (wth F n (2 ^ t) (min k n)).testBit z = false := by
  have h1 := (fD_none hn).mp h
  cases q : (wth F n (2 ^ t) (min k n)).testBit z with
  | false => rfl
  | true => rw [wth_mono (Nat.min_le_right k n) q] at h1; cases h1
/-- a set below n, bit by bit -/
theorem or_self {a n : Nat} (h : a < 2 ^ n) : orTo (fun z => if a.testBit z = true then 2 ^ z else 0) n = a := by
  apply Nat.eq_of_testBit_eq
  intro i
  rw [orIf_bit (c := fun z => a.testBit z)]
  by_cases c : i < n
  · rw [decide_eq_true c, Bool.true_and]
  · rw [decide_eq_false c, Bool.false_and]
    exact (Nat.testBit_lt_two_pow (Nat.lt_of_lt_of_le h (Nat.pow_le_pow_right (by decide) (by omega)))).symm
theorem wth_ltn {k p n x : Nat} {w : Nat → Nat} (hx : x < n) : ∀ m, wth (alkS k p w n) n (2 ^ x) m < 2 ^ n
  | 0 => Nat.pow_lt_pow_right (by decide) hx
  | m + 1 => Nat.or_lt_two_pow (wth_ltn hx m) (orTo_lt' (fun j hj => by split; exact orTo_lt' (fun i hi => by unfold alkF; split; exact Nat.pow_lt_pow_right (by decide) hi; exact pow_pos' n); exact pow_pos' n))
