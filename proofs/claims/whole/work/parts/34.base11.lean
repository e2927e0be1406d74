theorem st_t {k p n a y : Nat} {w : Nat → Nat} (h : ∀ z, z < n → a.testBit z = true ∨ tls k p (w y) (w z) = false) : sdiff (ligS k p w n y) a = 0 := by
  apply Nat.eq_of_testBit_eq
  intro i
  rw [sdiff_bit, ligS_bit, Nat.zero_testBit]
  by_cases hi : i < n
  · rcases h i hi with q | q <;> simp [q]
  · rw [decide_eq_false hi]; simp
theorem st_f {k p n a y z : Nat} {w : Nat → Nat} (hz : z < n) (h1 : a.testBit z = false) (h2 : tls k p (w y) (w z) = true) : ¬ sdiff (ligS k p w n y) a = 0 := by
  intro e
  have h := congrArg (fun q => q.testBit z) e
  simp only [sdiff_bit, ligS_bit, Nat.zero_testBit, decide_eq_true hz, h1, h2] at h
  cases h
theorem bit0_no {a b : Nat} (h : a / 2 ^ b &&& 1 = 0) : a.testBit b = false := testBit_no (by omega)
theorem bit0_t {a b : Nat} (h : 0 < a / 2 ^ b &&& 1) : a.testBit b = true := testBit_of (by have := and1_lt (a / 2 ^ b); rw [Nat.and_one_is_mod] at h ⊢; omega)
