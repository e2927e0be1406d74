theorem got_no {k p k2 p2 n a y : Nat} {w : Nat → Nat} (h : ∀ z, z < n → ¬ (a.testBit z = true ∧ alk k p (w z) (w y) = true ∧ tls k2 p2 (w y) (w z) = true)) : a &&& alkS k p w n y &&& ligS k2 p2 w n y = 0 := by
  apply Nat.eq_of_testBit_eq
  intro i
  rw [Nat.testBit_and, Nat.testBit_and, alkS_bit, ligS_bit, Nat.zero_testBit]
  by_cases hi : i < n
  · have h1 := h i hi
    rw [alk_comm] at h1
    rw [decide_eq_true hi]
    revert h1
    cases a.testBit i <;> cases alk k p (w y) (w i) <;> cases tls k2 p2 (w y) (w i) <;> simp
  · rw [decide_eq_false hi]; simp
theorem got_t {k p k2 p2 n a y z : Nat} {w : Nat → Nat} (hz : z < n) (h1 : a.testBit z = true) (h2 : alk k p (w z) (w y) = true) (h3 : tls k2 p2 (w y) (w z) = true) : ¬ a &&& alkS k p w n y &&& ligS k2 p2 w n y = 0 := by
  intro e
  have h := congrArg (fun q => q.testBit z) e
  simp only [Nat.testBit_and, alkS_bit, ligS_bit, Nat.zero_testBit, decide_eq_true hz, h1, h3, Bool.true_and, Bool.and_true] at h
  rw [alk_comm, h2] at h
  cases h
/-- gain, while a round's weights are looked through -/
def gnI (b : Nat × Nat) (f : Nat → Nat) (s i : Nat) : Nat × Nat := if b.1 < maxTo f i then (maxTo f i, s + 1) else b
theorem gi_0 {b : Nat × Nat} {f : Nat → Nat} {s : Nat} : gnI b f s 0 = b := if_neg (Nat.not_lt_zero _)
theorem gi_same {b : Nat × Nat} {f : Nat → Nat} {s i : Nat} (h : f i ≤ (gnI b f s i).1) : gnI b f s (i + 1) = gnI b f s i := by
  unfold gnI at h ⊢
  rw [maxTo]
  by_cases c : b.1 < maxTo f i
  · rw [if_pos c] at h ⊢
    simp only at h
    rw [Nat.max_eq_left h, if_pos c]
  · rw [if_neg c] at h ⊢
    rw [if_neg (by omega)]
theorem gi_new {b : Nat × Nat} {f : Nat → Nat} {s i : Nat} (h : (gnI b f s i).1 < f i) : gnI b f s (i + 1) = (f i, s + 1) := by
  unfold gnI at h ⊢
  rw [maxTo]
  by_cases c : b.1 < maxTo f i
  · rw [if_pos c] at h
    simp only at h
    rw [if_pos (by omega), Nat.max_eq_right (by omega)]
  · rw [if_neg c] at h
    rw [if_pos (by omega), Nat.max_eq_right (by omega)]
theorem gi_le {b : Nat × Nat} {f : Nat → Nat} {s i m : Nat} (hb : b.1 ≤ m) (hf : ∀ j, f j ≤ m) : (gnI b f s i).1 ≤ m := by
  unfold gnI
  split
  · exact maxTo_le hf i
  · exact hb
