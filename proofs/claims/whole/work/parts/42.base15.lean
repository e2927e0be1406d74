theorem fA_0 {G old : Nat → Int32} : fA 0 G old = old := by funext z; unfold fA; rw [if_neg (Nat.not_lt_zero _)]
theorem fA_at {n z : Nat} {G old : Nat → Int32} (h : z < n) : fA n G old z = G z := if_pos h
theorem fA_succ {n : Nat} {G old : Nat → Int32} {v : Int32} (h : v = G n) : upd (fA n G old) n v = fA (n + 1) G old := by
  funext z; unfold upd fA
  by_cases c : z = n
  · rw [if_pos c, if_pos (by omega), h, c]
  · rw [if_neg c]
    by_cases d : z < n
    · rw [if_pos d, if_pos (by omega)]
    · rw [if_neg d, if_neg (by omega)]
theorem fA_congr {n : Nat} {G H old : Nat → Int32} (h : ∀ z, z < n → G z = H z) : fA n G old = fA n H old := by
  funext z; unfold fA
  by_cases d : z < n
  · rw [if_pos d, if_pos d, h z d]
  · rw [if_neg d, if_neg d]
theorem fA_step {F : Nat → Nat} {n t s a b : Nat} {old : Nat → Int32} {v : Int32} (hb : b < n) (h : v = fM F n t s a (b + 1) b) : upd (fA n (fM F n t s a b) old) b v = fA n (fM F n t s a (b + 1)) old := by
  funext z; unfold upd fA
  by_cases c : z = b
  · rw [if_pos c, if_pos (by omega), h, c]
  · rw [if_neg c]
    by_cases d : z < n
    · rw [if_pos d, if_pos d, fM_o c]
    · rw [if_neg d, if_neg d]
theorem fD_0 {F : Nat → Nat} {n t z : Nat} : fD F n t 0 z = if z = t then 0 else -9 := by
  unfold fD
  show oN (fstTo (fun k => (wth F n (2 ^ t) k).testBit z) 1) = _
  by_cases c : z = t
  · rw [if_pos c, show fstTo (fun k => (wth F n (2 ^ t) k).testBit z) 1 = some 0 from fst_some.mpr ⟨by omega, by show (2 ^ t).testBit z = true; rw [c, Nat.testBit_two_pow]; simp, fun j hj => by omega⟩]
    rfl
  · rw [if_neg c, show fstTo (fun k => (wth F n (2 ^ t) k).testBit z) 1 = none from fst_none.mpr (fun j hj => by
      obtain rfl : j = 0 := by omega
      show (2 ^ t).testBit z = false
      rw [Nat.testBit_two_pow]
      simpa using fun e => c e.symm)]
    rfl
