theorem cp_f {α : Type} {a b : Bool} {X F : α} (h : a = false ∨ b = false) : (if a = true then (if b = true then X else F) else F) = F := by
  rcases h with h | h <;> simp [h]
/-- x cells copied from a to b, from the first on, or from the last on -/
def cpF (f : Nat → Int32) (a b x : Nat) : Nat → Int32 := fun z => if b ≤ z ∧ z < b + x then f (a + (z - b)) else f z
def cpB (f : Nat → Int32) (a b n x : Nat) : Nat → Int32 := fun z => if b + n ≤ z + x ∧ z < b + n ∧ b ≤ z then f (a + (z - b)) else f z
theorem cpF_0 {f : Nat → Int32} {a b : Nat} : cpF f a b 0 = f := by
  funext z; unfold cpF; rw [if_neg (by omega)]
theorem cpB_0 {f : Nat → Int32} {a b n : Nat} : cpB f a b n 0 = f := by
  funext z; unfold cpB; rw [if_neg (by omega)]
theorem cpF_step {f : Nat → Int32} {a b x : Nat} (h : ¬ (b ≤ a + x ∧ a + x < b + x)) : upd (cpF f a b x) (b + x) (cpF f a b x (a + x)) = cpF f a b (x + 1) := by
  funext z
  have e : cpF f a b x (a + x) = f (a + x) := if_neg h
  rw [e]
  unfold upd cpF
  by_cases c : z = b + x
  · rw [if_pos c, if_pos (by omega), show a + (z - b) = a + x by omega]
  · rw [if_neg c]
    by_cases c2 : b ≤ z ∧ z < b + x
    · rw [if_pos c2, if_pos (by omega)]
    · rw [if_neg c2, if_neg (by omega)]
theorem cpB_step {f : Nat → Int32} {a b n x : Nat} (hx : x < n) (h : ¬ (b + n ≤ a + (n - 1 - x) + x ∧ a + (n - 1 - x) < b + n ∧ b ≤ a + (n - 1 - x))) : upd (cpB f a b n x) (b + (n - 1 - x)) (cpB f a b n x (a + (n - 1 - x))) = cpB f a b n (x + 1) := by
  funext z
  have e : cpB f a b n x (a + (n - 1 - x)) = f (a + (n - 1 - x)) := if_neg h
  rw [e]
  unfold upd cpB
  by_cases c : z = b + (n - 1 - x)
  · rw [if_pos c, if_pos (by omega), show a + (z - b) = a + (n - 1 - x) by omega]
  · rw [if_neg c]
    by_cases c2 : b + n ≤ z + x ∧ z < b + n ∧ b ≤ z
    · rw [if_pos c2, if_pos (by omega)]
    · rw [if_neg c2, if_neg (by omega)]
theorem cpF_all {f : Nat → Int32} {a b n : Nat} (z : Nat) : cpF f a b n z = if b ≤ z ∧ z < b + n then f (a + (z - b)) else f z := rfl
theorem cpB_all {f : Nat → Int32} {a b n : Nat} (z : Nat) : cpB f a b n n z = if b ≤ z ∧ z < b + n then f (a + (z - b)) else f z := by
  unfold cpB
  by_cases c : b ≤ z ∧ z < b + n
  · rw [if_pos c, if_pos (by omega)]
  · rw [if_neg c, if_neg (by omega)]
theorem hmc_cpy {fil : Nat → Bool} {len : Nat → Nat} {cc : Nat → Nat → Int32} {mc f : Nat → Int32} (hln : ∀ k, len k ≤ 40) (hmc : ∀ k, k < 4 → fil k = true → ∀ j, j < len k → mc (40 * k + j) = cc k j) {a b i j n : Nat} (ha : a < 4) (hf : fil a = true) (h1 : i + n ≤ len a) (h2 : j + n ≤ len b) (h : ∀ z, f z = if 40 * b + j ≤ z ∧ z < 40 * b + j + n then mc (40 * a + i + (z - (40 * b + j))) else mc z) : ∀ k, k < 4 → fil k = true → ∀ q, q < len k → f (40 * k + q) = upr cc b (va_cpy (cc a) (cc b) i j n) k q := by
  intro k hk hfk q hq
  have l1 := hln k
  have l2 := hln b
  rw [h]
  unfold upr va_cpy
  by_cases e : k = b
  · subst e
    rw [if_pos rfl]
    by_cases c : j ≤ q ∧ q < j + n
    · rw [if_pos (by omega), if_pos c, show 40 * a + i + (40 * k + q - (40 * k + j)) = 40 * a + (i + (q - j)) by omega]
      exact hmc a ha hf _ (by omega)
    · rw [if_neg (by omega), if_neg c]; exact hmc k hk hfk q hq
  · rw [if_neg e, if_neg (by omega)]; exact hmc k hk hfk q hq
