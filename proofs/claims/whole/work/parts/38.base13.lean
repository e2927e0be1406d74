/-! far: things behind steps of alike, as the model keeps them -/
def fD (F : Nat → Nat) (n t s z : Nat) : Int32 := oN (fstTo (fun k => (wth F n (2 ^ t) k).testBit z) (s + 1))
theorem fst_le {p : Nat → Bool} {n m k : Nat} (h : fstTo p n = some k) (hm : n ≤ m) : fstTo p m = some k := by
  have h1 := fst_some.mp h
  exact fst_some.mpr ⟨by omega, h1.2⟩
theorem wth_mono {F : Nat → Nat} {n s0 z : Nat} : ∀ {k m : Nat}, k ≤ m → (wth F n s0 k).testBit z = true → (wth F n s0 m).testBit z = true
  | k, 0, h, hz => by
    obtain rfl : k = 0 := by omega
    exact hz
  | k, m + 1, h, hz => by
    by_cases c : k = m + 1
    · subst c; exact hz
    · rw [wth, Nat.testBit_or, wth_mono (show k ≤ m by omega) hz]; rfl
/-- not behind s steps: no step up to s -/
theorem fD_none {F : Nat → Nat} {n t s z : Nat} (hs : s < 2 ^ 30) : fD F n t s z = -9 ↔ (wth F n (2 ^ t) s).testBit z = false := by
  unfold fD
  cases q : fstTo (fun k => (wth F n (2 ^ t) k).testBit z) (s + 1) with
  | none => exact ⟨fun _ => fst_none.mp q s (by omega), fun _ => rfl⟩
  | some k =>
    have h := fst_some.mp q
    have h9 : k < s + 1 := h.1
    constructor
    · intro e
      exact absurd e (oN_ne (by omega))
    · intro e
      rw [wth_mono (show k ≤ s by omega) h.2.1] at e
      cases e
theorem fD_at {F : Nat → Nat} {n t s z : Nat} (hs : s < 2 ^ 30) : fD F n t s z = nI s ↔ ((wth F n (2 ^ t) s).testBit z = true ∧ ∀ k, k < s → (wth F n (2 ^ t) k).testBit z = false) := by
  unfold fD
  cases q : fstTo (fun k => (wth F n (2 ^ t) k).testBit z) (s + 1) with
  | none =>
    have h := fst_none.mp q s (by omega)
    constructor
    · intro e; exact absurd e.symm (oN_ne (by omega))
    · intro e; rw [e.1] at h; cases h
  | some k =>
    have h := fst_some.mp q
    have h9 : k < s + 1 := h.1
    constructor
    · intro e
      obtain rfl : k = s := (nI_eq (by omega) (by omega)).mp e
      exact h.2
    · intro e
      by_cases c : k = s
      · rw [c]; rfl
      · have h2 := h.2.1
        rw [e.2 k (by omega)] at h2
        cases h2
/-- one more step: what was behind s stays, what is newly behind s + 1 is s + 1 -/
theorem fD_old {F : Nat → Nat} {n t s z : Nat} (h : (wth F n (2 ^ t) s).testBit z = true) : fD F n t (s + 1) z = fD F n t s z := by
  unfold fD
  cases q : fstTo (fun k => (wth F n (2 ^ t) k).testBit z) (s + 1) with
  | none =>
    have h2 := fst_none.mp q s (by omega)
    rw [h] at h2
    cases h2
  | some k => rw [fst_le q (by omega)]
theorem fD_new {F : Nat → Nat} {n t s z : Nat} (hs : s + 1 < 2 ^ 30) (h : (wth F n (2 ^ t) s).testBit z = false) : fD F n t (s + 1) z = if (wth F n (2 ^ t) (s + 1)).testBit z = true then nI (s + 1) else -9 := by
  by_cases c : (wth F n (2 ^ t) (s + 1)).testBit z = true
  · rw [if_pos c]
    refine (fD_at hs).mpr ⟨c, fun k hk => ?_⟩
    cases q : (wth F n (2 ^ t) k).testBit z with
    | false => rfl
    | true => rw [wth_mono (show k ≤ s by omega) q] at h; cases h
  · rw [if_neg c]
    exact (fD_none hs).mpr (by simpa using c)
/-- a thing newly behind s + 1 is alike to one that is behind s and behind no less -/
theorem wth_new {F : Nat → Nat} {n t s z : Nat} (h : (wth F n (2 ^ t) s).testBit z = false) : (wth F n (2 ^ t) (s + 1)).testBit z = true ↔ ∃ x, x < n ∧ (wth F n (2 ^ t) s).testBit x = true ∧ (∀ k, k < s → (wth F n (2 ^ t) k).testBit x = false) ∧ (F x).testBit z = true := by
  rw [wth, Nat.testBit_or, h, Bool.false_or, any_bit]
  constructor
  · rintro ⟨x, h1, h2, h3⟩
    refine ⟨x, h1, h2, fun k hk => ?_, h3⟩
    cases q : (wth F n (2 ^ t) k).testBit x with
    | false => rfl
    | true =>
      have h4 : (wth F n (2 ^ t) (k + 1)).testBit z = true := by
        rw [wth, Nat.testBit_or, any_bit.mpr ⟨x, h1, q, h3⟩, Bool.or_true]
      rw [wth_mono (show k + 1 ≤ s by omega) h4] at h
      cases h
  · rintro ⟨x, h1, h2, _, h3⟩
    exact ⟨x, h1, h2, h3⟩
