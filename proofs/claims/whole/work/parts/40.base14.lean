/-- far, while a step's things up to a, and of a's pairs those up to b, are looked through -/
def fB (F : Nat → Nat) (n t s a b z : Nat) : Bool := !allTo (fun x => !(decide (x < a ∨ (x = a ∧ z < b)) && decide (fD F n t s x = nI s) && (F x).testBit z)) n
def fM (F : Nat → Nat) (n t s a b z : Nat) : Int32 := if (wth F n (2 ^ t) s).testBit z = false ∧ fB F n t s a b z = true then nI (s + 1) else fD F n t s z
theorem fB_iff {F : Nat → Nat} {n t s a b z : Nat} : fB F n t s a b z = true ↔ ∃ x, x < n ∧ (x < a ∨ (x = a ∧ z < b)) ∧ fD F n t s x = nI s ∧ (F x).testBit z = true := by
  unfold fB
  constructor
  · intro h
    rw [Bool.not_eq_true'] at h
    by_cases c : ∃ x, x < n ∧ (x < a ∨ (x = a ∧ z < b)) ∧ fD F n t s x = nI s ∧ (F x).testBit z = true
    · exact c
    · exfalso
      rw [allTo_iff.mpr (fun x hx => ?_)] at h
      · cases h
      · cases q : (decide (x < a ∨ (x = a ∧ z < b)) && decide (fD F n t s x = nI s) && (F x).testBit z) with
        | false => rfl
        | true =>
          rw [Bool.and_eq_true, Bool.and_eq_true, decide_eq_true_eq, decide_eq_true_eq] at q
          exact absurd ⟨x, hx, q.1.1, q.1.2, q.2⟩ c
  · rintro ⟨x, h1, h2, h3, h4⟩
    rw [Bool.not_eq_true']
    exact allTo_no h1 (by rw [decide_eq_true h2, decide_eq_true h3, h4]; rfl)
theorem fM_congr {F : Nat → Nat} {n t s a b c d z : Nat} (h : fB F n t s a b z = true ↔ fB F n t s c d z = true) : fM F n t s a b z = fM F n t s c d z := by
  unfold fM
  rw [show fB F n t s a b z = fB F n t s c d z from Bool.eq_iff_iff.mpr h]
theorem fM_00 {F : Nat → Nat} {n t s z : Nat} : fM F n t s 0 0 z = fD F n t s z := by
  unfold fM
  rw [if_neg]
  rintro ⟨-, h⟩
  obtain ⟨x, -, h2, -⟩ := fB_iff.mp h
  omega
theorem fM_row {F : Nat → Nat} {n t s a z : Nat} (hz : z < n) : fM F n t s a n z = fM F n t s (a + 1) 0 z := fM_congr (by
  rw [fB_iff, fB_iff]
  constructor
  · rintro ⟨x, h1, h2, h3⟩; exact ⟨x, h1, by omega, h3⟩
  · rintro ⟨x, h1, h2, h3⟩; exact ⟨x, h1, by omega, h3⟩)
theorem fM_skip {F : Nat → Nat} {n t s a b z : Nat} (h : ¬ fD F n t s a = nI s) : fM F n t s a b z = fM F n t s (a + 1) 0 z := fM_congr (by
  rw [fB_iff, fB_iff]
  constructor
  · rintro ⟨x, h1, h2, h3⟩; exact ⟨x, h1, by omega, h3⟩
  · rintro ⟨x, h1, h2, h3⟩
    by_cases c : x = a
    · subst c; exact absurd h3.1 h
    · exact ⟨x, h1, by omega, h3⟩)
theorem fM_end {F : Nat → Nat} {n t s z : Nat} (hs : s + 1 < 2 ^ 30) : fM F n t s n 0 z = fD F n t (s + 1) z := by
  unfold fM
  cases q : (wth F n (2 ^ t) s).testBit z with
  | true => rw [if_neg (fun z => by cases z.1), fD_old q]
  | false =>
    rw [fD_new hs q]
    have e : fB F n t s n 0 z = true ↔ (wth F n (2 ^ t) (s + 1)).testBit z = true := by
      rw [wth_new q, fB_iff]
      constructor
      · rintro ⟨x, h1, h2, h3, h4⟩
        obtain ⟨h5, h6⟩ := (fD_at (by omega)).mp h3
        exact ⟨x, h1, h5, h6, h4⟩
      · rintro ⟨x, h1, h2, h3, h4⟩
        exact ⟨x, h1, by omega, (fD_at (by omega)).mpr ⟨h2, h3⟩, h4⟩
    by_cases c : (wth F n (2 ^ t) (s + 1)).testBit z = true
    · rw [if_pos ⟨rfl, e.mpr c⟩, if_pos c]
    · rw [if_neg (fun y => c (e.mp y.2)), if_neg c]
      exact (fD_none (by omega)).mpr q
theorem fM_self {F : Nat → Nat} {n t s a b z : Nat} (hs : s + 1 < 2 ^ 30) : fM F n t s a b z = nI s ↔ fD F n t s z = nI s := by
  unfold fM
  by_cases c : (wth F n (2 ^ t) s).testBit z = false ∧ fB F n t s a b z = true
  · rw [if_pos c]
    constructor
    · intro e
      have := (nI_eq (by omega) (by omega)).mp e
      omega
    · intro e
      rw [(fD_none (by omega)).mpr c.1] at e
      exact absurd e.symm (oN_ne (by omega))
  · rw [if_neg c]
theorem fM_none {F : Nat → Nat} {n t s a b z : Nat} (hs : s + 1 < 2 ^ 30) : fM F n t s a b z = -9 ↔ ((wth F n (2 ^ t) s).testBit z = false ∧ ¬ fB F n t s a b z = true) := by
  unfold fM
  by_cases c : (wth F n (2 ^ t) s).testBit z = false ∧ fB F n t s a b z = true
  · rw [if_pos c]
    exact ⟨fun e => absurd e (oN_ne (by omega)), fun e => absurd c.2 e.2⟩
  · rw [if_neg c, fD_none (by omega)]
    exact ⟨fun e => ⟨e, fun q => c ⟨e, q⟩⟩, fun e => e.1⟩
/-- b is looked at: what it holds behind -/
theorem fM_b {F : Nat → Nat} {n t s a b : Nat} (ha : a < n) (hs : s + 1 < 2 ^ 30) (hd : fD F n t s a = nI s) : fM F n t s a (b + 1) b = if fM F n t s a b b = -9 ∧ (F a).testBit b = true then nI (s + 1) else fM F n t s a b b := by
  have e : fB F n t s a (b + 1) b = true ↔ (fB F n t s a b b = true ∨ (F a).testBit b = true) := by
    rw [fB_iff, fB_iff]
    constructor
    · rintro ⟨x, h1, h2, h3, h4⟩
      by_cases c : x = a
      · subst c; exact Or.inr h4
      · exact Or.inl ⟨x, h1, by omega, h3, h4⟩
    · rintro (⟨x, h1, h2, h3, h4⟩ | h)
      · exact ⟨x, h1, by omega, h3, h4⟩
      · exact ⟨a, ha, by omega, hd, h⟩
  by_cases c : fM F n t s a b b = -9 ∧ (F a).testBit b = true
  · rw [if_pos c]
    have h1 := (fM_none hs).mp c.1
    unfold fM
    rw [if_pos ⟨h1.1, e.mpr (Or.inr c.2)⟩]
  · rw [if_neg c]
    by_cases d : (wth F n (2 ^ t) s).testBit b = false
    · by_cases f : fB F n t s a b b = true
      · unfold fM
        rw [if_pos ⟨d, e.mpr (Or.inl f)⟩, if_pos ⟨d, f⟩]
      · have g : ¬ (F a).testBit b = true := fun q => c ⟨(fM_none hs).mpr ⟨d, f⟩, q⟩
        exact fM_congr ⟨fun q => ((e.mp q).resolve_right g), fun q => absurd q f⟩
    · unfold fM
      rw [if_neg (fun q => d q.1), if_neg (fun q => d q.1)]
theorem fM_o {F : Nat → Nat} {n t s a b z : Nat} (h : ¬ z = b) : fM F n t s a (b + 1) z = fM F n t s a b z := fM_congr (by
  rw [fB_iff, fB_iff]
  constructor
  · rintro ⟨x, h1, h2, h3⟩; exact ⟨x, h1, by omega, h3⟩
  · rintro ⟨x, h1, h2, h3⟩; exact ⟨x, h1, by omega, h3⟩)
/-- the array: below n, and the rest as it was -/
def fA (n : Nat) (G : Nat → Int32) (old : Nat → Int32) : Nat → Int32 := fun z => if z < n then G z else old z
