/-! the pictures' own words: Nats -/
/-- an int that is a number below n -/
def inR (x : Int32) (n : Nat) : Bool := decide (¬ x < 0 ∧ ¬ nI n ≤ x)
theorem inR_f0 {x : Int32} {n : Nat} (h : x < 0) : inR x n = false := decide_eq_false (fun q => q.1 h)
theorem inR_f1 {x : Int32} {n : Nat} (h : nI n ≤ x) : inR x n = false := decide_eq_false (fun q => q.2 h)
theorem inR_t {x : Int32} {n : Nat} (h0 : ¬ x < 0) (h : ¬ nI n ≤ x) : inR x n = true := decide_eq_true ⟨h0, h⟩
theorem inR_of {x : Int32} {n : Nat} (h : inR x n = true) (hn : n < 2 ^ 31) : ∃ j : Nat, j < n ∧ x = nI j := by
  have h1 := of_decide_eq_true h
  rcases pk_ix x hn with q | q | q
  · exact absurd q h1.1
  · exact absurd q h1.2
  · exact q
theorem inR_N {j n : Nat} (hj : j < n) (hn : n < 2 ^ 31) : inR (nI j) n = true := inR_t (nI_pos (by omega)) (fun q => by have := (nI_leI hn (by omega)).mp q; omega)
theorem inR_no {j n : Nat} (hj : j < n) (hn : n < 2 ^ 31) {P : Prop} (h : inR (nI j) n = false) : P := by rw [inR_N hj hn] at h; cases h
theorem inR_big {x : Int32} {n m : Nat} (hm : n ≤ m) (hb : m < 2 ^ 31) (h : ¬ nI n ≤ x) {P : Prop} (h2 : nI m ≤ x) : P := absurd (Int32.le_trans (nI_le hm hb) h2) h
/-- the index that an int names -/
def tn (x : Int32) : Nat := x.toNatClampNeg
theorem tn_N {j : Nat} (h : j < 2 ^ 31) : tn (nI j) = j := nI_clamp h
def times (k p : Nat) : Nat := if k = 0 then p else 2 * p
theorem times_le {k p : Nat} (hp : p ≤ 20) : times k p ≤ 40 := by unfold times; split <;> omega
theorem times_pos {k p : Nat} (hp : 1 ≤ p) : 1 ≤ times k p := by unfold times; split <;> omega
theorem mulb {x y : Nat} (hx : x ≤ 99999) (hy : y ≤ 99) : x * y < 2 ^ 31 := Nat.lt_of_le_of_lt (Nat.mul_le_mul hx hy) (by decide)
def tls (k p a b : Nat) : Bool := decide (b < a ∧ (b < (a - b) * times k p ∨ (k = 2 ∧ (a - b) * times k p = b)))
theorem tls_iff {k p a b : Nat} : tls k p a b = true ↔ b < a ∧ (b < (a - b) * times k p ∨ (k = 2 ∧ (a - b) * times k p = b)) := by simp [tls]
theorem tls_f {k p a b : Nat} (h : ¬ (b < a ∧ (b < (a - b) * times k p ∨ (k = 2 ∧ (a - b) * times k p = b)))) : tls k p a b = false := by simp [tls] at h ⊢; exact h
def alk (k p a b : Nat) : Bool := !tls k p a b && !tls k p b a
theorem alk_t {k p a b : Nat} (h1 : tls k p a b = false) (h2 : tls k p b a = false) : alk k p a b = true := by simp [alk, h1, h2]
theorem alk_f1 {k p a b : Nat} (h1 : tls k p a b = true) : alk k p a b = false := by simp [alk, h1]
theorem alk_f2 {k p a b : Nat} (h1 : tls k p b a = true) : alk k p a b = false := by simp [alk, h1]
def sumTo (f : Nat → Nat) : Nat → Nat
  | 0 => 0
  | k + 1 => sumTo f k + f k
def orTo (f : Nat → Nat) : Nat → Nat
  | 0 => 0
  | k + 1 => orTo f k ||| f k
def maxTo (f : Nat → Nat) : Nat → Nat
  | 0 => 0
  | k + 1 => max (maxTo f k) (f k)
def allTo (p : Nat → Bool) : Nat → Bool
  | 0 => true
  | k + 1 => allTo p k && p k
theorem allTo_iff {p : Nat → Bool} : ∀ {n : Nat}, allTo p n = true ↔ ∀ j, j < n → p j = true
  | 0 => by simp [allTo]
  | n + 1 => by
    rw [allTo, Bool.and_eq_true, allTo_iff]
    constructor
    · rintro ⟨h1, h2⟩ j hj
      rcases Nat.lt_or_ge j n with q | q
      · exact h1 j q
      · rw [show j = n by omega]; exact h2
    · intro h
      exact ⟨fun j hj => h j (by omega), h n (by omega)⟩
theorem allTo_no {p : Nat → Bool} {n j : Nat} (hj : j < n) (h : p j = false) : allTo p n = false := by
  cases q : allTo p n with
  | false => rfl
  | true => rw [allTo_iff.mp q j hj] at h; cases h
theorem maxTo_le {f : Nat → Nat} {b : Nat} (h : ∀ j, f j ≤ b) : ∀ n, maxTo f n ≤ b
  | 0 => Nat.zero_le _
  | n + 1 => Nat.max_le.mpr ⟨maxTo_le h n, h n⟩
theorem sumTo_le {f : Nat → Nat} {b : Nat} (h : ∀ j, f j ≤ b) : ∀ n, sumTo f n ≤ n * b
  | 0 => Nat.zero_le _
  | n + 1 => by
    have h1 := sumTo_le h n
    have h2 := h n
    rw [sumTo, Nat.succ_mul]
    omega
theorem orTo_lt {f : Nat → Nat} {b : Nat} (h : ∀ j, f j < 2 ^ b) : ∀ n, orTo f n < 2 ^ b
  | 0 => Nat.two_pow_pos b
  | n + 1 => Nat.or_lt_two_pow (orTo_lt h n) (h n)
theorem orTo_lt' {f : Nat → Nat} {b : Nat} : ∀ {n : Nat}, (∀ j, j < n → f j < 2 ^ b) → orTo f n < 2 ^ b
  | 0, _ => Nat.two_pow_pos b
  | n + 1, h => Nat.or_lt_two_pow (orTo_lt' (fun j hj => h j (by omega))) (h n (by omega))
theorem orTo_bit {f : Nat → Nat} {i : Nat} : ∀ {n : Nat}, (orTo f n).testBit i = true ↔ ∃ j, j < n ∧ (f j).testBit i = true
  | 0 => by simp [orTo]
  | n + 1 => by
    rw [orTo, Nat.testBit_or, Bool.or_eq_true, orTo_bit]
    constructor
    · rintro (⟨j, h1, h2⟩ | h)
      · exact ⟨j, by omega, h2⟩
      · exact ⟨n, by omega, h⟩
    · rintro ⟨j, h1, h2⟩
      rcases Nat.lt_or_ge j n with q | q
      · exact Or.inl ⟨j, q, h2⟩
      · rw [show j = n by omega] at h2; exact Or.inr h2
def wfT (n : Nat) (w : Nat → Nat) : Prop := n ≤ 8 ∧ (∀ j, w j ≤ 999) ∧ ∀ j, j < n → 1 ≤ w j
def wfH (hn : Nat) (kd pt : Nat → Nat) : Prop := hn ≤ 6 ∧ (∀ j, kd j ≤ 2) ∧ (∀ j, pt j ≤ 20) ∧ ∀ j, j < hn → 1 ≤ pt j
theorem testBit_of {a b : Nat} (h : a / 2 ^ b &&& 1 = 1) : a.testBit b = true := by
  rw [Nat.testBit_eq_decide_div_mod_eq, ← Nat.and_one_is_mod]; exact decide_eq_true h
theorem testBit_no {a b : Nat} (h : ¬ a / 2 ^ b &&& 1 = 1) : a.testBit b = false := by
  rw [Nat.testBit_eq_decide_div_mod_eq, ← Nat.and_one_is_mod]; exact decide_eq_false h
theorem divp_lt {a b c : Nat} (h : a < c) : a / 2 ^ b < c := Nat.lt_of_le_of_lt (Nat.div_le_self _ _) h
theorem and1_lt (a : Nat) : a &&& 1 < 2 ^ 31 := by rw [Nat.and_one_is_mod]; omega
