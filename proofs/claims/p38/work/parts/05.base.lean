/-! the pictures' own words: Nats -/
/-- an int that is a number below n -/
def inR (x : Int32) (n : Nat) : Bool := decide (¬ x < 0 ∧ ¬ nI n ≤ x)
theorem inR_f0 {x : Int32} {n : Nat} (h : x < 0) : inR x n = false := decide_eq_false (fun q => q.1 h)
theorem inR_f1 {x : Int32} {n : Nat} (h : nI n ≤ x) : inR x n = false := decide_eq_false (fun q => q.2 h)
theorem inR_t {x : Int32} {n : Nat} (h0 : ¬ x < 0) (h : ¬ nI n ≤ x) : inR x n = true := decide_eq_true ⟨h0, h⟩
theorem inR_of {x : Int32} {n : Nat} (h : inR x n = true) (hn : n < 2 ^ 31) : ∃ j : Nat, j < n ∧ x = nI j := by
  have h1 := of_decide_eq_true h
  rcases pk_ix x hn with q | q | q
  · exact absurd q h1.1
  · exact absurd q h1.2
  · exact q
theorem inR_N {j n : Nat} (hj : j < n) (hn : n < 2 ^ 31) : inR (nI j) n = true := inR_t (nI_pos (by omega)) (fun q => by have := (nI_leI hn (by omega)).mp q; omega)
theorem inR_no {j n : Nat} (hj : j < n) (hn : n < 2 ^ 31) {P : Prop} (h : inR (nI j) n = false) : P := by rw [inR_N hj hn] at h; cases h
theorem inR_big {x : Int32} {n m : Nat} (hm : n ≤ m) (hb : m < 2 ^ 31) (h : ¬ nI n ≤ x) {P : Prop} (h2 : nI m ≤ x) : P := absurd (Int32.le_trans (nI_le hm hb) h2) h
/-- the index that an int names -/
def tn (x : Int32) : Nat := x.toNatClampNeg
theorem tn_N {j : Nat} (h : j < 2 ^ 31) : tn (nI j) = j := nI_clamp h
def times (k p : Nat) : Nat := if k = 0 then p else 2 * p
theorem times_le {k p : Nat} (hp : p ≤ 20) : times k p ≤ 40 := by unfold times; split <;> omega
theorem times_pos {k p : Nat} (hp : 1 ≤ p) : 1 ≤ times k p := by unfold times; split <;> omega
theorem mulb {x y : Nat} (hx : x ≤ 99999) (hy : y ≤ 99) : x * y < 2 ^ 31 := Nat.lt_of_le_of_lt (Nat.mul_le_mul hx hy) (by decide)
def tls (k p a b : Nat) : Bool := decide (b < a ∧ (b < (a - b) * times k p ∨ (k = 2 ∧ (a - b) * times k p = b)))
theorem tls_iff {k p a b : Nat} : tls k p a b = true ↔ b < a ∧ (b < (a - b) * times k p ∨ (k = 2 ∧ (a - b) * times k p = b)) := by simp [tls]
theorem tls_f {k p a b : Nat} (h : ¬ (b < a ∧ (b < (a - b) * times k p ∨ (k = 2 ∧ (a - b) * times k p = b)))) : tls k p a b = false := by simp [tls] at h ⊢; exact h
def alk (k p a b : Nat) : Bool := !tls k p a b && !tls k p b a
theorem alk_t {k p a b : Nat} (h1 : tls k p a b = false) (h2 : tls k p b a = false) : alk k p a b = true := by simp [alk, h1, h2]
theorem alk_f1 {k p a b : Nat} (h1 : tls k p a b = true) : alk k p a b = false := by simp [alk, h1]
theorem alk_f2 {k p a b : Nat} (h1 : tls k p b a = true) : alk k p a b = false := by simp [alk, h1]
def sumTo (f : Nat → Nat) : Nat → Nat
  | 0 => 0
  | k + 1 => sumTo f k + f k
def orTo (f : Nat → Nat) : Nat → Nat
  | 0 => 0
  | k + 1 => orTo f k ||| f k
def maxTo (f : Nat → Nat) : Nat → Nat
  | 0 => 0
  | k + 1 => max (maxTo f k) (f k)
def allTo (p : Nat → Bool) : Nat → Bool
  | 0 => true
  | k + 1 => allTo p k && p k
theorem allTo_iff {p : Nat → Bool} : ∀ {n : Nat}, allTo p n = true ↔ ∀ j, j < n → p j = true
  | 0 => by simp [allTo]
  | n + 1 => by
    rw [allTo, Bool.and_eq_true, allTo_iff]
    constructor
    · rintro ⟨h1, h2⟩ j hj
      rcases Nat.lt_or_ge j n with q | q
      · exact h1 j q
      · rw [show j = n by omega]; exact h2
    · intro h
      exact ⟨fun j hj => h j (by omega), h n (by omega)⟩
theorem allTo_no {p : Nat → Bool} {n j : Nat} (hj : j < n) (h : p j = false) : allTo p n = false := by
  cases q : allTo p n with
  | false => rfl
  | true => rw [allTo_iff.mp q j hj] at h; cases h
theorem maxTo_le {f : Nat → Nat} {b : Nat} (h : ∀ j, f j ≤ b) : ∀ n, maxTo f n ≤ b
  | 0 => Nat.zero_le _
  | n + 1 => Nat.max_le.mpr ⟨maxTo_le h n, h n⟩
theorem sumTo_le {f : Nat → Nat} {b : Nat} (h : ∀ j, f j ≤ b) : ∀ n, sumTo f n ≤ n * b
  | 0 => Nat.zero_le _
  | n + 1 => by
    have h1 := sumTo_le h n
    have h2 := h n
    rw [sumTo, Nat.succ_mul]
    omega
theorem orTo_lt {f : Nat → Nat} {b : Nat} (h : ∀ j, f j < 2 ^ b) : ∀ n, orTo f n < 2 ^ b
  | 0 => Nat.two_pow_pos b
  | n + 1 => Nat.or_lt_two_pow (orTo_lt h n) (h n)
theorem orTo_lt' {f : Nat → Nat} {b : Nat} : ∀ {n : Nat}, (∀ j, j < n → f j < 2 ^ b) → orTo f n < 2 ^ b
  | 0, _ => Nat.two_pow_pos b
  | n + 1, h => Nat.or_lt_two_pow (orTo_lt' (fun j hj => h j (by omega))) (h n (by omega))
theorem orTo_bit {f : Nat → Nat} {i : Nat} : ∀ {n : Nat}, (orTo f n).testBit i = true ↔ ∃ j, j < n ∧ (f j).testBit i = true
  | 0 => by simp [orTo]
  | n + 1 => by
    rw [orTo, Nat.testBit_or, Bool.or_eq_true, orTo_bit]
    constructor
    · rintro (⟨j, h1, h2⟩ | h)
      · exact ⟨j, by omega, h2⟩
      · exact ⟨n, by omega, h⟩
    · rintro ⟨j, h1, h2⟩
      rcases Nat.lt_or_ge j n with q | q
      · exact Or.inl ⟨j, q, h2⟩
      · rw [show j = n by omega] at h2; exact Or.inr h2
def wfT (n : Nat) (w : Nat → Nat) : Prop := n ≤ 8 ∧ (∀ j, w j ≤ 999) ∧ ∀ j, j < n → 1 ≤ w j
def wfH (hn : Nat) (kd pt : Nat → Nat) : Prop := hn ≤ 6 ∧ (∀ j, kd j ≤ 2) ∧ (∀ j, pt j ≤ 20) ∧ ∀ j, j < hn → 1 ≤ pt j
theorem testBit_of {a b : Nat} (h : a / 2 ^ b &&& 1 = 1) : a.testBit b = true := by
  rw [Nat.testBit_eq_decide_div_mod_eq, ← Nat.and_one_is_mod]; exact decide_eq_true h
theorem testBit_no {a b : Nat} (h : ¬ a / 2 ^ b &&& 1 = 1) : a.testBit b = false := by
  rw [Nat.testBit_eq_decide_div_mod_eq, ← Nat.and_one_is_mod]; exact decide_eq_false h
theorem divp_lt {a b c : Nat} (h : a < c) : a / 2 ^ b < c := Nat.lt_of_le_of_lt (Nat.div_le_self _ _) h
theorem and1_lt (a : Nat) : a &&& 1 < 2 ^ 31 := by rw [Nat.and_one_is_mod]; omega
theorem vM.top {x : vX} {pc : Nat} {lv : List (Option Value)} {st : List Value} {ws : va_W} {v v0 : Value} (h : v0 = v) (k : vM x pc lv (v :: st) ws) : vM x pc lv (v0 :: st) ws := by rw [h]; exact k
/-- sayings -/
def wfY (n hn sn : Nat) (sb sf ss sw : Nat → Nat) : Prop := sn ≤ 10 ∧ (∀ j, j < sn → sb j < hn) ∧ (∀ j, j < sn → sf j < n) ∧ (∀ j, j < sn → ss j < n) ∧ (∀ j, sw j ≤ 1) ∧ ∀ j, j < sn → sf j ≠ ss j
def flsN (kd pt : Nat → Nat) (b w a c : Nat) : Bool := if w = 1 then !tls (kd b) (pt b) a c else !alk (kd b) (pt b) a c
/-- sets of what a hand tells -/
def ligF (k p : Nat) (w : Nat → Nat) (x : Nat) : Nat → Nat := fun y => if tls k p (w x) (w y) = true then 2 ^ y else 0
def alkF (k p : Nat) (w : Nat → Nat) (x : Nat) : Nat → Nat := fun y => if alk k p (w x) (w y) = true then 2 ^ y else 0
def ligS (k p : Nat) (w : Nat → Nat) (n x : Nat) : Nat := orTo (ligF k p w x) n
def alkS (k p : Nat) (w : Nat → Nat) (n x : Nat) : Nat := orTo (alkF k p w x) n
def layF (old : Nat → Nat) (n : Nat) (F : Nat → Nat) : Nat → Nat := fun j => if j < n then F j else old j
theorem layF_succ {old F : Nat → Nat} {i v : Nat} (h : F i = v) : up (layF old i F) i v = layF old (i + 1) F := by
  funext j
  unfold up layF
  by_cases e : j = i
  · subst e; simp [h]
  · rcases Nat.lt_or_ge j i with q | q
    · simp [e, q, Nat.lt_succ_of_lt q]
    · simp [e, Nat.not_lt.mpr q, show ¬ j < i + 1 by omega]
theorem layF_0 {old F : Nat → Nat} : layF old 0 F = old := by funext j; simp [layF]
theorem layF_in {old F : Nat → Nat} {n j : Nat} (h : j < n) : layF old n F j = F j := by simp [layF, h]
theorem or_up_t {F f : Nat → Nat} {i j v : Nat} (h : f j = v) : up (up F i (orTo f j)) i (up F i (orTo f j) i ||| v) = up F i (orTo f (j + 1)) := by
  funext z
  by_cases e : z = i
  · subst e; simp [up, orTo, h]
  · simp [up, e]
theorem or_up_f {F f : Nat → Nat} {i j : Nat} (h : f j = 0) : up F i (orTo f j) = up F i (orTo f (j + 1)) := by rw [orTo, h, Nat.or_zero]
theorem ligF_t {k p x y : Nat} {w : Nat → Nat} (h : tls k p (w x) (w y) = true) : ligF k p w x y = 2 ^ y := if_pos h
theorem ligF_f {k p x y : Nat} {w : Nat → Nat} (h : tls k p (w x) (w y) = false) : ligF k p w x y = 0 := if_neg (by rw [h]; decide)
theorem alkF_t {k p x y : Nat} {w : Nat → Nat} (h : alk k p (w x) (w y) = true) : alkF k p w x y = 2 ^ y := if_pos h
theorem alkF_f {k p x y : Nat} {w : Nat → Nat} (h : alk k p (w x) (w y) = false) : alkF k p w x y = 0 := if_neg (by rw [h]; decide)
/-- how many bits (of the lowest twenty) -/
def popN (a : Nat) : Nat := sumTo (fun k => a / 2 ^ k &&& 1) 20
def finM (ec : Nat) (el ol : Nat → Nat) : Bool := allTo (fun x => decide (sdiff (ol x) (el x) = 0)) ec && !allTo (fun x => decide (ol x = el x)) ec
def anyS (ea : Nat → Nat) (ec a : Nat) : Nat := orTo (fun z => if a.testBit z then ea z else 0) ec
def wth (ea : Nat → Nat) (ec s0 : Nat) : Nat → Nat
  | 0 => s0
  | k + 1 => wth ea ec s0 k ||| anyS ea ec (wth ea ec s0 k)
theorem anyS_lt {ea : Nat → Nat} {ec a : Nat} (h : ∀ j, j < ec → ea j < 2 ^ 8) : anyS ea ec a < 2 ^ 8 := orTo_lt' (fun j hj => by split; exact h j hj; decide)
theorem wth_lt {ea : Nat → Nat} {ec s0 : Nat} (h : ∀ j, j < ec → ea j < 2 ^ 8) (h0 : s0 < 2 ^ 8) : ∀ k, wth ea ec s0 k < 2 ^ 8
  | 0 => h0
  | k + 1 => Nat.or_lt_two_pow (wth_lt h h0 k) (anyS_lt h)
/-- the least index of which p holds -/
def fstTo (p : Nat → Bool) : Nat → Option Nat
  | 0 => none
  | k + 1 => match fstTo p k with
    | some j => some j
    | none => if p k then some k else none
theorem fst_none {p : Nat → Bool} : ∀ {n : Nat}, fstTo p n = none ↔ ∀ j, j < n → p j = false
  | 0 => by simp [fstTo]
  | n + 1 => by
    have ih := fst_none (p := p) (n := n)
    rw [fstTo]
    cases q : fstTo p n with
    | some j =>
      simp only [reduceCtorEq, false_iff]
      intro h
      rw [ih.mpr (fun j hj => h j (by omega))] at q
      cases q
    | none =>
      have ih2 := ih.mp q
      cases e : p n with
      | true =>
        simp only [if_true, reduceCtorEq, false_iff]
        intro h
        rw [h n (by omega)] at e
        cases e
      | false =>
        simp only [Bool.false_eq_true, if_false, true_iff]
        intro j hj
        rcases Nat.lt_or_ge j n with z | z
        · exact ih2 j z
        · rw [show j = n by omega]; exact e
theorem fst_some {p : Nat → Bool} {i : Nat} : ∀ {n : Nat}, fstTo p n = some i ↔ i < n ∧ p i = true ∧ ∀ j, j < i → p j = false
  | 0 => by simp [fstTo]
  | n + 1 => by
    have ih := fst_some (p := p) (i := i) (n := n)
    rw [fstTo]
    cases q : fstTo p n with
    | some j =>
      have hj := (fst_some (p := p) (i := j) (n := n)).mp q
      simp only [Option.some.injEq]
      constructor
      · rintro rfl; exact ⟨by omega, hj.2⟩
      · rintro ⟨h1, h2, h3⟩
        rcases Nat.lt_trichotomy i j with z | z | z
        · rw [hj.2.2 i z] at h2; cases h2
        · exact z.symm
        · rw [h3 j z] at hj; cases hj.2.1
    | none =>
      have hn := fst_none.mp q
      cases e : p n with
      | true =>
        simp only [if_true, Option.some.injEq]
        constructor
        · rintro rfl; exact ⟨by omega, e, fun j hj => hn j hj⟩
        · rintro ⟨h1, h2, h3⟩
          rcases Nat.lt_or_ge i n with z | z
          · rw [hn i z] at h2; cases h2
          · omega
      | false =>
        simp only [Bool.false_eq_true, if_false, reduceCtorEq, false_iff]
        rintro ⟨h1, h2, h3⟩
        rcases Nat.lt_or_ge i n with z | z
        · rw [hn i z] at h2; cases h2
        · rw [show i = n by omega] at h2; rw [e] at h2; cases h2
theorem fst_hit {p : Nat → Bool} {i n : Nat} (h0 : fstTo p i = none) (hp : p i = true) (hi : i < n) : fstTo p n = some i := fst_some.mpr ⟨hi, hp, fst_none.mp h0⟩
theorem fst_step {p : Nat → Bool} {i : Nat} (h0 : fstTo p i = none) (hp : p i = false) : fstTo p (i + 1) = none := by rw [fstTo, h0]; simp [hp]
def oN : Option Nat → Int32
  | none => -9
  | some k => nI k
theorem oN_ne {k : Nat} (h : k < 2 ^ 31) : ¬ nI k = -9 := fun q => by
  have h1 := congrArg Int32.toInt q
  rw [nI_toInt h] at h1
  have h2 : (-9 : Int32).toInt = -9 := by decide
  omega
def lstN (a ec : Nat) : Option Nat := fstTo (fun z => a.testBit z) ec
def bhd (ea : Nat → Nat) (ec t m f : Nat) : Nat → Nat
  | 0 => f
  | k + 1 => ((lstN (ea (bhd ea ec t m f k) &&& wth ea ec (2 ^ t) (min (m - (k + 1)) ec)) ec)).getD 0
def fitb (el : Nat → Nat) (ec a : Nat) : Nat := orTo (fun z => if a.testBit z = false ∧ sdiff (el z) a = 0 then 2 ^ z else 0) ec
/-- the row laid by the least that fits: the set behind k steps -/
def laidK (el : Nat → Nat) (ec : Nat) : Nat → Nat
  | 0 => 0
  | k + 1 => match lstN (fitb el ec (laidK el ec k)) ec with
    | none => laidK el ec k
    | some z => laidK el ec k ||| 2 ^ z
def ordN (el : Nat → Nat) (ec : Nat) : Nat → Nat → Nat
  | 0, _ => 1
  | f + 1, s => if s = 0 then 1 else sumTo (fun l => if s.testBit l = true ∧ sdiff (el l) (sdiff s (2 ^ l)) = 0 then ordN el ec f (sdiff s (2 ^ l)) else 0) ec
def hvyS (el : Nat → Nat) (ec a : Nat) : Nat := orTo (fun z => if el z &&& a = 0 then 0 else 2 ^ z) ec
def endsK (el : Nat → Nat) (ec : Nat) : Nat → Nat
  | 0 => 2 ^ ec - 1
  | k + 1 => hvyS el ec (endsK el ec k)
def chnN (el : Nat → Nat) (ec : Nat) : Nat := (fstTo (fun k => decide (endsK el ec k = 0)) ec).getD ec
def allAlk (ea : Nat → Nat) (ec a : Nat) : Bool := allTo (fun z => !(a.testBit z && !decide (sdiff a (ea z) = 0))) ec
def bstS (ok : Nat → Bool) : Nat → Nat
  | 0 => 0
  | k + 1 => if popN (bstS ok k) < popN (k + 1) ∧ ok (k + 1) = true then k + 1 else bstS ok k
theorem bstS_le (ok : Nat → Bool) : ∀ k, bstS ok k ≤ k
  | 0 => Nat.le_refl _
  | k + 1 => by have := bstS_le ok k; rw [bstS]; split <;> omega
theorem popN_le (a : Nat) : popN a ≤ 20 := by
  have := sumTo_le (f := fun k => a / 2 ^ k &&& 1) (b := 1) (fun j => by show a / 2 ^ j &&& 1 ≤ 1; rw [Nat.and_one_is_mod]; omega) 20
  exact this
def toldN (el : Nat → Nat) (ec : Nat) : Nat := sumTo (fun z => popN (el z)) ec
/-- Integer.bitCount of a set of eight -/
theorem bitc : ∀ a : Fin 256, (fun v : Int32 => (fun v : Int32 => (fun v : Int32 => (fun v : Int32 => (fun v : Int32 => v &&& nI 63) (v + (v.toUInt32 >>> ((nI 16).toUInt32 &&& Int32.toUInt32 31)).toInt32)) (v + (v.toUInt32 >>> ((nI 8).toUInt32 &&& Int32.toUInt32 31)).toInt32)) ((v + (v.toUInt32 >>> ((nI 4).toUInt32 &&& Int32.toUInt32 31)).toInt32) &&& 252645135)) ((v &&& 858993459) + ((v.toUInt32 >>> ((nI 2).toUInt32 &&& Int32.toUInt32 31)).toInt32 &&& 858993459))) (nI a.1 - (((nI a.1).toUInt32 >>> ((nI 1).toUInt32 &&& Int32.toUInt32 31)).toInt32 &&& 1431655765)) = nI (popN a.1) := by decide +kernel
