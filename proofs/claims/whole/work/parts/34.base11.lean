theorem st_t {k p n a y : Nat} {w : Nat → Nat} (h : ∀ z, z < n → a.testBit z = true ∨ tls k p (w y) (w z) = false) : sdiff (ligS k p w n y) a = 0 := by
  apply Nat.eq_of_testBit_eq
  intro i
  rw [sdiff_bit, ligS_bit, Nat.zero_testBit]
  by_cases hi : i < n
  · rcases h i hi with q | q <;> simp [q]
  · rw [decide_eq_false hi]; simp
theorem st_f {k p n a y z : Nat} {w : Nat → Nat} (hz : z < n) (h1 : a.testBit z = false) (h2 : tls k p (w y) (w z) = true) : ¬ sdiff (ligS k p w n y) a = 0 := by
  intro e
  have h := congrArg (fun q => q.testBit z) e
  simp only [sdiff_bit, ligS_bit, Nat.zero_testBit, decide_eq_true hz, h1, h2] at h
  cases h
theorem bit0_no {a b : Nat} (h : a / 2 ^ b &&& 1 = 0) : a.testBit b = false := testBit_no (by omega)
theorem bit0_t {a b : Nat} (h : 0 < a / 2 ^ b &&& 1) : a.testBit b = true := testBit_of (by have := and1_lt (a / 2 ^ b); rw [Nat.and_one_is_mod] at h ⊢; omega)
/-! rows laid forward: what stands in the counts while sets up to a are spread -/
def pF (el : Nat → Nat) (n a i z : Nat) : Nat → Nat := fun l => if z.testBit l = true ∧ sdiff (el l) (sdiff z (2 ^ l)) = 0 ∧ (sdiff z (2 ^ l) < a ∨ (sdiff z (2 ^ l) = a ∧ l < i)) then ordN el n (sdiff z (2 ^ l)) (sdiff z (2 ^ l)) else 0
def pW (el : Nat → Nat) (n a i z : Nat) : Nat := if z = 0 then 1 else sumTo (pF el n a i z) n
theorem sum_one {f g : Nat → Nat} {i v : Nat} (h0 : f i = 0) (h1 : g i = v) (h : ∀ l, l ≠ i → f l = g l) : ∀ n, (i < n → sumTo f n + v = sumTo g n) ∧ (¬ i < n → sumTo f n = sumTo g n)
  | 0 => ⟨fun q => absurd q (Nat.not_lt_zero _), fun _ => rfl⟩
  | n + 1 => by
    obtain ⟨a1, a2⟩ := sum_one h0 h1 h n
    refine ⟨fun q => ?_, fun q => ?_⟩
    · rw [sumTo, sumTo]
      by_cases c : i = n
      · subst c
        rw [a2 (Nat.lt_irrefl _), h0, h1]
        omega
      · rw [← a1 (by omega), h n (fun e => c e.symm)]
        omega
    · rw [sumTo, sumTo, a2 (by omega), h n (by omega)]
theorem or_pow_sd {a i : Nat} (h : a.testBit i = false) : sdiff (a ||| 2 ^ i) (2 ^ i) = a := by
  apply Nat.eq_of_testBit_eq
  intro j
  rw [sdiff_bit, Nat.testBit_or, Nat.testBit_two_pow]
  by_cases c : i = j
  · subst c; rw [h]; simp
  · simp [c]
theorem sd_pow_or {z a i : Nat} (h1 : z.testBit i = true) (h : sdiff z (2 ^ i) = a) : z = a ||| 2 ^ i := by
  subst h
  apply Nat.eq_of_testBit_eq
  intro j
  rw [Nat.testBit_or, sdiff_bit, Nat.testBit_two_pow]
  by_cases c : i = j
  · subst c; rw [h1]; simp
  · simp [c]
theorem sd_pow_no {z i : Nat} : (sdiff z (2 ^ i)).testBit i = false := by rw [sdiff_bit, Nat.testBit_two_pow]; simp
theorem pW_00 {el : Nat → Nat} {n z : Nat} : pW el n 0 0 z = if z = 0 then 1 else 0 := by
  unfold pW
  by_cases c : z = 0
  · rw [if_pos c, if_pos c]
  · rw [if_neg c, if_neg c]
    have key : ∀ m, sumTo (pF el n 0 0 z) m = 0 := by
      intro m
      induction m with
      | zero => rfl
      | succ m ih =>
        rw [sumTo, ih]
        show 0 + pF el n 0 0 z m = 0
        unfold pF
        rw [if_neg (fun q => by omega)]
    exact key n
theorem pW_self {el : Nat → Nat} {n a i : Nat} : pW el n a i a = ordN el n a a := by
  unfold pW
  by_cases c : a = 0
  · rw [if_pos c, c]; rfl
  · rw [if_neg c, ordN_eq (Nat.pos_of_ne_zero c)]
    refine sumTo_congr (fun l _ => ?_)
    unfold pF ordF
    by_cases d : a.testBit l = true ∧ sdiff (el l) (sdiff a (2 ^ l)) = 0
    · rw [if_pos d, if_pos ⟨d.1, d.2, Or.inl (sdiff_pow_lt d.1)⟩]
    · rw [if_neg d, if_neg (fun q => d ⟨q.1, q.2.1⟩)]
theorem pW_row {el : Nat → Nat} {n a : Nat} : pW el n a n = pW el n (a + 1) 0 := by
  funext z
  unfold pW
  by_cases c : z = 0
  · rw [if_pos c, if_pos c]
  · rw [if_neg c, if_neg c]
    refine sumTo_congr (fun l hl => ?_)
    unfold pF
    by_cases d : z.testBit l = true ∧ sdiff (el l) (sdiff z (2 ^ l)) = 0 ∧ (sdiff z (2 ^ l) < a ∨ (sdiff z (2 ^ l) = a ∧ l < n))
    · rw [if_pos d, if_pos ⟨d.1, d.2.1, by omega⟩]
    · rw [if_neg d, if_neg (fun q => d ⟨q.1, q.2.1, by omega⟩)]
theorem pW_f {el : Nat → Nat} {n a i : Nat} (h : ¬ (a.testBit i = false ∧ sdiff (el i) a = 0)) : pW el n a (i + 1) = pW el n a i := by
  funext z
  unfold pW
  by_cases c : z = 0
  · rw [if_pos c, if_pos c]
  · rw [if_neg c, if_neg c]
    refine sumTo_congr (fun l hl => ?_)
    unfold pF
    by_cases d : z.testBit l = true ∧ sdiff (el l) (sdiff z (2 ^ l)) = 0 ∧ (sdiff z (2 ^ l) < a ∨ (sdiff z (2 ^ l) = a ∧ l < i))
    · rw [if_pos d, if_pos ⟨d.1, d.2.1, by omega⟩]
    · rw [if_neg d, if_neg (fun q => ?_)]
      obtain ⟨q1, q2, q3⟩ := q
      rcases q3 with q3 | ⟨q3, q4⟩
      · exact d ⟨q1, q2, Or.inl q3⟩
      · by_cases e : l = i
        · subst e
          refine h ⟨?_, ?_⟩
          · rw [← q3]; exact sd_pow_no
          · rw [← q3]; exact q2
        · exact d ⟨q1, q2, Or.inr ⟨q3, by omega⟩⟩
theorem pW_t {el : Nat → Nat} {n a i : Nat} (hi : i < n) (h1 : a.testBit i = false) (h2 : sdiff (el i) a = 0) : up (pW el n a i) (a ||| 2 ^ i) (pW el n a i (a ||| 2 ^ i) + ordN el n a a) = pW el n a (i + 1) := by
  funext z
  unfold up
  by_cases e : z = a ||| 2 ^ i
  · rw [if_pos e, e]
    have hb : (a ||| 2 ^ i).testBit i = true := by rw [Nat.testBit_or, Nat.testBit_two_pow]; simp
    have hz : ¬ a ||| 2 ^ i = 0 := fun q => by rw [q, Nat.zero_testBit] at hb; cases hb
    unfold pW
    rw [if_neg hz, if_neg hz]
    refine (sum_one (i := i) ?_ ?_ ?_ n).1 hi
    · unfold pF
      rw [or_pow_sd h1, if_neg (fun q => by omega)]
    · unfold pF
      rw [or_pow_sd h1, if_pos ⟨hb, h2, Or.inr ⟨rfl, by omega⟩⟩]
    · intro l hl
      unfold pF
      by_cases d : (a ||| 2 ^ i).testBit l = true ∧ sdiff (el l) (sdiff (a ||| 2 ^ i) (2 ^ l)) = 0 ∧ (sdiff (a ||| 2 ^ i) (2 ^ l) < a ∨ (sdiff (a ||| 2 ^ i) (2 ^ l) = a ∧ l < i))
      · rw [if_pos d, if_pos ⟨d.1, d.2.1, by omega⟩]
      · rw [if_neg d, if_neg (fun q => d ⟨q.1, q.2.1, by omega⟩)]
  · rw [if_neg e]
    unfold pW
    by_cases c : z = 0
    · rw [if_pos c, if_pos c]
    · rw [if_neg c, if_neg c]
      refine sumTo_congr (fun l hl => ?_)
      unfold pF
      by_cases d : z.testBit l = true ∧ sdiff (el l) (sdiff z (2 ^ l)) = 0 ∧ (sdiff z (2 ^ l) < a ∨ (sdiff z (2 ^ l) = a ∧ l < i))
      · rw [if_pos d, if_pos ⟨d.1, d.2.1, by omega⟩]
      · rw [if_neg d, if_neg (fun q => ?_)]
        obtain ⟨q1, q2, q3⟩ := q
        rcases q3 with q3 | ⟨q3, q4⟩
        · exact d ⟨q1, q2, Or.inl q3⟩
        · by_cases f : l = i
          · subst f; exact e (sd_pow_or q1 q3)
          · exact d ⟨q1, q2, Or.inr ⟨q3, by omega⟩⟩
theorem sum_ge {f : Nat → Nat} : ∀ {n m : Nat}, m ≤ n → (∀ z, z < m → 1 ≤ f z) → m ≤ sumTo f n
  | 0, m, h, _ => by omega
  | n + 1, m, h, hf => by
    rw [sumTo]
    by_cases c : m ≤ n
    · have := sum_ge c hf; omega
    · have h1 := sum_ge (m := n) (Nat.le_refl n) (fun z hz => hf z (by omega))
      have h2 := hf n (by omega)
      omega
theorem pop_ge {a n : Nat} (hn : n ≤ 20) (h : ∀ z, z < n → a.testBit z = true) : n ≤ popN a := by
  refine sum_ge (f := fun k => a / 2 ^ k &&& 1) hn (fun z hz => ?_)
  have h2 := h z hz
  rw [Nat.testBit_eq_decide_div_mod_eq] at h2
  have h3 := of_decide_eq_true h2
  show 1 ≤ a / 2 ^ z &&& 1
  rw [Nat.and_one_is_mod]
  omega
theorem and_pow_0 {a j : Nat} (h : a.testBit j = false) : a &&& 2 ^ j = 0 := by
  apply Nat.eq_of_testBit_eq
  intro i
  rw [Nat.testBit_and, Nat.testBit_two_pow, Nat.zero_testBit]
  by_cases c : j = i
  · subst c; rw [h]; rfl
  · simp [c]
theorem pop_pow : ∀ j : Fin 8, popN (2 ^ j.1) = 1 := by decide
theorem min_fit {k p n a : Nat} {w : Nat → Nat} : ∀ (m z : Nat), z < n → a.testBit z = false → w z ≤ m → ∃ y, y < n ∧ a.testBit y = false ∧ sdiff (ligS k p w n y) a = 0 := by
  intro m
  induction m with
  | zero =>
    intro z hz hb hm
    refine ⟨z, hz, hb, st_t (fun i _ => Or.inr (tls_f (fun q => by omega)))⟩
  | succ m ih =>
    intro z hz hb hm
    by_cases h : ∀ i, i < n → a.testBit i = true ∨ tls k p (w z) (w i) = false
    · exact ⟨z, hz, hb, st_t h⟩
    · obtain ⟨i, hi⟩ := Classical.not_forall.mp h
      have hi1 : i < n := Classical.byContradiction (fun q => hi (fun q2 => absurd q2 q))
      have hi2 : a.testBit i = false := by
        cases q : a.testBit i with
        | false => rfl
        | true => exact absurd (fun _ => Or.inl q) hi
      have hi3 : tls k p (w z) (w i) = true := by
        cases q : tls k p (w z) (w i) with
        | true => rfl
        | false => exact absurd (fun _ => Or.inr q) hi
      exact ih i hi1 hi2 (by have := (tls_iff.mp hi3).1; omega)
