theorem wr_m1 {p : Int32} {m : Nat} (hm : m < 2 ^ 31) (h : wr p (-1) (nI m) = true) : p = -1 ∨ ∃ j : Nat, j ≤ m ∧ p = nI j := by
  obtain ⟨h1, h2⟩ := of_decide_eq_true h
  by_cases e : p = -1
  · exact Or.inl e
  · have h0 := ge_m1 (Int32.not_lt.mpr h1) e
    obtain ⟨j, hj, rfl⟩ := nI_of h0
    exact Or.inr ⟨j, (nI_leI hj hm).mp h2, rfl⟩
theorem wr_m1f {p : Int32} {m n : Nat} (hm : m < 2 ^ 31) (hn : n = m + 1) (h : wr p (-1) (nI m) = false) : ¬ p = -1 ∧ rN p n = none := by
  subst hn
  have h1 := of_decide_eq_false h
  refine ⟨fun e => h1 ⟨by rw [e]; exact Int32.le_refl _, ?_⟩, rN_f ?_⟩
  · rw [e]
    apply Int32.le_iff_toInt_le.mpr
    rw [nI_toInt hm, show (-1 : Int32).toInt = -1 by decide]
    omega
  · cases q : inR p (m + 1) with
    | false => rfl
    | true =>
      have q2 := of_decide_eq_true q
      have h0 : ¬ p < 0 := q2.1
      obtain ⟨j, hj, rfl⟩ := nI_of h0
      refine absurd ⟨?_, ?_⟩ h1
      · apply Int32.le_iff_toInt_le.mpr
        rw [nI_toInt hj, show (-1 : Int32).toInt = -1 by decide]
        omega
      · have h5 : ¬ nI (m + 1) ≤ nI j := q2.2
        refine Int32.not_lt.mp (fun h6 => ?_)
        have h7 := (nI_ltI hm hj).mp h6
        rcases Nat.lt_or_ge (m + 1) (2 ^ 31) with z | z
        · exact h5 ((nI_leI z hj).mpr (by omega))
        · omega
theorem exw_comm {rw : Nat → Nat} {a b : Nat} (h : ¬ a = b) : exw rw a b = exw rw b a := by
  funext j
  unfold exw up
  by_cases e1 : j = a
  · subst e1; simp [h]
  · by_cases e2 : j = b
    · subst e2; simp [e1]
    · simp [e1, e2]
def s_lr (cc : Nat → Nat → Int32) (hn k i m : Nat) : Int32 := if 1 ≤ m ∧ m ≤ 5 then (if allTo (fun z => inR (cc k (i + z)) hn) m = true then 0 else -1) else -2
theorem s_thr_lr {fil : Nat → Bool} {srt len : Nat → Nat} {cc : Nat → Nat → Int32} {hn fl k : Nat} {sort : Int32} {i m : Nat} (hi : i < 2 ^ 31) (hm : m < 2 ^ 31) (h : ftk (fil k) (srt k) (len k) sort (nI i) (nI m) = 0) : s_thr fil srt len cc hn fl k sort (nI i) (nI m) = (s_lr cc hn k i m, fl) := by
  unfold s_thr s_lr
  rw [h]
  by_cases c : 1 ≤ m ∧ m ≤ 5
  · rw [rW_N c.1 c.2 (by decide), if_pos c, tn_N hi]
    simp only
    split <;> rfl
  · rw [rW_Nf hm (by decide) (by decide) c, if_neg c]
theorem s_thr_f {fil : Nat → Bool} {srt len : Nat → Nat} {cc : Nat → Nat → Int32} {hn fl k f : Nat} {sort i m : Int32} (h : ftk (fil k) (srt k) (len k) sort i m = f + 1) : s_thr fil srt len cc hn fl k sort i m = (-10 - nI (f + 1), f + 1) := by
  unfold s_thr
  rw [h]
def fbK (sp : (Nat → Nat) → Nat) (rs : Nat → Nat → Nat) : Nat → Int32
  | 0 => -9
  | k + 1 => nI (lsK sp rs k)
def bbK (sp : (Nat → Nat) → Nat) (rs : Nat → Nat → Nat) (b0 : Nat → Nat) (n : Nat) : Nat → Nat → Nat
  | 0 => b0
  | k + 1 => bsK sp rs b0 n k
theorem alk_told {k p a b : Nat} : alk k p a b = (!tls k p a b && !tls k p b a) := rfl
theorem popN_or {a b : Nat} (h : a &&& b = 0) : popN (a ||| b) = popN a + popN b := by
  have key : ∀ n, sumTo (fun k => (a ||| b) / 2 ^ k &&& 1) n = sumTo (fun k => a / 2 ^ k &&& 1) n + sumTo (fun k => b / 2 ^ k &&& 1) n := by
    intro n
    induction n with
    | zero => rfl
    | succ n ih =>
      rw [sumTo, sumTo, sumTo, ih]
      have hb : ∀ x : Nat, x / 2 ^ n &&& 1 = if x.testBit n = true then 1 else 0 := by
        intro x
        rw [Nat.testBit_eq_decide_div_mod_eq, Nat.and_one_is_mod]
        by_cases c : x / 2 ^ n % 2 = 1
        · rw [if_pos (decide_eq_true c), c]
        · rw [if_neg (by simpa using c)]; omega
      have h2 := congrArg (fun x => x.testBit n) h
      simp only [Nat.testBit_and, Nat.zero_testBit] at h2
      rw [hb, hb, hb, Nat.testBit_or]
      revert h2
      cases a.testBit n <;> cases b.testBit n <;> simp <;> omega
  exact key 20
theorem sd_of {a b : Nat} (h : b &&& a = a) : sdiff a b = 0 := by
  apply Nat.eq_of_testBit_eq
  intro i
  have h2 := congrArg (fun x => x.testBit i) h
  simp only [Nat.testBit_and] at h2
  rw [sdiff_bit, Nat.zero_testBit]
  revert h2
  cases a.testBit i <;> cases b.testBit i <;> simp
theorem sd_no {a b : Nat} (h : ¬ b &&& a = a) : ¬ sdiff a b = 0 := by
  intro h3
  apply h
  apply Nat.eq_of_testBit_eq
  intro i
  have h2 := congrArg (fun x => x.testBit i) h3
  simp only [sdiff_bit, Nat.zero_testBit] at h2
  rw [Nat.testBit_and]
  revert h2
  cases a.testBit i <;> cases b.testBit i <;> simp
/-- the most so far, -1 ahead of any -/
def mzI (f : Nat → Nat) : Nat → Int32
  | 0 => -1
  | k + 1 => nI (f (msK f k))
theorem mz_lt {f : Nat → Nat} {k : Nat} (hf : ∀ j, f j < 2 ^ 30) : nI (f k) ≤ mzI f k ↔ (0 < k ∧ f k ≤ f (msK f (k - 1))) := by
  cases k with
  | zero =>
    constructor
    · intro h
      have h1 := Int32.le_iff_toInt_le.mp h
      rw [nI_toInt (by have := hf 0; omega), show (mzI f 0).toInt = -1 from (by decide : (-1 : Int32).toInt = -1)] at h1
      omega
    · intro h; omega
  | succ k =>
    show nI (f (k + 1)) ≤ nI (f (msK f k)) ↔ _
    rw [nI_leI (by have := hf (k + 1); omega) (by have := hf (msK f k); omega)]
    constructor
    · intro h; exact ⟨by omega, h⟩
    · intro h; exact h.2
theorem mz_next {f : Nat → Nat} {k : Nat} (hf : ∀ j, f j < 2 ^ 30) (h : ¬ nI (f k) ≤ mzI f k) : msK f k = k ∧ mzI f (k + 1) = nI (f k) := by
  rw [mz_lt hf] at h
  cases k with
  | zero => exact ⟨rfl, rfl⟩
  | succ k =>
    have h2 : f (msK f k) < f (k + 1) := Nat.not_le.mp (fun z => h ⟨by omega, z⟩)
    have e : msK f (k + 1) = k + 1 := by rw [msK, if_pos h2]
    exact ⟨e, by rw [mzI, e]⟩
theorem mz_same {f : Nat → Nat} {k : Nat} (hf : ∀ j, f j < 2 ^ 30) (h : nI (f k) ≤ mzI f k) : msK f k = msK f (k - 1) ∧ mzI f (k + 1) = mzI f k := by
  rw [mz_lt hf] at h
  cases k with
  | zero => omega
  | succ k =>
    have h2 : ¬ f (msK f k) < f (k + 1) := Nat.not_lt.mpr h.2
    have e : msK f (k + 1) = msK f k := by rw [msK, if_neg h2]
    exact ⟨e, by rw [mzI, mzI, e]⟩
