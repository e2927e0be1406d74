theorem evI_le {w kd pt : Nat → Nat} {n h a : Nat} {t : Int32 × Int32 × Nat} (ht : t.2.2 ≤ 20) : ∀ b, (evI w kd pt n h a t b).2.2 ≤ 20
  | 0 => ht
  | b + 1 => by
    rw [evI]
    split
    · exact popN_le _
    · exact evI_le ht b
theorem evO_le {w kd pt : Nat → Nat} {n h : Nat} : ∀ a, (evO w kd pt n h a).2.2 ≤ 20
  | 0 => by show (0 : Nat) ≤ 20; omega
  | a + 1 => evI_le (evO_le a) _
theorem sumW_le {w : Nat → Nat} {c : Nat → Bool} {n : Nat} (hw : ∀ j, w j ≤ 999) (hn : n ≤ 8) : sumTo (fun z => if c z then w z else 0) n ≤ 9999 := by
  have h1 := sumTo_le (f := fun z => if c z then w z else 0) (b := 999) (fun j => by show (if c j then w j else 0) ≤ 999; split; exact hw j; omega) n
  omega
theorem cmd_le {a b : Nat} : ∀ d, cmd a b d ≤ d + 1
  | 0 => Nat.le_refl _
  | d + 1 => by
    have := cmd_le (a := a) (b := b) d
    rw [cmd]
    split
    · omega
    · split <;> omega
theorem toldN_le {el : Nat → Nat} {n : Nat} : toldN el n ≤ n * 20 := sumTo_le (fun j => popN_le _) n
theorem tri {p : Int32} (h0 : ¬ p = 0) (h1 : ¬ p = nI 1) (h2 : ¬ p = nI 2) : p.toInt < 0 ∨ 2 < p.toInt := by
  rcases Int.lt_or_le p.toInt 0 with q | q
  · exact Or.inl q
  · right
    have e0 : ¬ p.toInt = 0 := fun e => h0 (Int32.toInt_inj.mp (by rw [e]; decide))
    have e1 : ¬ p.toInt = 1 := fun e => h1 (Int32.toInt_inj.mp (by rw [e]; decide))
    have e2 : ¬ p.toInt = 2 := fun e => h2 (Int32.toInt_inj.mp (by rw [e]; decide))
    omega
theorem hcB_1 {l : Nat} {i : Int32} (hl : l ≤ 40) (h : hcB true l i (nI 1) = true) : ∃ j : Nat, j < l ∧ i = nI j := by
  obtain ⟨-, i', n', rfl, h2, h3⟩ := hcB_of hl h
  have h6 : hcB true l (nI i') (nI 1) = true := h
  unfold hcB at h6
  rw [Bool.true_and] at h6
  obtain ⟨h7, h8, h9, h10⟩ := of_decide_eq_true h6
  have hi : i' < 2 ^ 31 ∨ 2 ^ 31 ≤ i' := Nat.lt_or_ge _ _
  rw [pk_sub (by omega)] at h10
  have h11 : 1 ≤ l - i' := Nat.not_lt.mp (fun q => h10 ((nI_ltI (by omega) (by decide)).mpr q))
  exact ⟨i', by omega, rfl⟩
theorem hcB_0 {l : Nat} {i : Int32} (hl : l ≤ 40) (h : hcB true l i (nI 1) = false) : rN i l = none := by
  refine rN_f ?_
  cases q : inR i l with
  | false => rfl
  | true =>
    obtain ⟨j, hj, rfl⟩ := inR_of q (by omega)
    rw [hcB_N hl (by omega)] at h
    cases h
theorem ftk_0 {f : Bool} {s l : Nat} {sort i n : Int32} (h : ftk f s l sort i n = 0) (hl : l ≤ 40) : f = true ∧ nI s = sort ∧ ∃ i' n' : Nat, i = nI i' ∧ n = nI n' ∧ i' + n' ≤ l := by
  unfold ftk at h
  by_cases c1 : f = false
  · rw [if_pos c1] at h; cases h
  · rw [if_neg c1] at h
    by_cases c2 : nI s = sort
    · rw [if_pos c2] at h
      by_cases c3 : n < 0
      · rw [if_pos c3] at h; cases h
      · rw [if_neg c3] at h
        by_cases c4 : hcB f l i n = true
        · obtain ⟨h1, h2⟩ := hcB_of hl c4
          exact ⟨h1, c2, h2⟩
        · rw [if_neg c4] at h; cases h
    · rw [if_neg c2] at h; cases h
theorem ftk_le {f : Bool} {s l : Nat} {sort i n : Int32} : ftk f s l sort i n ≤ 4 := by
  unfold ftk
  split
  · omega
  · split
    · split
      · omega
      · split <;> omega
    · omega
theorem flt_ne0 : ∀ k : Fin 5, ¬ (-10 - nI k.1 = 0) := by decide
theorem rW_Nf {j a b : Nat} (hj : j < 2 ^ 31) (hb : b < 2 ^ 31) (ha : a < 2 ^ 31) (h : ¬ (a ≤ j ∧ j ≤ b)) : rW (nI j) a b = none := rW_f (fun q => h ⟨(nI_leI ha hj).mp q.1, (nI_leI hj hb).mp q.2⟩)
theorem ffS_ok {s : Nat → Int32} {m : Nat} (hm : m < 2 ^ 31) (h : ffS s m = -1) : m % 4 = 3 ∧ 7 ≤ m ∧ m ≤ 31 ∧ ∀ q, q < m → goB s q = true := by
  unfold ffS at h
  cases e : fstTo (fun q => !goB s q) m with
  | some q =>
    rw [e] at h
    have h1 := (fst_some.mp e).1
    exact absurd h (nI_ne_m1 (by omega))
  | none =>
    rw [e] at h
    have hall : ∀ q, q < m → goB s q = true := fun q hq => by simpa using fst_none.mp e q hq
    by_cases c : m % 4 = 3 ∧ 7 ≤ m
    · refine ⟨c.1, c.2, Nat.not_lt.mp (fun q => ?_), hall⟩
      have h31 := hall 31 q
      rw [goB_3 (by decide)] at h31
      have := (of_decide_eq_true h31).2
      omega
    · simp only [if_neg c] at h
      exact absurd h (nI_ne_m1 hm)
theorem up_lt {w : Nat → Nat} {i v b : Nat} (h : ∀ j, w j ≤ b) (hv : v ≤ b) : ∀ j, up w i v j ≤ b := fun j => by unfold up; split; exact hv; exact h j
