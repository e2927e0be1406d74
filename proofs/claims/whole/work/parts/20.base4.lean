/-! the model's words -/
theorem wi_rN {p : Int32} (h : wi p 0 3 = false) : rN p 4 = none := by
  refine rN_f ?_
  cases q : inR p 4 with
  | false => rfl
  | true =>
    obtain ⟨j, hj, rfl⟩ := inR_of q (by decide)
    rw [show wi (nI j) 0 3 = true from wi_t (nI_le (by omega) (by omega)) (nI_le (by omega) (by decide))] at h
    cases h
theorem m9_ne {s : Nat} (h : s ≤ 2) : ¬ nI s = -9 := oN_ne (by omega)
section FTM
variable {f : Bool} {s l : Nat} {sort i n m : Int32}
theorem ftk_m1 (hs : s ≤ 2) (hm : m = if f = true then nI s else -9) (h : m = -9) : 1 = ftk f s l sort i n := by
  cases f with
  | false => rfl
  | true => rw [if_pos rfl] at hm; rw [hm] at h; exact absurd h (m9_ne hs)
theorem ftk_m2 (hm : m = if f = true then nI s else -9) (h1 : ¬ m = -9) (h : ¬ m = sort) : 2 = ftk f s l sort i n := by
  cases f with
  | false => exact absurd hm h1
  | true => rw [if_pos rfl] at hm; subst hm; unfold ftk; rw [if_neg (by decide), if_neg h]
theorem ftk_mt (hm : m = if f = true then nI s else -9) (h1 : ¬ m = -9) (h : m = sort) : f = true ∧ nI s = sort := by
  cases f with
  | false => exact absurd hm h1
  | true => rw [if_pos rfl] at hm; exact ⟨rfl, by rw [← hm]; exact h⟩
theorem ftk_m4 (hm : m = if f = true then nI s else -9) (h1 : ¬ m = -9) (h : m = sort) (hn : n < 0) : 4 = ftk f s l sort i n := by
  obtain ⟨h2, h3⟩ := ftk_mt hm h1 h
  unfold ftk
  rw [if_neg (by rw [h2]; decide), if_pos h3, if_pos hn]
theorem ftk_m0 (hm : m = if f = true then nI s else -9) (h1 : ¬ m = -9) (h : m = sort) (hn : ¬ n < 0) (h4 : ¬ i < 0) (h5 : ¬ nI l < i) (h6 : ¬ nI l - i < n) : 0 = ftk f s l sort i n := by
  obtain ⟨h2, h3⟩ := ftk_mt hm h1 h
  unfold ftk
  rw [if_neg (by rw [h2]; decide), if_pos h3, if_neg hn, if_pos (hcB_t h2 h4 hn h5 h6)]
theorem ftk_m3 (hm : m = if f = true then nI s else -9) (h1 : ¬ m = -9) (h : m = sort) (hn : ¬ n < 0) (h4 : hcB f l i n = false) : 3 = ftk f s l sort i n := by
  obtain ⟨h2, h3⟩ := ftk_mt hm h1 h
  unfold ftk
  rw [if_neg (by rw [h2]; decide), if_pos h3, if_neg hn, if_neg (by rw [h4]; decide)]
end FTM
def flO (w kd pt : Nat → Nat) (sn : Nat) (sb sf ss sw : Nat → Nat) (x : Nat) : Nat := sumTo (fun s => if (sf s = x ∨ ss s = x) ∧ flsN kd pt (sb s) (sw s) (w (sf s)) (w (ss s)) = true then 1 else 0) sn
theorem flO_up {w kd pt : Nat → Nat} {sn : Nat} {sb sf ss sw : Nat → Nat} {x v : Nat} : flO (up w x v) kd pt sn sb sf ss sw x = fbw w kd pt sn sb sf ss sw x v := by
  unfold flO fbw
  refine sumTo_congr (fun j _ => ?_)
  unfold fbwF up
  rfl
/-- w, but k at x, where k isn't 0 -/
def upK (w : Nat → Nat) (x k : Nat) : Nat → Nat := if k = 0 then w else up w x k
theorem upK_succ {w : Nat → Nat} {x k : Nat} : up (upK w x k) x (k + 1) = upK w x (k + 1) := by
  funext j
  unfold upK
  rw [if_neg (show ¬ k + 1 = 0 by omega)]
  by_cases e : j = x
  · subst e; simp [up]
  · by_cases c : k = 0 <;> simp [up, e, c]
theorem upK_1 {w : Nat → Nat} {x k : Nat} : upK w x (k + 1) = up w x (k + 1) := if_neg (by omega)
theorem upK_back {w : Nat → Nat} {x k : Nat} : up (upK w x k) x (w x) = w := by
  funext j
  unfold upK
  by_cases e : j = x
  · subst e; simp [up]
  · by_cases c : k = 0 <;> simp [up, e, c]
theorem wfT_up {n : Nat} {w : Nat → Nat} {x v : Nat} (h : wfT n w) (h1 : 1 ≤ v) (h2 : v ≤ 999) : wfT n (up w x v) := ⟨h.1, fun j => by unfold up; split; exact h2; exact h.2.1 j, fun j hj => by unfold up; split; exact h1; exact h.2.2 j hj⟩
/-- finer, pair by pair -/
def fiA (p q : Nat → Nat → Bool) (n x : Nat) : Bool := allTo (fun y => p x y || !q x y) n
def fiB (p q : Nat → Nat → Bool) (n x : Nat) : Bool := allTo (fun y => !(p x y && !q x y)) n
theorem fin_eq {k1 p1 k2 p2 n : Nat} {w : Nat → Nat} : (allTo (fiA (fun x y => tls k1 p1 (w x) (w y)) (fun x y => tls k2 p2 (w x) (w y)) n) n && !allTo (fiB (fun x y => tls k1 p1 (w x) (w y)) (fun x y => tls k2 p2 (w x) (w y)) n) n) = finM n (ligS k1 p1 w n) (ligS k2 p2 w n) := by
  unfold finM
  have e1 : allTo (fiA (fun x y => tls k1 p1 (w x) (w y)) (fun x y => tls k2 p2 (w x) (w y)) n) n = allTo (fun x => decide (sdiff (ligS k2 p2 w n x) (ligS k1 p1 w n x) = 0)) n := by
    refine allTo_congr (fun x _ => ?_)
    rw [Bool.eq_iff_iff, decide_eq_true_eq]
    unfold fiA
    rw [allTo_iff]
    constructor
    · intro h
      apply Nat.eq_of_testBit_eq
      intro i
      rw [sdiff_bit, ligS_bit, ligS_bit, Nat.zero_testBit]
      by_cases hi : i < n
      · have this : (tls k1 p1 (w x) (w i) || !tls k2 p2 (w x) (w i)) = true := h i hi
        rw [decide_eq_true hi]
        revert this
        cases tls k1 p1 (w x) (w i) <;> cases tls k2 p2 (w x) (w i) <;> simp
      · rw [decide_eq_false hi]; rfl
    · intro h y hy
      have h2 := congrArg (fun a => a.testBit y) h
      simp only [sdiff_bit, ligS_bit, Nat.zero_testBit, decide_eq_true hy, Bool.true_and] at h2
      show (tls k1 p1 (w x) (w y) || !tls k2 p2 (w x) (w y)) = true
      revert h2
      cases tls k1 p1 (w x) (w y) <;> cases tls k2 p2 (w x) (w y) <;> simp
  rw [e1]
  by_cases c : allTo (fun x => decide (sdiff (ligS k2 p2 w n x) (ligS k1 p1 w n x) = 0)) n = true
  · rw [c, Bool.true_and, Bool.true_and]
    congr 1
    refine allTo_congr (fun x hx => ?_)
    have hs := of_decide_eq_true (allTo_iff.mp c x hx)
    rw [Bool.eq_iff_iff, decide_eq_true_eq]
    unfold fiB
    rw [allTo_iff]
    constructor
    · intro h
      apply Nat.eq_of_testBit_eq
      intro i
      rw [ligS_bit, ligS_bit]
      by_cases hi : i < n
      · have h1 : (!(tls k1 p1 (w x) (w i) && !tls k2 p2 (w x) (w i))) = true := h i hi
        have h2 := congrArg (fun a => a.testBit i) hs
        simp only [sdiff_bit, ligS_bit, Nat.zero_testBit, decide_eq_true hi, Bool.true_and] at h2
        rw [decide_eq_true hi]
        revert h1 h2
        cases tls k1 p1 (w x) (w i) <;> cases tls k2 p2 (w x) (w i) <;> simp
      · rw [decide_eq_false hi]; rfl
    · intro h y hy
      have h2 := congrArg (fun a => a.testBit y) h
      simp only [ligS_bit, decide_eq_true hy, Bool.true_and] at h2
      show (!(tls k1 p1 (w x) (w y) && !tls k2 p2 (w x) (w y))) = true
      rw [h2]
      cases tls k1 p1 (w x) (w y) <;> rfl
  · have c2 : allTo (fun x => decide (sdiff (ligS k2 p2 w n x) (ligS k1 p1 w n x) = 0)) n = false := by simpa using c
    rw [c2]; rfl
theorem bnot_t {b : Bool} (h : (!b) = true) : b = false := by cases b; rfl; cases h
theorem bnot_f {b : Bool} (h : (!b) = false) : b = true := by cases b; cases h; rfl
