/-! the model's cells -/
section CELLS
variable {fil : Nat → Bool} {srt len : Nat → Nat} {cc : Nat → Nat → Int32} {msrt mc : Nat → Int32}
theorem hms_sheet (hms : ∀ k, k < 4 → msrt k = if fil k = true then nI (srt k) else -9) {a b : Nat} : ∀ k, k < 4 → upd msrt a (nI b) k = if upB fil a true k = true then nI (up srt a b k) else -9 := by
  intro k hk
  unfold upd upB up
  by_cases e : k = a
  · rw [if_pos e, if_pos e, if_pos e, if_pos rfl]
  · rw [if_neg e, if_neg e, if_neg e]; exact hms k hk
theorem hms_lose (hms : ∀ k, k < 4 → msrt k = if fil k = true then nI (srt k) else -9) {a : Nat} : ∀ k, k < 4 → upd msrt a (-9) k = if upB fil a false k = true then nI (srt k) else -9 := by
  intro k hk
  unfold upd upB
  by_cases e : k = a
  · rw [if_pos e, if_pos e, if_neg (by decide)]
  · rw [if_neg e, if_neg e]; exact hms k hk
/-- cells a .. a + n - 1 are 0 -/
def clr (f : Nat → Int32) (a n : Nat) : Nat → Int32 := fun z => if a ≤ z ∧ z < a + n then 0 else f z
theorem clr_0 {f : Nat → Int32} {a : Nat} : clr f a 0 = f := by
  funext z; unfold clr; rw [if_neg (by omega)]
theorem clr_succ {f : Nat → Int32} {a n : Nat} : upd (clr f a n) (a + n) (nI 0) = clr f a (n + 1) := by
  funext z
  unfold upd clr
  by_cases e : z = a + n
  · rw [if_pos e, if_pos (by omega)]; rfl
  · rw [if_neg e]
    by_cases c : a ≤ z ∧ z < a + n
    · rw [if_pos c, if_pos (by omega)]
    · rw [if_neg c, if_neg (by omega)]
theorem hmc_sheet (hln : ∀ k, len k ≤ 40) (hmc : ∀ k, k < 4 → fil k = true → ∀ j, j < len k → mc (40 * k + j) = cc k j) {a b : Nat} (hb : b ≤ 40) : ∀ k, k < 4 → upB fil a true k = true → ∀ j, j < up len a b k → clr mc (40 * a) 40 (40 * k + j) = rnw cc a b k j := by
  intro k hk hf j hj
  unfold upB at hf
  unfold up at hj
  unfold clr rnw
  by_cases e : k = a
  · subst e
    rw [if_pos rfl] at hj
    rw [if_pos (by omega), if_pos rfl, if_pos hj]
  · rw [if_neg e] at hj hf
    have := hln k
    rw [if_neg (by omega), if_neg e]
    exact hmc k hk hf j hj
theorem hmc_put (hln : ∀ k, len k ≤ 40) (hmc : ∀ k, k < 4 → fil k = true → ∀ j, j < len k → mc (40 * k + j) = cc k j) {a b : Nat} {v : Int32} (hb : b < len a) : ∀ k, k < 4 → fil k = true → ∀ j, j < len k → upd mc (40 * a + b) v (40 * k + j) = upr cc a (upd (cc a) b v) k j := by
  intro k hk hf j hj
  have h1 := hln k
  have h2 := hln a
  unfold upd upr
  by_cases e : k = a
  · subst e
    rw [if_pos rfl]
    by_cases e2 : j = b
    · subst e2; rw [if_pos rfl, if_pos rfl]
    · rw [if_neg (by omega), if_neg e2]; exact hmc k hk hf j hj
  · rw [if_neg (by omega), if_neg e]
    exact hmc k hk hf j hj
end CELLS
/-! best rows, the model's loop -/
section BEST
variable {sp : (Nat → Nat) → Nat} {rs : Nat → Nat → Nat} {b0 : Nat → Nat} {n k K : Nat}
theorem fb_new (h : fbK sp rs k = -9 ∨ ¬ fbK sp rs k ≤ nI (sp (rs k))) (hb : ∀ r, sp r < 2 ^ 31) : fbK sp rs (k + 1) = nI (sp (rs k)) ∧ bbK sp rs b0 n (k + 1) = layF (bbK sp rs b0 n k) n (rs k) := by
  cases k with
  | zero => exact ⟨rfl, rfl⟩
  | succ k =>
    have hl : lsK sp rs k < 2 ^ 31 := Nat.lt_of_le_of_lt (lsK_le (m := 2 ^ 31 - 1) (fun r => by have := hb r; omega) k) (by decide)
    have h2 : sp (rs (k + 1)) < lsK sp rs k := by
      rcases h with h | h
      · exact absurd h (oN_ne hl)
      · exact Nat.not_le.mp (fun q => h ((nI_leI hl (hb _)).mpr q))
    exact ⟨by rw [fbK, lsK, if_pos h2], by rw [bbK, bsK, if_pos h2]; rfl⟩
theorem fb_old (hb : ∀ r, sp r < 2 ^ 31) (h9 : ¬ fbK sp rs k = -9) (h : fbK sp rs k ≤ nI (sp (rs k))) : fbK sp rs (k + 1) = fbK sp rs k ∧ bbK sp rs b0 n (k + 1) = bbK sp rs b0 n k := by
  cases k with
  | zero => exact absurd rfl h9
  | succ k =>
    have hl : lsK sp rs k < 2 ^ 31 := Nat.lt_of_le_of_lt (lsK_le (m := 2 ^ 31 - 1) (fun r => by have := hb r; omega) k) (by decide)
    have h2 : ¬ sp (rs (k + 1)) < lsK sp rs k := Nat.not_lt.mpr ((nI_leI hl (hb _)).mp h)
    exact ⟨by rw [fbK, lsK, if_neg h2]; rfl, by rw [bbK, bsK, if_neg h2]; rfl⟩
theorem nx_1 (hs : ∀ k, k < K → nxt n (rs k) = some (rs (k + 1))) (hK : nxt n (rs K) = none) (hk : k ≤ K) : (nxt n (rs k)).isSome = decide (k + 1 ≤ K) := by
  rcases Nat.lt_or_ge k K with q | q
  · rw [hs k q, decide_eq_true (show k + 1 ≤ K from q)]; rfl
  · obtain rfl : k = K := by omega
    rw [hK, decide_eq_false (by omega)]; rfl
theorem nx_2 (hs : ∀ k, k < K → nxt n (rs k) = some (rs (k + 1))) (hK : nxt n (rs K) = none) (hk : k ≤ K) : (nxt n (rs k)).getD (rs k) = rs (min (k + 1) K) := by
  rcases Nat.lt_or_ge k K with q | q
  · rw [hs k q, Nat.min_eq_left q]; rfl
  · obtain rfl : k = K := by omega
    rw [hK, Nat.min_eq_right (by omega)]; rfl
end BEST
