section CELLS2
variable {fil : Nat → Bool} {srt len : Nat → Nat} {cc : Nat → Nat → Int32} {msrt mc : Nat → Int32}
theorem ms_t {k : Nat} (h : msrt k = if fil k = true then nI (srt k) else -9) (h1 : ¬ msrt k = -9) : fil k = true ∧ msrt k = nI (srt k) := by
  cases q : fil k with
  | true => rw [q, if_pos rfl] at h; exact ⟨rfl, h⟩
  | false => rw [q, if_neg (by decide)] at h; exact absurd h h1
theorem ms_f {k : Nat} (hs : srt k ≤ 2) (h : msrt k = if fil k = true then nI (srt k) else -9) (h1 : msrt k = -9) : fil k = false := by
  cases q : fil k with
  | false => rfl
  | true => rw [q, if_pos rfl] at h; rw [h] at h1; exact absurd h1 (m9_ne hs)
theorem wr_len {p : Int32} {l : Nat} (hl : l ≤ 40) (h : wr p (nI 0) (nI l - nI 1) = true) : ∃ j : Nat, j < l ∧ p = nI j := by
  cases l with
  | zero =>
    obtain ⟨h1, h2⟩ := of_decide_eq_true h
    exact absurd (Int32.le_trans h1 h2) (by decide)
  | succ m =>
    rw [pk_sub (by omega), Nat.add_sub_cancel] at h
    obtain ⟨j, -, hj, e⟩ := wi_of h (by omega) (by omega)
    exact ⟨j, by omega, e⟩
theorem wr_lenf {p : Int32} {l : Nat} (hl : l ≤ 40) (h : wr p (nI 0) (nI l - nI 1) = false) : rN p l = none := by
  refine rN_f ?_
  cases q : inR p l with
  | false => rfl
  | true =>
    obtain ⟨j, hj, rfl⟩ := inR_of q (by omega)
    rw [pk_sub (by omega)] at h
    rw [show wr (nI j) (nI 0) (nI (l - 1)) = true from wi_t (nI_le (by omega) (by omega)) (nI_le (by omega) (by omega))] at h
    cases h
theorem hcB_no {f : Bool} {l : Nat} {i : Int32} (hl : l ≤ 40) (h : rN i l = none) : hcB f l i (nI 1) = false := by
  cases q : hcB f l i (nI 1) with
  | false => rfl
  | true =>
    have hf := (hcB_of hl q).1
    rw [hf] at q
    obtain ⟨j, hj, rfl⟩ := hcB_1 hl q
    rw [rN_N hj (by omega)] at h
    cases h
theorem ftk_in {f : Bool} {s l j : Nat} {sort : Int32} (hf : f = true) (hs : nI s = sort) (hl : l ≤ 40) (hj : j < l) : ftk f s l sort (nI j) (nI 1) = 0 := by
  unfold ftk
  rw [hf, if_neg (by decide), if_pos hs, if_neg (by decide), if_pos (hcB_N hl (by omega))]
theorem ftk_out {f : Bool} {s l : Nat} {i sort : Int32} (hf : f = true) (hs : nI s = sort) (hl : l ≤ 40) (hj : rN i l = none) : ftk f s l sort i (nI 1) = 2 + 1 := by
  unfold ftk
  rw [if_neg (by rw [hf]; decide), if_pos hs, if_neg (by decide), if_neg (by rw [hcB_no hl hj]; decide)]
theorem cut_0 {s : Nat} {v : Int32} (h : s = 0) : v.toInt8.toInt32 = cutV s v := by rw [h]; rfl
theorem cut_1 {s : Nat} {v : Int32} (h : s = 1) : v.toInt16.toInt32 = cutV s v := by rw [h]; rfl
theorem cut_2 {s : Nat} {v : Int32} (h0 : ¬ s = 0) (h : ¬ s = 1) : v = cutV s v := by unfold cutV; rw [if_neg h0, if_neg h]
theorem nI_0e {s : Nat} (h : s ≤ 2) : nI s = 0 ↔ s = 0 := nI_eq (by omega) (by decide)
end CELLS2
