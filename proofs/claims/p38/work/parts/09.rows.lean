/-! the sheets' rows, four of them behind five cells -/
/-- c, but r at k -/
def upr (c : Nat → Nat → Int32) (k : Nat) (r : Nat → Int32) : Nat → Nat → Int32 := fun a => if a = k then r else c a
theorem upr_self (c : Nat → Nat → Int32) (k : Nat) (r : Nat → Int32) : upr c k r k = r := by simp [upr]
section RWS
variable {x : vX} {g : vG} {cc : ByteArray} {own : String} {rm : Room} {nL pc : Nat} {lv : List (Option Value)} {st : List Value} {w0 w1 w2 w3 w4 : Nat × va_E} {wt : va_W} {rr : Nat → Nat} {c : Nat → Nat → Int32} {k o i : Nat}
abbrev rows4 (g : vG) (rr : Nat → Nat) (c : Nat → Nat → Int32) (wt : va_W) : va_W := (rr 0, .inl (gI g, 40, .inl (c 0))) :: (rr 1, .inl (gI g, 40, .inl (c 1))) :: (rr 2, .inl (gI g, 40, .inl (c 2))) :: (rr 3, .inl (gI g, 40, .inl (c 3))) :: wt
theorem rows_at (hk : k < 4) : (w0 :: w1 :: w2 :: w3 :: w4 :: rows4 g rr c wt)[5 + k]? = some (rr k, .inl (gI g, 40, .inl (c k))) := by
  rcases (show k = 0 ∨ k = 1 ∨ k = 2 ∨ k = 3 by omega) with rfl | rfl | rfl | rfl <;> rfl
theorem rows_set {r : Nat → Int32} (hk : k < 4) : (w0 :: w1 :: w2 :: w3 :: w4 :: rows4 g rr c wt).set (5 + k) (rr k, .inl (gI g, 40, .inl r)) = w0 :: w1 :: w2 :: w3 :: w4 :: rows4 g rr (upr c k r) wt := by
  rcases (show k = 0 ∨ k = 1 ∨ k = 2 ∨ k = 3 by omega) with rfl | rfl | rfl | rfl <;> rfl
theorem v_rowld (h : Ok x g cc own rm nL) (hk : k < 4) (hi : i < 40) (hd : decode cc pc = .ok (.iaload, 1)) (kk : vM x (pc + 1) lv (.int (c k i) :: st) (w0 :: w1 :: w2 :: w3 :: w4 :: (rr 0, .inl (gI g, 40, .inl (c 0))) :: (rr 1, .inl (gI g, 40, .inl (c 1))) :: (rr 2, .inl (gI g, 40, .inl (c 2))) :: (rr 3, .inl (gI g, 40, .inl (c 3))) :: wt)) : vM x pc lv (.int (nI i) :: .ref (rr k) :: st) (w0 :: w1 :: w2 :: w3 :: w4 :: (rr 0, .inl (gI g, 40, .inl (c 0))) :: (rr 1, .inl (gI g, 40, .inl (c 1))) :: (rr 2, .inl (gI g, 40, .inl (c 2))) :: (rr 3, .inl (gI g, 40, .inl (c 3))) :: wt) :=
  v_ialdF h (5 + k) (rows_at hk) hi (by decide) hd kk
theorem v_rowst {v : Int32} (h : Ok x g cc own rm nL) (hk : k < 4) (hi : i < 40) (hd : decode cc pc = .ok (.iastore, 1)) (kk : vM x (pc + 1) lv st (w0 :: w1 :: w2 :: w3 :: w4 :: (rr 0, .inl (gI g, 40, .inl (upr c k (upd (c k) i v) 0))) :: (rr 1, .inl (gI g, 40, .inl (upr c k (upd (c k) i v) 1))) :: (rr 2, .inl (gI g, 40, .inl (upr c k (upd (c k) i v) 2))) :: (rr 3, .inl (gI g, 40, .inl (upr c k (upd (c k) i v) 3))) :: wt)) : vM x pc lv (.int v :: .int (nI i) :: .ref (rr k) :: st) (w0 :: w1 :: w2 :: w3 :: w4 :: (rr 0, .inl (gI g, 40, .inl (c 0))) :: (rr 1, .inl (gI g, 40, .inl (c 1))) :: (rr 2, .inl (gI g, 40, .inl (c 2))) :: (rr 3, .inl (gI g, 40, .inl (c 3))) :: wt) :=
  v_iastF h (5 + k) (rows_at hk) hi (by decide) hd (rows_set hk) kk
theorem v_rowref {a : Nat} (h : Ok x g cc own rm nL) (hk : k < 4) (hd : decode cc pc = .ok (.aaload, 1)) (kk : vM x (pc + 1) lv (.ref (rr k) :: st) (w0 :: w1 :: w2 :: w3 :: (a, .inl (gA g, 4, .inr (.inr (.inr (.inr (fun i => if i < 4 then some (rr i) else none)))))) :: wt)) : vM x pc lv (.int (nI k) :: .ref a :: st) (w0 :: w1 :: w2 :: w3 :: (a, .inl (gA g, 4, .inr (.inr (.inr (.inr (fun i => if i < 4 then some (rr i) else none)))))) :: wt) :=
  v_aaldN h 4 rfl hk (by decide) (if_pos hk) hd kk
end RWS
/-- sheets -/
def hcB (f : Bool) (l : Nat) (i n : Int32) : Bool := f && decide (¬ i < 0 ∧ ¬ n < 0 ∧ ¬ nI l < i ∧ ¬ nI l - i < n)
def ftk (f : Bool) (s l : Nat) (sort i n : Int32) : Nat := if f = false then 1 else if nI s = sort then (if n < 0 then 4 else if hcB f l i n = true then 0 else 3) else 2
def cutV (s : Nat) (v : Int32) : Int32 := if s = 0 then v.toInt8.toInt32 else if s = 1 then v.toInt16.toInt32 else v
def rnw (c : Nat → Nat → Int32) (k n : Nat) : Nat → Nat → Int32 := fun a => if a = k then (fun j => if j < n then 0 else c k j) else c a
theorem rnw_0 {c : Nat → Nat → Int32} {k : Nat} : rnw c k 0 = c := by
  funext a
  by_cases e : a = k
  · subst e; simp [rnw]
  · simp [rnw, e]
theorem rnw_succ {c : Nat → Nat → Int32} {k i : Nat} : upr (rnw c k i) k (upd (rnw c k i k) i (nI 0)) = rnw c k (i + 1) := by
  funext a
  by_cases e : a = k
  · subst e
    rw [upr_self]
    funext j
    unfold upd rnw
    simp only [if_true]
    by_cases hj : j = i
    · subst hj; simp; rfl
    · rcases Nat.lt_or_ge j i with q | q
      · simp [hj, q, Nat.lt_succ_of_lt q]
      · simp [hj, Nat.not_lt.mpr q, show ¬ j < i + 1 by omega]
  · simp [upr, rnw, e]
theorem upB_same {f : Nat → Bool} {k : Nat} {b : Bool} (h : f k = b) : upB f k b = f := by
  funext j
  by_cases e : j = k
  · subst e; simp [upB, h]
  · simp [upB, e]
theorem hcB_N {l i n : Nat} (hl : l ≤ 40) (h : i + n ≤ l) : hcB true l (nI i) (nI n) = true := by
  unfold hcB
  rw [Bool.true_and]
  refine decide_eq_true ⟨nI_pos (by omega), nI_pos (by omega), nI_nlt (by omega) (by omega), ?_⟩
  rw [pk_sub (by omega)]
  exact nI_nlt (by omega) (by omega)
theorem hcB_t {f : Bool} {l : Nat} {i n : Int32} (h0 : f = true) (h1 : ¬ i < 0) (h2 : ¬ n < 0) (h3 : ¬ nI l < i) (h4 : ¬ nI l - i < n) : hcB f l i n = true := by rw [h0]; exact decide_eq_true ⟨h1, h2, h3, h4⟩
theorem hcB_f0 {f : Bool} {l : Nat} {i n : Int32} (h0 : f = false) : hcB f l i n = false := by rw [h0]; rfl
theorem hcB_f1 {f : Bool} {l : Nat} {i n : Int32} (h : i < 0) : hcB f l i n = false := by unfold hcB; rw [decide_eq_false (fun q => q.1 h)]; simp
theorem hcB_f2 {f : Bool} {l : Nat} {i n : Int32} (h : n < 0) : hcB f l i n = false := by unfold hcB; rw [decide_eq_false (fun q => q.2.1 h)]; simp
theorem hcB_f3 {f : Bool} {l : Nat} {i n : Int32} (h : nI l < i) : hcB f l i n = false := by unfold hcB; rw [decide_eq_false (fun q => q.2.2.1 h)]; simp
theorem hcB_f4 {f : Bool} {l : Nat} {i n : Int32} (h : nI l - i < n) : hcB f l i n = false := by unfold hcB; rw [decide_eq_false (fun q => q.2.2.2 h)]; simp
theorem hcB_of {f : Bool} {l : Nat} {i n : Int32} (hl : l ≤ 40) (h : hcB f l i n = true) : f = true ∧ ∃ i' n' : Nat, i = nI i' ∧ n = nI n' ∧ i' + n' ≤ l := by
  unfold hcB at h
  rw [Bool.and_eq_true] at h
  obtain ⟨h0, h5⟩ := h
  obtain ⟨h1, h2, h3, h4⟩ := of_decide_eq_true h5
  obtain ⟨i', hi', rfl⟩ := nI_of h1
  obtain ⟨n', hn', rfl⟩ := nI_of h2
  have h6 : i' ≤ l := Nat.not_lt.mp (fun q => h3 ((nI_ltI (by omega) hi').mpr q))
  rw [pk_sub h6] at h4
  have h7 : n' ≤ l - i' := Nat.not_lt.mp (fun q => h4 ((nI_ltI (by omega) hn').mpr q))
  exact ⟨h0, i', n', rfl, rfl, by omega⟩
/-- rows of hands -/
def exw (rw : Nat → Nat) (a b : Nat) : Nat → Nat := up (up rw a (rw b)) b (rw a)
def sft (rw : Nat → Nat) : Nat → (Nat → Nat)
  | 0 => rw
  | k + 1 => if rw (k + 1) < rw k then sft (exw rw k (k + 1)) k else rw
def srtK (rw : Nat → Nat) : Nat → (Nat → Nat)
  | 0 => rw
  | k + 1 => sft (srtK rw k) (k + 1)
def ris (rw : Nat → Nat) : Nat → Option Nat
  | 0 => none
  | k + 1 => if rw k < rw (k + 1) then some k else ris rw k
def gre (rw : Nat → Nat) (r : Nat) : Nat → Nat
  | 0 => 0
  | k + 1 => if r < k + 1 ∧ rw (k + 1) ≤ rw r then gre rw r k else k + 1
def rvs : Nat → (Nat → Nat) → Nat → Nat → (Nat → Nat)
  | 0, rw, _, _ => rw
  | f + 1, rw, lo, hi => if lo < hi then rvs f (exw rw lo hi) (lo + 1) (hi - 1) else rw
def nxt (n : Nat) (rw : Nat → Nat) : Option (Nat → Nat) := match ris rw (n - 1) with
  | none => none
  | some r => some (rvs n (exw rw r (gre rw r (n - 1))) (r + 1) (n - 1))
def grtN (k p v : Nat) : Nat := v + (if k = 2 then v - 1 else v) / times k p
def leaN (k p v : Nat) : Nat := if k = 2 then v * times k p / (times k p + 1) + 1 else (v * times k p + times k p) / (times k p + 1)
def grtK (kd pt rw : Nat → Nat) (v : Nat) : Nat → Nat
  | 0 => v
  | k + 1 => grtN (kd (rw k)) (pt (rw k)) (grtK kd pt rw v k)
def leaK (kd pt rw : Nat → Nat) (v : Nat) : Nat → Nat
  | 0 => v
  | k + 1 => leaN (kd (rw k)) (pt (rw k)) (leaK kd pt rw v k)
def spdN (kd pt : Nat → Nat) (v n : Nat) (rw : Nat → Nat) : Nat := grtK kd pt rw v n - leaK kd pt rw v n
theorem grtN_ge (k p v : Nat) : v ≤ grtN k p v := Nat.le_add_right _ _
theorem grtN_le (k p v : Nat) : grtN k p v ≤ v + v := by
  unfold grtN
  refine Nat.add_le_add_left (Nat.le_trans (Nat.div_le_self _ _) ?_) v
  split <;> omega
theorem leaN_le {k p v : Nat} (hp : 1 ≤ p) (hv : 1 ≤ v) : leaN k p v ≤ v := by
  have ht := times_pos (k := k) hp
  unfold leaN
  generalize times k p = t at ht
  split
  · have : v * t / (t + 1) < v := by
      rw [Nat.div_lt_iff_lt_mul (by omega)]
      rw [Nat.mul_succ]; omega
    omega
  · refine Nat.le_of_lt_succ ?_
    rw [Nat.div_lt_iff_lt_mul (by omega), Nat.succ_mul, Nat.mul_succ]
    omega
theorem leaN_pos {k p v : Nat} (hp : 1 ≤ p) (hv : 1 ≤ v) : 1 ≤ leaN k p v := by
  have ht := times_pos (k := k) hp
  unfold leaN
  generalize times k p = t at ht
  split
  · exact Nat.le_add_left _ _
  · rw [Nat.le_div_iff_mul_le (by omega)]
    have := Nat.mul_le_mul hv (Nat.le_refl t)
    omega
theorem grtK_ge {kd pt rw : Nat → Nat} {v : Nat} : ∀ k, v ≤ grtK kd pt rw v k
  | 0 => Nat.le_refl _
  | k + 1 => Nat.le_trans (grtK_ge k) (grtN_ge _ _ _)
theorem grtK_le {kd pt rw : Nat → Nat} {v : Nat} : ∀ k, grtK kd pt rw v k ≤ v * 2 ^ k
  | 0 => by simp [grtK]
  | k + 1 => by
    have h1 := grtK_le (kd := kd) (pt := pt) (rw := rw) (v := v) k
    have h2 := grtN_le (kd (rw k)) (pt (rw k)) (grtK kd pt rw v k)
    rw [grtK, Nat.pow_succ, ← Nat.mul_assoc]
    omega
theorem leaK_le {kd pt rw : Nat → Nat} {v n : Nat} (hp : ∀ j, j < n → 1 ≤ pt (rw j)) (hv : 1 ≤ v) : ∀ k, k ≤ n → leaK kd pt rw v k ≤ v ∧ 1 ≤ leaK kd pt rw v k
  | 0, _ => ⟨Nat.le_refl _, hv⟩
  | k + 1, h => by
    have h1 := leaK_le (kd := kd) hp hv k (by omega)
    exact ⟨Nat.le_trans (leaN_le (hp k (by omega)) h1.2) h1.1, leaN_pos (hp k (by omega)) h1.2⟩
theorem exw_lt {rw : Nat → Nat} {a b n m : Nat} (h : ∀ j, j < n → rw j < m) (ha : a < n) (hb : b < n) : ∀ j, j < n → exw rw a b j < m := by
  intro j hj
  unfold exw up
  split
  · exact h a ha
  · split
    · exact h b hb
    · exact h j hj
theorem sft_lt {n m : Nat} : ∀ (k : Nat) (rw : Nat → Nat), (∀ j, j < n → rw j < m) → k < n → ∀ j, j < n → sft rw k j < m
  | 0, rw, h, _, j, hj => h j hj
  | k + 1, rw, h, hk, j, hj => by
    rw [sft]
    split
    · exact sft_lt k _ (exw_lt h (by omega) hk) (by omega) j hj
    · exact h j hj
theorem srtK_lt {n m : Nat} {rw : Nat → Nat} (h : ∀ j, j < n → rw j < m) : ∀ (k : Nat), k < n → ∀ j, j < n → srtK rw k j < m
  | 0, _, j, hj => h j hj
  | k + 1, hk, j, hj => sft_lt (k + 1) _ (srtK_lt h k (by omega)) hk j hj
theorem rvs_lt {n m : Nat} : ∀ (f : Nat) (rw : Nat → Nat) (lo hi : Nat), (∀ j, j < n → rw j < m) → hi < n → ∀ j, j < n → rvs f rw lo hi j < m
  | 0, rw, lo, hi, h, _, j, hj => h j hj
  | f + 1, rw, lo, hi, h, hh, j, hj => by
    rw [rvs]
    split
    · exact rvs_lt f _ _ _ (exw_lt h (by omega) hh) (by omega) j hj
    · exact h j hj
theorem gre_le (rw : Nat → Nat) (r : Nat) : ∀ k, gre rw r k ≤ k
  | 0 => Nat.le_refl _
  | k + 1 => by
    rw [gre]
    split
    · exact Nat.le_trans (gre_le rw r k) (by omega)
    · exact Nat.le_refl _
theorem ris_lt {rw : Nat → Nat} : ∀ {k r : Nat}, ris rw k = some r → r < k ∧ rw r < rw (r + 1)
  | 0, r, h => by simp [ris] at h
  | k + 1, r, h => by
    rw [ris] at h
    split at h
    · cases h; exact ⟨by omega, by assumption⟩
    · have := ris_lt h; exact ⟨by omega, this.2⟩
theorem nxt_lt {n m : Nat} {rw r2 : Nat → Nat} (h : ∀ j, j < n → rw j < m) (hx : nxt n rw = some r2) : ∀ j, j < n → r2 j < m := by
  unfold nxt at hx
  cases q : ris rw (n - 1) with
  | none => rw [q] at hx; cases hx
  | some r =>
    rw [q] at hx
    cases hx
    have h1 := (ris_lt q).1
    have h2 := gre_le rw r (n - 1)
    exact rvs_lt _ _ _ _ (exw_lt h (by omega) (by omega)) (by omega)
theorem rvs_fuel : ∀ (f : Nat) (rw : Nat → Nat) (lo hi : Nat), ¬ lo < hi → rvs f rw lo hi = rw
  | 0, _, _, _, _ => rfl
  | f + 1, _, _, _, h => by rw [rvs, if_neg h]
theorem grtK_b {kd pt rw : Nat → Nat} {v k : Nat} (hv : v ≤ 999) (hk : k ≤ 5) : grtK kd pt rw v k ≤ 31968 := Nat.le_trans (grtK_le k) (Nat.le_trans (Nat.mul_le_mul hv (Nat.pow_le_pow_right (by decide) hk)) (by decide))
theorem spd_le {kd pt rw : Nat → Nat} {v n : Nat} (hp : ∀ j, j < n → 1 ≤ pt (rw j)) (hv : 1 ≤ v) : leaK kd pt rw v n ≤ grtK kd pt rw v n := Nat.le_trans (leaK_le hp hv n (Nat.le_refl _)).1 (grtK_ge n)
def lsK (sp : (Nat → Nat) → Nat) (rs : Nat → Nat → Nat) : Nat → Nat
  | 0 => sp (rs 0)
  | k + 1 => if sp (rs (k + 1)) < lsK sp rs k then sp (rs (k + 1)) else lsK sp rs k
def bsK (sp : (Nat → Nat) → Nat) (rs : Nat → Nat → Nat) (rb : Nat → Nat) (n : Nat) : Nat → Nat → Nat
  | 0 => layF rb n (rs 0)
  | k + 1 => if sp (rs (k + 1)) < lsK sp rs k then layF (bsK sp rs rb n k) n (rs (k + 1)) else bsK sp rs rb n k
theorem lsK_le {sp : (Nat → Nat) → Nat} {rs : Nat → Nat → Nat} {m : Nat} (h : ∀ r, sp r ≤ m) : ∀ k, lsK sp rs k ≤ m
  | 0 => h _
  | k + 1 => by rw [lsK]; split; exact h _; exact lsK_le h k
theorem spdN_le {kd pt : Nat → Nat} {v n : Nat} (hv : v ≤ 999) (hn : n ≤ 5) (rw : Nat → Nat) : spdN kd pt v n rw ≤ 31968 := Nat.le_trans (Nat.sub_le _ _) (grtK_b hv hn)
/-- a text's codes -/
def dv (c : Int32) : Nat := (c - 48).toNatClampNeg
theorem dv_ok {c : Int32} (h1 : ¬ c < nI 48) (h2 : ¬ nI 57 < c) : c = nI (48 + dv c) ∧ dv c ≤ 9 := by
  have h0 : ¬ c < 0 := fun q => h1 (Int32.lt_of_lt_of_le q (by decide))
  obtain ⟨j, hj, rfl⟩ := nI_of h0
  have h3 : 48 ≤ j := Nat.not_lt.mp (fun q => h1 ((nI_ltI hj (by decide)).mpr q))
  have h4 : j ≤ 57 := Nat.not_lt.mp (fun q => h2 ((nI_ltI (by decide) hj).mpr q))
  have h5 : dv (nI j) = j - 48 := by
    unfold dv
    rw [show (48 : Int32) = nI 48 from rfl, pk_sub h3, nI_clamp (by omega)]
  rw [h5]
  exact ⟨by rw [show 48 + (j - 48) = j by omega], by omega⟩
def numK (dg : Nat → Nat) : Nat → Nat
  | 0 => 0
  | q + 1 => 10 * numK dg q + dg q
def numV (s : Nat → Int32) (p : Nat) : Nat := numK (fun q => dv (s (p + q))) 3
theorem numK_b {dg : Nat → Nat} (h : ∀ q, q < 3 → dg q ≤ 9) : numK dg 3 ≤ 999 := by
  have h0 := h 0 (by decide); have h1 := h 1 (by decide); have h2 := h 2 (by decide)
  show 10 * (10 * (10 * 0 + dg 0) + dg 1) + dg 2 ≤ 999
  omega
def goB (s : Nat → Int32) (q : Nat) : Bool := if q % 4 = 3 then decide (s q = nI 59 ∧ q < 31) else decide (¬ s q < nI 48 ∧ ¬ nI 57 < s q ∧ (q % 4 = 2 → numV s (q - 2) ≠ 0))
theorem goB_3 {s : Nat → Int32} {q : Nat} (h : q % 4 = 3) : goB s q = decide (s q = nI 59 ∧ q < 31) := if_pos h
theorem goB_d {s : Nat → Int32} {q : Nat} (h : ¬ q % 4 = 3) : goB s q = decide (¬ s q < nI 48 ∧ ¬ nI 57 < s q ∧ (q % 4 = 2 → numV s (q - 2) ≠ 0)) := if_neg h
theorem goB_dig {s : Nat → Int32} {q : Nat} (h : ¬ q % 4 = 3) (hg : goB s q = true) : s q = nI (48 + dv (s q)) ∧ dv (s q) ≤ 9 := by
  rw [goB_d h] at hg
  have := of_decide_eq_true hg
  exact dv_ok this.1 this.2.1
def ffS (s : Nat → Int32) (n : Nat) : Int32 := match fstTo (fun q => !goB s q) n with
  | some q => nI q
  | none => if n % 4 = 3 ∧ 7 ≤ n then -1 else nI n
section IIN
variable {x : vX} {g : vG} {cc : ByteArray} {own : String} {rm : Room} {nL : Nat} {pc : Nat} {lv : List (Option Value)} {st : List Value} {ws : va_W}
theorem v_iinc5by4 (h : Ok x g cc own rm nL) {l0 l1 l2 l3 l4 : Option Value} {lt : List (Option Value)} {v : Nat} (hn : 5 < nL) (hd : decode cc pc = .ok (.iinc 5 4, 3)) (k : vM x (pc + 3) (l0 :: l1 :: l2 :: l3 :: l4 :: some (.int (nI (v + 4))) :: lt) st ws) : vM x pc (l0 :: l1 :: l2 :: l3 :: l4 :: some (.int (nI v)) :: lt) st ws := by
  refine v_iinc5 h hn hd ?_
  rw [show nI v + Int32.ofInt 4 = nI (v + 4) from nI_add v 4]
  exact k
end IIN
section LKU
variable {x : vX} {g : vG} {cc : ByteArray} {own : String} {rm : Room} {nL : Nat} {pc : Nat} {lv : List (Option Value)} {st : List Value} {ws : va_W}
theorem v_lookup (h : Ok x g cc own rm nL) {dflt : Int} {ps : Array (Int × Int)} {len : Nat} {v : Int32} {off : Int} {tgt : Nat} (hd : decode cc pc = .ok (.lookupswitch dflt ps, len)) (hp : (ps.toList.zip (ps.toList.drop 1)).all (fun (a, next) => a.1 < next.1) = true) (ho : Op.lookupswitch.offset ps.toList dflt v.toInt = off) (ht : (pc : Int) + off = (tgt : Int)) (k : vM x tgt lv st ws) : vM x pc lv (.int v :: st) ws := by
  obtain ⟨g0, p, e, R, s, m, args, below, meth, c, cells, slots, Q, A, nL0⟩ := x
  obtain ⟨rfl, rfl, rfl, hx, hb, hml, hown, hts, hK, hA, hlk, hnw, hcl, hsl⟩ := h
  exact fun H locs ls hP hD hS hl => lv_lookup hx hb hd hp ho ht (k H locs ls hP hD hS hl)
theorem v_tableIn (h : Ok x g cc own rm nL) {dflt lo hi : Int} {offs : Array Int} {len : Nat} {v : Int32} {off : Int} {tgt : Nat} (hd : decode cc pc = .ok (.tableswitch dflt lo hi offs, len)) (h1 : ¬ v.toInt < lo) (h2 : ¬ hi < v.toInt) (ho : offs[(v.toInt - lo).toNat]? = some off) (ht : (pc : Int) + off = (tgt : Int)) (k : vM x tgt lv st ws) : vM x pc lv (.int v :: st) ws := by
  obtain ⟨g0, p, e, R, s, m, args, below, meth, c, cells, slots, Q, A, nL0⟩ := x
  obtain ⟨rfl, rfl, rfl, hx, hb, hml, hown, hts, hK, hA, hlk, hnw, hcl, hsl⟩ := h
  exact fun H locs ls hP hD hS hl => lv_tableIn hx hb hd h1 h2 ho ht (k H locs ls hP hD hS hl)
theorem v_tableOut (h : Ok x g cc own rm nL) {dflt lo hi : Int} {offs : Array Int} {len : Nat} {v : Int32} {tgt : Nat} (hd : decode cc pc = .ok (.tableswitch dflt lo hi offs, len)) (h1 : v.toInt < lo ∨ hi < v.toInt) (ht : (pc : Int) + dflt = (tgt : Int)) (k : vM x tgt lv st ws) : vM x pc lv (.int v :: st) ws := by
  obtain ⟨g0, p, e, R, s, m, args, below, meth, c, cells, slots, Q, A, nL0⟩ := x
  obtain ⟨rfl, rfl, rfl, hx, hb, hml, hown, hts, hK, hA, hlk, hnw, hcl, hsl⟩ := h
  exact fun H locs ls hP hD hS hl => lv_tableOut hx hb hd h1 ht (k H locs ls hP hD hS hl)
end LKU
theorem nI_m2 (m : Nat) : nI m + 1 - nI 2 = nI m + Int32.ofInt (-1) := by
  rw [Int32.sub_eq_add_neg, Int32.add_assoc]
  exact congrArg (fun y => nI m + y) (by decide)
theorem numV_sh {c : Nat → Int32} {i p m : Nat} (h : i + p = m) : numV (fun z => c (m + z)) 0 = numV (fun z => c (i + z)) p := by
  unfold numV
  congr 1
  funext q
  show dv (c (m + (0 + q))) = dv (c (i + (p + q)))
  rw [show m + (0 + q) = i + (p + q) by omega]
theorem numV_b {s : Nat → Int32} {p : Nat} (h : ∀ z, z < 3 → dv (s (p + z)) ≤ 9) : numV s p ≤ 999 := numK_b h
