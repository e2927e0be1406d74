theorem fitb_bit {el : Nat → Nat} {ec a y : Nat} : (fitb el ec a).testBit y = (decide (y < ec) && (!a.testBit y && decide (sdiff (el y) a = 0))) := by
  rw [← orIf_bit (c := fun y => !a.testBit y && decide (sdiff (el y) a = 0)) (n := ec)]
  unfold fitb
  congr 1
  refine orTo_congr (fun z _ => ?_)
  by_cases c1 : a.testBit z = false ∧ sdiff (el z) a = 0
  · rw [if_pos c1, if_pos (by rw [c1.1, decide_eq_true c1.2]; rfl)]
  · rw [if_neg c1, if_neg (fun q => c1 (by simpa using q))]
theorem laid_pop {el : Nat → Nat} {n : Nat} (hn : n ≤ 8) : ∀ k, popN (laidK el n k) ≤ k
  | 0 => by show popN 0 ≤ 0; decide
  | k + 1 => by
    have h := laid_pop (el := el) hn k
    rw [laidK]
    cases q : lstN (fitb el n (laidK el n k)) n with
    | none => show popN (laidK el n k) ≤ k + 1; omega
    | some z =>
      have h1 := lst_some.mp q
      have h2 := h1.2.1
      rw [fitb_bit] at h2
      have h3 : (laidK el n k).testBit z = false := by
        cases r : (laidK el n k).testBit z with
        | false => rfl
        | true => rw [r] at h2; simp at h2
      show popN (laidK el n k ||| 2 ^ z) ≤ k + 1
      rw [popN_or (and_pow_0 h3), pop_pow ⟨z, by omega⟩]
      omega
theorem ex_fit {kk p n k : Nat} {w : Nat → Nat} (hn : n ≤ 8) (hk : k < n) : ∃ z, lstN (fitb (ligS kk p w n) n (laidK (ligS kk p w n) n k)) n = some z := by
  cases q : lstN (fitb (ligS kk p w n) n (laidK (ligS kk p w n) n k)) n with
  | some z => exact ⟨z, rfl⟩
  | none =>
    exfalso
    have h0 := fst_none.mp q
    by_cases h : ∀ z, z < n → (laidK (ligS kk p w n) n k).testBit z = true
    · have h1 := pop_ge (n := n) (by omega) h
      have h2 := laid_pop (el := ligS kk p w n) hn k
      omega
    · obtain ⟨z, hz⟩ := Classical.not_forall.mp h
      have hz1 : z < n := Classical.byContradiction (fun r => hz (fun r2 => absurd r2 r))
      have hz2 : (laidK (ligS kk p w n) n k).testBit z = false := by
        cases r : (laidK (ligS kk p w n) n k).testBit z with
        | false => rfl
        | true => exact absurd (fun _ => r) hz
      obtain ⟨y, hy, hb, hs⟩ := min_fit (k := kk) (p := p) (w := w) (w z) z hz1 hz2 (Nat.le_refl _)
      have h3 : (fitb (ligS kk p w n) n (laidK (ligS kk p w n) n k)).testBit y = false := h0 y hy
      rw [fitb_bit, decide_eq_true hy, hb, decide_eq_true hs] at h3
      cases h3
theorem laid_succ {el : Nat → Nat} {n k z : Nat} (h : lstN (fitb el n (laidK el n k)) n = some z) : laidK el n (k + 1) = laidK el n k ||| 2 ^ z := by rw [laidK, h]
theorem nxt_succ {el : Nat → Nat} {n k z : Nat} (h : lstN (fitb el n (laidK el n k)) n = some z) : nxtK el n (k + 1) = nI z := by rw [nxtK, h]; rfl
theorem fit_hit {el : Nat → Nat} {n a y z : Nat} (h : lstN (fitb el n a) n = some z) (hy : y ≤ z) (h1 : (!a.testBit y && decide (sdiff (el y) a = 0)) = true) : z = y := by
  have h2 := lst_some.mp h
  rcases Nat.lt_or_ge y z with q | q
  · have h3 := h2.2.2 y q
    rw [fitb_bit, decide_eq_true (by omega), h1] at h3
    cases h3
  · omega
theorem fit_miss {el : Nat → Nat} {n a y z : Nat} (h : lstN (fitb el n a) n = some z) (hy : y ≤ z) (h1 : (!a.testBit y && decide (sdiff (el y) a = 0)) = false) : y < z := by
  have h2 := lst_some.mp h
  rcases Nat.lt_or_ge y z with q | q
  · exact q
  · obtain rfl : y = z := by omega
    have h3 := h2.2.1
    rw [fitb_bit, h1, Bool.and_false] at h3
    cases h3
def fr4 (el : Nat → Nat) (n : Nat) : Nat → Int32
  | 0 => 0
  | k + 1 => nxtK el n (k + 1)
/-! the counts as the model keeps them -/
def zr (f : Nat → Nat) (k : Nat) : Nat → Nat := fun z => if z < k then 0 else f z
theorem zr_0 {f : Nat → Nat} : zr f 0 = f := by funext z; unfold zr; rw [if_neg (Nat.not_lt_zero _)]
theorem zr_succ {f : Nat → Nat} {k : Nat} : up (zr f k) k 0 = zr f (k + 1) := by
  funext z; unfold up zr
  by_cases c : z = k
  · rw [if_pos c, if_pos (by omega)]
  · rw [if_neg c]
    by_cases d : z < k
    · rw [if_pos d, if_pos (by omega)]
    · rw [if_neg d, if_neg (by omega)]
def wW (el : Nat → Nat) (n : Nat) (f : Nat → Nat) (a i : Nat) : Nat → Nat := fun z => if z < 2 ^ n then pW el n a i z else f z
theorem ww_0 {el f : Nat → Nat} {n : Nat} : up (zr f (2 ^ n)) 0 1 = wW el n f 0 0 := by
  funext z
  unfold up zr wW
  have := pow_pos' n
  by_cases c : z < 2 ^ n
  · rw [if_pos c, if_pos c, pW_00]
  · rw [if_neg c, if_neg c, if_neg (by omega)]
theorem ww_row {el f : Nat → Nat} {n a : Nat} : wW el n f a n = wW el n f (a + 1) 0 := by unfold wW; rw [pW_row]
theorem orp_lt {a i n : Nat} (ha : a < 2 ^ n) (hi : i < n) : a ||| 2 ^ i < 2 ^ n := Nat.or_lt_two_pow ha (Nat.pow_lt_pow_right (by decide) hi)
theorem ww_f {k p n a i : Nat} {w f : Nat → Nat} (h : (!a.testBit i && decide (sdiff (ligS k p w n i) a = 0)) = false) : wW (ligS k p w n) n f a (i + 1) = wW (ligS k p w n) n f a i := by
  unfold wW
  rw [pW_f]
  rintro ⟨h1, h2⟩
  rw [h1, decide_eq_true h2] at h
  cases h
theorem ww_t {k p n a i : Nat} {w f : Nat → Nat} (hi : i < n) (ha : a < 2 ^ n) (h : (!a.testBit i && decide (sdiff (ligS k p w n i) a = 0)) = true) : up (wW (ligS k p w n) n f a i) (a ||| 2 ^ i) (wW (ligS k p w n) n f a i (a ||| 2 ^ i) + wW (ligS k p w n) n f a i a) = wW (ligS k p w n) n f a (i + 1) := by
  rw [Bool.and_eq_true, decide_eq_true_eq, Bool.not_eq_true'] at h
  have hb := orp_lt ha hi
  have e := pW_t (el := ligS k p w n) hi h.1 h.2
  funext z
  have e2 := congrFun e z
  have e3 : wW (ligS k p w n) n f a i (a ||| 2 ^ i) = pW (ligS k p w n) n a i (a ||| 2 ^ i) := if_pos hb
  have e4 : wW (ligS k p w n) n f a i a = ordN (ligS k p w n) n a a := by unfold wW; rw [if_pos ha, pW_self]
  rw [e3, e4]
  unfold up at e2 ⊢
  unfold wW
  by_cases c : z < 2 ^ n
  · rw [if_pos c, if_pos c, ← e2]
  · rw [if_neg c, if_neg c, if_neg (by omega)]
theorem ww_fin {el f : Nat → Nat} {n i : Nat} : wW el n f (2 ^ n - 1) i (2 ^ n - 1) = ordN el n (2 ^ n - 1) (2 ^ n - 1) := by
  have := pow_pos' n
  unfold wW
  rw [if_pos (by omega), pW_self]
