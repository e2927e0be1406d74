theorem sdiff_lt {b a k : Nat} (h : b < 2 ^ k) : sdiff b a < 2 ^ k := Nat.xor_lt_two_pow h (Nat.lt_of_le_of_lt Nat.and_le_left h)
theorem and_lt8 {b a k : Nat} (h : b < 2 ^ k) : b &&& a < 2 ^ k := Nat.lt_of_le_of_lt Nat.and_le_left h
theorem b8 {a : Nat} (h : a < 2 ^ 8) : a < 2 ^ 31 := Nat.lt_trans h (by decide)
theorem pow8 {f n : Nat} (h : f < n) (hn : n ≤ 8) : 2 ^ f < 2 ^ 8 := Nat.pow_lt_pow_right (by decide) (by omega)
theorem pow8' {n : Nat} (hn : n ≤ 8) : 2 ^ n ≤ 256 := Nat.pow_le_pow_right (by decide) hn
theorem pow_pos' (n : Nat) : 1 ≤ 2 ^ n := Nat.one_le_two_pow
theorem lst_some {a ec z : Nat} : lstN a ec = some z ↔ z < ec ∧ a.testBit z = true ∧ ∀ j, j < z → a.testBit j = false := fst_some
theorem any_bit {ea : Nat → Nat} {ec a i : Nat} : (anyS ea ec a).testBit i = true ↔ ∃ z, z < ec ∧ a.testBit z = true ∧ (ea z).testBit i = true := by
  unfold anyS
  rw [orTo_bit]
  constructor
  · rintro ⟨z, h1, h2⟩
    cases q : a.testBit z with
    | false => rw [q] at h2; simp at h2
    | true => rw [q] at h2; exact ⟨z, h1, q, by simpa using h2⟩
  · rintro ⟨z, h1, h2, h3⟩
    exact ⟨z, h1, by simpa [h2] using h3⟩
/-- one swap nearer there is one -/
theorem bhd_step {ea : Nat → Nat} {ec t m f i : Nat} (hr : ∀ x, x < ec → (ea x).testBit x = true) (hs : ∀ x y, x < ec → y < ec → (ea x).testBit y = (ea y).testBit x) (hm : m < ec) (hi : i < m) (hb : bhd ea ec t m f i < ec) (hw : (wth ea ec (2 ^ t) (m - i)).testBit (bhd ea ec t m f i) = true) :
    ∃ z, lstN (ea (bhd ea ec t m f i) &&& wth ea ec (2 ^ t) (m - (i + 1))) ec = some z ∧ bhd ea ec t m f (i + 1) = z ∧ z < ec ∧ (wth ea ec (2 ^ t) (m - (i + 1))).testBit z = true := by
  have hex : ∃ z, z < ec ∧ (ea (bhd ea ec t m f i) &&& wth ea ec (2 ^ t) (m - (i + 1))).testBit z = true := by
    rw [show m - i = (m - (i + 1)) + 1 by omega, wth, Nat.testBit_or, Bool.or_eq_true] at hw
    rcases hw with h | h
    · exact ⟨_, hb, by rw [Nat.testBit_and, hr _ hb, h]; rfl⟩
    · obtain ⟨z, h1, h2, h3⟩ := any_bit.mp h
      exact ⟨z, h1, by rw [Nat.testBit_and, h2, hs _ _ hb h1, h3]; rfl⟩
  cases q : lstN (ea (bhd ea ec t m f i) &&& wth ea ec (2 ^ t) (m - (i + 1))) ec with
  | none =>
    obtain ⟨z, h1, h2⟩ := hex
    rw [fst_none.mp q z h1] at h2
    cases h2
  | some z =>
    have h := lst_some.mp q
    have h2 := h.2.1
    rw [Nat.testBit_and, Bool.and_eq_true] at h2
    refine ⟨z, rfl, ?_, h.1, h2.2⟩
    rw [bhd, Nat.min_eq_left (by omega), q]
    rfl
def wayS (ea : Nat → Nat) (ec f t q : Nat) : Int32 := match fstTo (fun s => (wth ea ec (2 ^ t) s).testBit f) ec with
  | none => -9
  | some m => if m < q then -9 else nI (bhd ea ec t m f q)
def nxtK (el : Nat → Nat) (ec : Nat) : Nat → Int32
  | 0 => -9
  | k + 1 => oN (lstN (fitb el ec (laidK el ec k)) ec)
theorem fitb_lt {el : Nat → Nat} {ec a : Nat} (h : ec ≤ 8) : fitb el ec a < 2 ^ 8 := orTo_lt' (fun j hj => by split; exact pow8 hj h; decide)
theorem hvyS_lt {el : Nat → Nat} {ec a : Nat} (h : ec ≤ 8) : hvyS el ec a < 2 ^ 8 := orTo_lt' (fun j hj => by split; decide; exact pow8 hj h)
theorem laidK_lt {el : Nat → Nat} {ec : Nat} (h : ec ≤ 8) : ∀ k, laidK el ec k < 2 ^ 8
  | 0 => (by decide : 0 < 2 ^ 8)
  | k + 1 => by
    rw [laidK]
    cases q : lstN (fitb el ec (laidK el ec k)) ec with
    | none => exact laidK_lt h k
    | some z => exact Nat.or_lt_two_pow (laidK_lt h k) (pow8 (lst_some.mp q).1 h)
theorem endsK_lt {el : Nat → Nat} {ec : Nat} (h : ec ≤ 8) : ∀ k, endsK el ec k < 2 ^ 8
  | 0 => by have := pow8' h; have := pow_pos' ec; show 2 ^ ec - 1 < 256; omega
  | k + 1 => hvyS_lt h
def ordF (el : Nat → Nat) (ec s : Nat) : Nat → Nat := fun l => if s.testBit l = true ∧ sdiff (el l) (sdiff s (2 ^ l)) = 0 then ordN el ec (sdiff s (2 ^ l)) (sdiff s (2 ^ l)) else 0
theorem sdiff_pow_eq {s l : Nat} (h : s.testBit l = false) : sdiff s (2 ^ l) = s := by
  apply Nat.eq_of_testBit_eq
  intro i
  rw [sdiff_bit, Nat.testBit_two_pow]
  by_cases e : l = i
  · subst e; simp [h]
  · simp [e]
theorem le_of_bits {a b : Nat} (h : ∀ i, a.testBit i = true → b.testBit i = true) : a ≤ b := by
  have e : a &&& b = a := by
    apply Nat.eq_of_testBit_eq
    intro i
    rw [Nat.testBit_and]
    cases q : a.testBit i with
    | false => rfl
    | true => rw [h i q]; rfl
  rw [← e]
  exact Nat.and_le_right
theorem sdiff_le (s a : Nat) : sdiff s a ≤ s := le_of_bits (fun i h => by rw [sdiff_bit, Bool.and_eq_true] at h; exact h.1)
theorem sdiff_pow_lt {s l : Nat} (h : s.testBit l = true) : sdiff s (2 ^ l) < s := by
  rcases Nat.lt_or_eq_of_le (sdiff_le s (2 ^ l)) with q | q
  · exact q
  · have h2 := congrArg (fun a => a.testBit l) q
    simp [sdiff_bit, h, Nat.testBit_two_pow] at h2
theorem ordN_fuel {el : Nat → Nat} {ec : Nat} : ∀ (f f' s : Nat), s ≤ f → s ≤ f' → ordN el ec f s = ordN el ec f' s
  | 0, 0, _, _, _ => rfl
  | 0, f' + 1, s, h, _ => by
    have : s = 0 := by omega
    subst this
    simp [ordN]
  | f + 1, 0, s, _, h => by
    have : s = 0 := by omega
    subst this
    simp [ordN]
  | f + 1, f' + 1, s, h, h' => by
    rw [ordN, ordN]
    by_cases e : s = 0
    · rw [if_pos e, if_pos e]
    · rw [if_neg e, if_neg e]
      congr 1
      funext l
      by_cases c : s.testBit l = true ∧ sdiff (el l) (sdiff s (2 ^ l)) = 0
      · rw [if_pos c, if_pos c]
        have := sdiff_pow_lt c.1
        exact ordN_fuel f f' _ (by omega) (by omega)
      · rw [if_neg c, if_neg c]
theorem ordN_eq {el : Nat → Nat} {ec s : Nat} (hs : 0 < s) : ordN el ec s s = sumTo (ordF el ec s) ec := by
  obtain ⟨f, rfl⟩ : ∃ f, s = f + 1 := ⟨s - 1, by omega⟩
  rw [ordN, if_neg (by omega)]
  congr 1
  funext l
  unfold ordF
  by_cases c : (f + 1).testBit l = true ∧ sdiff (el l) (sdiff (f + 1) (2 ^ l)) = 0
  · rw [if_pos c, if_pos c]
    have := sdiff_pow_lt c.1
    exact ordN_fuel _ _ _ (by omega) (Nat.le_refl _)
  · rw [if_neg c, if_neg c]
def ordA (eo el : Nat → Nat) (ec L : Nat) : Nat → Nat := fun z => if 1 ≤ z ∧ z < L then ordN el ec z z else eo z
theorem ordA_1 {eo el : Nat → Nat} {ec : Nat} : ordA eo el ec 1 = eo := by funext z; unfold ordA; rw [if_neg (by omega)]
theorem ordA_succ {eo el : Nat → Nat} {ec L : Nat} (hL : 1 ≤ L) : up (ordA eo el ec L) L (sumTo (ordF el ec L) ec) = ordA eo el ec (L + 1) := by
  funext z
  unfold up ordA
  by_cases e : z = L
  · subst e; rw [if_pos rfl, if_pos (by omega), ordN_eq (by omega)]
  · rw [if_neg e]
    by_cases c : 1 ≤ z ∧ z < L
    · rw [if_pos c, if_pos (by omega)]
    · rw [if_neg c, if_neg (by omega)]
theorem sum_up_t {F f : Nat → Nat} {i j v : Nat} (h : f j = v) : up (up F i (sumTo f j)) i (up F i (sumTo f j) i + v) = up F i (sumTo f (j + 1)) := by
  funext z
  by_cases e : z = i
  · subst e; simp [up, sumTo, h]
  · simp [up, e]
theorem sum_up_f {F f : Nat → Nat} {i j : Nat} (h : f j = 0) : up F i (sumTo f j) = up F i (sumTo f (j + 1)) := by rw [sumTo, h, Nat.add_zero]
theorem bit_of_ne {s l : Nat} (h : ¬ sdiff s (2 ^ l) = s) : s.testBit l = true := by
  cases q : s.testBit l with
  | true => rfl
  | false => exact absurd (sdiff_pow_eq q) h
theorem bit_no_eq {s l : Nat} (h : sdiff s (2 ^ l) = s) : s.testBit l = false := by
  cases q : s.testBit l with
  | false => rfl
  | true => have := sdiff_pow_lt q; omega
theorem ordA_in {eo el : Nat → Nat} {ec L z : Nat} (h1 : 0 < z) (h2 : z < L) : ordA eo el ec L z = ordN el ec z z := if_pos ⟨h1, h2⟩
def ordM (el : Nat → Nat) (ec L : Nat) : Nat := if L ≤ 1 then 0 else ordN el ec (L - 1) (L - 1)
theorem ordM_1 {el : Nat → Nat} {ec : Nat} : ordM el ec 1 = 0 := if_pos (Nat.le_refl 1)
theorem ordM_succ {el : Nat → Nat} {ec L : Nat} (hL : 1 ≤ L) : ordM el ec (L + 1) = sumTo (ordF el ec L) ec := by
  unfold ordM; rw [if_neg (by omega), Nat.add_sub_cancel, ordN_eq (by omega)]
theorem ordF_no {el : Nat → Nat} {ec s l : Nat} (h : s.testBit l = false) : ordF el ec s l = 0 := if_neg (fun c => by rw [h] at c; cases c.1)
theorem ordF_no2 {el : Nat → Nat} {ec s l : Nat} (h : 0 < sdiff (el l) (sdiff s (2 ^ l))) : ordF el ec s l = 0 := if_neg (fun c => by omega)
theorem ordF_t {el : Nat → Nat} {ec s l : Nat} (h1 : s.testBit l = true) (h2 : sdiff (el l) (sdiff s (2 ^ l)) = 0) : ordF el ec s l = ordN el ec (sdiff s (2 ^ l)) (sdiff s (2 ^ l)) := if_pos ⟨h1, h2⟩
theorem ordF_t0 {el : Nat → Nat} {ec s l : Nat} (h1 : s.testBit l = true) (h2 : sdiff (el l) (sdiff s (2 ^ l)) = 0) (h3 : sdiff s (2 ^ l) = 0) : ordF el ec s l = 1 := by rw [ordF_t h1 h2, h3]; rfl
theorem ordA_at {eo el : Nat → Nat} {ec L z v : Nat} (h1 : 0 < z) (h2 : z < L) : up (ordA eo el ec L) L v z = ordN el ec z z := by
  rw [up_ne _ _ (by omega)]
  exact if_pos ⟨h1, h2⟩
