/-! the law's picture: sets by steps -/
theorem two_bit {a b : Nat} : (2 ^ a).testBit b = decide (a = b) := Nat.testBit_two_pow
theorem pow_lt_n {j n : Nat} (h : j < n) : 2 ^ j < 2 ^ n := Nat.pow_lt_pow_right (by decide) h
theorem alkS_lt {k p n x : Nat} {w : Nat → Nat} : alkS k p w n x < 2 ^ n := orTo_lt' (fun j hj => by unfold alkF; split; exact pow_lt_n hj; exact Nat.two_pow_pos n)
theorem wth_ltn {ea : Nat → Nat} {n s : Nat} (h : ∀ j, j < n → ea j < 2 ^ n) (h0 : s < 2 ^ n) : ∀ k, wth ea n s k < 2 ^ n
  | 0 => h0
  | k + 1 => Nat.or_lt_two_pow (wth_ltn h h0 k) (orTo_lt' (fun j hj => by split; exact h j hj; exact Nat.two_pow_pos n))
theorem popN_lt {a b : Nat} (hs : ∀ i, a.testBit i = true → b.testBit i = true) (hb : b < 2 ^ 8) (hne : a ≠ b) : popN a < popN b := by
  have e1 : a ||| sdiff b a = b := by
    apply Nat.eq_of_testBit_eq
    intro i
    rw [Nat.testBit_or, sdiff_bit]
    have h := hs i
    revert h
    cases a.testBit i <;> cases b.testBit i <;> simp
  have e2 : a &&& sdiff b a = 0 := by
    apply Nat.eq_of_testBit_eq
    intro i
    rw [Nat.testBit_and, sdiff_bit, Nat.zero_testBit]
    cases a.testBit i <;> cases b.testBit i <;> rfl
  have e3 := popN_or e2
  rw [e1] at e3
  by_cases hex : ∃ i, (sdiff b a).testBit i = true
  · obtain ⟨i, hi⟩ := hex
    have hi8 : i < 20 := by
      rcases Nat.lt_or_ge i 20 with q | q
      · exact q
      · have h2 : b.testBit i = false := Nat.testBit_lt_two_pow (Nat.lt_of_lt_of_le hb (Nat.pow_le_pow_right (by decide) (by omega)))
        rw [sdiff_bit, h2] at hi
        cases hi
    have := popN_pos hi8 hi
    omega
  · have h0 : sdiff b a = 0 := by
      apply Nat.eq_of_testBit_eq
      intro i
      rw [Nat.zero_testBit]
      cases q : (sdiff b a).testBit i with
      | false => rfl
      | true => exact absurd ⟨i, q⟩ hex
    rw [h0, Nat.or_zero] at e1
    exact absurd e1 hne
theorem popN_len {a n : Nat} (hn : n ≤ 8) (h : a < 2 ^ n) : popN a ≤ n := by
  rw [popN_bits, sumTo_cut (n := n) (by omega) (fun j hj => if_neg (by rw [Nat.testBit_lt_two_pow (Nat.lt_of_lt_of_le h (Nat.pow_le_pow_right (by decide) hj))]; decide))]
  have := sumTo_le (f := fun y => if a.testBit y = true then 1 else 0) (b := 1) (fun j => by show (if _ then 1 else 0) ≤ 1; split <;> omega) n
  omega
theorem wth_up {ea : Nat → Nat} {n s r i : Nat} (h : (wth ea n s r).testBit i = true) : (wth ea n s (r + 1)).testBit i = true := by rw [wth, Nat.testBit_or, h]; rfl
theorem wth_same {ea : Nat → Nat} {n s k : Nat} (h : wth ea n s k = wth ea n s (k + 1)) : ∀ j, wth ea n s (k + j) = wth ea n s k
  | 0 => rfl
  | j + 1 => by
    show wth ea n s (k + j) ||| anyS ea n (wth ea n s (k + j)) = _
    rw [wth_same h j]
    exact h.symm
theorem wth_stable {ea : Nat → Nat} {n s : Nat} (hn : n ≤ 8) (hb : ∀ k, wth ea n s k < 2 ^ n) (h1 : 1 ≤ popN s) {k : Nat} (hk : n - 1 ≤ k) : wth ea n s k = wth ea n s (n - 1) := by
  have hp8 : 2 ^ n ≤ 2 ^ 8 := Nat.pow_le_pow_right (by decide) hn
  by_cases hex : ∃ i, i < n ∧ wth ea n s i = wth ea n s (i + 1)
  · obtain ⟨i, hi, e⟩ := hex
    have e1 := wth_same e (k - i)
    have e2 := wth_same e (n - 1 - i)
    rw [show i + (k - i) = k by omega] at e1
    rw [show i + (n - 1 - i) = n - 1 by omega] at e2
    rw [e1, e2]
  · have key : ∀ m, m ≤ n → m + 1 ≤ popN (wth ea n s m) := by
      intro m
      induction m with
      | zero => intro _; exact h1
      | succ m ih =>
        intro hm
        have h2 := ih (by omega)
        have h3 := popN_lt (a := wth ea n s m) (b := wth ea n s (m + 1)) (fun i hi => wth_up hi) (Nat.lt_of_lt_of_le (hb _) hp8) (fun e => hex ⟨m, by omega, e⟩)
        omega
    have h2 := key n (Nat.le_refl _)
    have h3 := popN_len hn (hb n)
    omega
theorem popN_pow {x : Nat} (h : x < 20) : 1 ≤ popN (2 ^ x) := popN_pos h (by rw [two_bit]; exact decide_eq_true rfl)
theorem wth_min {kk p n x : Nat} {w : Nat → Nat} (hn : n ≤ 8) (hx : x < n) (k : Nat) : wth (alkS kk p w n) n (2 ^ x) (min k n) = wth (alkS kk p w n) n (2 ^ x) k := by
  have hb : ∀ r, wth (alkS kk p w n) n (2 ^ x) r < 2 ^ n := wth_ltn (fun _ _ => alkS_lt) (pow_lt_n hx)
  rcases Nat.lt_or_ge k n with q | q
  · rw [Nat.min_eq_left (by omega)]
  · rw [Nat.min_eq_right q, wth_stable hn hb (popN_pow (by omega)) (k := k) (by omega), wth_stable hn hb (popN_pow (by omega)) (k := n) (by omega)]
theorem wth_bit {ea : Nat → Nat} {n s r i : Nat} : (wth ea n s (r + 1)).testBit i = true ↔ (wth ea n s r).testBit i = true ∨ ∃ z, z < n ∧ (wth ea n s r).testBit z = true ∧ (ea z).testBit i = true := by
  rw [wth, Nat.testBit_or, Bool.or_eq_true, any_bit]
theorem wth_comp {ea : Nat → Nat} {n a z s : Nat} (h1 : (wth ea n (2 ^ a) s).testBit z = true) : ∀ r b, (wth ea n (2 ^ z) r).testBit b = true → (wth ea n (2 ^ a) (s + r)).testBit b = true
  | 0, b, h => by
    have h2 : (2 ^ z).testBit b = true := h
    rw [two_bit] at h2
    rw [← of_decide_eq_true h2]
    exact h1
  | r + 1, b, h => by
    show (wth ea n (2 ^ a) (s + r + 1)).testBit b = true
    rcases wth_bit.mp h with q | ⟨y, hy, q1, q2⟩
    · exact wth_up (wth_comp h1 r b q)
    · exact wth_bit.mpr (Or.inr ⟨y, hy, wth_comp h1 r y q1, q2⟩)
theorem wth_sym {ea : Nat → Nat} {n : Nat} (hsy : ∀ x y, x < n → y < n → (ea x).testBit y = (ea y).testBit x) : ∀ s a b, a < n → b < n → (wth ea n (2 ^ a) s).testBit b = true → (wth ea n (2 ^ b) s).testBit a = true
  | 0, a, b, ha, hb, h => by
    have h2 : (2 ^ a).testBit b = true := h
    rw [two_bit] at h2
    rw [of_decide_eq_true h2] at h ⊢
    exact h
  | s + 1, a, b, ha, hb, h => by
    rcases wth_bit.mp h with q | ⟨z, hz, q1, q2⟩
    · exact wth_up (wth_sym hsy s a b ha hb q)
    · have h3 := wth_sym hsy s a z ha hz q1
      have h4 : (wth ea n (2 ^ b) 1).testBit z = true := wth_bit.mpr (Or.inr ⟨b, hb, by show (2 ^ b).testBit b = true; rw [two_bit]; exact decide_eq_true rfl, by rw [hsy b z hb hz]; exact q2⟩)
      have h5 := wth_comp h4 s a h3
      rw [Nat.add_comm] at h5
      exact h5
theorem alkS_sym {kk p n x y : Nat} {w : Nat → Nat} (hx : x < n) (hy : y < n) : (alkS kk p w n x).testBit y = (alkS kk p w n y).testBit x := by rw [alkS_bit, alkS_bit, decide_eq_true hx, decide_eq_true hy, alk_comm]
theorem alkS_self {kk p n x : Nat} {w : Nat → Nat} (hx : x < n) : (alkS kk p w n x).testBit x = true := by rw [alkS_bit, decide_eq_true hx, alk_self]; rfl
theorem wth_sym_eq {kk p n s a b : Nat} {w : Nat → Nat} (ha : a < n) (hb : b < n) : (wth (alkS kk p w n) n (2 ^ a) s).testBit b = (wth (alkS kk p w n) n (2 ^ b) s).testBit a :=
  Bool.eq_iff_iff.mpr ⟨wth_sym (fun _ _ hx hy => alkS_sym hx hy) s a b ha hb, wth_sym (fun _ _ hx hy => alkS_sym hx hy) s b a hb ha⟩
theorem fst_ext {p : Nat → Bool} {n m : Nat} (h : n ≤ m) (hn : 1 ≤ n) (hst : ∀ s, n - 1 ≤ s → p s = p (n - 1)) : fstTo p n = fstTo p m := by
  cases q : fstTo p n with
  | none =>
    have h1 := fst_none.mp q
    refine (fst_none.mpr (fun j hj => ?_)).symm
    rcases Nat.lt_or_ge j n with z | z
    · exact h1 j z
    · rw [hst j (by omega)]; exact h1 _ (by omega)
  | some i =>
    have h1 := fst_some.mp q
    exact (fst_some.mpr ⟨by omega, h1.2⟩).symm
/-- the law's picture of the ways -/
def fwy (kk p : Nat) (w : Nat → Nat) (n x y K : Nat) : Option Nat := fstTo (fun s => (wth (alkS kk p w n) n (2 ^ x) s).testBit y) K
theorem fwy_eq {kk p n x y : Nat} {w : Nat → Nat} (hn : n ≤ 8) (hx : x < n) (hy : y < n) : fstTo (fun s => (wth (alkS kk p w n) n (2 ^ y) s).testBit x) n = fwy kk p w n x y 8 := by
  have hb : ∀ r, wth (alkS kk p w n) n (2 ^ x) r < 2 ^ n := wth_ltn (fun _ _ => alkS_lt) (pow_lt_n hx)
  rw [fstTo_congr (g := fun s => (wth (alkS kk p w n) n (2 ^ x) s).testBit y) (fun s _ => wth_sym_eq hy hx)]
  exact fst_ext hn (by omega) (fun s hs => by rw [wth_stable hn hb (popN_pow (by omega)) hs])
theorem fwy_0 {kk p n x y : Nat} {w : Nat → Nat} : oN (fwy kk p w n x y 1) = if x = y then nI 0 else -9 := by
  unfold fwy
  rw [fstTo, fstTo]
  have e : (wth (alkS kk p w n) n (2 ^ x) 0).testBit y = decide (x = y) := two_bit
  simp only [e]
  by_cases c : x = y
  · rw [decide_eq_true c, if_pos c]; rfl
  · rw [decide_eq_false c, if_neg c]; rfl
theorem fwy_t {kk p n x y K : Nat} {w : Nat → Nat} (h0 : fwy kk p w n x y K = none) (h : (wth (alkS kk p w n) n (2 ^ x) K).testBit y = true) : fwy kk p w n x y (K + 1) = some K := by
  unfold fwy at h0 ⊢
  rw [fstTo, h0]
  simp [h]
theorem fwy_f {kk p n x y K : Nat} {w : Nat → Nat} (h : (wth (alkS kk p w n) n (2 ^ x) K).testBit y = false) : fwy kk p w n x y (K + 1) = fwy kk p w n x y K := by
  unfold fwy
  rw [fstTo]
  cases q : fstTo (fun s => (wth (alkS kk p w n) n (2 ^ x) s).testBit y) K with
  | some j => rfl
  | none => simp [h]
theorem fwy_s {kk p n x y K j : Nat} {w : Nat → Nat} (h : fwy kk p w n x y K = some j) : fwy kk p w n x y (K + 1) = some j := by
  unfold fwy at h ⊢
  rw [fstTo, h]
theorem fwy_lt {kk p n x y K j : Nat} {w : Nat → Nat} (h : fwy kk p w n x y K = some j) : j < K := (fst_some.mp h).1
theorem bhd_path {kk p n x y m : Nat} {w : Nat → Nat} (hx : x < n) (hm : m < n) (h : (wth (alkS kk p w n) n (2 ^ y) m).testBit x = true) : ∀ q, q ≤ m → bhd (alkS kk p w n) n y m x q < n ∧ (wth (alkS kk p w n) n (2 ^ y) (m - q)).testBit (bhd (alkS kk p w n) n y m x q) = true
  | 0, _ => ⟨hx, h⟩
  | q + 1, hq => by
    have ih := bhd_path hx hm h q (by omega)
    obtain ⟨z, -, h2, h3, h4⟩ := bhd_step (fun _ hz => alkS_self hz) (fun _ _ h1 h2 => alkS_sym h1 h2) hm (show q < m by omega) ih.1 ih.2
    rw [h2]
    exact ⟨h3, h4⟩
theorem bhd_next {kk p n x y m q : Nat} {w : Nat → Nat} (hx : x < n) (hm : m < n) (h : (wth (alkS kk p w n) n (2 ^ y) m).testBit x = true) (hq : q < m) : alk kk p (w (bhd (alkS kk p w n) n y m x q)) (w (bhd (alkS kk p w n) n y m x (q + 1))) = true := by
  have ih := bhd_path hx hm h q (by omega)
  obtain ⟨z, h1, h2, h3, -⟩ := bhd_step (fun _ hz => alkS_self hz) (fun _ _ h1 h2 => alkS_sym h1 h2) hm hq ih.1 ih.2
  rw [h2]
  have h5 := (lst_some.mp h1).2.1
  rw [Nat.testBit_and, Bool.and_eq_true, alkS_bit, Bool.and_eq_true] at h5
  exact h5.1.2
theorem bhd_end {kk p n x y m : Nat} {w : Nat → Nat} (hx : x < n) (hm : m < n) (h : (wth (alkS kk p w n) n (2 ^ y) m).testBit x = true) : bhd (alkS kk p w n) n y m x m = y := by
  have ih := (bhd_path hx hm h m (Nat.le_refl _)).2
  rw [Nat.sub_self] at ih
  have h2 : (2 ^ y).testBit (bhd (alkS kk p w n) n y m x m) = true := ih
  rw [two_bit] at h2
  exact (of_decide_eq_true h2).symm
/-- the law's way by places: from the picture of what is reached first -/
theorem way_m1 {kk p n x y : Nat} {w : Nat → Nat} (hn : n ≤ 8) (hx : x < n) (hy : y < n) : oN (fstTo (fun s => (wth (alkS kk p w n) n (2 ^ y) s).testBit x) n) = oN (fwy kk p w n x y 8) := by rw [fwy_eq hn hx hy]
theorem way_past {kk p n x y : Nat} {w : Nat → Nat} {q : Nat} (hn : n ≤ 8) (hx : x < n) (hy : y < n) (h : ∀ j, fwy kk p w n x y 8 = some j → j < q) : wayS (alkS kk p w n) n x y q = -9 := by
  unfold wayS
  rw [fwy_eq hn hx hy]
  cases e : fwy kk p w n x y 8 with
  | none => rfl
  | some m => exact if_pos (h m e)
theorem way_at {kk p n x y : Nat} {w : Nat → Nat} {q m : Nat} (hn : n ≤ 8) (hx : x < n) (hy : y < n) (h : fwy kk p w n x y 8 = some m) (hq : q ≤ m) : wayS (alkS kk p w n) n x y q = nI (bhd (alkS kk p w n) n y m x q) := by
  unfold wayS
  rw [fwy_eq hn hx hy, h]
  exact if_neg (by omega)
theorem fwy_way {kk p n x y m : Nat} {w : Nat → Nat} (hn : n ≤ 8) (hx : x < n) (hy : y < n) (h : fwy kk p w n x y 8 = some m) : m < n ∧ (wth (alkS kk p w n) n (2 ^ y) m).testBit x = true := by
  rw [← fwy_eq hn hx hy] at h
  exact ⟨(fst_some.mp h).1, (fst_some.mp h).2.1⟩
/-! swaps of a finer hand: all rows -/
def stp (k1 p1 k2 p2 : Nat) (w : Nat → Nat) (z y : Nat) : Bool := alk k1 p1 (w z) (w y) && tls k2 p2 (w y) (w z)
theorem swp_bit {k1 p1 k2 p2 n a y : Nat} {w : Nat → Nat} : (swpS (alkS k1 p1 w n) (ligS k2 p2 w n) n a).testBit y = true ↔ y < n ∧ ∃ z, z < n ∧ a.testBit z = true ∧ stp k1 p1 k2 p2 w z y = true := by
  unfold swpS
  rw [orTo_bit]
  constructor
  · rintro ⟨j, hj, h⟩
    by_cases c : a &&& alkS k1 p1 w n j &&& ligS k2 p2 w n j = 0
    · rw [if_pos c, Nat.zero_testBit] at h; cases h
    · rw [if_neg c, two_bit] at h
      obtain rfl := of_decide_eq_true h
      refine ⟨hj, ?_⟩
      by_cases hex : ∃ z, z < n ∧ a.testBit z = true ∧ stp k1 p1 k2 p2 w z j = true
      · exact hex
      · refine absurd (Nat.eq_of_testBit_eq (fun i => ?_)) c
        rw [Nat.zero_testBit, Nat.testBit_and, Nat.testBit_and, alkS_bit, ligS_bit]
        cases q : (a.testBit i && (decide (i < n) && alk k1 p1 (w j) (w i)) && (decide (i < n) && tls k2 p2 (w j) (w i))) with
        | false => rfl
        | true =>
          simp only [Bool.and_eq_true, decide_eq_true_eq] at q
          exact absurd ⟨i, q.1.2.1, q.1.1, by unfold stp; rw [alk_comm, q.1.2.2, q.2.2]; rfl⟩ hex
  · rintro ⟨hy, z, hz, h1, h2⟩
    refine ⟨y, hy, ?_⟩
    unfold stp at h2
    rw [Bool.and_eq_true] at h2
    rw [if_neg, two_bit]
    · exact decide_eq_true rfl
    · intro e
      have e2 := congrArg (fun q => q.testBit z) e
      simp only [Nat.testBit_and, alkS_bit, ligS_bit, decide_eq_true hz, Bool.true_and, h1, Nat.zero_testBit] at e2
      rw [alk_comm, h2.1, h2.2] at e2
      cases e2
theorem maxTo_ge {f : Nat → Nat} {z : Nat} : ∀ {n : Nat}, z < n → f z ≤ maxTo f n
  | 0, h => absurd h (Nat.not_lt_zero _)
  | n + 1, h => by
    rw [maxTo]
    rcases Nat.lt_or_ge z n with q | q
    · exact Nat.le_trans (maxTo_ge q) (Nat.le_max_left _ _)
    · rw [show z = n by omega]; exact Nat.le_max_right _ _
theorem maxTo_at {f : Nat → Nat} : ∀ {n : Nat}, 0 < maxTo f n → ∃ z, z < n ∧ f z = maxTo f n
  | 0, h => absurd h (Nat.lt_irrefl _)
  | n + 1, h => by
    rw [maxTo] at h ⊢
    rcases Nat.le_total (maxTo f n) (f n) with q | q
    · rw [Nat.max_eq_right q] at h ⊢
      exact ⟨n, by omega, rfl⟩
    · rw [Nat.max_eq_left q] at h ⊢
      obtain ⟨z, h1, h2⟩ := maxTo_at h
      exact ⟨z, by omega, h2⟩
/-- no better than (M, s) -/
def dm (M s v q : Nat) : Prop := v < M ∨ (v = M ∧ s ≤ q)
theorem dm_re {M s v q v' q' : Nat} (h : dm M s v q) (hb : M ≤ v') (hb2 : v' = M → q' < s) : dm v' q' v q := by
  unfold dm at h ⊢
  by_cases e : v' = M
  · have := hb2 e; omega
  · omega
def atk (R : Nat → Nat) (w : Nat → Nat) (n M s k : Nat) : Prop := s ≤ k ∧ ∃ z, z < n ∧ (R s).testBit z = true ∧ w z = M
theorem best_eq {R w : Nat → Nat} {n k M1 s1 M2 s2 : Nat} (a1 : atk R w n M1 s1 k) (a2 : atk R w n M2 s2 k) (d1 : ∀ q, q ≤ k → ∀ z, z < n → (R q).testBit z = true → dm M1 s1 (w z) q) (d2 : ∀ q, q ≤ k → ∀ z, z < n → (R q).testBit z = true → dm M2 s2 (w z) q) : M1 = M2 ∧ s1 = s2 := by
  obtain ⟨h1, z1, hz1, b1, e1⟩ := a1
  obtain ⟨h2, z2, hz2, b2, e2⟩ := a2
  have c1 := d1 s2 h2 z2 hz2 b2
  have c2 := d2 s1 h1 z1 hz1 b1
  unfold dm at c1 c2
  omega
theorem gn_best {k1 p1 k2 p2 n x : Nat} {w : Nat → Nat} (hx : x < n) : ∀ k, atk (gnR (alkS k1 p1 w n) (ligS k2 p2 w n) n x) w n (gnB (alkS k1 p1 w n) (ligS k2 p2 w n) w n x k).1 (gnB (alkS k1 p1 w n) (ligS k2 p2 w n) w n x k).2 k ∧ ∀ q, q ≤ k → ∀ z, z < n → (gnR (alkS k1 p1 w n) (ligS k2 p2 w n) n x q).testBit z = true → dm (gnB (alkS k1 p1 w n) (ligS k2 p2 w n) w n x k).1 (gnB (alkS k1 p1 w n) (ligS k2 p2 w n) w n x k).2 (w z) q
  | 0 => by
    refine ⟨⟨Nat.le_refl _, x, hx, by show (2 ^ x).testBit x = true; rw [two_bit]; exact decide_eq_true rfl, rfl⟩, fun q hq z hz hb => ?_⟩
    obtain rfl : q = 0 := by omega
    have h2 : (2 ^ x).testBit z = true := hb
    rw [two_bit] at h2
    rw [← of_decide_eq_true h2]
    exact Or.inr ⟨rfl, Nat.le_refl _⟩
  | k + 1 => by
    obtain ⟨⟨h1, z1, hz1, b1, e1⟩, d1⟩ := gn_best (k1 := k1) (p1 := p1) (k2 := k2) (p2 := p2) (w := w) hx k
    rw [gnB]
    split
    · rename_i c
      refine ⟨⟨Nat.le_refl _, ?_⟩, fun q hq z hz hb => ?_⟩
      · obtain ⟨z, hz, e⟩ := maxTo_at (f := fun z => if (gnR (alkS k1 p1 w n) (ligS k2 p2 w n) n x (k + 1)).testBit z then w z else 0) (Nat.lt_of_le_of_lt (Nat.zero_le _) c)
        refine ⟨z, hz, ?_, ?_⟩
        · cases hb : (gnR (alkS k1 p1 w n) (ligS k2 p2 w n) n x (k + 1)).testBit z with
          | true => rfl
          | false => simp only [hb] at e; rw [← e] at c; exact absurd c (Nat.not_lt_zero _)
        · cases hb : (gnR (alkS k1 p1 w n) (ligS k2 p2 w n) n x (k + 1)).testBit z with
          | true => simp only [hb] at e; exact e
          | false => simp only [hb] at e; rw [← e] at c; exact absurd c (Nat.not_lt_zero _)
      · rcases Nat.lt_or_ge q (k + 1) with hq2 | hq2
        · have := d1 q (by omega) z hz hb
          unfold dm at this ⊢
          omega
        · obtain rfl : q = k + 1 := by omega
          have := maxTo_ge (f := fun z => if (gnR (alkS k1 p1 w n) (ligS k2 p2 w n) n x (k + 1)).testBit z then w z else 0) hz
          simp only [hb, if_true] at this
          unfold dm
          omega
    · rename_i c
      refine ⟨⟨Nat.le_succ_of_le h1, z1, hz1, b1, e1⟩, fun q hq z hz hb => ?_⟩
      rcases Nat.lt_or_ge q (k + 1) with hq2 | hq2
      · exact d1 q (by omega) z hz hb
      · obtain rfl : q = k + 1 := by omega
        have := maxTo_ge (f := fun z => if (gnR (alkS k1 p1 w n) (ligS k2 p2 w n) n x (k + 1)).testBit z then w z else 0) hz
        simp only [hb, if_true] at this
        unfold dm
        omega
/-- a row of swaps by its code: where it stands behind q swaps; whether they all may be -/
def cps (n x c : Nat) : Nat → Nat
  | 0 => x
  | q + 1 => c / n ^ q % n
def leg (k1 p1 k2 p2 : Nat) (w : Nat → Nat) (n x c q : Nat) : Bool := allTo (fun j => stp k1 p1 k2 p2 w (cps n x c j) (cps n x c (j + 1))) q
theorem cps_lt {n x c : Nat} (hx : x < n) : ∀ q, cps n x c q < n
  | 0 => hx
  | q + 1 => Nat.mod_lt _ (by omega)
theorem leg_R {k1 p1 k2 p2 n x c : Nat} {w : Nat → Nat} (hx : x < n) : ∀ q, leg k1 p1 k2 p2 w n x c q = true → (gnR (alkS k1 p1 w n) (ligS k2 p2 w n) n x q).testBit (cps n x c q) = true
  | 0, _ => by show (2 ^ x).testBit x = true; rw [two_bit]; exact decide_eq_true rfl
  | q + 1, h => by
    unfold leg at h
    rw [allTo, Bool.and_eq_true] at h
    exact swp_bit.mpr ⟨cps_lt hx _, cps n x c q, cps_lt hx _, leg_R hx q h.1, h.2⟩
theorem code_dig {n c z q i : Nat} (hn : 0 < n) (hi : i < q) : (c + z * n ^ q) / n ^ i % n = c / n ^ i % n := by
  have e : z * n ^ q = n ^ i * (z * n ^ (q - i - 1) * n) := by
    have e2 : n ^ q = n ^ i * (n ^ (q - i - 1) * n) := by
      rw [← Nat.pow_succ, ← Nat.pow_add]
      congr 1
      omega
    rw [e2, Nat.mul_left_comm, Nat.mul_assoc]
  rw [e, Nat.add_mul_div_left _ _ (Nat.pow_pos hn), Nat.add_mul_mod_self_right]
theorem R_leg {k1 p1 k2 p2 n x : Nat} {w : Nat → Nat} (hx : x < n) : ∀ q z, (gnR (alkS k1 p1 w n) (ligS k2 p2 w n) n x q).testBit z = true → ∃ c, c < n ^ q ∧ leg k1 p1 k2 p2 w n x c q = true ∧ cps n x c q = z
  | 0, z, h => by
    have h2 : (2 ^ x).testBit z = true := h
    rw [two_bit] at h2
    exact ⟨0, Nat.one_pos, rfl, of_decide_eq_true h2⟩
  | q + 1, z, h => by
    have hn : 0 < n := by omega
    obtain ⟨hz, z1, hz1, b1, s1⟩ := swp_bit.mp h
    obtain ⟨c, hc, hl, he⟩ := R_leg hx q z1 b1
    have hcp : ∀ j, j ≤ q → cps n x (c + z * n ^ q) j = cps n x c j := by
      intro j hj
      cases j with
      | zero => rfl
      | succ i => exact code_dig hn (by omega)
    have hlast : cps n x (c + z * n ^ q) (q + 1) = z := by
      show (c + z * n ^ q) / n ^ q % n = z
      rw [Nat.mul_comm, Nat.add_mul_div_left _ _ (Nat.pow_pos hn), Nat.div_eq_of_lt hc, Nat.zero_add, Nat.mod_eq_of_lt hz]
    refine ⟨c + z * n ^ q, ?_, ?_, hlast⟩
    · have h1 : (z + 1) * n ^ q ≤ n * n ^ q := Nat.mul_le_mul_right _ hz
      rw [Nat.pow_succ, Nat.mul_comm (n ^ q) n]
      rw [Nat.succ_mul] at h1
      omega
    · unfold leg
      rw [allTo, Bool.and_eq_true]
      refine ⟨?_, ?_⟩
      · have : allTo (fun j => stp k1 p1 k2 p2 w (cps n x (c + z * n ^ q) j) (cps n x (c + z * n ^ q) (j + 1))) q = leg k1 p1 k2 p2 w n x c q := allTo_congr (fun j hj => by rw [hcp j (by omega), hcp (j + 1) (by omega)])
        rw [this]
        exact hl
      · rw [hcp q (Nat.le_refl _), he, hlast]
        exact s1
/-- behind all codes the law's best is the class's -/
theorem gain_eq {k1 p1 k2 p2 n x k M s : Nat} {w : Nat → Nat} (hx : x < n) (ha : atk (gnR (alkS k1 p1 w n) (ligS k2 p2 w n) n x) w n M s k) (hd : ∀ c, c < n ^ k → ∀ q, q ≤ k → leg k1 p1 k2 p2 w n x c q = true → dm M s (w (cps n x c q)) q) : (gnB (alkS k1 p1 w n) (ligS k2 p2 w n) w n x k).1 = M ∧ (gnB (alkS k1 p1 w n) (ligS k2 p2 w n) w n x k).2 = s := by
  obtain ⟨g1, g2⟩ := gn_best (k1 := k1) (p1 := p1) (k2 := k2) (p2 := p2) (w := w) hx k
  refine best_eq g1 ha g2 (fun q hq z hz hb => ?_)
  obtain ⟨c, hc, hl, he⟩ := R_leg hx q z hb
  have := hd c (Nat.lt_of_lt_of_le hc (Nat.pow_le_pow_right (by omega) hq)) q hq hl
  rw [he] at this
  exact this
/-! told pairs, finer hands, as the law counts them -/
def tl1 (k p : Nat) (w : Nat → Nat) (x y : Nat) : Nat := bN (tls k p (w x) (w y))
theorem tl1_if {k p x y : Nat} {w : Nat → Nat} : tl1 k p w x y = if tls k p (w x) (w y) = true then 1 else 0 := by
  unfold tl1
  cases tls k p (w x) (w y) <;> rfl
def toldL (k p : Nat) (w : Nat → Nat) (n i : Nat) : Nat := sumTo (fun x => sumTo (tl1 k p w x) n) i
theorem toldL_eq {k p n : Nat} {w : Nat → Nat} (hn : n ≤ 8) : toldL k p w n n = toldN (ligS k p w n) n := sumTo_cg (fun x _ => by
  rw [popN_lig hn]
  exact sumTo_cg (fun y _ => tl1_if))
theorem toldL_le {k p n : Nat} {w : Nat → Nat} : ∀ i, toldL k p w n i ≤ i * n := fun i => by
  have h : ∀ x, sumTo (tl1 k p w x) n ≤ n * 1 := fun x => sumTo_le (fun y => bN_le _) n
  exact sumTo_le (fun x => Nat.le_trans (h x) (by omega)) i
def fnA (k1 p1 k2 p2 : Nat) (w : Nat → Nat) (x y : Nat) : Bool := tls k1 p1 (w x) (w y) || !tls k2 p2 (w x) (w y)
def fnB (k1 p1 k2 p2 : Nat) (w : Nat → Nat) (x y : Nat) : Bool := tls k1 p1 (w x) (w y) && !tls k2 p2 (w x) (w y)
def fnM (k1 p1 k2 p2 : Nat) (w : Nat → Nat) (n i : Nat) : Nat := sumTo (fun x => sumTo (fun y => bN (fnB k1 p1 k2 p2 w x y)) n) i
def fnAll (k1 p1 k2 p2 : Nat) (w : Nat → Nat) (n i : Nat) : Bool := allTo (fun x => allTo (fnA k1 p1 k2 p2 w x) n) i
theorem sumTo_pos {f : Nat → Nat} : ∀ {n : Nat}, 0 < sumTo f n ↔ ∃ j, j < n ∧ 0 < f j
  | 0 => by simp [sumTo]
  | n + 1 => by
    rw [sumTo]
    constructor
    · intro h
      rcases Nat.eq_zero_or_pos (f n) with q | q
      · obtain ⟨j, hj, h2⟩ := sumTo_pos.mp (show 0 < sumTo f n by omega)
        exact ⟨j, by omega, h2⟩
      · exact ⟨n, by omega, q⟩
    · rintro ⟨j, hj, h⟩
      rcases Nat.lt_or_ge j n with q | q
      · have := sumTo_pos.mpr ⟨j, q, h⟩; omega
      · rw [show j = n by omega] at h; omega
theorem fnM_pos {k1 p1 k2 p2 n : Nat} {w : Nat → Nat} : decide (0 < fnM k1 p1 k2 p2 w n n) = !allTo (fiB (fun x y => tls k1 p1 (w x) (w y)) (fun x y => tls k2 p2 (w x) (w y)) n) n := by
  rw [Bool.eq_iff_iff, decide_eq_true_eq]
  unfold fnM
  rw [sumTo_pos]
  constructor
  · rintro ⟨x, hx, h⟩
    obtain ⟨y, hy, h2⟩ := sumTo_pos.mp h
    rw [allTo_no (j := x) hx]
    · rfl
    · refine allTo_no (j := y) hy ?_
      show (!(fnB k1 p1 k2 p2 w x y)) = false
      cases q : fnB k1 p1 k2 p2 w x y with
      | true => rfl
      | false => simp only [q, bN] at h2; exact absurd h2 (Nat.lt_irrefl _)
  · intro h
    by_cases hex : ∃ x, x < n ∧ ∃ y, y < n ∧ fnB k1 p1 k2 p2 w x y = true
    · obtain ⟨x, hx, y, hy, e⟩ := hex
      exact ⟨x, hx, sumTo_pos.mpr ⟨y, hy, by rw [e]; exact Nat.one_pos⟩⟩
    · have : allTo (fiB (fun x y => tls k1 p1 (w x) (w y)) (fun x y => tls k2 p2 (w x) (w y)) n) n = true := allTo_iff.mpr (fun x hx => allTo_iff.mpr (fun y hy => by
        show (!(fnB k1 p1 k2 p2 w x y)) = true
        cases q : fnB k1 p1 k2 p2 w x y with
        | false => rfl
        | true => exact absurd ⟨x, hx, y, hy, q⟩ hex))
      rw [this] at h
      cases h
theorem fin_law {k1 p1 k2 p2 n : Nat} {w : Nat → Nat} : finM n (ligS k1 p1 w n) (ligS k2 p2 w n) = (fnAll k1 p1 k2 p2 w n n && decide (0 < fnM k1 p1 k2 p2 w n n)) := by
  rw [fnM_pos, ← fin_eq]
  rfl
theorem fnM_le {k1 p1 k2 p2 n : Nat} {w : Nat → Nat} : ∀ i, fnM k1 p1 k2 p2 w n i ≤ i * n := fun i => by
  have h : ∀ x, sumTo (fun y => bN (fnB k1 p1 k2 p2 w x y)) n ≤ n * 1 := fun x => sumTo_le (fun y => bN_le _) n
  exact sumTo_le (fun x => Nat.le_trans (h x) (by omega)) i
