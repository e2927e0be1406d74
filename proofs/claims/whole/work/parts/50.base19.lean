/-! longest: the chain of a thing is bounded by its rank among the ends; the model's rounds reach it -/
theorem and_ne {a b : Nat} : ¬ a &&& b = 0 ↔ ∃ y, a.testBit y = true ∧ b.testBit y = true := by
  constructor
  · intro h
    by_cases c : ∃ y, a.testBit y = true ∧ b.testBit y = true
    · exact c
    · exfalso
      apply h
      apply Nat.eq_of_testBit_eq
      intro i
      rw [Nat.testBit_and, Nat.zero_testBit]
      cases q : a.testBit i with
      | false => rfl
      | true =>
        cases q2 : b.testBit i with
        | false => rfl
        | true => exact absurd ⟨i, q, q2⟩ c
  · rintro ⟨y, h1, h2⟩ h
    have h3 : (a &&& b).testBit y = true := by rw [Nat.testBit_and, h1, h2]; rfl
    rw [h, Nat.zero_testBit] at h3
    cases h3
theorem ends_succ {el : Nat → Nat} {n k z : Nat} : (endsK el n (k + 1)).testBit z = true ↔ z < n ∧ ∃ y, (el z).testBit y = true ∧ (endsK el n k).testBit y = true := by
  show (hvyS el n (endsK el n k)).testBit z = true ↔ _
  unfold hvyS
  rw [orTo_bit]
  constructor
  · rintro ⟨j, h1, h2⟩
    by_cases c : el j &&& endsK el n k = 0
    · rw [if_pos c, Nat.zero_testBit] at h2; cases h2
    · rw [if_neg c, Nat.testBit_two_pow, decide_eq_true_eq] at h2
      subst h2
      exact ⟨h1, and_ne.mp c⟩
  · rintro ⟨h1, h2⟩
    exact ⟨z, h1, by rw [if_neg (and_ne.mpr h2), Nat.testBit_two_pow, decide_eq_true_eq]⟩
theorem ends_zero {el : Nat → Nat} {n z : Nat} : (endsK el n 0).testBit z = true ↔ z < n := by
  show (2 ^ n - 1).testBit z = true ↔ _
  rw [Nat.testBit_two_pow_sub_one, decide_eq_true_eq]
theorem ends_in {el : Nat → Nat} {n z : Nat} : ∀ {k : Nat}, (endsK el n k).testBit z = true → z < n
  | 0, h => ends_zero.mp h
  | _ + 1, h => (ends_succ.mp h).1
theorem sumTo_more {f g : Nat → Nat} {z : Nat} : ∀ {n : Nat}, (∀ j, j < n → f j ≤ g j) → z < n → f z + 1 ≤ g z → sumTo f n + 1 ≤ sumTo g n
  | 0, _, hz, _ => by omega
  | n + 1, h, hz, hh => by
    rw [sumTo, sumTo]
    rcases Nat.lt_or_ge z n with q | q
    · have h1 := sumTo_more (f := f) (g := g) (n := n) (fun j hj => h j (by omega)) q hh
      have h2 := h n (by omega)
      omega
    · have h1 := sumTo_mono (f := f) (g := g) (n := n) (fun j hj => h j (by omega))
      rw [show n = z by omega] at h1 ⊢
      omega
theorem sumTo_ones : ∀ n : Nat, sumTo (fun _ => 1) n = n
  | 0 => rfl
  | n + 1 => by rw [sumTo, sumTo_ones n]
/-- how many are lighter -/
def cntL (w : Nat → Nat) (n v : Nat) : Nat := sumTo (fun z => if w z < v then 1 else 0) n
theorem cntL_more {w : Nat → Nat} {n u z : Nat} (hz : z < n) (h : w z < u) : cntL w n (w z) + 1 ≤ cntL w n u :=
  sumTo_more (fun j _ => by
    show (if w j < w z then 1 else 0) ≤ (if w j < u then 1 else 0)
    by_cases c : w j < w z
    · rw [if_pos c, if_pos (by omega)]; exact Nat.le_refl _
    · rw [if_neg c]; exact Nat.zero_le _) hz (by
    show (if w z < w z then 1 else 0) + 1 ≤ (if w z < u then 1 else 0)
    rw [if_neg (Nat.lt_irrefl _), if_pos h]; exact Nat.le_refl _)
theorem cntL_le {w : Nat → Nat} {n z : Nat} (hz : z < n) : cntL w n (w z) + 1 ≤ n := by
  have h := sumTo_more (f := fun j => if w j < w z then 1 else 0) (g := fun _ => 1) (z := z) (n := n) (fun j _ => by
    show (if w j < w z then 1 else 0) ≤ 1
    split <;> omega) hz (by
    show (if w z < w z then 1 else 0) + 1 ≤ 1
    rw [if_neg (Nat.lt_irrefl _)]; exact Nat.le_refl _)
  rw [sumTo_ones] at h
  exact h
theorem lig_lt {kk p n x y : Nat} {w : Nat → Nat} (h : (ligS kk p w n x).testBit y = true) : y < n ∧ w y < w x := by
  rw [ligS_bit, Bool.and_eq_true, decide_eq_true_eq] at h
  exact ⟨h.1, (tls_iff.mp h.2).1⟩
theorem ends_rank {kk p n : Nat} {w : Nat → Nat} : ∀ {k x : Nat}, (endsK (ligS kk p w n) n k).testBit x = true → k ≤ cntL w n (w x)
  | 0, _, _ => Nat.zero_le _
  | k + 1, x, h => by
    obtain ⟨-, y, h2, h3⟩ := ends_succ.mp h
    obtain ⟨h4, h5⟩ := lig_lt h2
    have h6 := ends_rank h3
    have h7 := cntL_more h4 h5
    omega
theorem ends_k {kk p n k x : Nat} {w : Nat → Nat} (h : (endsK (ligS kk p w n) n k).testBit x = true) : k < n := by
  have h1 := ends_rank h
  have h2 := cntL_le (w := w) (ends_in h)
  omega
theorem ends_none {el : Nat → Nat} {n k : Nat} (h : endsK el n k = 0) : ∀ j, k ≤ j → endsK el n j = 0 := by
  intro j
  induction j with
  | zero => intro hj; rw [show k = 0 by omega] at h; exact h
  | succ j ih =>
    intro hj
    rcases Nat.lt_or_ge j k with q | q
    · rw [show j + 1 = k by omega]; exact h
    · have h1 := ih q
      apply Nat.eq_of_testBit_eq
      intro i
      rw [Nat.zero_testBit]
      cases c : (endsK el n (j + 1)).testBit i with
      | false => rfl
      | true =>
        obtain ⟨-, y, -, h3⟩ := ends_succ.mp c
        rw [h1, Nat.zero_testBit] at h3
        cases h3
theorem bit_ex {a : Nat} (h : ¬ a = 0) : ∃ y, a.testBit y = true := by
  have h1 : ¬ a &&& a = 0 := by rw [Nat.and_self]; exact h
  obtain ⟨y, h2, -⟩ := and_ne.mp h1
  exact ⟨y, h2⟩
/-- between two rounds -/
def lnO (el : Nat → Nat) (n s : Nat) (c : Nat → Nat) (mo : Nat) : Prop :=
  (∀ z, z < n → 1 ≤ c z ∧ (endsK el n (c z - 1)).testBit z = true) ∧ (∀ z k, z < n → k ≤ s → (endsK el n k).testBit z = true → k + 1 ≤ c z) ∧ (1 ≤ mo ∧ ∃ z, (endsK el n (mo - 1)).testBit z = true) ∧ (s = 0 ∨ ∀ z, z < n → c z ≤ mo)
/-- within a round -/
def lnI (el : Nat → Nat) (n s x y : Nat) (c : Nat → Nat) (mo : Nat) : Prop :=
  (∀ z, z < n → 1 ≤ c z ∧ (endsK el n (c z - 1)).testBit z = true) ∧ (∀ z k, z < n → k ≤ s → (endsK el n k).testBit z = true → k + 1 ≤ c z) ∧ (1 ≤ mo ∧ ∃ z, (endsK el n (mo - 1)).testBit z = true) ∧ (∀ z k, z < x → z < n → k ≤ s + 1 → (endsK el n k).testBit z = true → k + 1 ≤ c z) ∧ (∀ z, z < x → c z ≤ mo) ∧ (∀ z, z < y → (el x).testBit z = true → c z + 1 ≤ c x)
theorem ln_start {el : Nat → Nat} {n : Nat} {c : Nat → Nat} (hn : 1 ≤ n) : lnO el n 0 (layF c n (fun _ => 1)) 1 := by
  refine ⟨fun z hz => ?_, fun z k hz hk _ => ?_, ⟨Nat.le_refl _, 0, ends_zero.mpr (by omega)⟩, Or.inl rfl⟩
  · rw [layF_in hz]; exact ⟨Nat.le_refl _, ends_zero.mpr hz⟩
  · rw [layF_in hz]; omega
theorem ln_in {el : Nat → Nat} {n s mo : Nat} {c : Nat → Nat} (h : lnO el n s c mo) : lnI el n s 0 0 c mo := ⟨h.1, h.2.1, h.2.2.1, fun z _ hz => by omega, fun z hz => by omega, fun z hz => by omega⟩
theorem ln_out {el : Nat → Nat} {n s mo : Nat} {c : Nat → Nat} (h : lnI el n s n 0 c mo) : lnO el n (s + 1) c mo := ⟨h.1, fun z k hz hk hb => h.2.2.2.1 z k hz hz hk hb, h.2.2.1, Or.inr h.2.2.2.2.1⟩
theorem ln_reach {kk p n s x mo : Nat} {w c : Nat → Nat} (h : lnI (ligS kk p w n) n s x n c mo) (hx : x < n) : ∀ k, k ≤ s + 1 → (endsK (ligS kk p w n) n k).testBit x = true → k + 1 ≤ c x := by
  intro k hk hb
  cases k with
  | zero => have := (h.1 x hx).1; omega
  | succ k =>
    obtain ⟨-, y, h2, h3⟩ := ends_succ.mp hb
    have h4 := (lig_lt h2).1
    have h5 := h.2.1 y k h4 (by omega) h3
    have h6 := h.2.2.2.2.2 y h4 h2
    omega
theorem ln_rowt {kk p n s x mo : Nat} {w c : Nat → Nat} (h : lnI (ligS kk p w n) n s x n c mo) (hx : x < n) (hc : c x ≤ mo) : lnI (ligS kk p w n) n s (x + 1) 0 c mo := by
  refine ⟨h.1, h.2.1, h.2.2.1, fun z k hz hzn hk hb => ?_, fun z hz => ?_, fun z hz => by omega⟩
  · rcases Nat.lt_or_ge z x with q | q
    · exact h.2.2.2.1 z k q hzn hk hb
    · obtain rfl : z = x := by omega
      exact ln_reach h hx k hk hb
  · rcases Nat.lt_or_ge z x with q | q
    · exact h.2.2.2.2.1 z q
    · obtain rfl : z = x := by omega
      exact hc
theorem ln_rowf {kk p n s x mo : Nat} {w c : Nat → Nat} (h : lnI (ligS kk p w n) n s x n c mo) (hx : x < n) (hc : mo < c x) : lnI (ligS kk p w n) n s (x + 1) 0 c (c x) := by
  refine ⟨h.1, h.2.1, ⟨(h.1 x hx).1, x, (h.1 x hx).2⟩, fun z k hz hzn hk hb => ?_, fun z hz => ?_, fun z hz => by omega⟩
  · rcases Nat.lt_or_ge z x with q | q
    · exact h.2.2.2.1 z k q hzn hk hb
    · obtain rfl : z = x := by omega
      exact ln_reach h hx k hk hb
  · rcases Nat.lt_or_ge z x with q | q
    · have := h.2.2.2.2.1 z q; omega
    · obtain rfl : z = x := by omega
      exact Nat.le_refl _
theorem ln_same {el : Nat → Nat} {n s x y mo : Nat} {c : Nat → Nat} (h : lnI el n s x y c mo) (hc : (el x).testBit y = true → c y + 1 ≤ c x) : lnI el n s x (y + 1) (up c x (c x)) mo := by
  have e : up c x (c x) = c := by funext j; unfold up; split <;> simp_all
  rw [e]
  refine ⟨h.1, h.2.1, h.2.2.1, h.2.2.2.1, h.2.2.2.2.1, fun z hz hb => ?_⟩
  rcases Nat.lt_or_ge z y with q | q
  · exact h.2.2.2.2.2 z q hb
  · obtain rfl : z = y := by omega
    exact hc hb
theorem ln_up {kk p n s x y mo : Nat} {w c : Nat → Nat} (h : lnI (ligS kk p w n) n s x y c mo) (hx : x < n) (hb : (ligS kk p w n x).testBit y = true) (hc : c x < c y + 1) : lnI (ligS kk p w n) n s x (y + 1) (up c x (c y + 1)) mo := by
  obtain ⟨hy, hw⟩ := lig_lt hb
  have hge : ∀ z, c z ≤ up c x (c y + 1) z := fun z => by
    unfold up
    split
    · rename_i q; rw [q]; omega
    · exact Nat.le_refl _
  refine ⟨fun z hz => ?_, fun z k hz hk hq => Nat.le_trans (h.2.1 z k hz hk hq) (hge z), h.2.2.1, fun z k hz hzn hk hq => Nat.le_trans (h.2.2.2.1 z k hz hzn hk hq) (hge z), fun z hz => ?_, fun z hz hq => ?_⟩
  · by_cases q : z = x
    · subst q
      rw [up_self]
      refine ⟨by omega, ?_⟩
      have h1 := h.1 y hy
      rw [Nat.add_sub_cancel, show c y = (c y - 1) + 1 by omega]
      exact ends_succ.mpr ⟨hz, y, hb, h1.2⟩
    · rw [up_ne _ _ q]; exact h.1 z hz
  · rw [up_ne _ _ (by omega)]; exact h.2.2.2.2.1 z hz
  · have hzx : z ≠ x := fun q => by subst q; have := (lig_lt hq).2; omega
    rw [up_ne _ _ hzx, up_self]
    rcases Nat.lt_or_ge z y with q | q
    · have := h.2.2.2.2.2 z q hq; omega
    · obtain rfl : z = y := by omega
      exact Nat.le_refl _
theorem ln_le {kk p n s x y mo z : Nat} {w c : Nat → Nat} (h : lnI (ligS kk p w n) n s x y c mo) (hz : z < n) : c z ≤ n := by
  have h1 := h.1 z hz
  have h2 := ends_k h1.2
  omega
theorem ln_mo {kk p n s x y mo : Nat} {w c : Nat → Nat} (h : lnI (ligS kk p w n) n s x y c mo) : mo ≤ n := by
  obtain ⟨h1, z, h2⟩ := h.2.2.1
  have h3 := ends_k h2
  omega
theorem ln_end {kk p n mo : Nat} {w c : Nat → Nat} (h : lnO (ligS kk p w n) n n c mo) (hn : 1 ≤ n) : mo = chnN (ligS kk p w n) n := by
  obtain ⟨h1, h2, ⟨h3, z0, h4⟩, h5⟩ := h
  have h5 := h5.resolve_left (by omega)
  have hk := ends_k h4
  have top : ∀ k, ¬ endsK (ligS kk p w n) n k = 0 → k + 1 ≤ mo := fun k hk => by
    obtain ⟨y, hy⟩ := bit_ex hk
    have g1 := h2 y k (ends_in hy) (by have := ends_k hy; omega) hy
    have g2 := h5 y (ends_in hy)
    omega
  have low : ∀ k, k < mo → ¬ endsK (ligS kk p w n) n k = 0 := fun k hk q => by
    rw [ends_none q (mo - 1) (by omega), Nat.zero_testBit] at h4
    cases h4
  unfold chnN
  rcases Nat.lt_or_ge mo n with q | q
  · have e : endsK (ligS kk p w n) n mo = 0 := by
      by_cases c : endsK (ligS kk p w n) n mo = 0
      · exact c
      · have := top mo c; omega
    rw [fst_some.mpr ⟨q, decide_eq_true e, fun j hj => decide_eq_false (low j hj)⟩]
    rfl
  · rw [fst_none.mpr (fun j hj => decide_eq_false (low j (by omega)))]
    show mo = n
    omega
