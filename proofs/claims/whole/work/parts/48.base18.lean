theorem fDn_at {F : Nat → Nat} {n t z d : Nat} (hn : n < 2 ^ 30) (hd : d < 2 ^ 30) : fD F n t n z = nI d ↔ (d ≤ n ∧ (wth F n (2 ^ t) d).testBit z = true ∧ ∀ k, k < d → (wth F n (2 ^ t) k).testBit z = false) := by
  unfold fD
  cases q : fstTo (fun k => (wth F n (2 ^ t) k).testBit z) (n + 1) with
  | none =>
    have h := fst_none.mp q
    constructor
    · intro e; exact absurd e.symm (oN_ne (by omega))
    · intro e
      have := h d (by omega)
      rw [e.2.1] at this
      cases this
  | some k =>
    have h := fst_some.mp q
    have h9 : k < n + 1 := h.1
    constructor
    · intro e
      obtain rfl : k = d := (nI_eq (by omega) (by omega)).mp e
      exact ⟨by omega, h.2⟩
    · rintro ⟨e1, e2, e3⟩
      have e4 := fst_some.mpr ⟨show d < n + 1 by omega, e2, e3⟩
      rw [q] at e4
      cases e4
      rfl
/-- the model's next thing -/
def nxO (F : Nat → Nat) (n : Nat) (far : Nat → Int32) (x : Nat) : Nat := (fstTo (fun z => decide (far z = far x - nI 1) && (F x).testBit z) n).getD x
theorem nxO_t {F : Nat → Nat} {n x i : Nat} {far : Nat → Int32} (hi : i < n) (h : ∀ z, z < i → (decide (far z = far x - nI 1) && (F x).testBit z) = false) (h1 : (decide (far i = far x - nI 1) && (F x).testBit i) = true) : nxO F n far x = i := by
  unfold nxO
  rw [show fstTo (fun z => decide (far z = far x - nI 1) && (F x).testBit z) n = some i from fst_some.mpr ⟨hi, h1, h⟩]
  rfl
theorem nxO_f {F : Nat → Nat} {n x : Nat} {far : Nat → Int32} (h : ∀ z, z < n → (decide (far z = far x - nI 1) && (F x).testBit z) = false) : nxO F n far x = x := by
  unfold nxO
  rw [show fstTo (fun z => decide (far z = far x - nI 1) && (F x).testBit z) n = none from fst_none.mpr h]
  rfl
/-- one step nearer -/
theorem nxO_bhd {F : Nat → Nat} {n t m f i : Nat} {far : Nat → Int32} (hn : n < 2 ^ 30) (hr : ∀ x, x < n → (F x).testBit x = true) (hs : ∀ x y, x < n → y < n → (F x).testBit y = (F y).testBit x) (hm : m < n) (hi : i < m) (hb : bhd F n t m f i < n) (hfar : ∀ z, z < n → far z = fD F n t n z) (hd : fD F n t n (bhd F n t m f i) = nI (m - i)) : nxO F n far (bhd F n t m f i) = bhd F n t m f (i + 1) ∧ bhd F n t m f (i + 1) < n ∧ fD F n t n (bhd F n t m f (i + 1)) = nI (m - (i + 1)) := by
  have hx := (fDn_at hn (show m - i < 2 ^ 30 by omega)).mp hd
  obtain ⟨z, h1, h2, h3, h4⟩ := bhd_step hr hs hm hi hb hx.2.1
  have key : ∀ y, y < n → (F (bhd F n t m f i)).testBit y = true → (fD F n t n y = nI (m - (i + 1)) ↔ (wth F n (2 ^ t) (m - (i + 1))).testBit y = true) := by
    intro y hy ha
    rw [fDn_at hn (by omega)]
    constructor
    · intro e; exact e.2.1
    · intro e
      refine ⟨by omega, e, fun k hk => ?_⟩
      cases q : (wth F n (2 ^ t) k).testBit y with
      | false => rfl
      | true =>
        have h5 : (wth F n (2 ^ t) (k + 1)).testBit (bhd F n t m f i) = true := by
          rw [wth, Nat.testBit_or, any_bit.mpr ⟨y, hy, q, by rw [← hs _ _ hb hy]; exact ha⟩, Bool.or_true]
        rw [hx.2.2 (k + 1) (by omega)] at h5
        cases h5
  have hz := lst_some.mp h1
  have hza : (F (bhd F n t m f i)).testBit z = true := by
    have := hz.2.1
    rw [Nat.testBit_and, Bool.and_eq_true] at this
    exact this.1
  have e1 : nI (m - i) - nI 1 = nI (m - (i + 1)) := by rw [pk_sub (by omega)]; congr 1
  rw [h2]
  refine ⟨nxO_t h3 (fun y hy => ?_) ?_, h3, (key z h3 hza).mpr h4⟩
  · have h6 := hz.2.2 y hy
    rw [Nat.testBit_and] at h6
    cases ha : (F (bhd F n t m f i)).testBit y with
    | false => rw [Bool.and_false]
    | true =>
      rw [ha, Bool.true_and] at h6
      rw [hfar y (by omega), hfar _ hb, hd, e1, decide_eq_false (fun q => by rw [(key y (by omega) ha).mp q] at h6; cases h6)]
      rfl
  · rw [hfar z h3, hfar _ hb, hd, e1, decide_eq_true ((key z h3 hza).mpr h4), hza]
    rfl
section WAY
variable {F : Nat → Nat} {n f t : Nat} {q : Int32}
theorem wy_none (h : fstTo (fun s => (wth F n (2 ^ t) s).testBit f) n = none) : (if q = -1 then oN (fstTo (fun s => (wth F n (2 ^ t) s).testBit f) n) else wayS F n f t (tn q)) = -9 := by
  unfold wayS
  rw [h]
  split <;> rfl
theorem wy_far {m : Nat} (h : fstTo (fun s => (wth F n (2 ^ t) s).testBit f) n = some m) (hm : m < 2 ^ 30) (hq : ¬ q < -1) (h2 : ¬ q ≤ nI m) : (if q = -1 then oN (fstTo (fun s => (wth F n (2 ^ t) s).testBit f) n) else wayS F n f t (tn q)) = -9 := by
  have hne : ¬ q = -1 := fun e => h2 (by rw [e]; exact Int32.le_trans (by decide) (nI_pos' (by omega)))
  obtain ⟨j, hj, rfl⟩ := nI_of (ge_m1 hq hne)
  have h3 : m < j := Nat.not_le.mp (fun z => h2 ((nI_leI hj (by omega)).mpr z))
  rw [if_neg hne, tn_N hj]
  unfold wayS
  rw [h]
  exact if_pos h3
theorem wy_some {m j : Nat} (h : fstTo (fun s => (wth F n (2 ^ t) s).testBit f) n = some m) (hj : j < 2 ^ 31) (h2 : j ≤ m) : wayS F n f t j = nI (bhd F n t m f j) := by
  unfold wayS
  rw [h]
  exact if_neg (by omega)
end WAY
