/-! what is laid is read below n alone -/
theorem orTo_congr {f g : Nat → Nat} : ∀ {n : Nat}, (∀ j, j < n → f j = g j) → orTo f n = orTo g n
  | 0, _ => rfl
  | n + 1, h => by rw [orTo, orTo, orTo_congr (fun j hj => h j (by omega)), h n (by omega)]
theorem sumTo_congr {f g : Nat → Nat} : ∀ {n : Nat}, (∀ j, j < n → f j = g j) → sumTo f n = sumTo g n
  | 0, _ => rfl
  | n + 1, h => by rw [sumTo, sumTo, sumTo_congr (fun j hj => h j (by omega)), h n (by omega)]
theorem maxTo_congr {f g : Nat → Nat} : ∀ {n : Nat}, (∀ j, j < n → f j = g j) → maxTo f n = maxTo g n
  | 0, _ => rfl
  | n + 1, h => by rw [maxTo, maxTo, maxTo_congr (fun j hj => h j (by omega)), h n (by omega)]
theorem allTo_congr {f g : Nat → Bool} : ∀ {n : Nat}, (∀ j, j < n → f j = g j) → allTo f n = allTo g n
  | 0, _ => rfl
  | n + 1, h => by rw [allTo, allTo, allTo_congr (fun j hj => h j (by omega)), h n (by omega)]
theorem fstTo_congr {f g : Nat → Bool} : ∀ {n : Nat}, (∀ j, j < n → f j = g j) → fstTo f n = fstTo g n
  | 0, _ => rfl
  | n + 1, h => by rw [fstTo, fstTo, fstTo_congr (fun j hj => h j (by omega)), h n (by omega)]
theorem anyS_lay {e F : Nat → Nat} {n a : Nat} : anyS (layF e n F) n a = anyS F n a := orTo_congr (fun j hj => by rw [layF_in hj])
theorem wth_lay {e F : Nat → Nat} {n s : Nat} : ∀ k, wth (layF e n F) n s k = wth F n s k
  | 0 => rfl
  | k + 1 => by rw [wth, wth, wth_lay k, anyS_lay]
theorem bhd_lt {ea : Nat → Nat} {ec t m f : Nat} (hf : f < ec) : ∀ k, bhd ea ec t m f k < ec
  | 0 => hf
  | k + 1 => by
    rw [bhd]
    cases q : lstN (ea (bhd ea ec t m f k) &&& wth ea ec (2 ^ t) (min (m - (k + 1)) ec)) ec with
    | none => exact Nat.lt_of_le_of_lt (Nat.zero_le _) hf
    | some z => exact (lst_some.mp q).1
theorem bhd_lay {e F : Nat → Nat} {n t m f : Nat} (hf : f < n) : ∀ k, bhd (layF e n F) n t m f k = bhd F n t m f k
  | 0 => rfl
  | k + 1 => by rw [bhd, bhd, bhd_lay hf k, wth_lay, layF_in (bhd_lt hf k)]
theorem wayS_lay {e F : Nat → Nat} {n t f q : Nat} (hf : f < n) : wayS (layF e n F) n f t q = wayS F n f t q := by
  unfold wayS
  rw [show (fun s => (wth (layF e n F) n (2 ^ t) s).testBit f) = fun s => (wth F n (2 ^ t) s).testBit f from funext fun s => by rw [wth_lay]]
  cases fstTo (fun s => (wth F n (2 ^ t) s).testBit f) n with
  | none => rfl
  | some m => simp only [bhd_lay hf]
theorem few_lay {e F : Nat → Nat} {n t f : Nat} : fstTo (fun s => (wth (layF e n F) n (2 ^ t) s).testBit f) n = fstTo (fun s => (wth F n (2 ^ t) s).testBit f) n := fstTo_congr (fun j _ => by rw [wth_lay])
theorem finM_lay {e o F G : Nat → Nat} {n : Nat} : finM n (layF e n F) (layF o n G) = finM n F G := by
  unfold finM
  rw [allTo_congr (fun j hj => by rw [layF_in hj, layF_in hj]), allTo_congr (f := fun x => decide (layF o n G x = layF e n F x)) (g := fun x => decide (G x = F x)) (fun j hj => by rw [layF_in hj, layF_in hj])]
theorem fitb_lay {e F : Nat → Nat} {n a : Nat} : fitb (layF e n F) n a = fitb F n a := orTo_congr (fun j hj => by rw [layF_in hj])
theorem laidK_lay {e F : Nat → Nat} {n : Nat} : ∀ k, laidK (layF e n F) n k = laidK F n k
  | 0 => rfl
  | k + 1 => by rw [laidK, laidK, laidK_lay k, fitb_lay]
theorem nxtK_lay {e F : Nat → Nat} {n : Nat} : ∀ k, nxtK (layF e n F) n k = nxtK F n k
  | 0 => rfl
  | k + 1 => by rw [nxtK, nxtK, laidK_lay, fitb_lay]
theorem ordN_lay {e F : Nat → Nat} {n : Nat} : ∀ f s, ordN (layF e n F) n f s = ordN F n f s
  | 0, _ => rfl
  | f + 1, s => by
    rw [ordN, ordN]
    by_cases c : s = 0
    · rw [if_pos c, if_pos c]
    · rw [if_neg c, if_neg c]
      exact sumTo_congr (fun j hj => by rw [layF_in hj, ordN_lay f])
theorem hvyS_lay {e F : Nat → Nat} {n a : Nat} : hvyS (layF e n F) n a = hvyS F n a := orTo_congr (fun j hj => by rw [layF_in hj])
theorem endsK_lay {e F : Nat → Nat} {n : Nat} : ∀ k, endsK (layF e n F) n k = endsK F n k
  | 0 => rfl
  | k + 1 => by rw [endsK, endsK, endsK_lay k, hvyS_lay]
theorem chnN_lay {e F : Nat → Nat} {n : Nat} : chnN (layF e n F) n = chnN F n := by
  unfold chnN
  rw [fstTo_congr (fun j _ => by rw [endsK_lay])]
theorem allAlk_lay {e F : Nat → Nat} {n a : Nat} : allAlk (layF e n F) n a = allAlk F n a := allTo_congr (fun j hj => by rw [layF_in hj])
theorem crwd_lay {e F : Nat → Nat} {n k : Nat} : bstS (allAlk (layF e n F) n) k = bstS (allAlk F n) k := by rw [show allAlk (layF e n F) n = allAlk F n from funext fun a => allAlk_lay]
theorem toldN_lay {e F : Nat → Nat} {n : Nat} : toldN (layF e n F) n = toldN F n := sumTo_congr (fun j hj => by rw [layF_in hj])
theorem lig8 {k p x n : Nat} {w : Nat → Nat} (hn : n ≤ 8) : ligS k p w n x < 2 ^ 8 := orTo_lt' (fun j hj => by unfold ligF; split; exact pow8 hj hn; decide)
theorem alk8 {k p x n : Nat} {w : Nat → Nat} (hn : n ≤ 8) : alkS k p w n x < 2 ^ 8 := orTo_lt' (fun j hj => by unfold alkF; split; exact pow8 hj hn; decide)
theorem lay8 {e F : Nat → Nat} {n : Nat} (h : ∀ z, e z < 2 ^ 8) (hF : ∀ z, F z < 2 ^ 8) : ∀ z, layF e n F z < 2 ^ 8 := fun z => by unfold layF; split; exact hF z; exact h z
theorem lay8l {e w : Nat → Nat} {k p n : Nat} (h : ∀ z, e z < 2 ^ 8) (hn : n ≤ 8) : ∀ z, layF e n (ligS k p w n) z < 2 ^ 8 := lay8 h (fun _ => lig8 hn)
theorem lay8a {e w : Nat → Nat} {k p n : Nat} (h : ∀ z, e z < 2 ^ 8) (hn : n ≤ 8) : ∀ z, layF e n (alkS k p w n) z < 2 ^ 8 := lay8 h (fun _ => alk8 hn)
theorem orIf_bit {c : Nat → Bool} {n y : Nat} : (orTo (fun z => if c z = true then 2 ^ z else 0) n).testBit y = (decide (y < n) && c y) := by
  rw [Bool.eq_iff_iff, orTo_bit, Bool.and_eq_true, decide_eq_true_eq]
  constructor
  · rintro ⟨j, h1, h2⟩
    cases q : c j with
    | false => rw [q] at h2; simp at h2
    | true =>
      rw [q] at h2
      simp only [if_true, Nat.testBit_two_pow] at h2
      have : j = y := by simpa using h2
      subst this
      exact ⟨h1, q⟩
  · rintro ⟨h1, h2⟩
    exact ⟨y, h1, by simp [h2, Nat.testBit_two_pow]⟩
theorem alkS_bit {k p n x y : Nat} {w : Nat → Nat} : (alkS k p w n x).testBit y = (decide (y < n) && alk k p (w x) (w y)) := orIf_bit (c := fun y => alk k p (w x) (w y))
theorem ligS_bit {k p n x y : Nat} {w : Nat → Nat} : (ligS k p w n x).testBit y = (decide (y < n) && tls k p (w x) (w y)) := orIf_bit (c := fun y => tls k p (w x) (w y))
theorem tls_self {k p a : Nat} : tls k p a a = false := tls_f (fun h => absurd h.1 (Nat.lt_irrefl _))
theorem alk_self {k p a : Nat} : alk k p a a = true := alk_t tls_self tls_self
theorem alk_comm {k p a b : Nat} : alk k p a b = alk k p b a := by unfold alk; rw [Bool.and_comm]
theorem ge_m1 {p : Int32} (h1 : ¬ p < -1) (h2 : ¬ p = -1) : ¬ p < 0 := by
  intro h3
  apply h2
  apply Int32.toInt_inj.mp
  have h4 := Int32.lt_iff_toInt_lt.mp h3
  have h5 : ¬ p.toInt < (-1 : Int32).toInt := fun q => h1 (Int32.lt_iff_toInt_lt.mpr q)
  rw [show (-1 : Int32).toInt = -1 by decide] at h5 ⊢
  rw [show (0 : Int32).toInt = 0 by decide] at h4
  omega
theorem nI_lt_m1 {j : Nat} (h : j < 2 ^ 31) : ¬ nI j < -1 := fun q => by
  have h4 := Int32.lt_iff_toInt_lt.mp q
  rw [nI_toInt h, show (-1 : Int32).toInt = -1 by decide] at h4
  omega
theorem nI_ne_m1 {j : Nat} (h : j < 2 ^ 31) : ¬ nI j = -1 := fun q => by
  have h4 := congrArg Int32.toInt q
  rw [nI_toInt h, show (-1 : Int32).toInt = -1 by decide] at h4
  omega
/-- a set has its own bit -/
theorem popN_pos {a i : Nat} (hi : i < 20) (h : a.testBit i = true) : 1 ≤ popN a := by
  have key : ∀ n, i < n → 1 ≤ sumTo (fun k => a / 2 ^ k &&& 1) n := by
    intro n
    induction n with
    | zero => intro h; omega
    | succ n ih =>
      intro hn
      rw [sumTo]
      rcases Nat.lt_or_ge i n with q | q
      · have := ih q; omega
      · have e : i = n := by omega
        subst e
        rw [Nat.testBit_eq_decide_div_mod_eq, ← Nat.and_one_is_mod] at h
        have := of_decide_eq_true h
        show 1 ≤ _ + (a / 2 ^ i &&& 1)
        omega
  exact key 20 hi
