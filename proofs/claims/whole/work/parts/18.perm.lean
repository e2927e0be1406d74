/-! rows of hands: the next row is a later one; at most 120 of five -/
theorem sumTo_upd {f : Nat → Nat} {a v : Nat} : ∀ {n : Nat}, a < n → sumTo (up f a v) n + f a = sumTo f n + v
  | 0, h => by omega
  | n + 1, h => by
    rw [sumTo, sumTo]
    rcases Nat.lt_or_ge a n with q | q
    · have := sumTo_upd (f := f) (v := v) q
      rw [up_ne _ _ (by omega)]
      omega
    · have e : a = n := by omega
      subst e
      rw [up_self, sumTo_congr (f := up f a v) (g := f) (fun j hj => up_ne _ _ (by omega))]
      omega
theorem sumTo_exw {f : Nat → Nat} {a b n : Nat} (ha : a < n) (hb : b < n) : sumTo (exw f a b) n = sumTo f n := by
  by_cases e : a = b
  · subst e
    rw [show exw f a a = f from funext fun j => by by_cases c : j = a <;> simp [exw, up, c]]
  · have h1 := sumTo_upd (f := up f a (f b)) (v := f a) hb
    have h2 := sumTo_upd (f := f) (v := f b) ha
    rw [up_ne _ _ (fun z => e z.symm)] at h1
    unfold exw
    omega
theorem sumTo_mono {f g : Nat → Nat} : ∀ {n : Nat}, (∀ j, j < n → f j ≤ g j) → sumTo f n ≤ sumTo g n
  | 0, _ => Nat.le_refl _
  | n + 1, h => by
    have h1 := sumTo_mono (f := f) (g := g) (n := n) (fun j hj => h j (by omega))
    have h2 := h n (by omega)
    rw [sumTo, sumTo]
    omega
def cnf (k v : Nat) (rw : Nat → Nat) : Nat → Nat := fun j => if k < j ∧ rw j < v then 1 else 0
def Cn (n k v : Nat) (rw : Nat → Nat) : Nat := sumTo (cnf k v rw) n
theorem cnf_exw {k v a b : Nat} {rw : Nat → Nat} (ha : k < a) (hb : k < b) : cnf k v (exw rw a b) = exw (cnf k v rw) a b := by
  funext j
  unfold cnf exw up
  by_cases e1 : j = b
  · subst e1; simp [ha, hb]
  · by_cases e2 : j = a
    · subst e2; simp [e1, ha, hb]
    · simp [e1, e2]
theorem Cn_exw {n k v a b : Nat} {rw : Nat → Nat} (ha : k < a) (hb : k < b) (ha2 : a < n) (hb2 : b < n) : Cn n k v (exw rw a b) = Cn n k v rw := by
  unfold Cn
  rw [cnf_exw ha hb, sumTo_exw ha2 hb2]
theorem rvs_Cn {n k v : Nat} : ∀ (f : Nat) (rw : Nat → Nat) (lo hi : Nat), k < lo → hi < n → Cn n k v (rvs f rw lo hi) = Cn n k v rw
  | 0, _, _, _, _, _ => rfl
  | f + 1, rw, lo, hi, hlo, hhi => by
    rw [rvs]
    by_cases c : lo < hi
    · rw [if_pos c, rvs_Cn f _ _ _ (by omega) (by omega), Cn_exw (by omega) (by omega) (by omega) hhi]
    · rw [if_neg c]
theorem exw_out {rw : Nat → Nat} {a b j : Nat} (h1 : j ≠ a) (h2 : j ≠ b) : exw rw a b j = rw j := by
  unfold exw
  rw [up_ne _ _ h2, up_ne _ _ h1]
theorem rvs_out {j : Nat} : ∀ (f : Nat) (rw : Nat → Nat) (lo hi : Nat), j < lo → rvs f rw lo hi j = rw j
  | 0, _, _, _, _ => rfl
  | f + 1, rw, lo, hi, h => by
    rw [rvs]
    by_cases c : lo < hi
    · rw [if_pos c, rvs_out f _ _ _ (by omega), exw_out (by omega) (by omega)]
    · rw [if_neg c]
theorem gre_gt {rw : Nat → Nat} {r : Nat} (h : rw r < rw (r + 1)) : ∀ {k : Nat}, r + 1 ≤ k → r < gre rw r k ∧ rw r < rw (gre rw r k)
  | 0, hk => by omega
  | k + 1, hk => by
    rw [gre]
    by_cases c : r < k + 1 ∧ rw (k + 1) ≤ rw r
    · rw [if_pos c]
      refine gre_gt h ?_
      rcases Nat.lt_or_ge r k with q | q
      · exact q
      · have : k = r := by omega
        subst this
        omega
    · rw [if_neg c]
      exact ⟨by omega, Nat.not_le.mp (fun z => c ⟨by omega, z⟩)⟩
def dig (n : Nat) (rw : Nat → Nat) (k : Nat) : Nat := Cn n k (rw k) rw
theorem Cn_le {n k v : Nat} {rw : Nat → Nat} : Cn n k v rw ≤ n - 1 - k := by
  unfold Cn
  have key : ∀ n, sumTo (cnf k v rw) n ≤ n - 1 - k := by
    intro n
    induction n with
    | zero => exact Nat.zero_le _
    | succ n ih =>
      rw [sumTo]
      unfold cnf at ih ⊢
      by_cases c : k < n ∧ rw n < v
      · rw [if_pos c]; omega
      · rw [if_neg c]; omega
  exact key n
theorem nxt_dig {n r : Nat} {rw r2 : Nat → Nat} (hr : ris rw (n - 1) = some r) (hx : nxt n rw = some r2) : (∀ k, k < r → dig n r2 k = dig n rw k) ∧ dig n rw r + 1 ≤ dig n r2 r ∧ r + 1 < n := by
  have h1 := ris_lt hr
  unfold nxt at hx
  rw [hr] at hx
  cases hx
  have hg := gre_gt h1.2 (k := n - 1) (by omega)
  have hg2 := gre_le rw r (n - 1)
  refine ⟨fun k hk => ?_, ?_, by omega⟩
  · unfold dig
    rw [rvs_Cn _ _ _ _ (by omega) (by omega), rvs_out _ _ _ _ (by omega), exw_out (by omega) (by omega), Cn_exw hk (by omega) (by omega) (by omega)]
  · unfold dig
    rw [rvs_Cn _ _ _ _ (by omega) (by omega), rvs_out _ _ _ _ (by omega)]
    generalize gre rw r (n - 1) = g at hg hg2
    have e1 : exw rw r g r = rw g := by unfold exw; rw [up_ne _ _ (by omega), up_self]
    rw [e1]
    have e2 : cnf r (rw g) (exw rw r g) = up (cnf r (rw g) rw) g 1 := by
      funext j
      unfold cnf exw up
      by_cases e : j = g
      · subst e; simp [hg.1, hg.2]
      · by_cases e3 : j = r
        · subst e3; simp [e]
        · simp [e, e3]
    unfold Cn
    rw [e2]
    have h3 := sumTo_upd (f := cnf r (rw g) rw) (v := 1) (n := n) (a := g) (by omega)
    have h4 : cnf r (rw g) rw g = 0 := if_neg (fun z => absurd z.2 (Nat.lt_irrefl _))
    have h5 : sumTo (cnf r (rw r) rw) n ≤ sumTo (cnf r (rw g) rw) n := sumTo_mono (fun j _ => by
      unfold cnf
      by_cases c : r < j ∧ rw j < rw r
      · rw [if_pos c, if_pos ⟨c.1, by omega⟩]; exact Nat.le_refl _
      · rw [if_neg c]; exact Nat.zero_le _)
    omega
def leh (n : Nat) (rw : Nat → Nat) : Nat := match n with
  | 1 => 0
  | 2 => dig 2 rw 0
  | 3 => 2 * dig 3 rw 0 + dig 3 rw 1
  | 4 => 6 * dig 4 rw 0 + 2 * dig 4 rw 1 + dig 4 rw 2
  | _ => 24 * dig 5 rw 0 + 6 * dig 5 rw 1 + 2 * dig 5 rw 2 + dig 5 rw 3
theorem leh_le {n : Nat} {rw : Nat → Nat} (h1 : 1 ≤ n) (h : n ≤ 5) : leh n rw ≤ 119 := by
  have hd : ∀ n k, dig n rw k ≤ n - 1 - k := fun n k => Cn_le
  rcases (show n = 1 ∨ n = 2 ∨ n = 3 ∨ n = 4 ∨ n = 5 by omega) with rfl | rfl | rfl | rfl | rfl
  · exact Nat.zero_le _
  · have := hd 2 0; show dig 2 rw 0 ≤ 119; omega
  · have := hd 3 0; have := hd 3 1; show 2 * dig 3 rw 0 + dig 3 rw 1 ≤ 119; omega
  · have := hd 4 0; have := hd 4 1; have := hd 4 2; show 6 * dig 4 rw 0 + 2 * dig 4 rw 1 + dig 4 rw 2 ≤ 119; omega
  · have := hd 5 0; have := hd 5 1; have := hd 5 2; have := hd 5 3; show 24 * dig 5 rw 0 + 6 * dig 5 rw 1 + 2 * dig 5 rw 2 + dig 5 rw 3 ≤ 119; omega
theorem nxt_leh {n : Nat} {rw r2 : Nat → Nat} (h1 : 1 ≤ n) (h : n ≤ 5) (hx : nxt n rw = some r2) : leh n rw < leh n r2 := by
  cases hr : ris rw (n - 1) with
  | none => unfold nxt at hx; rw [hr] at hx; cases hx
  | some r =>
    obtain ⟨g1, g2, g3⟩ := nxt_dig hr hx
    have hd : ∀ n k, dig n rw k ≤ n - 1 - k := fun n k => Cn_le
    rcases (show n = 1 ∨ n = 2 ∨ n = 3 ∨ n = 4 ∨ n = 5 by omega) with rfl | rfl | rfl | rfl | rfl
    · omega
    · rcases (show r = 0 by omega) with rfl
      show dig 2 rw 0 < dig 2 r2 0; omega
    · have := hd 3 1
      show 2 * dig 3 rw 0 + dig 3 rw 1 < 2 * dig 3 r2 0 + dig 3 r2 1
      rcases (show r = 0 ∨ r = 1 by omega) with rfl | rfl
      · omega
      · have := g1 0 (by omega); omega
    · have := hd 4 1; have := hd 4 2
      show 6 * dig 4 rw 0 + 2 * dig 4 rw 1 + dig 4 rw 2 < 6 * dig 4 r2 0 + 2 * dig 4 r2 1 + dig 4 r2 2
      rcases (show r = 0 ∨ r = 1 ∨ r = 2 by omega) with rfl | rfl | rfl
      · omega
      · have := g1 0 (by omega); omega
      · have := g1 0 (by omega); have := g1 1 (by omega); omega
    · have := hd 5 1; have := hd 5 2; have := hd 5 3
      show 24 * dig 5 rw 0 + 6 * dig 5 rw 1 + 2 * dig 5 rw 2 + dig 5 rw 3 < 24 * dig 5 r2 0 + 6 * dig 5 r2 1 + 2 * dig 5 r2 2 + dig 5 r2 3
      rcases (show r = 0 ∨ r = 1 ∨ r = 2 ∨ r = 3 by omega) with rfl | rfl | rfl | rfl
      · omega
      · have := g1 0 (by omega); omega
      · have := g1 0 (by omega); have := g1 1 (by omega); omega
      · have := g1 0 (by omega); have := g1 1 (by omega); have := g1 2 (by omega); omega
/-- the rows come to an end within 119 steps -/
theorem seq_ok {n : Nat} {rw : Nat → Nat} (h1 : 1 ≤ n) (h : n ≤ 5) : (∀ k, k < lenN n rw → nxt n (seqN n rw k) = some (seqN n rw (k + 1))) ∧ nxt n (seqN n rw (lenN n rw)) = none ∧ lenN n rw ≤ 119 := by
  have hstep : ∀ k, (nxt n (seqN n rw k)).isNone = false → nxt n (seqN n rw k) = some (seqN n rw (k + 1)) := by
    intro k hk
    cases q : nxt n (seqN n rw k) with
    | none => rw [q] at hk; cases hk
    | some r => rw [seqN, q]; rfl
  have hgrow : ∀ k, (∀ j, j < k → (nxt n (seqN n rw j)).isNone = false) → k ≤ leh n (seqN n rw k) := by
    intro k
    induction k with
    | zero => intro _; exact Nat.zero_le _
    | succ k ih =>
      intro hj
      have h2 := ih (fun j hj2 => hj j (by omega))
      have h3 := nxt_leh h1 h (hstep k (hj k (by omega)))
      omega
  cases q : fstTo (fun k => (nxt n (seqN n rw k)).isNone) 120 with
  | none =>
    have h2 := hgrow 120 (fst_none.mp q)
    have h3 := leh_le (rw := seqN n rw 120) h1 h
    omega
  | some K =>
    have e : lenN n rw = K := by unfold lenN; rw [q]; rfl
    obtain ⟨k1, k2, k3⟩ := fst_some.mp q
    rw [e]
    refine ⟨fun k hk => hstep k (k3 k hk), ?_, by omega⟩
    cases z : nxt n (seqN n rw K) with
    | none => rfl
    | some r => simp only [z] at k2; cases k2
theorem seqN_lt {n m : Nat} {rw : Nat → Nat} (h1 : 1 ≤ n) (h : ∀ z, z < n → rw z < m) : ∀ k, ∀ z, z < n → seqN n rw k z < m
  | 0 => srtK_lt h (n - 1) (by omega)
  | k + 1 => by
    rw [seqN]
    cases q : nxt n (seqN n rw k) with
    | none => exact seqN_lt h1 h k
    | some r => exact nxt_lt (seqN_lt h1 h k) q
/-! what stands behind the row counts for nothing -/
theorem grtK_congr {kd pt r1 r2 : Nat → Nat} {v n : Nat} (h : ∀ z, z < n → r1 z = r2 z) : ∀ k, k ≤ n → grtK kd pt r1 v k = grtK kd pt r2 v k
  | 0, _ => rfl
  | k + 1, hk => by rw [grtK, grtK, grtK_congr h k (by omega), h k (by omega)]
theorem leaK_congr {kd pt r1 r2 : Nat → Nat} {v n : Nat} (h : ∀ z, z < n → r1 z = r2 z) : ∀ k, k ≤ n → leaK kd pt r1 v k = leaK kd pt r2 v k
  | 0, _ => rfl
  | k + 1, hk => by rw [leaK, leaK, leaK_congr h k (by omega), h k (by omega)]
theorem spdN_congr {kd pt r1 r2 : Nat → Nat} {v n : Nat} (h : ∀ z, z < n → r1 z = r2 z) : spdN kd pt v n r1 = spdN kd pt v n r2 := by
  unfold spdN
  rw [grtK_congr h n (Nat.le_refl _), leaK_congr h n (Nat.le_refl _)]
theorem exw_congr {r1 r2 : Nat → Nat} {a b n : Nat} (h : ∀ z, z < n → r1 z = r2 z) (ha : a < n) (hb : b < n) : ∀ z, z < n → exw r1 a b z = exw r2 a b z := by
  intro z hz
  unfold exw up
  rw [h a ha, h b hb, h z hz]
theorem sft_congr {n : Nat} : ∀ (k : Nat) (r1 r2 : Nat → Nat), (∀ z, z < n → r1 z = r2 z) → k < n → ∀ z, z < n → sft r1 k z = sft r2 k z
  | 0, r1, r2, h, _, z, hz => h z hz
  | k + 1, r1, r2, h, hk, z, hz => by
    rw [sft, sft, h k (by omega), h (k + 1) hk]
    by_cases c : r2 (k + 1) < r2 k
    · rw [if_pos c, if_pos c]
      exact sft_congr k _ _ (exw_congr h (by omega) hk) (by omega) z hz
    · rw [if_neg c, if_neg c]; exact h z hz
theorem srtK_congr {n : Nat} {r1 r2 : Nat → Nat} (h : ∀ z, z < n → r1 z = r2 z) : ∀ (k : Nat), k < n → ∀ z, z < n → srtK r1 k z = srtK r2 k z
  | 0, _, z, hz => h z hz
  | k + 1, hk, z, hz => sft_congr (k + 1) _ _ (srtK_congr h k (by omega)) hk z hz
theorem ris_congr {n : Nat} {r1 r2 : Nat → Nat} (h : ∀ z, z < n → r1 z = r2 z) : ∀ (k : Nat), k < n → ris r1 k = ris r2 k
  | 0, _ => rfl
  | k + 1, hk => by rw [ris, ris, h k (by omega), h (k + 1) hk, ris_congr h k (by omega)]
theorem gre_congr {n r : Nat} {r1 r2 : Nat → Nat} (h : ∀ z, z < n → r1 z = r2 z) (hr : r < n) : ∀ (k : Nat), k < n → gre r1 r k = gre r2 r k
  | 0, _ => rfl
  | k + 1, hk => by rw [gre, gre, h r hr, h (k + 1) hk, gre_congr h hr k (by omega)]
theorem rvs_congr {n : Nat} : ∀ (f : Nat) (r1 r2 : Nat → Nat) (lo hi : Nat), (∀ z, z < n → r1 z = r2 z) → hi < n → ∀ z, z < n → rvs f r1 lo hi z = rvs f r2 lo hi z
  | 0, _, _, _, _, h, _, z, hz => h z hz
  | f + 1, r1, r2, lo, hi, h, hh, z, hz => by
    rw [rvs, rvs]
    by_cases c : lo < hi
    · rw [if_pos c, if_pos c]
      exact rvs_congr f _ _ _ _ (exw_congr h (by omega) hh) (by omega) z hz
    · rw [if_neg c, if_neg c]; exact h z hz
theorem nxt_congr {n : Nat} {r1 r2 : Nat → Nat} (hn : 1 ≤ n) (h : ∀ z, z < n → r1 z = r2 z) : (nxt n r1).isNone = (nxt n r2).isNone ∧ ∀ z, z < n → (nxt n r1).getD r1 z = (nxt n r2).getD r2 z := by
  unfold nxt
  rw [ris_congr h (n - 1) (by omega)]
  cases q : ris r2 (n - 1) with
  | none => exact ⟨rfl, h⟩
  | some r =>
    have h1 := ris_lt q
    have h2 := gre_le r1 r (n - 1)
    dsimp only
    rw [gre_congr (r := r) h (by omega) (n - 1) (by omega)] at h2 ⊢
    exact ⟨rfl, rvs_congr _ _ _ _ _ (exw_congr h (by omega) (by omega)) (by omega)⟩
theorem seqN_congr {n : Nat} {r1 r2 : Nat → Nat} (hn : 1 ≤ n) (h : ∀ z, z < n → r1 z = r2 z) : ∀ k, ∀ z, z < n → seqN n r1 k z = seqN n r2 k z
  | 0 => srtK_congr h (n - 1) (by omega)
  | k + 1 => (nxt_congr hn (seqN_congr hn h k)).2
theorem lenN_congr {n : Nat} {r1 r2 : Nat → Nat} (hn : 1 ≤ n) (h : ∀ z, z < n → r1 z = r2 z) : lenN n r1 = lenN n r2 := by
  unfold lenN
  rw [fstTo_congr (fun j _ => (nxt_congr hn (seqN_congr hn h j)).1)]
theorem lsK_congr {kd pt : Nat → Nat} {v n : Nat} {s1 s2 : Nat → Nat → Nat} (h : ∀ k z, z < n → s1 k z = s2 k z) : ∀ k, lsK (spdN kd pt v n) s1 k = lsK (spdN kd pt v n) s2 k
  | 0 => spdN_congr (h 0)
  | k + 1 => by rw [lsK, lsK, lsK_congr h k, spdN_congr (h (k + 1))]
theorem bsK_congr {kd pt b1 b2 : Nat → Nat} {v n : Nat} {s1 s2 : Nat → Nat → Nat} (h : ∀ k z, z < n → s1 k z = s2 k z) : ∀ k q, q < n → bsK (spdN kd pt v n) s1 b1 n k q = bsK (spdN kd pt v n) s2 b2 n k q
  | 0, q, hq => by rw [bsK, bsK, layF_in hq, layF_in hq, h 0 q hq]
  | k + 1, q, hq => by
    rw [bsK, bsK, lsK_congr h k, spdN_congr (h (k + 1))]
    by_cases c : spdN kd pt v n (s2 (k + 1)) < lsK (spdN kd pt v n) s2 k
    · rw [if_pos c, if_pos c, layF_in hq, layF_in hq, h (k + 1) q hq]
    · rw [if_neg c, if_neg c, bsK_congr h k q hq]
theorem s_thr_2 {fil : Nat → Bool} {srt len : Nat → Nat} {cc : Nat → Nat → Int32} {hn k : Nat} {sort i n : Int32} (h : (s_thr fil srt len cc hn 0 k sort i n).1 = 0) : (s_thr fil srt len cc hn 0 k sort i n).2 = 0 := by
  unfold s_thr at h ⊢
  have h4 := ftk_le (f := fil k) (s := srt k) (l := len k) (sort := sort) (i := i) (n := n)
  cases q : ftk (fil k) (srt k) (len k) sort i n with
  | zero =>
    simp only [q] at h ⊢
    cases rW n 1 5 with
    | none => rfl
    | some m => simp only; split <;> rfl
  | succ f =>
    simp only [q] at h
    exact absurd h (flt_ne0 ⟨f + 1, by omega⟩)
