theorem swpS_lay {e F o G : Nat → Nat} {n a : Nat} : swpS (layF e n F) (layF o n G) n a = swpS F G n a := orTo_congr (fun j hj => by rw [layF_in hj, layF_in hj])
theorem swpS_lt {ea ol : Nat → Nat} {n a : Nat} (hn : n ≤ 8) : swpS ea ol n a < 2 ^ 8 := orTo_lt' (fun j hj => by split; decide; exact pow8 hj hn)
theorem gnR_lt {ea ol : Nat → Nat} {n x : Nat} (hn : n ≤ 8) (hx : x < n) : ∀ k, gnR ea ol n x k < 2 ^ 8
  | 0 => pow8 hx hn
  | k + 1 => swpS_lt hn
theorem mxw_le {w : Nat → Nat} {c : Nat → Bool} (hw : ∀ j, w j ≤ 999) (n : Nat) : maxTo (fun z => if c z then w z else 0) n ≤ 999 := maxTo_le (fun j => by split; exact hw j; omega) n
theorem gnB_le {ea ol w : Nat → Nat} {n x : Nat} (hw : ∀ j, w j ≤ 999) : ∀ k, (gnB ea ol w n x k).1 ≤ 999
  | 0 => hw x
  | k + 1 => by
    rw [gnB]
    split
    · exact mxw_le hw n
    · exact gnB_le hw k
theorem fbw_le {w kd pt : Nat → Nat} {sn : Nat} {sb sf ss sw : Nat → Nat} {x v : Nat} : fbw w kd pt sn sb sf ss sw x v ≤ sn := by
  have := sumTo_le (f := fbwF w kd pt sb sf ss sw x v) (b := 1) (fun j => by unfold fbwF; by_cases c : ((sf j = x ∨ ss j = x) ∧ flsN kd pt (sb j) (sw j) (if sf j = x then v else w (sf j)) (if ss j = x then v else w (ss j)) = true); (· rw [if_pos c]; exact Nat.le_refl _); (· rw [if_neg c]; exact Nat.zero_le _)) sn
  unfold fbw
  omega
theorem brK_le {f : Nat → Nat} : ∀ k, (brK f k).1 ≤ 11
  | 0 => Nat.le_refl _
  | k + 1 => by
    have := brK_le (f := f) k
    rw [brK]
    split
    · show f (k + 1) ≤ 11; omega
    · exact this
theorem msK_le {f : Nat → Nat} : ∀ k, msK f k ≤ k
  | 0 => Nat.le_refl _
  | k + 1 => by have := msK_le (f := f) k; rw [msK]; split <;> omega
theorem lt_m1_ne {p : Int32} (h : p < -1) : ¬ p = -1 := fun e => by rw [e] at h; exact absurd h (by decide)
theorem lt_m1_neg {p : Int32} (h : p < -1) : p < 0 := Int32.lt_of_lt_of_le h (by decide)
theorem ge_ne_m1 {p : Int32} {n : Nat} (hn : n < 2 ^ 31) (h : nI n ≤ p) : ¬ p = -1 := fun e => by
  rw [e] at h
  have h1 := Int32.le_iff_toInt_le.mp h
  rw [nI_toInt hn, show (-1 : Int32).toInt = -1 by decide] at h1
  omega
def s_thr (fil : Nat → Bool) (srt len : Nat → Nat) (cc : Nat → Nat → Int32) (hn fl k : Nat) (sort i n : Int32) : Int32 × Nat := match ftk (fil k) (srt k) (len k) sort i n with
  | 0 => match rW n 1 5 with
    | none => (-2, fl)
    | some m => if allTo (fun z => inR (cc k (tn i + z)) hn) m = true then (0, fl) else (-1, fl)
  | f + 1 => (-10 - nI (f + 1), f + 1)
def s_copies (fil : Nat → Bool) (srt len : Nat → Nat) (cc : Nat → Nat → Int32) (hn : Nat) (kd pt : Nat → Nat) (v s sort i n u : Int32) : Int32 × Nat := match rN s 4 with
  | none => (-1, 0)
  | some k => match rW sort 0 2 with
    | none => (-2, 0)
    | some _ => match rW v 1 999 with
      | none => (-2, 0)
      | some v => match rW u 0 1 with
        | none => (-2, 0)
        | some u => if (s_thr fil srt len cc hn 0 k sort i n).1 = 0 then (if u = 0 then nI (grtK kd pt (fun z => tn (cc k (tn i + z))) v (tn n)) else nI (leaK kd pt (fun z => tn (cc k (tn i + z))) v (tn n)), 0) else s_thr fil srt len cc hn 0 k sort i n
def seqN (n : Nat) (rw : Nat → Nat) : Nat → (Nat → Nat)
  | 0 => srtK rw (n - 1)
  | k + 1 => (nxt n (seqN n rw k)).getD (seqN n rw k)
def lenN (n : Nat) (rw : Nat → Nat) : Nat := (fstTo (fun k => (nxt n (seqN n rw k)).isNone) 120).getD 0
def s_bestRow (fil : Nat → Bool) (srt len : Nat → Nat) (cc : Nat → Nat → Int32) (hn : Nat) (kd pt : Nat → Nat) (v s sort i n q : Int32) : Int32 × Nat := match rN s 4 with
  | none => (-1, 0)
  | some k => match rW sort 0 2 with
    | none => (-2, 0)
    | some _ => match rW v 1 999 with
      | none => (-2, 0)
      | some v => if (s_thr fil srt len cc hn 0 k sort i n).1 = 0 then (if q = -1 then (nI (lsK (spdN kd pt v (tn n)) (seqN (tn n) (fun z => tn (cc k (tn i + z)))) (lenN (tn n) (fun z => tn (cc k (tn i + z))))), 0) else match rN q (tn n) with
          | none => (-1, 0)
          | some q => (nI (bsK (spdN kd pt v (tn n)) (seqN (tn n) (fun z => tn (cc k (tn i + z)))) (fun _ => 0) (tn n) (lenN (tn n) (fun z => tn (cc k (tn i + z)))) q), 0))
        else s_thr fil srt len cc hn 0 k sort i n
/-- even: what is kept while the second set runs, then the first one -/
def evI (w kd pt : Nat → Nat) (n h a : Nat) (t : Int32 × Int32 × Nat) : Nat → Int32 × Int32 × Nat
  | 0 => t
  | b + 1 => if a &&& (a + 1 + b) = 0 ∧ (evI w kd pt n h a t b).2.2 < popN (a ||| (a + 1 + b)) ∧ alk (kd h) (pt h) (sumTo (fun z => if a.testBit z then w z else 0) n) (sumTo (fun z => if (a + 1 + b).testBit z then w z else 0) n) = true then (nI a, nI (a + 1 + b), popN (a ||| (a + 1 + b))) else evI w kd pt n h a t b
def evO (w kd pt : Nat → Nat) (n h : Nat) : Nat → Int32 × Int32 × Nat
  | 0 => (-9, -9, 0)
  | a + 1 => evI w kd pt n h (a + 1) (evO w kd pt n h a) (2 ^ n - 1 - (a + 1))
def s_even (n : Nat) (w : Nat → Nat) (hn : Nat) (kd pt : Nat → Nat) (h u : Int32) : Int32 := match rN h hn with
  | none => -1
  | some h => match rW u 0 1 with
    | none => -2
    | some u => if u = 0 then (evO w kd pt n h (2 ^ n - 1)).1 else (evO w kd pt n h (2 ^ n - 1)).2.1
def cmd (a b : Nat) : Nat → Nat
  | 0 => 1
  | d + 1 => if d = 0 then 1 else if a % (d + 1) = 0 ∧ b % (d + 1) = 0 then d + 1 else cmd a b d
def s_odds (n : Nat) (w : Nat → Nat) (hn : Nat) (kd pt : Nat → Nat) (h u : Int32) : Int64 := match rN h hn with
  | none => -9223372036854775808
  | some h => match rW u 0 1 with
    | none => -9223372036854775808
    | some u => if u = 0 then (nI (toldN (ligS (kd h) (pt h) w n) n / cmd (toldN (ligS (kd h) (pt h) w n) n) (n * (n - 1) / 2) (n * (n - 1) / 2))).toInt64 else (nI (n * (n - 1) / 2 / cmd (toldN (ligS (kd h) (pt h) w n) n) (n * (n - 1) / 2) (n * (n - 1) / 2))).toInt64
theorem cmd_pos {a b : Nat} : ∀ d, 1 ≤ cmd a b d
  | 0 => Nat.le_refl _
  | d + 1 => by rw [cmd]; split; exact Nat.le_refl _; split; omega; exact cmd_pos d
/-- sheets -/
def s_sheet (fil : Nat → Bool) (srt len : Nat → Nat) (cc : Nat → Nat → Int32) (s sort n : Int32) : Int32 × Nat × (Nat → Bool) × (Nat → Nat) × (Nat → Nat) × (Nat → Nat → Int32) := match rN s 4 with
  | none => (-1, 0, fil, srt, len, cc)
  | some k => match rW sort 0 2 with
    | none => (-2, 0, fil, srt, len, cc)
    | some r => if nI 40 < n then (-2, 0, fil, srt, len, cc) else if n < 0 then (-10 - nI 4, 4, fil, srt, len, cc) else (nI 1, 0, upB fil k true, up srt k r, up len k (tn n), rnw cc k (tn n))
def s_lose (fil : Nat → Bool) (s : Int32) : Int32 × (Nat → Bool) := match rN s 4 with
  | none => (-1, fil)
  | some k => (nI (bN (fil k)), upB fil k false)
def s_put (fil : Nat → Bool) (srt len : Nat → Nat) (cc : Nat → Nat → Int32) (s i v : Int32) : Int32 × Nat × (Nat → Nat → Int32) := match rN s 4 with
  | none => (-1, 0, cc)
  | some k => if fil k = false then (-10 - nI 1, 1, cc) else match rN i (len k) with
    | none => (-10 - nI 3, 3, cc)
    | some i => (nI 1, 0, upr cc k (upd (cc k) i (cutV (srt k) v)))
def s_cell (fil : Nat → Bool) (srt len : Nat → Nat) (cc : Nat → Nat → Int32) (s i sort : Int32) : Int64 × Nat := match rN s 4 with
  | none => (-9223372036854775808, 0)
  | some k => match rW sort 0 2 with
    | none => (-9223372036854775808, 0)
    | some _ => match ftk (fil k) (srt k) (len k) sort i (nI 1) with
      | 0 => ((cc k (tn i)).toInt64, 0)
      | f + 1 => (-9223372036854775808, f + 1)
def s_copy (fil : Nat → Bool) (srt len : Nat → Nat) (cc : Nat → Nat → Int32) (s i o j n : Int32) : Int32 × Nat × (Nat → Nat → Int32) := match rN s 4 with
  | none => (-1, 0, cc)
  | some k => match rN o 4 with
    | none => (-1, 0, cc)
    | some o => if fil k = false then (-10 - nI 1, 1, cc) else if fil o = false then (-10 - nI 1, 1, cc) else if srt k = srt o then (if hcB (fil k) (len k) i n = true then (if hcB (fil o) (len o) j n = true then (n, 0, upr cc o (va_cpy (cc k) (cc o) (tn i) (tn j) (tn n))) else (-10 - nI 3, 3, cc)) else (-10 - nI 3, 3, cc)) else (-10 - nI 2, 2, cc)
def tr1 (tr : Int32) (k : Nat) : Int32 := nI 31 * tr + nI k
def s_tell (hn : Nat) (kd pt : Nat → Nat) (tr h : Int32) : Int32 × Int32 := match rN h hn with
  | none => (-1, tr)
  | some h => if kd h = 2 then (nI (pt h + 100 + pt h), tr1 (tr1 (tr1 (tr1 tr 3) 2) 1) 1) else if kd h = 1 then (nI (pt h + 100), tr1 (tr1 tr 2) 1) else (nI (pt h), tr1 tr 1)
def s_shake (hn : Nat) (kd : Nat → Nat) (tr h : Int32) : Int32 × Int32 := match rN h hn with
  | none => (-1, tr)
  | some h => if kd h = 2 then (nI 60, tr1 tr 5) else (nI h, tr1 tr 4)
def s_as (hn : Nat) (kd : Nat → Nat) (h k : Int32) : Int32 × Nat := match rN h hn with
  | none => (-1, 0)
  | some h => match rW k 0 2 with
    | none => (-2, 0)
    | some k => if k ≤ kd h then (nI 1, 0) else (-10 - nI 2, 2)
def s_many (n hn sn : Nat) (u : Int32) : Int32 := if u = 0 then nI n else if u = nI 1 then nI hn else if u = nI 2 then nI sn else -2
def s_market (n : Nat) (w : Nat → Nat) (hn sn : Nat) (fil : Nat → Bool) (srt len : Nat → Nat) (cc : Nat → Nat → Int32) (s sort i m : Int32) : Int32 × Nat × Nat × (Nat → Nat) × Nat × Nat := match rN s 4 with
  | none => (-1, 0, n, w, hn, sn)
  | some k => match rW sort 0 2 with
    | none => (-2, 0, n, w, hn, sn)
    | some _ => match ftk (fil k) (srt k) (len k) sort i m with
      | 0 => if ffS (fun z => cc k (tn i + z)) (tn m) = -1 then (nI ((tn m + 1) / 4), 0, (tn m + 1) / 4, layF w ((tn m + 1) / 4) (fun q => numV (fun z => cc k (tn i + z)) (4 * q)), 0, 0) else (-100 - ffS (fun z => cc k (tn i + z)) (tn m), 0, n, w, hn, sn)
      | f + 1 => (-10 - nI (f + 1), f + 1, n, w, hn, sn)
