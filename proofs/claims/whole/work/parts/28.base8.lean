theorem v_zretP {x : vX} {g : vG} {cc : ByteArray} {own : String} {rm : Room} {nL : Nat} {pc : Nat} {lv : List (Option Value)} {ws : va_W} {v : Bool} {wi : va_W} {P : Option Value → va_W → Prop} (h : Ok x g cc own rm nL) (hr : RetP x (some .boolean) wi P) (hd : decode cc pc = .ok (.ireturn, 1)) (hp : P (some (.int (nI (bN v)))) ws) (hf : ws.map (fun q => q.1) = wi.map (fun q => q.1)) : vM x pc lv [.int (nI (bN v))] ws := v_zret h (hr _ _ hp hf) hd rfl rfl
theorem ffS_at {s : Nat → Int32} {m p : Nat} (hg : ∀ q, q < p → goB s q = true) (hp : p < m) (hb : goB s p = false) : ffS s m = nI p := by
  unfold ffS
  rw [show fstTo (fun q => !goB s q) m = some p from fst_some.mpr ⟨hp, by simp [hb], fun j hj => by simp [hg j hj]⟩]
theorem ffS_end {s : Nat → Int32} {m : Nat} (hg : ∀ q, q < m → goB s q = true) : ffS s m = if m % 4 = 3 ∧ 7 ≤ m then -1 else nI m := by
  unfold ffS
  rw [show fstTo (fun q => !goB s q) m = none from fst_none.mpr (fun j hj => by simp [hg j hj])]
theorem goB_l {s : Nat → Int32} {t i : Nat} (hi : i < 3) (h1 : ¬ s (4 * t + i) < nI 48) (h2 : ¬ nI 57 < s (4 * t + i)) (h : ¬ i = 2 ∨ ¬ numK (fun q => dv (s (4 * t + q))) i = 0 ∨ ¬ s (4 * t + i) = nI 48) : goB s (4 * t + i) = true := by
  rw [goB_d (by omega)]
  refine decide_eq_true ⟨h1, h2, fun h3 h4 => ?_⟩
  have hi2 : i = 2 := by omega
  subst hi2
  have h5 : numV s (4 * t) = 10 * numK (fun q => dv (s (4 * t + q))) 2 + dv (s (4 * t + 2)) := rfl
  rw [show 4 * t + 2 - 2 = 4 * t by omega, h5] at h4
  rcases h with h | h | h
  · exact h rfl
  · omega
  · have h6 := (dv_ok h1 h2).1
    rw [show dv (s (4 * t + 2)) = 0 by omega] at h6
    exact h h6
theorem goB_n {s : Nat → Int32} {t : Nat} (h1 : numK (fun q => dv (s (4 * t + q))) 2 = 0) (h2 : s (4 * t + 2) = nI 48) : goB s (4 * t + 2) = false := by
  rw [goB_d (by omega)]
  refine decide_eq_false (fun z => z.2.2 (by omega) ?_)
  have h5 : numV s (4 * t) = 10 * numK (fun q => dv (s (4 * t + q))) 2 + dv (s (4 * t + 2)) := rfl
  rw [show 4 * t + 2 - 2 = 4 * t by omega, h5, h1, h2]
  decide
