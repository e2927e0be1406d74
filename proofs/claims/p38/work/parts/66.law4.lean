theorem lk_L_25 : LkV RL 25 yX7_put cX7_put 4 (some .int) 3 := ⟨ml_L_25, mn_X7_put, mv_X7_put, mi_X7, mc_X7_put, ⟨by decide, by decide, by decide +kernel⟩⟩
theorem lk_L_19 : LkV RL 19 yX7_sheet cX7_sheet 4 (some .int) 3 := ⟨ml_L_19, mn_X7_sheet, mv_X7_sheet, mi_X7, mc_X7_sheet, ⟨by decide, by decide, by decide +kernel⟩⟩
theorem lk_L_28 : LkV RL 28 yX7_hand cX7_hand 3 (some .int) 2 := ⟨ml_L_28, mn_X7_hand, mv_X7_hand, mi_X7, mc_X7_hand, ⟨by decide, by decide, by decide +kernel⟩⟩
/-! the law's put and come -/
theorem upd_ne {f : Nat → Int32} {i : Nat} {v : Int32} (j : Nat) (h : j ≠ i) : upd f i v j = f j := if_neg h
theorem upd_eq {f : Nat → Int32} {i : Nat} {v : Int32} (j : Nat) (h : j = i) : upd f i v j = v := if_pos h
theorem cut_N : ∀ v : Fin 128, cutV 0 (nI v.1) = nI v.1 := by decide +kernel
/-- a sheet of forty bytes that hold c -/
def S1 (g : vG) (ad rr : Nat → Nat) (c : Nat → Int32) : va_W → Prop := fun ws => ∃ (fil : Nat → Bool) (srt len : Nat → Nat) (cc : Nat → Nat → Int32), fil 0 = true ∧ srt 0 = 0 ∧ len 0 = 40 ∧ cc 0 = c ∧ QInv g ad rr fil srt len cc ws
def S0 (g : vG) (ad rr : Nat → Nat) : va_W → Prop := fun ws => ∃ (fil : Nat → Bool) (srt len : Nat → Nat) (cc : Nat → Nat → Int32), QInv g ad rr fil srt len cc ws
theorem S1.fst {g : vG} {ad rr : Nat → Nat} {c : Nat → Int32} {ws : va_W} (h : S1 g ad rr c ws) : ws.map (fun q => q.1) = adL ad rr := by
  obtain ⟨fil, srt, len, cc, -, -, -, -, h⟩ := h
  exact h.fst
theorem S0.fst {g : vG} {ad rr : Nat → Nat} {ws : va_W} (h : S0 g ad rr ws) : ws.map (fun q => q.1) = adL ad rr := by
  obtain ⟨fil, srt, len, cc, h⟩ := h
  exact h.fst
section LWP
variable {x : vX} {g : vG} {cc0 : ByteArray} {rm : Room} {nL pc : Nat} {lv : List (Option Value)} {st : List Value} {wa ws : va_W} {ad rr : Nat → Nat} {c : Nat → Int32}
theorem kk_put {a v : Nat} (h : Ok x g cc0 RL rm nL) (hI : S1 g ad rr c ws) (ha : a < 40) (hv : v < 128) (hrm : RmOk (rmOf 3 67) rm 4) (hW : (st.map fun v => v.category).sum ≤ 8) (hd : decode cc0 pc = .ok (.invokevirtual 25, 3)) (k : ∀ ws : va_W, S1 g ad rr (upd c a (nI v)) ws → vM x (pc + 3) lv (.int (nI 1) :: st) (wcat wa ws)) : vM x pc lv (.int (nI v) :: .int (nI a) :: .int (nI 0) :: .ref (ad 0) :: st) (wcat wa ws) := by
  obtain ⟨fil, srt, len, cc, h1, h2, h3, h4, hQ⟩ := hI
  have hQ2 := hQ
  obtain ⟨w9, kd9, pt9, -, -, hsr, hln, -⟩ := hQ2
  refine k_put h hQ lk_L_25 hrm hW hd (fun ws hI => ?_)
  have e : s_put fil srt len cc (nI 0) (nI a) (nI v) = (nI 1, 0, upr cc 0 (upd (cc 0) a (nI v))) := by
    unfold s_put
    rw [rN_N (j := 0) (by decide) (by decide)]
    show (if fil 0 = false then _ else _) = _
    rw [h1, if_neg (by decide), h3, rN_N ha (by decide)]
    show (nI 1, 0, upr cc 0 (upd (cc 0) a (cutV (srt 0) (nI v)))) = _
    rw [h2, cut_N ⟨v, hv⟩]
  rw [e] at hI ⊢
  refine k ws ⟨fil, srt, len, _, h1, h2, h3, ?_, hI hsr hln⟩
  show upr cc 0 (upd (cc 0) a (nI v)) 0 = _
  rw [upr_self, h4]
theorem kk_sheet (h : Ok x g cc0 RL rm nL) (hI : S0 g ad rr ws) (hrm : RmOk (rmOf 2 45) rm 4) (hW : (st.map fun v => v.category).sum ≤ 8) (hd : decode cc0 pc = .ok (.invokevirtual 19, 3)) (k : ∀ (c : Nat → Int32) (ws : va_W), S1 g ad rr c ws → vM x (pc + 3) lv (.int (nI 1) :: st) (wcat wa ws)) : vM x pc lv (.int (nI 40) :: .int (nI 0) :: .int (nI 0) :: .ref (ad 0) :: st) (wcat wa ws) := by
  obtain ⟨fil, srt, len, cc, hQ⟩ := hI
  have hQ2 := hQ
  obtain ⟨w9, kd9, pt9, -, -, hsr, hln, -⟩ := hQ2
  refine k_sheet h hQ lk_L_19 hrm hW hd (fun ws hI => ?_)
  have e : s_sheet fil srt len cc (nI 0) (nI 0) (nI 40) = (nI 1, 0, upB fil 0 true, up srt 0 0, up len 0 (tn (nI 40)), rnw cc 0 (tn (nI 40))) := by
    unfold s_sheet
    rw [rN_N (j := 0) (by decide) (by decide), rW_N (j := 0) (by decide) (by decide) (by decide)]
    show (if nI 40 < nI 40 then _ else if nI 40 < 0 then _ else _) = _
    rw [if_neg (by decide), if_neg (by decide)]
  rw [e, tn_N (by decide)] at hI
  rw [e]
  exact k _ ws ⟨_, _, _, _, (show upB fil 0 true 0 = true from if_pos rfl), (show up srt 0 0 0 = 0 from up_self _ _ _), (show up len 0 40 0 = 40 from up_self _ _ _), rfl, hI (fun q => by show up srt 0 0 q ≤ 2; unfold up; split; exact Nat.zero_le _; exact hsr q) (fun q => by show up len 0 40 q ≤ 40; unfold up; split; exact Nat.le_refl _; exact hln q)⟩
theorem kk_hand {n hm a p : Nat} {w kd pt : Nat → Nat} (h : Ok x g cc0 RL rm nL) (hI : PInv g ad rr n w hm kd pt ws) (hn : 2 ≤ n) (hm4 : hm < 6) (ha : a ≤ 2) (hp1 : 1 ≤ p) (hp : p ≤ 20) (hrm : RmOk (rmOf 1 22) rm 3) (hW : (st.map fun v => v.category).sum ≤ 8) (hd : decode cc0 pc = .ok (.invokevirtual 28, 3)) (k : ∀ ws : va_W, PInv g ad rr n w (hm + 1) (up kd hm a) (up pt hm p) ws → vM x (pc + 3) lv (.int (nI hm) :: st) (wcat wa ws)) : vM x pc lv (.int (nI p) :: .int (nI a) :: .ref (ad 0) :: st) (wcat wa ws) := by
  obtain ⟨hT, hH⟩ := hI.wf
  refine k_hand h hI lk_L_28 hrm hW hd (fun ws hI => ?_)
  have e : s_hand n hm kd pt (nI a) (nI p) = (nI hm, hm + 1, up kd hm a, up pt hm p) := by
    unfold s_hand
    rw [rW_N (Nat.zero_le _) ha (by decide), rW_N hp1 hp (by decide)]
    show (if n = 0 then _ else if hm < 6 then _ else _) = _
    rw [if_neg (by omega), if_pos hm4]
  rw [e] at hI ⊢
  refine k ws (hI hT ⟨by show hm + 1 ≤ 6; omega, fun j => ?_, fun j => ?_, fun j hj => ?_⟩)
  · show up kd hm a j ≤ 2
    unfold up; split; exact ha; exact hH.2.1 j
  · show up pt hm p j ≤ 20
    unfold up; split; exact hp; exact hH.2.2.1 j
  · show 1 ≤ up pt hm p j
    have hj2 : j < hm + 1 := hj
    unfold up; split; exact hp1; exact hH.2.2.2 j (by omega)
end LWP
/-- the text of i weights -/
def TX (c : Nat → Int32) (i : Nat) (tt : Nat → Nat) : Prop := ∀ k, k < i → c (4 * k) = nI (48 + tt (1 + k) / 100) ∧ c (4 * k + 1) = nI (48 + tt (1 + k) / 10 % 10) ∧ c (4 * k + 2) = nI (48 + tt (1 + k) % 10) ∧ (0 < k → c (4 * k - 1) = nI 59)
theorem TX.up {c c' : Nat → Int32} {i v : Nat} {tt : Nat → Nat} (h : TX c i tt) (h0 : ∀ z, z < 4 * i - 1 → c' z = c z) (h1 : c' (4 * i) = nI (48 + v / 100)) (h2 : c' (4 * i + 1) = nI (48 + v / 10 % 10)) (h3 : c' (4 * i + 2) = nI (48 + v % 10)) (h4 : 0 < i → c' (4 * i - 1) = nI 59) : TX c' (i + 1) (up tt (1 + i) v) := by
  intro k hk
  by_cases e : k = i
  · subst e
    rw [up_self]
    exact ⟨h1, h2, h3, h4⟩
  · have hk2 : k < i := by omega
    rw [up_ne _ _ (by omega)]
    obtain ⟨a1, a2, a3, a4⟩ := h k hk2
    refine ⟨?_, ?_, ?_, fun h5 => ?_⟩
    · rw [h0 _ (by omega)]; exact a1
    · rw [h0 _ (by omega)]; exact a2
    · rw [h0 _ (by omega)]; exact a3
    · rw [h0 _ (by omega)]; exact a4 h5
theorem come_ag {tt kd pt : Nat → Nat} {i a p : Nat} (hi : i < 4) (h : ∀ j, j < i → tt (10 + j) = kd j ∧ tt (16 + j) = pt j) : ∀ j, j < i + 1 → up (up (up tt (10 + i) a) (16 + i) p) 9 (i + 1) (10 + j) = up kd i a j ∧ up (up (up tt (10 + i) a) (16 + i) p) 9 (i + 1) (16 + j) = up pt i p j := by
  intro j hj
  by_cases e : j = i
  · subst e
    refine ⟨?_, ?_⟩
    · rw [up_ne _ _ (by omega), up_ne _ _ (by omega), up_self, up_self]
    · rw [up_ne _ _ (by omega), up_self, up_self]
  · obtain ⟨h1, h2⟩ := h j (by omega)
    refine ⟨?_, ?_⟩
    · rw [up_ne _ _ (by omega), up_ne _ _ (by omega), up_ne _ _ (by omega), up_ne _ _ e]; exact h1
    · rw [up_ne _ _ (by omega), up_ne _ _ (by omega), up_ne _ _ (by omega), up_ne _ _ e]; exact h2
theorem come_lo {tt : Nat → Nat} {i a p v : Nat} {j : Nat} (hj : j < 9) : up (up (up tt (10 + i) a) (16 + i) p) 9 v j = tt j := by
  rw [up_ne _ _ (by omega), up_ne _ _ (by omega), up_ne _ _ (by omega)]
def P_come (g : vG) (ad rr : Nat → Nat) (ta0 n : Nat) (tt w : Nat → Nat) : Option Value → va_W → Prop := fun r wo => ∃ (hm : Nat) (tt1 kd1 pt1 : Nat → Nat) (ws : va_W), 1 ≤ hm ∧ hm ≤ 4 ∧ tt1 9 = hm ∧ (∀ j, j < 9 → tt1 j = tt j) ∧ (∀ j, j < hm → tt1 (10 + j) = kd1 j ∧ tt1 (16 + j) = pt1 j) ∧ PInv g ad rr n w hm kd1 pt1 ws ∧ r = some (.int (nI (bN true))) ∧ wo = wcat [(ta0, .inl (gI g, 22, .inl (fun z9 => nI (tt1 z9))))] ws
set_option maxRecDepth 20000 in
set_option maxHeartbeats 4000000 in
theorem c_L_come {g : vG} {b L : Nat} {xs : Nat → Int32} {ad rr : Nat → Nat} {ta0 n : Nat} {tt w kd pt : Nat → Nat} {ws0 : va_W} (hP : PInv g ad rr n w 0 kd pt ws0) (h90 : tt 9 = 0) (hn : 2 ≤ n) : CtX g b L xs yL_come cL_come 8 (some .boolean) (rmOf 2 44) (wcat [(ta0, .inl (gI g, 22, .inl (fun z9 => nI (tt z9))))] ws0) [.ref (ad 0), .ref b, .int (nI 5), .int (nI 4), .ref ta0] (P_come g ad rr ta0 n tt w) := by
  refine CtX.ofV RL rfl (by decide +kernel) rfl rfl (Nat.le_of_ble_eq_true rfl) (List.forall_mem_cons.mpr ⟨rfl, (List.forall_mem_cons.mpr ⟨rfl, (List.forall_mem_cons.mpr ⟨rfl, (List.forall_mem_cons.mpr ⟨rfl, (List.forall_mem_cons.mpr ⟨rfl, (fun _ h9 => absurd h9 List.not_mem_nil)⟩)⟩)⟩)⟩)⟩) (fun x h hX hr => ?_)
  show vM x 0 [some (.ref (ad 0)), some (.ref b), some (.int (nI 5)), some (.int (nI 4)), some (.ref ta0), none, none, none] [] (wcat [(ta0, .inl (gI g, 22, .inl (fun z9 => nI (tt z9))))] ws0)
  refine v_iconst h (v := nI 1) dL_come_0 (by decide) ?_
  refine v_aload_n1 h dL_come_1 ?_
  refine v_iload_n2 h dL_come_2 ?_
  refine v_cell h hX (by omega) ⟨rfl, rfl, (Nat.le_of_ble_eq_true rfl), (Nat.le_of_ble_eq_true rfl)⟩ (Nat.le_of_ble_eq_true rfl) dL_come_3 (fun v3 => ?_)
  refine v_iload_n3 h dL_come_6 ?_
  refine v_some h (by omega) (by omega) ⟨rfl, rfl, (Nat.le_of_ble_eq_true rfl), (Nat.le_of_ble_eq_true rfl)⟩ (Nat.le_of_ble_eq_true rfl) dL_come_7 (fun j7 hj7 => ?_)
  refine v_iaddN h dL_come_10 ?_
  refine v_istore5 h (Nat.le_of_ble_eq_true rfl) dL_come_11 ?_
  refine v_iconst h (v := nI 0) dL_come_13 (by decide) ?_
  refine v_istore6 h (Nat.le_of_ble_eq_true rfl) dL_come_14 ?_
  have L16 : ∀ (k16 : Nat) (i : Nat) (tt1 kd1 pt1 : Nat → Nat) (ws : va_W), 1 + j7 - i = k16 → (i ≤ 1 + j7) → (tt1 9 = i) → (∀ j, j < 9 → tt1 j = tt j) → (∀ j, j < i → tt1 (10 + j) = kd1 j ∧ tt1 (16 + j) = pt1 j) → (PInv g ad rr n w i kd1 pt1 ws) → vM x 16 [some (.ref (ad 0)), some (.ref b), some (.int (nI 5)), some (.int (nI 4)), some (.ref ta0), some (.int (nI (1 + j7))), some (.int (nI i)), none] [] (wcat [(ta0, .inl (gI g, 22, .inl (fun z9 => nI (tt1 z9))))] ws) := by
    intro k16
    induction k16 using Nat.strongRecOn with
    | _ k16 ih16 =>
      intro i tt1 kd1 pt1 ws hm16 hi h9 hlo hag hI
      refine v_iload6 h dL_come_16 ?_
      refine v_iload5 h dL_come_18 ?_
      refine v_icmp_geN h dL_come_20 (tgt := 112) (by decide) (by omega) (by omega) (fun c20 => ?_) (fun c20 => ?_)
      · have e9 : i = 1 + j7 := by omega
        subst e9
        refine v_iconst h (v := nI 1) dL_come_112 (by decide) ?_
        exact v_zretP (v := true) h hr dL_come_113 ⟨1 + j7, tt1, kd1, pt1, ws, by omega, by omega, h9, hlo, hag, hI, rfl, rfl⟩ (by show ta0 :: ws.map (fun q => q.1) = ta0 :: ws0.map (fun q => q.1); rw [hI.fst, hP.fst])
      · refine v_aload_n1 h dL_come_23 ?_
        refine v_iload_n2 h dL_come_24 ?_
        refine v_cell h hX (by omega) ⟨rfl, rfl, (Nat.le_of_ble_eq_true rfl), (Nat.le_of_ble_eq_true rfl)⟩ (Nat.le_of_ble_eq_true rfl) dL_come_25 (fun v25 => ?_)
        refine v_iconst h (v := nI 3) dL_come_28 (by decide) ?_
        refine v_iconst h (v := nI 4) dL_come_29 (by decide) ?_
        refine v_iload6 h dL_come_30 ?_
        refine v_imulN h dL_come_32 ?_
        refine v_iaddN h dL_come_33 ?_
        refine v_ishr h dL_come_34 ?_
        refine v_istore7 h (Nat.le_of_ble_eq_true rfl) dL_come_35 ?_
        refine v_aload4 h dL_come_37 ?_
        refine v_bipush h (v := nI 10) dL_come_39 (by decide) ?_
        refine v_iload6 h dL_come_41 ?_
        refine v_iaddN h dL_come_43 ?_
        refine v_iload7 h dL_come_44 ?_
        refine v_iconst h (v := nI 3) dL_come_46 (by decide) ?_
        refine v_some h (by omega) (by omega) ⟨rfl, rfl, (Nat.le_of_ble_eq_true rfl), (Nat.le_of_ble_eq_true rfl)⟩ (Nat.le_of_ble_eq_true rfl) dL_come_47 (fun j47 hj47 => ?_)
        refine v_iastN h 0 rfl (by omega) (Nat.le_of_ble_eq_true rfl) dL_come_50 (ws' := (wcat [(ta0, .inl (gI g, 22, .inl (fun z9 => nI ((up tt1 (10 + i) j47) z9))))] ws)) rfl ?_
        refine v_aload4 h dL_come_51 ?_
        refine v_bipush h (v := nI 16) dL_come_53 (by decide) ?_
        refine v_iload6 h dL_come_55 ?_
        refine v_iaddN h dL_come_57 ?_
        refine v_iconst h (v := nI 1) dL_come_58 (by decide) ?_
        refine v_iload7 h dL_come_59 ?_
        refine v_iconst h (v := nI 1) dL_come_61 (by decide) ?_
        refine v_ishr h dL_come_62 ?_
        refine v_bipush h (v := nI 20) dL_come_63 (by decide) ?_
        refine v_some h (by omega) (by omega) ⟨rfl, rfl, (Nat.le_of_ble_eq_true rfl), (Nat.le_of_ble_eq_true rfl)⟩ (Nat.le_of_ble_eq_true rfl) dL_come_65 (fun j65 hj65 => ?_)
        refine v_iaddN h dL_come_68 ?_
        refine v_iastN h 0 rfl (by omega) (Nat.le_of_ble_eq_true rfl) dL_come_69 (ws' := (wcat [(ta0, .inl (gI g, 22, .inl (fun z9 => nI ((up (up tt1 (10 + i) j47) (16 + i) (1 + j65)) z9))))] ws)) rfl ?_
        refine v_aload_n0 h dL_come_70 ?_
        refine v_aload4 h dL_come_71 ?_
        refine v_bipush h (v := nI 10) dL_come_73 (by decide) ?_
        refine v_iload6 h dL_come_75 ?_
        refine v_iaddN h dL_come_77 ?_
        refine v_ialdN h 0 rfl (by omega) (Nat.le_of_ble_eq_true rfl) dL_come_78 ?_
        rw [show (up (up tt1 (10 + i) j47) (16 + i) (1 + j65)) (10 + i) = j47 from by rw [up_ne _ _ (by omega), up_self]]
        refine v_aload4 h dL_come_79 ?_
        refine v_bipush h (v := nI 16) dL_come_81 (by decide) ?_
        refine v_iload6 h dL_come_83 ?_
        refine v_iaddN h dL_come_85 ?_
        refine v_ialdN h 0 rfl (by omega) (Nat.le_of_ble_eq_true rfl) dL_come_86 ?_
        rw [show (up (up tt1 (10 + i) j47) (16 + i) (1 + j65)) (16 + i) = 1 + j65 from up_self _ _ _]
        refine kk_hand h hI (by omega) (by omega) (by omega) (by omega) (by omega) ⟨rfl, rfl, (Nat.le_of_ble_eq_true rfl), (Nat.le_of_ble_eq_true rfl)⟩ (Nat.le_of_ble_eq_true rfl) dL_come_87 (fun ws hI => ?_)
        refine v_iload6 h dL_come_90 ?_
        refine v_icmp_eqN h dL_come_92 (tgt := 97) (by decide) (by omega) (by omega) (fun c92 => ?_) (fun c92 => ?_)
        · refine v_aload4 h dL_come_97 ?_
          refine v_bipush h (v := nI 9) dL_come_99 (by decide) ?_
          refine v_dup2 h dL_come_101 rfl rfl ?_
          refine v_ialdN h 0 rfl (by omega) (Nat.le_of_ble_eq_true rfl) dL_come_102 ?_
          rw [show (up (up tt1 (10 + i) j47) (16 + i) (1 + j65)) 9 = i from by rw [up_ne _ _ (by omega), up_ne _ _ (by omega), h9]]
          refine v_iconst h (v := nI 1) dL_come_103 (by decide) ?_
          refine v_iaddN h dL_come_104 ?_
          refine v_iastN h 0 rfl (by omega) (Nat.le_of_ble_eq_true rfl) dL_come_105 (ws' := (wcat [(ta0, .inl (gI g, 22, .inl (fun z9 => nI ((up (up (up tt1 (10 + i) j47) (16 + i) (1 + j65)) 9 (i + 1)) z9))))] ws)) rfl ?_
          refine v_iincN6 h (Nat.le_of_ble_eq_true rfl) dL_come_106 ?_
          refine v_goto h dL_come_109 (tgt := 16) (by decide) ?_
          exact vM.fg (ih16 _ (by omega) (i + 1) (up (up (up tt1 (10 + i) j47) (16 + i) (1 + j65)) 9 (i + 1)) (up kd1 i j47) (up pt1 i (1 + j65)) _ rfl (by first | assumption | rfl | omega) (by exact up_self _ _ _) (by exact fun j9 h9 => (come_lo h9).trans (hlo j9 h9)) (by exact come_ag (by omega) hag) (by exact hI)) ⟨rfl, rfl, rfl, rfl, rfl, rfl, rfl, trivial⟩
        · exact absurd rfl c92
  exact vM.fg (L16 _ 0 tt kd pt ws0 rfl (by first | assumption | rfl | omega) (by exact h90) (by exact fun _ _ => rfl) (by exact fun j9 h9 => absurd h9 (Nat.not_lt_zero _)) (by exact hP)) ⟨rfl, rfl, rfl, rfl, rfl, rfl, rfl, trivial⟩
