theorem AGT.weigh {tt : Nat → Nat} {n hm : Nat} {w kd pt : Nat → Nat} (h : AGT tt n hm w kd pt) {y u : Nat} (hy : y < n) (h1 : 1 ≤ u) (h2 : u ≤ 999) : AGT (up tt (1 + y) u) n hm (up w y u) kd pt := by
  have hn := h.n2
  obtain ⟨a0, a9, aw, ak, b1, b2, b3, b4, hT, hH⟩ := h
  refine ⟨(up_ne _ _ (by omega)).trans a0, (up_ne _ _ (by omega)).trans a9, fun j hj => ?_, fun j hj => ?_, b1, b2, b3, b4, wfT_up hT h1 h2, hH⟩
  · by_cases e : j = y
    · subst e
      rw [up_self, up_self]
    · rw [up_ne _ _ (by omega), up_ne _ _ e]
      exact aw j hj
  · rw [up_ne _ _ (by omega), up_ne _ _ (by omega)]
    exact ak j hj
set_option maxRecDepth 20000 in
set_option maxHeartbeats 4000000 in
theorem law_w {x : vX} {g : vG} {b L : Nat} {xs : Nat → Int32} {ad rr : Nat → Nat} {ta0 n hm : Nat} {tt w kd pt : Nat → Nat} {turn : Nat} {ws : va_W} (h : Ok x g code RL room_1 19) (hX : LwX x b L xs) (hG : AGT tt n hm w kd pt) (hI : PInv g ad rr n w hm kd pt ws) (K : ∀ (tt w : Nat → Nat) (ws : va_W), AGT tt n hm w kd pt → PInv g ad rr n w hm kd pt ws → vM x 134 [some (.ref b), some (.ref (ad 0)), some (.ref ta0), none, some (.int (nI n)), some (.int (nI turn)), none, none, none, none, none, none, none, none, none, none, none, none, none] [] (wcat [(ta0, .inl (gI g, 22, .inl (fun z9 => nI (tt z9))))] ws)) : vM x 76 [some (.ref b), some (.ref (ad 0)), some (.ref ta0), none, some (.int (nI n)), some (.int (nI turn)), none, none, none, none, none, none, none, none, none, none, none, none, none] [] (wcat [(ta0, .inl (gI g, 22, .inl (fun z9 => nI (tt z9))))] ws) := by
  have hn := hG.n2
  refine v_aload_n0 h dL_law_76 ?_
  refine v_bipush h (v := nI 6) dL_law_77 (by decide) ?_
  refine v_cell h hX (by omega) ⟨rfl, rfl, (Nat.le_of_ble_eq_true rfl), (Nat.le_of_ble_eq_true rfl)⟩ (Nat.le_of_ble_eq_true rfl) dL_law_79 (fun v79 => ?_)
  refine v_iload4 h dL_law_82 ?_
  refine v_some h (by omega) (by omega) ⟨rfl, rfl, (Nat.le_of_ble_eq_true rfl), (Nat.le_of_ble_eq_true rfl)⟩ (Nat.le_of_ble_eq_true rfl) dL_law_84 (fun j84 hj84 => ?_)
  refine v_istore6 h (Nat.le_of_ble_eq_true rfl) dL_law_87 ?_
  refine v_iconst h (v := nI 1) dL_law_89 (by decide) ?_
  refine v_aload_n0 h dL_law_90 ?_
  refine v_bipush h (v := nI 6) dL_law_91 (by decide) ?_
  refine v_cell h hX (by omega) ⟨rfl, rfl, (Nat.le_of_ble_eq_true rfl), (Nat.le_of_ble_eq_true rfl)⟩ (Nat.le_of_ble_eq_true rfl) dL_law_93 (fun v93 => ?_)
  refine v_iconst h (v := nI 3) dL_law_96 (by decide) ?_
  refine v_ishr h dL_law_97 ?_
  refine v_sipush h (v := nI 999) dL_law_98 (by decide) ?_
  refine v_some h (by omega) (by omega) ⟨rfl, rfl, (Nat.le_of_ble_eq_true rfl), (Nat.le_of_ble_eq_true rfl)⟩ (Nat.le_of_ble_eq_true rfl) dL_law_101 (fun j101 hj101 => ?_)
  refine v_iaddN h dL_law_104 ?_
  refine v_istore7 h (Nat.le_of_ble_eq_true rfl) dL_law_105 ?_
  refine v_aload_n1 h dL_law_107 ?_
  refine v_iload6 h dL_law_108 ?_
  refine v_iload7 h dL_law_110 ?_
  refine kk_weigh h hG hI hj84 (by omega) (by omega) ⟨rfl, rfl, (Nat.le_of_ble_eq_true rfl), (Nat.le_of_ble_eq_true rfl)⟩ (Nat.le_of_ble_eq_true rfl) dL_law_112 (fun ws hI => ?_)
  refine v_aload_n2 h dL_law_115 ?_
  refine v_iconst h (v := nI 1) dL_law_116 (by decide) ?_
  refine v_iload6 h dL_law_117 ?_
  refine v_iaddN h dL_law_119 ?_
  refine v_tw h hG (by omega) dL_law_120 ?_
  refine v_icmp_eqN h dL_law_121 (tgt := 126) (by decide) (by first | omega | (have := hG.wb hj84; omega)) (by first | omega | (have := hG.wb hj84; omega)) (fun c121 => ?_) (fun c121 => ?_)
  · refine v_aload_n2 h dL_law_126 ?_
    refine v_iconst h (v := nI 1) dL_law_127 (by decide) ?_
    refine v_iload6 h dL_law_128 ?_
    refine v_iaddN h dL_law_130 ?_
    refine v_iload7 h dL_law_131 ?_
    refine v_iastN h 0 rfl (by omega) (Nat.le_of_ble_eq_true rfl) dL_law_133 (ws' := (wcat [(ta0, .inl (gI g, 22, .inl (fun z9 => nI ((up tt (1 + j84) (1 + j101)) z9))))] ws)) rfl ?_
    exact vM.fg (K _ _ ws (AGT.weigh hG hj84 (by omega) (by omega)) hI) ⟨rfl, rfl, rfl, rfl, rfl, trivial⟩
  · exact absurd rfl c121
set_option maxRecDepth 20000 in
set_option maxHeartbeats 4000000 in
theorem law_x {g : vG} {b L : Nat} {xs : Nat → Int32} {ad rr : Nat → Nat} {ta0 n hm : Nat} {tt w kd pt : Nat → Nat} {turn j m : Nat} (hG : AGT tt n hm w kd pt) (hj : j < hm) (K : ∀ (x : vX) (ws : va_W), LQ x g b L xs m → PInv g ad rr n w hm kd pt ws → vM x 953 [some (.ref b), some (.ref (ad 0)), some (.ref ta0), none, some (.int (nI n)), some (.int (nI turn)), some (.int (nI j)), none, none, none, none, none, none, none, none, none, none, none, none] [] (wcat [(ta0, .inl (gI g, 22, .inl (fun z9 => nI (tt z9))))] ws)) : ∀ (d y : Nat) (x : vX) (ws : va_W), n - y = d → y ≤ n → LQ x g b L xs (m + (n - y)) → PInv g ad rr n w hm kd pt ws → vM x 532 [some (.ref b), some (.ref (ad 0)), some (.ref ta0), none, some (.int (nI n)), some (.int (nI turn)), some (.int (nI j)), none, some (.int (nI y)), none, none, none, none, none, none, none, none, none, none] [] (wcat [(ta0, .inl (gI g, 22, .inl (fun z9 => nI (tt z9))))] ws) := by
  have hn := hG.n2
  intro d
  induction d with
  | zero =>
    intro y x ws hd hy hQ hI
    have h := hQ.ok
    refine v_iload8 h dL_law_532 ?_
    refine v_iload4 h dL_law_534 ?_
    refine v_icmp_geN h dL_law_536 (tgt := 953) (by decide) (by omega) (by omega) (fun c9 => ?_) (fun c9 => ?_)
    · exact vM.fg (K x ws (hQ.le (by omega)) hI) ⟨rfl, rfl, rfl, rfl, rfl, rfl, trivial⟩
    · omega
  | succ d ih =>
    intro y x ws hd hy hQ hI
    have h := hQ.ok
    refine v_iload8 h dL_law_532 ?_
    refine v_iload4 h dL_law_534 ?_
    refine v_icmp_geN h dL_law_536 (tgt := 953) (by decide) (by omega) (by omega) (fun c9 => ?_) (fun c9 => ?_)
    · omega
    · refine v_iconst h (v := nI 1) dL_law_539 (by decide) ?_
      refine v_iload8 h dL_law_540 ?_
      refine v_ishlN h dL_law_542 (by omega) ?_
      refine v_istore9 h (Nat.le_of_ble_eq_true rfl) dL_law_543 ?_
      refine v_bipush h (v := nI 6) dL_law_545 (by decide) ?_
      refine v_new6 (m := m + (n - (y + 1))) (hQ.le (by omega)) dL_law_547 (fun fa0 x hQ => ?_)
      have h := hQ.ok
      refine v_astore10 h (Nat.le_of_ble_eq_true rfl) dL_law_549 ?_
      refine vM.le rfl rfl (by rw [ffZ_0]) (law_a0 (fa0 := fa0) h hQ.X hG hj (show y < n by omega) (law_a1 h hQ.X hG hj (show y < n by omega) (law_a2 h hQ.X hG hj (show y < n by omega) (fun ws hI => ?_))) ws hI)
      refine vM.drop2 ?_
      refine v_iincN8 h (Nat.le_of_ble_eq_true rfl) dL_law_947 ?_
      refine v_goto h dL_law_950 (tgt := 532) (by decide) ?_
      exact ih (y + 1) x ws (by omega) (by omega) hQ hI
set_option maxRecDepth 20000 in
set_option maxHeartbeats 4000000 in
theorem law_h {g : vG} {b L : Nat} {xs : Nat → Int32} {ad rr : Nat → Nat} {ta0 n hm : Nat} {tt w kd pt : Nat → Nat} {turn m : Nat} (hG : AGT tt n hm w kd pt) (K : ∀ (x : vX) (ws : va_W), LQ x g b L xs m → PInv g ad rr n w hm kd pt ws → vM x 959 [some (.ref b), some (.ref (ad 0)), some (.ref ta0), none, some (.int (nI n)), some (.int (nI turn)), none, none, none, none, none, none, none, none, none, none, none, none, none] [] (wcat [(ta0, .inl (gI g, 22, .inl (fun z9 => nI (tt z9))))] ws)) : ∀ (d j : Nat) (x : vX) (ws : va_W), hm - j = d → j ≤ hm → LQ x g b L xs (m + 6 * (hm - j)) → PInv g ad rr n w hm kd pt ws → vM x 137 [some (.ref b), some (.ref (ad 0)), some (.ref ta0), none, some (.int (nI n)), some (.int (nI turn)), some (.int (nI j)), none, none, none, none, none, none, none, none, none, none, none, none] [] (wcat [(ta0, .inl (gI g, 22, .inl (fun z9 => nI (tt z9))))] ws) := by
  have hn := hG.n2
  intro d
  induction d with
  | zero =>
    intro j x ws hd hj hQ hI
    have h := hQ.ok
    refine v_iload6 h dL_law_137 ?_
    refine v_aload_n2 h dL_law_139 ?_
    refine v_bipush h (v := nI 9) dL_law_140 (by decide) ?_
    refine v_t9 h hG dL_law_142 ?_
    refine v_icmp_geN h dL_law_143 (tgt := 959) (by decide) (by omega) (by omega) (fun c9 => ?_) (fun c9 => ?_)
    · exact vM.fg (K x ws (hQ.le (by omega)) hI) ⟨rfl, rfl, rfl, rfl, rfl, trivial⟩
    · omega
  | succ d ih =>
    intro j x ws hd hj hQ hI
    have h := hQ.ok
    refine v_iload6 h dL_law_137 ?_
    refine v_aload_n2 h dL_law_139 ?_
    refine v_bipush h (v := nI 9) dL_law_140 (by decide) ?_
    refine v_t9 h hG dL_law_142 ?_
    refine v_icmp_geN h dL_law_143 (tgt := 959) (by decide) (by omega) (by omega) (fun c9 => ?_) (fun c9 => ?_)
    · omega
    · refine law_s1 h hQ.X hG c9 (law_s2 h hQ.X hG c9 (law_s3 h hQ.X hG c9 (fun ws hI => ?_))) ws hI
      refine v_iconst h (v := nI 0) dL_law_529 (by decide) ?_
      refine v_istore8 h (Nat.le_of_ble_eq_true rfl) dL_law_530 ?_
      refine law_x (m := m + 6 * (hm - (j + 1))) hG c9 (fun x ws hQ hI => ?_) n 0 x ws rfl (Nat.zero_le _) (hQ.le (by omega)) hI
      refine v_iincN6 hQ.ok (Nat.le_of_ble_eq_true rfl) dL_law_953 ?_
      refine v_goto hQ.ok dL_law_956 (tgt := 137) (by decide) ?_
      exact ih (j + 1) x ws (by omega) (by omega) hQ hI
set_option maxRecDepth 20000 in
set_option maxHeartbeats 4000000 in
theorem law_t {g : vG} {b L : Nat} {xs : Nat → Int32} {ad rr : Nat → Nat} {ta0 n hm : Nat} {kd pt : Nat → Nat} : ∀ (d turn : Nat) (tt w : Nat → Nat) (x : vX) (ws : va_W), 2 - turn = d → turn ≤ 2 → LQ x g b L xs (24 * (2 - turn)) → AGT tt n hm w kd pt → PInv g ad rr n w hm kd pt ws → vM x 64 [some (.ref b), some (.ref (ad 0)), some (.ref ta0), none, some (.int (nI n)), some (.int (nI turn)), none, none, none, none, none, none, none, none, none, none, none, none, none] [] (wcat [(ta0, .inl (gI g, 22, .inl (fun z9 => nI (tt z9))))] ws) := by
  intro d
  induction d with
  | zero =>
    intro turn tt w x ws hd ht hQ hG hI
    have h := hQ.ok
    refine v_iload5 h dL_law_64 ?_
    refine v_iconst h (v := nI 2) dL_law_66 (by decide) ?_
    refine v_icmp_geN h dL_law_67 (tgt := 1276) (by decide) (by omega) (by decide) (fun c9 => ?_) (fun c9 => ?_)
    · exact vM.fg (law_r h hQ.X hG hQ.E ws hI) ⟨rfl, rfl, rfl, rfl, trivial⟩
    · omega
  | succ d ih =>
    intro turn tt w x ws hd ht hQ hG hI
    have h := hQ.ok
    have C : ∀ (tt w : Nat → Nat) (ws : va_W), AGT tt n hm w kd pt → PInv g ad rr n w hm kd pt ws → vM x 134 [some (.ref b), some (.ref (ad 0)), some (.ref ta0), none, some (.int (nI n)), some (.int (nI turn)), none, none, none, none, none, none, none, none, none, none, none, none, none] [] (wcat [(ta0, .inl (gI g, 22, .inl (fun z9 => nI (tt z9))))] ws) := by
      intro tt w ws hG hI
      have hn := hG.n2
      refine v_iconst h (v := nI 0) dL_law_134 (by decide) ?_
      refine v_istore6 h (Nat.le_of_ble_eq_true rfl) dL_law_135 ?_
      refine law_h (m := 24 * (2 - (turn + 1))) hG (fun x ws hQ hI => ?_) hm 0 x ws rfl (Nat.zero_le _) (hQ.le (by omega)) hI
      refine law_g hQ.ok hQ.X hG (show turn < 2 by omega) (fun ws hI => ?_) ws hI
      refine v_iincN5 hQ.ok (Nat.le_of_ble_eq_true rfl) dL_law_1270 ?_
      refine v_goto hQ.ok dL_law_1273 (tgt := 64) (by decide) ?_
      exact ih (turn + 1) tt w x ws (by omega) (by omega) hQ hG hI
    refine v_iload5 h dL_law_64 ?_
    refine v_iconst h (v := nI 2) dL_law_66 (by decide) ?_
    refine v_icmp_geN h dL_law_67 (tgt := 1276) (by decide) (by omega) (by decide) (fun c9 => ?_) (fun c9 => ?_)
    · omega
    · refine v_iload5 h dL_law_70 ?_
      refine v_iconst h (v := nI 1) dL_law_72 (by decide) ?_
      refine v_icmp_neN h dL_law_73 (tgt := 134) (by decide) (by omega) (by decide) (fun c8 => ?_) (fun c8 => ?_)
      · exact C tt w ws hG hI
      · exact law_w h hQ.X hG hI C
set_option maxRecDepth 20000 in
set_option maxHeartbeats 4000000 in
theorem law_all {x : vX} {g : vG} {b L : Nat} {xs : Nat → Int32} {nm : String} (h : OkC x g code RL room_1 19 0 0 nm) (hX : LwX x b L xs) (hF : LwF x b) : vM x 0 [some (.ref b), none, none, none, none, none, none, none, none, none, none, none, none, none, none, none, none, none, none] [] [] := by
  refine v_newO (ci := 6) (fs := [.null, .null, .null, .null, .null, .null, .null, .int (nI 0), .int (nI 0)]) h mw_X7 tyX7 tyX7_ok mcl_L_20 m_iX7 mi_X7 rfl (fun j hj => by rcases (show j = 0 ∨ j = 1 ∨ j = 2 ∨ j = 3 ∨ j = 4 ∨ j = 5 ∨ j = 6 ∨ j = 7 ∨ j = 8 by omega) with rfl | rfl | rfl | rfl | rfl | rfl | rfl | rfl | rfl <;> rfl) (Nat.le_of_ble_eq_true rfl) (Nat.le_of_ble_eq_true rfl) dL_law_0 (fun b0 => ?_)
  have h := h.grow (a := 1) (b := 9) (Nat.le_of_ble_eq_true rfl) (Nat.le_of_ble_eq_true rfl)
  have hX := hX.grow (a1 := 1) (a2 := 9)
  have hF := hF.grow (a1 := 1) (a2 := 9)
  generalize vgr x 1 9 = x at h hX hF ⊢
  show vM x 3 [some (.ref b), none, none, none, none, none, none, none, none, none, none, none, none, none, none, none, none, none, none] [.ref b0] [(b0, .inr (6, [.null, .null, .null, .null, .null, .null, .null, .int (nI 0), .int (nI 0)]))]
  refine v_dup h.1 dL_law_3 rfl ?_
  refine v_callI (wr := []) h (c_X7_init (g := g)) lkI_X7 ml_L_35 ⟨rfl, rfl, (Nat.le_of_ble_eq_true rfl), (Nat.le_of_ble_eq_true rfl)⟩ (Nat.le_of_ble_eq_true rfl) (Nat.le_of_ble_eq_true rfl) [0] [] rfl rfl rfl rfl (by decide) (Nat.le_of_ble_eq_true rfl) dL_law_4 ?_
  rintro wo9 ⟨t0, t1, h0, h1, h2, y0, y1, y2, y3, y4, s0, s1, s2, s3, s4, e0, e1, e2, e3, o0, o1, o2, o3, r0, r1, r2, rfl⟩
  have h := h.grow (a := 30) (b := 815) (Nat.le_of_ble_eq_true rfl) (Nat.le_of_ble_eq_true rfl)
  have hX := hX.grow (a1 := 30) (a2 := 815)
  have hF := hF.grow (a1 := 30) (a2 := 815)
  generalize vgr x 30 815 = x at h hX hF ⊢
  show vM x 7 [some (.ref b), none, none, none, none, none, none, none, none, none, none, none, none, none, none, none, none, none, none] [.ref b0] [(b0, .inr (6, [.ref t0, .ref h0, .ref y0, .ref s0, .ref e0, .ref o0, .ref r0, .int (nI 0), .int (nI 0)])), (t0, .inr (5, [.int (nI 0), .ref t1])), (t1, .inl (gI g, 8, .inl (fun _ => nI 0))), (h0, .inr (1, [.int (nI 0), .ref h1, .ref h2])), (h1, .inl (gI g, 6, .inl (fun _ => nI 0))), (h2, .inl (gI g, 6, .inl (fun _ => nI 0))), (y0, .inr (2, [.int (nI 0), .ref y1, .ref y2, .ref y3, .ref y4])), (y1, .inl (gI g, 10, .inl (fun _ => nI 0))), (y2, .inl (gI g, 10, .inl (fun _ => nI 0))), (y3, .inl (gI g, 10, .inl (fun _ => nI 0))), (y4, .inl (gI g, 10, .inl (fun _ => nI 0))), (s0, .inr (3, [.ref s1, .ref s2, .ref s3, .ref s4])), (s1, .inl (gZ g, 4, .inl (fun _ => nI (bN false)))), (s2, .inl (gI g, 4, .inl (fun _ => nI 0))), (s3, .inl (gI g, 4, .inl (fun _ => nI 0))), (s4, .inl (gA g, 4, .inr (.inr (.inr (.inr (fun i => if i < 4 then some (s4 + 1 + i) else none)))))), (s4 + 1 + 0, .inl (gI g, 40, .inl (fun _ => nI 0))), (s4 + 1 + 1, .inl (gI g, 40, .inl (fun _ => nI 0))), (s4 + 1 + 2, .inl (gI g, 40, .inl (fun _ => nI 0))), (s4 + 1 + 3, .inl (gI g, 40, .inl (fun _ => nI 0))), (e0, .inr (4, [.int (nI 0), .ref e1, .ref e2, .ref e3])), (e1, .inl (gI g, 8, .inl (fun _ => nI 0))), (e2, .inl (gI g, 8, .inl (fun _ => nI 0))), (e3, .inl (gI g, 256, .inl (fun _ => nI 0))), (o0, .inr (4, [.int (nI 0), .ref o1, .ref o2, .ref o3])), (o1, .inl (gI g, 8, .inl (fun _ => nI 0))), (o2, .inl (gI g, 8, .inl (fun _ => nI 0))), (o3, .inl (gI g, 256, .inl (fun _ => nI 0))), (r0, .inr (0, [.int (nI 0), .ref r1, .ref r2])), (r1, .inl (gI g, 5, .inl (fun _ => nI 0))), (r2, .inl (gI g, 5, .inl (fun _ => nI 0)))]
  refine v_astore_n1 h.1 (Nat.le_of_ble_eq_true rfl) dL_law_7 ?_
  refine v_bipush h.1 (v := nI 22) dL_law_8 (by decide) ?_
  refine v_newI (k := 22) h (by decide) (Nat.le_of_ble_eq_true rfl) (Nat.le_of_ble_eq_true rfl) dL_law_10 (fun ta0 => ?_)
  have h := h.grow (a := 1) (b := 22) (Nat.le_of_ble_eq_true rfl) (Nat.le_of_ble_eq_true rfl)
  have hX := hX.grow (a1 := 1) (a2 := 22)
  have hF := hF.grow (a1 := 1) (a2 := 22)
  generalize vgr x 1 22 = x at h hX hF ⊢
  refine vM.rot1 ?_
  generalize hws : ([(b0, .inr (6, [.ref t0, .ref h0, .ref y0, .ref s0, .ref e0, .ref o0, .ref r0, .int (nI 0), .int (nI 0)])), (t0, .inr (5, [.int (nI 0), .ref t1])), (t1, .inl (gI g, 8, .inl (fun _ => nI 0))), (h0, .inr (1, [.int (nI 0), .ref h1, .ref h2])), (h1, .inl (gI g, 6, .inl (fun _ => nI 0))), (h2, .inl (gI g, 6, .inl (fun _ => nI 0))), (y0, .inr (2, [.int (nI 0), .ref y1, .ref y2, .ref y3, .ref y4])), (y1, .inl (gI g, 10, .inl (fun _ => nI 0))), (y2, .inl (gI g, 10, .inl (fun _ => nI 0))), (y3, .inl (gI g, 10, .inl (fun _ => nI 0))), (y4, .inl (gI g, 10, .inl (fun _ => nI 0))), (s0, .inr (3, [.ref s1, .ref s2, .ref s3, .ref s4])), (s1, .inl (gZ g, 4, .inl (fun _ => nI (bN false)))), (s2, .inl (gI g, 4, .inl (fun _ => nI 0))), (s3, .inl (gI g, 4, .inl (fun _ => nI 0))), (s4, .inl (gA g, 4, .inr (.inr (.inr (.inr (fun i => if i < 4 then some (s4 + 1 + i) else none)))))), (s4 + 1 + 0, .inl (gI g, 40, .inl (fun _ => nI 0))), (s4 + 1 + 1, .inl (gI g, 40, .inl (fun _ => nI 0))), (s4 + 1 + 2, .inl (gI g, 40, .inl (fun _ => nI 0))), (s4 + 1 + 3, .inl (gI g, 40, .inl (fun _ => nI 0))), (e0, .inr (4, [.int (nI 0), .ref e1, .ref e2, .ref e3])), (e1, .inl (gI g, 8, .inl (fun _ => nI 0))), (e2, .inl (gI g, 8, .inl (fun _ => nI 0))), (e3, .inl (gI g, 256, .inl (fun _ => nI 0))), (o0, .inr (4, [.int (nI 0), .ref o1, .ref o2, .ref o3])), (o1, .inl (gI g, 8, .inl (fun _ => nI 0))), (o2, .inl (gI g, 8, .inl (fun _ => nI 0))), (o3, .inl (gI g, 256, .inl (fun _ => nI 0))), (r0, .inr (0, [.int (nI 0), .ref r1, .ref r2])), (r1, .inl (gI g, 5, .inl (fun _ => nI 0))), (r2, .inl (gI g, 5, .inl (fun _ => nI 0)))] : va_W) = ws
  have hS : S0 g (fun i => ([b0, t0, t1, h0, h1, h2, y0, y1, y2, y3, y4, s0, s1, s2, s3, s4, e0, e1, e2, e3, o0, o1, o2, o3, r0, r1, r2] : List Nat).getD i 0) (fun i => s4 + 1 + i) ws := by
    rw [← hws]
    exact ⟨fun _ => false, fun _ => 0, fun _ => 0, fun _ _ => nI 0, fun _ => 0, fun _ => 0, fun _ => 0, ⟨Nat.zero_le _, fun _ => Nat.zero_le _, (fun _ h9 => absurd h9 (Nat.not_lt_zero _))⟩, ⟨Nat.zero_le _, fun _ => Nat.zero_le _, fun _ => Nat.zero_le _, (fun _ h9 => absurd h9 (Nat.not_lt_zero _))⟩, fun _ => Nat.zero_le _, fun _ => Nat.zero_le _, (nI 0), 0, 0, (fun _ => 0), (fun _ => 0), (fun _ => 0), (fun _ => 0), 0, (fun _ => 0), (fun _ => 0), (fun _ => 0), 0, (fun _ => 0), (fun _ => 0), (fun _ => 0), 0, (fun _ => 0), (fun _ => 0), (fun _ => Nat.two_pow_pos 8), (fun _ => Nat.two_pow_pos 8), (fun _ => Nat.two_pow_pos 8), (fun _ => Nat.two_pow_pos 8), rfl⟩
  have hb0 : b0 = (fun i => ([b0, t0, t1, h0, h1, h2, y0, y1, y2, y3, y4, s0, s1, s2, s3, s4, e0, e1, e2, e3, o0, o1, o2, o3, r0, r1, r2] : List Nat).getD i 0) 0 := rfl
  generalize (fun i => ([b0, t0, t1, h0, h1, h2, y0, y1, y2, y3, y4, s0, s1, s2, s3, s4, e0, e1, e2, e3, o0, o1, o2, o3, r0, r1, r2] : List Nat).getD i 0) = ad at hS hb0
  generalize (fun i => s4 + 1 + i) = rr at hS
  subst hb0
  clear hws
  show vM x 12 [some (.ref b), some (.ref (ad 0)), none, none, none, none, none, none, none, none, none, none, none, none, none, none, none, none, none] [.ref ta0] (wcat [(ta0, .inl (gI g, 22, .inl (fun z9 => nI ((fun _ => 0) z9))))] ws)
  have hQ : LQ x g b L xs 48 := ⟨_, _, nm, h, hX, hF, Nat.le_of_ble_eq_true rfl, Nat.le_of_ble_eq_true rfl⟩
  replace h := hQ.ok
  refine v_astore_n2 h (Nat.le_of_ble_eq_true rfl) dL_law_12 ?_
  refine v_aload_n1 h dL_law_13 ?_
  refine v_aload_n0 h dL_law_14 ?_
  refine v_iconst h (v := nI 0) dL_law_15 (by decide) ?_
  refine v_bipush h (v := nI 6) dL_law_16 (by decide) ?_
  refine v_aload_n2 h dL_law_18 ?_
  refine v_callSXa (As := [.ref (ad 0), .ref b, .int (nI 0), .int (nI 6), .ref ta0]) (rest := []) h hX (c_L_put hS) lk_L_36 ⟨rfl, rfl, (Nat.le_of_ble_eq_true rfl), (Nat.le_of_ble_eq_true rfl)⟩ rfl (Nat.le_of_ble_eq_true rfl) dL_law_19 ?_
  rintro r9 wo9 ⟨n, tt, c, ws, hn2, hn6, h0, h9, hb, hx, hI, rfl, rfl⟩
  show vM x 22 [some (.ref b), some (.ref (ad 0)), some (.ref ta0), none, none, none, none, none, none, none, none, none, none, none, none, none, none, none, none] [.int (nI (4 * n - 1))] (wcat [(ta0, .inl (gI g, 22, .inl (fun z9 => nI (tt z9))))] ws)
  refine v_istore_n3 h (Nat.le_of_ble_eq_true rfl) dL_law_22 ?_
  refine v_iload_n3 h dL_law_23 ?_
  refine v_bipush h (v := nI 7) dL_law_24 (by decide) ?_
  refine v_icmp_ltN h dL_law_26 (tgt := 54) (by decide) (by omega) (by decide) (fun c26 => ?_) (fun c26 => ?_)
  · omega
  refine v_aload_n1 h dL_law_29 ?_
  refine v_iconst h (v := nI 0) dL_law_30 (by decide) ?_
  refine v_iconst h (v := nI 0) dL_law_31 (by decide) ?_
  refine v_iconst h (v := nI 0) dL_law_32 (by decide) ?_
  refine v_iload_n3 h dL_law_33 ?_
  refine kk_market h hI hx hn2 hn6 hb ⟨rfl, rfl, (Nat.le_of_ble_eq_true rfl), (Nat.le_of_ble_eq_true rfl)⟩ (Nat.le_of_ble_eq_true rfl) dL_law_34 (fun w kd pt ws hw hI => ?_)
  refine v_aload_n2 h dL_law_37 ?_
  refine v_iconst h (v := nI 0) dL_law_38 (by decide) ?_
  refine v_ialdN h 0 rfl (by decide) (Nat.le_of_ble_eq_true rfl) dL_law_39 ?_
  rw [h0]
  refine v_icmp_ne h dL_law_40 (tgt := 54) (by decide) (fun c40 => absurd rfl c40) (fun c40 => ?_)
  refine v_aload_n1 h dL_law_43 ?_
  refine v_aload_n0 h dL_law_44 ?_
  refine v_iconst h (v := nI 5) dL_law_45 (by decide) ?_
  refine v_iconst h (v := nI 4) dL_law_46 (by decide) ?_
  refine v_aload_n2 h dL_law_47 ?_
  refine v_callSXa (As := [.ref (ad 0), .ref b, .int (nI 5), .int (nI 4), .ref ta0]) (rest := []) h hX (c_L_come hI h9 hn2) lk_L_43 ⟨rfl, rfl, (Nat.le_of_ble_eq_true rfl), (Nat.le_of_ble_eq_true rfl)⟩ rfl (Nat.le_of_ble_eq_true rfl) dL_law_48 ?_
  rintro r9 wo9 ⟨hm, tt1, kd1, pt1, ws, hm1, hm4, hm9, hlo, hag, hI, rfl, rfl⟩
  show vM x 51 [some (.ref b), some (.ref (ad 0)), some (.ref ta0), some (.int (nI (4 * n - 1))), none, none, none, none, none, none, none, none, none, none, none, none, none, none, none] [.int (nI (bN true))] (wcat [(ta0, .inl (gI g, 22, .inl (fun z9 => nI (tt1 z9))))] ws)
  refine v_if_neB h dL_law_51 (tgt := 56) (by decide) (fun c51 => ?_) (fun c51 => Bool.noConfusion c51)
  refine v_aload_n2 h dL_law_56 ?_
  refine v_iconst h (v := nI 0) dL_law_57 (by decide) ?_
  refine v_ialdN h 0 rfl (by decide) (Nat.le_of_ble_eq_true rfl) dL_law_58 ?_
  rw [show tt1 0 = n from (hlo 0 (by decide)).trans h0]
  refine v_istore4 h (Nat.le_of_ble_eq_true rfl) dL_law_59 ?_
  refine v_iconst h (v := nI 0) dL_law_61 (by decide) ?_
  refine v_istore5 h (Nat.le_of_ble_eq_true rfl) dL_law_62 ?_
  exact vM.fg (law_t 2 0 tt1 w x ws rfl (Nat.zero_le _) hQ ⟨(hlo 0 (by decide)).trans h0, hm9, fun j hj => (hlo (1 + j) (by omega)).trans (hw j hj).symm, hag, hn2, hn6, hm1, hm4, hI.wf.1, hI.wf.2⟩ hI) ⟨rfl, rfl, rfl, rfl, rfl, trivial⟩
set_option maxRecDepth 20000 in
set_option maxHeartbeats 4000000 in
theorem whole_start {p : Program} {e : Env} {s : State} {m : MethodId} {below : List Frame} {meth : Method} {c : Code} (l : Launch) (hflags : l.flags = flags0) {b L : Nat} {xs : Nat → Int32} (hL : L ≤ 260) (C0 : lw_At p s m meth c b L xs) : W p l e room_1 s m #[Value.ref b] below meth c s.heap [] 0 0 (lw_Z below #[Value.ref b] s) (entryFrame m ([Value.ref b] : List Value).toArray 19) := by
  obtain ⟨hx, hb, hr, hml, hown, hts, hX, hbl, hlocks, hgv⟩ := id C0
  have htsW : ∀ w ∈ wsL_law, w.before #[Value.ref b] s = true := fun w hw => hts w (wsL_law_in w hw)
  obtain ⟨k0, i0, hk0⟩ := u_known (C := RX0) (T := TX0) (N := 3) (n := 3) htsW mw_X0 (htsW _ m_iX0)
  obtain ⟨k1, i1, hk1⟩ := u_known (C := RX1) (T := TX1) (N := 3) (n := 3) htsW mw_X1 (htsW _ m_iX1)
  obtain ⟨k2, i2, hk2⟩ := u_known (C := RX2) (T := TX2) (N := 5) (n := 5) htsW mw_X2 (htsW _ m_iX2)
  obtain ⟨k3, i3, hk3⟩ := u_known (C := RX3) (T := TX3) (N := 4) (n := 4) htsW mw_X3 (htsW _ m_iX3)
  obtain ⟨k4, i4, hk4⟩ := u_known (C := RX4) (T := TX4) (N := 4) (n := 4) htsW mw_X4 (htsW _ m_iX4)
  obtain ⟨k5, i5, hk5⟩ := u_known (C := RX6) (T := TX6) (N := 2) (n := 2) htsW mw_X6 (htsW _ m_iX6)
  obtain ⟨k6, i6, hk6⟩ := u_known (C := RX7) (T := TX7) (N := 9) (n := 9) htsW mw_X7 (htsW _ m_iX7)
  obtain ⟨cI, kI, pI, hI1, hI2, hI3⟩ := Cond.arrayClass_spec (htsW _ m_arrI)
  obtain ⟨cZ, kZ, pZ, hZ1, hZ2, hZ3⟩ := Cond.arrayClass_spec (htsW _ m_arrZ)
  have hov : (Cond.arrayOver (.array .int)).before #[Value.ref b] s = true := hts _ (List.mem_append_right _ (List.mem_of_getElem? (i := 78) (by decide +kernel)))
  obtain ⟨pA, cA, kA, hA0, -, hA2, hA3, hA1⟩ := arrayOverA_spec hov
  have hKc : ∀ (k : Nat) (q : vw_C), vwCl[k]? = some q → u_Kn s q.1 q.2.1 q.2.2 ((fun k => if k = 0 then k0 else if k = 1 then k1 else if k = 2 then k2 else if k = 3 then k3 else if k = 4 then k4 else if k = 5 then k5 else k6) k) ((fun k => if k = 0 then i0 else if k = 1 then i1 else if k = 2 then i2 else if k = 3 then i3 else if k = 4 then i4 else if k = 5 then i5 else i6) k) := by
    intro k q hq
    match k, hq with
    | 0, hq => cases hq; exact hk0
    | 1, hq => cases hq; exact hk1
    | 2, hq => cases hq; exact hk2
    | 3, hq => cases hq; exact hk3
    | 4, hq => cases hq; exact hk4
    | 5, hq => cases hq; exact hk5
    | 6, hq => cases hq; exact hk6
    | k + 7, hq => simp [vwCl] at hq
  have hK : va_K ((fun k => if k = 0 then k0 else if k = 1 then k1 else if k = 2 then k2 else if k = 3 then k3 else if k = 4 then k4 else if k = 5 then k5 else k6), (fun k => if k = 0 then i0 else if k = 1 then i1 else if k = 2 then i2 else if k = 3 then i3 else if k = 4 then i4 else if k = 5 then i5 else i6)) vwCl [(cI, .int), (cZ, .boolean), (cA, .array .int)] s := by
    refine ⟨hKc, fun k q hq => ?_⟩
    match k, hq with
    | 0, hq => cases hq; exact ⟨fun n z => ⟨fun k h => (by cases h), kI, hI2, pI, hI3⟩, hI1⟩
    | 1, hq => cases hq; exact ⟨fun n z => ⟨fun k h => (by cases h), kZ, hZ2, pZ, hZ3⟩, hZ1⟩
    | 2, hq => cases hq; exact ⟨fun n z => ⟨fun k h => (by cases h), kA, hA2, pA, hA3⟩, hA1⟩
    | k + 3, hq => simp at hq
  have hnw : vNw s := ⟨va_Nw.of rfl (hts _ (List.mem_append_right _ (List.mem_of_getElem? (i := 355) (by decide +kernel)))), va_Nw.of rfl (hts _ (List.mem_append_right _ (List.mem_of_getElem? (i := 321) (by decide +kernel))))⟩
  have hni : vNi s := ⟨va_Nw.of rfl (hts _ (List.mem_append_right _ (List.mem_of_getElem? (i := 21) (by decide +kernel)))), va_Nw.of rfl (hts _ (List.mem_append_right _ (List.mem_of_getElem? (i := 35) (by decide +kernel)))), va_Nw.of rfl (hts _ (List.mem_append_right _ (List.mem_of_getElem? (i := 51) (by decide +kernel)))), va_Nw.of rfl (hts _ (List.mem_append_right _ (List.mem_of_getElem? (i := 73) (by decide +kernel)))), va_Nw.of rfl (hts _ (List.mem_append_right _ (List.mem_of_getElem? (i := 95) (by decide +kernel)))), va_Nw.of rfl (hts _ (List.mem_append_right _ (List.mem_of_getElem? (i := 114) (by decide +kernel)))), hov⟩
  have key := law_all (x := ((l, ((fun k => if k = 0 then k0 else if k = 1 then k1 else if k = 2 then k2 else if k = 3 then k3 else if k = 4 then k4 else if k = 5 then k5 else k6), (fun k => if k = 0 then i0 else if k = 1 then i1 else if k = 2 then i2 else if k = 3 then i3 else if k = 4 then i4 else if k = 5 then i5 else i6)), cI, cZ, cA), p, e, room_1, s, m, #[Value.ref b], below, meth, c, 0, 0, lw_Z below #[Value.ref b] s, (fun q => s.heap.size ≤ q), 19)) (g := (l, ((fun k => if k = 0 then k0 else if k = 1 then k1 else if k = 2 then k2 else if k = 3 then k3 else if k = 4 then k4 else if k = 5 then k5 else k6), (fun k => if k = 0 then i0 else if k = 1 then i1 else if k = 2 then i2 else if k = 3 then i3 else if k = 4 then i4 else if k = 5 then i5 else i6)), cI, cZ, cA)) (b := b) (L := L) (xs := xs) (nm := meth.name) ⟨⟨rfl, rfl, rfl, hx, hb, hml, hown, htsW, hK, fun q h9 => h9, hlocks, hnw, Nat.zero_le _, Nat.zero_le _⟩, rfl, rfl, rfl, hni⟩ ⟨hX, hbl, Nat.not_le.mpr hbl, hL⟩ ⟨rfl, rfl, rfl, hr, fun q h9 => h9⟩
  rw [lg_entry_eq]
  exact key s.heap [] _ (fun k q h9 => by simp at h9) ⟨fun i j p q h9 => by simp at h9, fun k q h9 => by simp at h9⟩ va_S.rf (vL_entry [.ref b] 19 (Nat.le_of_ble_eq_true rfl) (fun v hv => by rw [List.mem_singleton.mp hv]; rfl))
