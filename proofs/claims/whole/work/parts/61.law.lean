/-- the frame that the law's end wants -/
def LwF (x : vX) (b : Nat) : Prop := match x with
  | (_, _, _, R, s, _, args, below, meth, _, _, _, Q, A, _) => R = room_1 ∧ args = #[Value.ref b] ∧ Q = lw_Z below #[Value.ref b] s ∧ meth.sig.returnType = ret ∧ ∀ q, A q → s.heap.size ≤ q
theorem LwF.grow {x : vX} {b a1 a2 : Nat} (h : LwF x b) : LwF (vgr x a1 a2) b := by
  obtain ⟨g0, p, e, R, s, m, args, below, meth, c, cells, slots, Q, A, nL0⟩ := x
  exact h
theorem LwX.grow {x : vX} {b L a1 a2 : Nat} {xs : Nat → Int32} (h : LwX x b L xs) : LwX (vgr x a1 a2) b L xs := by
  obtain ⟨g0, p, e, R, s, m, args, below, meth, c, cells, slots, Q, A, nL0⟩ := x
  exact h
theorem LwE.of {x : vX} {g : vG} {b c1 s1 : Nat} {nm : String} (hF : LwF x b) (h : OkC x g code RL room_1 4 c1 s1 nm) (h1 : c1 ≤ 600000) (h2 : s1 ≤ 7302250) : LwE x := by
  obtain ⟨g0, p, e, R, s, m, args, below, meth, c, cells, slots, Q, A, nL0⟩ := x
  obtain ⟨⟨rfl, rfl, rfl, hx, hb, hml, hown, hts, hK, hA, hlk, hnw, hcl, hsl⟩, rfl, rfl, hnm, hni⟩ := h
  obtain ⟨-, rfl, rfl, hr, hA2⟩ := hF
  intro lv ws pc hd H locs ls hP hD hS hl
  exact va_forget (fun q hq => hA2 _ (hS.2.2 q hq)) (W.widen h1 h2 (lw_ret hx hb hr hlk hd))
set_option maxRecDepth 20000 in
set_option maxHeartbeats 4000000 in
theorem law_loop {x : vX} {g : vG} {b L : Nat} {xs : Nat → Int32} {b0 t0 t1 h0 h1 h2 y0 y1 y2 y3 y4 s0 s1 s2 s3 s4 e0 e1 e2 e3 o0 o1 o2 o3 r0 r1 r2 m0 m1 m2 m3 m4 m5 m6 m7 m8 m9 m10 m11 m12 m13 m14 m15 m16 : Nat} {rr : Nat → Nat} (h : Ok x g code RL room_1 4) (hX : LwX x b L xs) (hE : LwE x) : ∀ (k i : Nat), L + 7 - i = k → i ≤ L + 7 → ∀ ws, LInv g b0 t0 t1 h0 h1 h2 y0 y1 y2 y3 y4 s0 s1 s2 s3 s4 e0 e1 e2 e3 o0 o1 o2 o3 r0 r1 r2 m0 m1 m2 m3 m4 m5 m6 m7 m8 m9 m10 m11 m12 m13 m14 m15 m16 rr ws → vM x 18 [some (.ref b), some (.ref b0), some (.ref m0), some (.int (nI i))] [] ws := by
  intro k
  induction k using Nat.strongRecOn with
  | _ k ih =>
    intro i hk hiL ws hI
    have hL := hX.hL
    refine v_iload_n3 h dL_law_18 ?_
    refine v_aload_n0 h dL_law_19 ?_
    refine v_slen h hX dL_law_20 ?_
    refine v_bipush h (v := nI 7) dL_law_21 (by decide) ?_
    refine v_isub h dL_law_23 ?_
    refine v_icmp_gt h dL_law_24 (tgt := 1465) (by decide) (fun c24 => ?_) (fun c24 => ?_)
    · refine v_iconst h (v := 1) dL_law_1465 (by decide) ?_
      exact hE _ _ _ dL_law_1466
    · have hi : i + 7 ≤ L := by
        rw [Int32.lt_iff_toInt_lt, pk_sub_toInt (by omega) (by omega), nI_toInt (by omega)] at c24
        omega
      have K : ∀ ws, LInv g b0 t0 t1 h0 h1 h2 y0 y1 y2 y3 y4 s0 s1 s2 s3 s4 e0 e1 e2 e3 o0 o1 o2 o3 r0 r1 r2 m0 m1 m2 m3 m4 m5 m6 m7 m8 m9 m10 m11 m12 m13 m14 m15 m16 rr ws → vM x 1459 [some (.ref b), some (.ref b0), some (.ref m0), some (.int (nI i))] [] ws := fun ws hI2 => by
        refine v_iinc3 h (Nat.le_of_ble_eq_true rfl) dL_law_1459 ?_
        refine v_goto h dL_law_1462 (tgt := 18) (by decide) ?_
        rw [show nI i + Int32.ofInt 7 = nI (i + 7) from nI_add i 7]
        exact ih _ (by omega) (i + 7) rfl (by omega) ws hI2
      refine v_aload_n0 h dL_law_27 ?_
      refine v_iload_n3 h dL_law_28 ?_
      refine v_sld h hX (by omega) dL_law_29 ?_
      refine v_bipush h (v := nI 63) dL_law_30 (by decide) ?_
      refine v_iand h dL_law_32 ?_
      obtain ⟨j, hj, ej⟩ := and63 (xs i)
      rw [ej]
      obtain ⟨tr, fl, n, w, hn, kd, pt, sn, sb, sf, ss, sw, fil, srt, len, cc, ec, el, ea, eo, oc, ol, oa, oo, rc, rw, rb, msrt, mc, atp, rt, rwt, far, ways, chain, row, best, hV, hms, hmc, hel, hea, hol, hoa, rfl⟩ := hI
      match j, hj with
      | 0, _ => exact v_tabIn h dL_law_33 (by decide) (by decide) (off := 155) (by decide) (tgt := 188) (by decide) (law_c0 h hX hi K hV hms hmc hel hea hol hoa)
      | 1, _ => exact v_tabIn h dL_law_33 (by decide) (by decide) (off := 208) (by decide) (tgt := 241) (by decide) (law_c1 h hX hi K hV hms hmc hel hea hol hoa)
      | 2, _ => exact v_tabIn h dL_law_33 (by decide) (by decide) (off := 231) (by decide) (tgt := 264) (by decide) (law_c2 h hX hi K hV hms hmc hel hea hol hoa)
      | 3, _ => exact v_tabIn h dL_law_33 (by decide) (by decide) (off := 264) (by decide) (tgt := 297) (by decide) (law_c3 h hX hi K hV hms hmc hel hea hol hoa)
      | 4, _ => exact v_tabIn h dL_law_33 (by decide) (by decide) (off := 297) (by decide) (tgt := 330) (by decide) (law_c4 h hX hi K hV hms hmc hel hea hol hoa)
      | 5, _ => exact v_tabIn h dL_law_33 (by decide) (by decide) (off := 330) (by decide) (tgt := 363) (by decide) (law_c5 h hX hi K hV hms hmc hel hea hol hoa)
      | 6, _ => exact v_tabIn h dL_law_33 (by decide) (by decide) (off := 373) (by decide) (tgt := 406) (by decide) (law_c6 h hX hi K hV hms hmc hel hea hol hoa)
      | 7, _ => exact v_tabIn h dL_law_33 (by decide) (by decide) (off := 406) (by decide) (tgt := 439) (by decide) (law_c7 h hX hi K hV hms hmc hel hea hol hoa)
      | 8, _ => exact v_tabIn h dL_law_33 (by decide) (by decide) (off := 439) (by decide) (tgt := 472) (by decide) (law_c8 h hX hi K hV hms hmc hel hea hol hoa)
      | 9, _ => exact v_tabIn h dL_law_33 (by decide) (by decide) (off := 492) (by decide) (tgt := 525) (by decide) (law_c9 h hX hi K hV hms hmc hel hea hol hoa)
      | 10, _ => exact v_tabIn h dL_law_33 (by decide) (by decide) (off := 535) (by decide) (tgt := 568) (by decide) (law_c10 h hX hi K hV hms hmc hel hea hol hoa)
      | 11, _ => exact v_tabIn h dL_law_33 (by decide) (by decide) (off := 598) (by decide) (tgt := 631) (by decide) (law_c11 h hX hi K hV hms hmc hel hea hol hoa)
      | 12, _ => exact v_tabIn h dL_law_33 (by decide) (by decide) (off := 651) (by decide) (tgt := 684) (by decide) (law_c12 h hX hi K hV hms hmc hel hea hol hoa)
      | 13, _ => exact v_tabIn h dL_law_33 (by decide) (by decide) (off := 674) (by decide) (tgt := 707) (by decide) (law_c13 h hX hi K hV hms hmc hel hea hol hoa)
      | 14, _ => exact v_tabIn h dL_law_33 (by decide) (by decide) (off := 687) (by decide) (tgt := 720) (by decide) (law_c14 h hX hi K hV hms hmc hel hea hol hoa)
      | 15, _ => exact v_tabIn h dL_law_33 (by decide) (by decide) (off := 720) (by decide) (tgt := 753) (by decide) (law_c15 h hX hi K hV hms hmc hel hea hol hoa)
      | 16, _ => exact v_tabIn h dL_law_33 (by decide) (by decide) (off := 753) (by decide) (tgt := 786) (by decide) (law_c16 h hX hi K hV hms hmc hel hea hol hoa)
      | 17, _ => exact v_tabIn h dL_law_33 (by decide) (by decide) (off := 786) (by decide) (tgt := 819) (by decide) (law_c17 h hX hi K hV hms hmc hel hea hol hoa)
      | 18, _ => exact v_tabIn h dL_law_33 (by decide) (by decide) (off := 809) (by decide) (tgt := 842) (by decide) (law_c18 h hX hi K hV hms hmc hel hea hol hoa)
      | 19, _ => exact v_tabIn h dL_law_33 (by decide) (by decide) (off := 832) (by decide) (tgt := 865) (by decide) (law_c19 h hX hi K hV hms hmc hel hea hol hoa)
      | 20, _ => exact v_tabIn h dL_law_33 (by decide) (by decide) (off := 865) (by decide) (tgt := 898) (by decide) (law_c20 h hX hi K hV hms hmc hel hea hol hoa)
      | 21, _ => exact v_tabIn h dL_law_33 (by decide) (by decide) (off := 940) (by decide) (tgt := 973) (by decide) (law_c21 h hX hi K hV hms hmc hel hea hol hoa)
      | 22, _ => exact v_tabIn h dL_law_33 (by decide) (by decide) (off := 1015) (by decide) (tgt := 1048) (by decide) (law_c22 h hX hi K hV hms hmc hel hea hol hoa)
      | 23, _ => exact v_tabIn h dL_law_33 (by decide) (by decide) (off := 1048) (by decide) (tgt := 1081) (by decide) (law_c23 h hX hi K hV hms hmc hel hea hol hoa)
      | 24, _ => exact v_tabIn h dL_law_33 (by decide) (by decide) (off := 1082) (by decide) (tgt := 1115) (by decide) (law_c24 h hX hi K hV hms hmc hel hea hol hoa)
      | 25, _ => exact v_tabIn h dL_law_33 (by decide) (by decide) (off := 1125) (by decide) (tgt := 1158) (by decide) (law_c25 h hX hi K hV hms hmc hel hea hol hoa)
      | 26, _ => exact v_tabIn h dL_law_33 (by decide) (by decide) (off := 1148) (by decide) (tgt := 1181) (by decide) (law_c26 h hX hi K hV hms hmc hel hea hol hoa)
      | 27, _ => exact v_tabIn h dL_law_33 (by decide) (by decide) (off := 1191) (by decide) (tgt := 1224) (by decide) (law_c27 h hX hi K hV hms hmc hel hea hol hoa)
      | 28, _ => exact v_tabIn h dL_law_33 (by decide) (by decide) (off := 1235) (by decide) (tgt := 1268) (by decide) (law_c28 h hX hi K hV hms hmc hel hea hol hoa)
      | 29, _ => exact v_tabIn h dL_law_33 (by decide) (by decide) (off := 1298) (by decide) (tgt := 1331) (by decide) (law_c29 h hX hi K hV hms hmc hel hea hol hoa)
      | 30, _ => exact v_tabIn h dL_law_33 (by decide) (by decide) (off := 1321) (by decide) (tgt := 1354) (by decide) (law_c30 h hX hi K hV hms hmc hel hea hol hoa)
      | 31, _ => exact v_tabIn h dL_law_33 (by decide) (by decide) (off := 1344) (by decide) (tgt := 1377) (by decide) (law_c31 h hX hi K hV hms hmc hel hea hol hoa)
      | 32, _ => exact v_tabIn h dL_law_33 (by decide) (by decide) (off := 1377) (by decide) (tgt := 1410) (by decide) (law_c32 h hX hi K hV hms hmc hel hea hol hoa)
      | 33, _ => exact v_tabIn h dL_law_33 (by decide) (by decide) (off := 1390) (by decide) (tgt := 1423) (by decide) (law_c33 h hX hi K hV hms hmc hel hea hol hoa)
      | 34, _ => exact v_tabIn h dL_law_33 (by decide) (by decide) (off := 1403) (by decide) (tgt := 1436) (by decide) (law_c34 h hX hi K hV hms hmc hel hea hol hoa)
      | j + 35, hj =>
        refine v_tabOut h dL_law_33 (Or.inr ?_) (tgt := 1459) (by decide) (K _ (LInv_mk hV hms hmc hel hea hol hoa))
        rw [nI_toInt (by omega)]
        omega
set_option maxRecDepth 20000 in
set_option maxHeartbeats 4000000 in
theorem law_all {x : vX} {g : vG} {b L : Nat} {xs : Nat → Int32} {nm : String} (h : OkC x g code RL room_1 4 0 0 nm) (hX : LwX x b L xs) (hF : LwF x b) : vM x 0 [some (.ref b), none, none, none] [] [] := by
  refine v_newO (ci := 6) (fs := [.null, .null, .null, .null, .null, .null, .null, .int (nI 0), .int (nI 0)]) h mw_X7 tyX7 tyX7_ok mcl_L_7 m_iX7 mi_X7 rfl (fun j hj => by rcases (show j = 0 ∨ j = 1 ∨ j = 2 ∨ j = 3 ∨ j = 4 ∨ j = 5 ∨ j = 6 ∨ j = 7 ∨ j = 8 by omega) with rfl | rfl | rfl | rfl | rfl | rfl | rfl | rfl | rfl <;> rfl) (Nat.le_of_ble_eq_true rfl) (Nat.le_of_ble_eq_true rfl) dL_law_0 (fun b0 => ?_)
  have h := h.grow (a := 1) (b := 9) (Nat.le_of_ble_eq_true rfl) (Nat.le_of_ble_eq_true rfl)
  have hX := hX.grow (a1 := 1) (a2 := 9)
  have hF := hF.grow (a1 := 1) (a2 := 9)
  generalize vgr x 1 9 = x at h hX hF ⊢
  show vM x 3 [some (.ref b), none, none, none] [.ref b0] [(b0, .inr (6, [.null, .null, .null, .null, .null, .null, .null, .int (nI 0), .int (nI 0)]))]
  refine v_dup h.1 dL_law_3 rfl ?_
  refine v_callI (wr := []) h (c_X7_init (g := g)) lkI_X7 ml_L_9 ⟨rfl, rfl, (Nat.le_of_ble_eq_true rfl), (Nat.le_of_ble_eq_true rfl)⟩ (Nat.le_of_ble_eq_true rfl) (Nat.le_of_ble_eq_true rfl) [0] [] rfl rfl rfl rfl (by decide) (Nat.le_of_ble_eq_true rfl) dL_law_4 ?_
  rintro wo9 ⟨t0, t1, h0, h1, h2, y0, y1, y2, y3, y4, s0, s1, s2, s3, s4, e0, e1, e2, e3, o0, o1, o2, o3, r0, r1, r2, rfl⟩
  have h := h.grow (a := 30) (b := 815) (Nat.le_of_ble_eq_true rfl) (Nat.le_of_ble_eq_true rfl)
  have hX := hX.grow (a1 := 30) (a2 := 815)
  have hF := hF.grow (a1 := 30) (a2 := 815)
  generalize vgr x 30 815 = x at h hX hF ⊢
  show vM x 7 [some (.ref b), none, none, none] [.ref b0] [(b0, .inr (6, [.ref t0, .ref h0, .ref y0, .ref s0, .ref e0, .ref o0, .ref r0, .int (nI 0), .int (nI 0)])), (t0, .inr (5, [.int (nI 0), .ref t1])), (t1, .inl (gI g, 8, .inl (fun _ => nI 0))), (h0, .inr (1, [.int (nI 0), .ref h1, .ref h2])), (h1, .inl (gI g, 6, .inl (fun _ => nI 0))), (h2, .inl (gI g, 6, .inl (fun _ => nI 0))), (y0, .inr (2, [.int (nI 0), .ref y1, .ref y2, .ref y3, .ref y4])), (y1, .inl (gI g, 10, .inl (fun _ => nI 0))), (y2, .inl (gI g, 10, .inl (fun _ => nI 0))), (y3, .inl (gI g, 10, .inl (fun _ => nI 0))), (y4, .inl (gI g, 10, .inl (fun _ => nI 0))), (s0, .inr (3, [.ref s1, .ref s2, .ref s3, .ref s4])), (s1, .inl (gZ g, 4, .inl (fun _ => nI (bN false)))), (s2, .inl (gI g, 4, .inl (fun _ => nI 0))), (s3, .inl (gI g, 4, .inl (fun _ => nI 0))), (s4, .inl (gA g, 4, .inr (.inr (.inr (.inr (fun i => if i < 4 then some (s4 + 1 + i) else none)))))), (s4 + 1 + 0, .inl (gI g, 40, .inl (fun _ => nI 0))), (s4 + 1 + 1, .inl (gI g, 40, .inl (fun _ => nI 0))), (s4 + 1 + 2, .inl (gI g, 40, .inl (fun _ => nI 0))), (s4 + 1 + 3, .inl (gI g, 40, .inl (fun _ => nI 0))), (e0, .inr (4, [.int (nI 0), .ref e1, .ref e2, .ref e3])), (e1, .inl (gI g, 8, .inl (fun _ => nI 0))), (e2, .inl (gI g, 8, .inl (fun _ => nI 0))), (e3, .inl (gI g, 256, .inl (fun _ => nI 0))), (o0, .inr (4, [.int (nI 0), .ref o1, .ref o2, .ref o3])), (o1, .inl (gI g, 8, .inl (fun _ => nI 0))), (o2, .inl (gI g, 8, .inl (fun _ => nI 0))), (o3, .inl (gI g, 256, .inl (fun _ => nI 0))), (r0, .inr (0, [.int (nI 0), .ref r1, .ref r2])), (r1, .inl (gI g, 5, .inl (fun _ => nI 0))), (r2, .inl (gI g, 5, .inl (fun _ => nI 0)))]
  refine v_astore_n1 h.1 (Nat.le_of_ble_eq_true rfl) dL_law_7 ?_
  refine v_newO (ci := 7) (fs := [.int (nI 0), .int (nI 0), .null, .null, .null, .int (nI 0), .null, .int (nI 0), .int (nI 0), .null, .int (nI 0), .null, .null, .null, .int (nI 0), .null, .null, .null, .null, .null, .null, .null, .null]) h mw_X8 tyX8 tyX8_ok mcl_L_10 m_iX8 mi_X8 rfl (fun j hj => by rcases (show j = 0 ∨ j = 1 ∨ j = 2 ∨ j = 3 ∨ j = 4 ∨ j = 5 ∨ j = 6 ∨ j = 7 ∨ j = 8 ∨ j = 9 ∨ j = 10 ∨ j = 11 ∨ j = 12 ∨ j = 13 ∨ j = 14 ∨ j = 15 ∨ j = 16 ∨ j = 17 ∨ j = 18 ∨ j = 19 ∨ j = 20 ∨ j = 21 ∨ j = 22 by omega) with rfl | rfl | rfl | rfl | rfl | rfl | rfl | rfl | rfl | rfl | rfl | rfl | rfl | rfl | rfl | rfl | rfl | rfl | rfl | rfl | rfl | rfl | rfl <;> rfl) (Nat.le_of_ble_eq_true rfl) (Nat.le_of_ble_eq_true rfl) dL_law_8 (fun m0 => ?_)
  have h := h.grow (a := 1) (b := 23) (Nat.le_of_ble_eq_true rfl) (Nat.le_of_ble_eq_true rfl)
  have hX := hX.grow (a1 := 1) (a2 := 23)
  have hF := hF.grow (a1 := 1) (a2 := 23)
  generalize vgr x 1 23 = x at h hX hF ⊢
  show vM x 11 [some (.ref b), some (.ref b0), none, none] [.ref m0] [(b0, .inr (6, [.ref t0, .ref h0, .ref y0, .ref s0, .ref e0, .ref o0, .ref r0, .int (nI 0), .int (nI 0)])), (t0, .inr (5, [.int (nI 0), .ref t1])), (t1, .inl (gI g, 8, .inl (fun _ => nI 0))), (h0, .inr (1, [.int (nI 0), .ref h1, .ref h2])), (h1, .inl (gI g, 6, .inl (fun _ => nI 0))), (h2, .inl (gI g, 6, .inl (fun _ => nI 0))), (y0, .inr (2, [.int (nI 0), .ref y1, .ref y2, .ref y3, .ref y4])), (y1, .inl (gI g, 10, .inl (fun _ => nI 0))), (y2, .inl (gI g, 10, .inl (fun _ => nI 0))), (y3, .inl (gI g, 10, .inl (fun _ => nI 0))), (y4, .inl (gI g, 10, .inl (fun _ => nI 0))), (s0, .inr (3, [.ref s1, .ref s2, .ref s3, .ref s4])), (s1, .inl (gZ g, 4, .inl (fun _ => nI (bN false)))), (s2, .inl (gI g, 4, .inl (fun _ => nI 0))), (s3, .inl (gI g, 4, .inl (fun _ => nI 0))), (s4, .inl (gA g, 4, .inr (.inr (.inr (.inr (fun i => if i < 4 then some (s4 + 1 + i) else none)))))), (s4 + 1 + 0, .inl (gI g, 40, .inl (fun _ => nI 0))), (s4 + 1 + 1, .inl (gI g, 40, .inl (fun _ => nI 0))), (s4 + 1 + 2, .inl (gI g, 40, .inl (fun _ => nI 0))), (s4 + 1 + 3, .inl (gI g, 40, .inl (fun _ => nI 0))), (e0, .inr (4, [.int (nI 0), .ref e1, .ref e2, .ref e3])), (e1, .inl (gI g, 8, .inl (fun _ => nI 0))), (e2, .inl (gI g, 8, .inl (fun _ => nI 0))), (e3, .inl (gI g, 256, .inl (fun _ => nI 0))), (o0, .inr (4, [.int (nI 0), .ref o1, .ref o2, .ref o3])), (o1, .inl (gI g, 8, .inl (fun _ => nI 0))), (o2, .inl (gI g, 8, .inl (fun _ => nI 0))), (o3, .inl (gI g, 256, .inl (fun _ => nI 0))), (r0, .inr (0, [.int (nI 0), .ref r1, .ref r2])), (r1, .inl (gI g, 5, .inl (fun _ => nI 0))), (r2, .inl (gI g, 5, .inl (fun _ => nI 0))), (m0, .inr (7, [.int (nI 0), .int (nI 0), .null, .null, .null, .int (nI 0), .null, .int (nI 0), .int (nI 0), .null, .int (nI 0), .null, .null, .null, .int (nI 0), .null, .null, .null, .null, .null, .null, .null, .null]))]
  refine v_dup h.1 dL_law_11 rfl ?_
  refine v_callI (wr := [(b0, .inr (6, [.ref t0, .ref h0, .ref y0, .ref s0, .ref e0, .ref o0, .ref r0, .int (nI 0), .int (nI 0)])), (t0, .inr (5, [.int (nI 0), .ref t1])), (t1, .inl (gI g, 8, .inl (fun _ => nI 0))), (h0, .inr (1, [.int (nI 0), .ref h1, .ref h2])), (h1, .inl (gI g, 6, .inl (fun _ => nI 0))), (h2, .inl (gI g, 6, .inl (fun _ => nI 0))), (y0, .inr (2, [.int (nI 0), .ref y1, .ref y2, .ref y3, .ref y4])), (y1, .inl (gI g, 10, .inl (fun _ => nI 0))), (y2, .inl (gI g, 10, .inl (fun _ => nI 0))), (y3, .inl (gI g, 10, .inl (fun _ => nI 0))), (y4, .inl (gI g, 10, .inl (fun _ => nI 0))), (s0, .inr (3, [.ref s1, .ref s2, .ref s3, .ref s4])), (s1, .inl (gZ g, 4, .inl (fun _ => nI (bN false)))), (s2, .inl (gI g, 4, .inl (fun _ => nI 0))), (s3, .inl (gI g, 4, .inl (fun _ => nI 0))), (s4, .inl (gA g, 4, .inr (.inr (.inr (.inr (fun i => if i < 4 then some (s4 + 1 + i) else none)))))), (s4 + 1 + 0, .inl (gI g, 40, .inl (fun _ => nI 0))), (s4 + 1 + 1, .inl (gI g, 40, .inl (fun _ => nI 0))), (s4 + 1 + 2, .inl (gI g, 40, .inl (fun _ => nI 0))), (s4 + 1 + 3, .inl (gI g, 40, .inl (fun _ => nI 0))), (e0, .inr (4, [.int (nI 0), .ref e1, .ref e2, .ref e3])), (e1, .inl (gI g, 8, .inl (fun _ => nI 0))), (e2, .inl (gI g, 8, .inl (fun _ => nI 0))), (e3, .inl (gI g, 256, .inl (fun _ => nI 0))), (o0, .inr (4, [.int (nI 0), .ref o1, .ref o2, .ref o3])), (o1, .inl (gI g, 8, .inl (fun _ => nI 0))), (o2, .inl (gI g, 8, .inl (fun _ => nI 0))), (o3, .inl (gI g, 256, .inl (fun _ => nI 0))), (r0, .inr (0, [.int (nI 0), .ref r1, .ref r2])), (r1, .inl (gI g, 5, .inl (fun _ => nI 0))), (r2, .inl (gI g, 5, .inl (fun _ => nI 0)))]) h (c_X8_init (g := g)) lkI_X8 ml_L_12 ⟨rfl, rfl, (Nat.le_of_ble_eq_true rfl), (Nat.le_of_ble_eq_true rfl)⟩ (Nat.le_of_ble_eq_true rfl) (Nat.le_of_ble_eq_true rfl) [31] [0, 1, 2, 3, 4, 5, 6, 7, 8, 9, 10, 11, 12, 13, 14, 15, 16, 17, 18, 19, 20, 21, 22, 23, 24, 25, 26, 27, 28, 29, 30] rfl rfl rfl rfl (by decide) (Nat.le_of_ble_eq_true rfl) dL_law_12 ?_
  rintro wo9 ⟨m1, m2, m3, m4, m5, m6, m7, m8, m9, m10, m11, m12, m13, m14, m15, m16, rfl⟩
  have h := h.grow (a := 16) (b := 518) (Nat.le_of_ble_eq_true rfl) (Nat.le_of_ble_eq_true rfl)
  have hX := hX.grow (a1 := 16) (a2 := 518)
  have hF := hF.grow (a1 := 16) (a2 := 518)
  generalize vgr x 16 518 = x at h hX hF ⊢
  show vM x 15 [some (.ref b), some (.ref b0), none, none] [.ref m0] (wcat [(b0, .inr (6, [.ref t0, .ref h0, .ref y0, .ref s0, .ref e0, .ref o0, .ref r0, .int (nI 0), .int (nI 0)])), (t0, .inr (5, [.int (nI 0), .ref t1])), (t1, .inl (gI g, 8, .inl (fun _ => nI 0))), (h0, .inr (1, [.int (nI 0), .ref h1, .ref h2])), (h1, .inl (gI g, 6, .inl (fun _ => nI 0))), (h2, .inl (gI g, 6, .inl (fun _ => nI 0))), (y0, .inr (2, [.int (nI 0), .ref y1, .ref y2, .ref y3, .ref y4])), (y1, .inl (gI g, 10, .inl (fun _ => nI 0))), (y2, .inl (gI g, 10, .inl (fun _ => nI 0))), (y3, .inl (gI g, 10, .inl (fun _ => nI 0))), (y4, .inl (gI g, 10, .inl (fun _ => nI 0))), (s0, .inr (3, [.ref s1, .ref s2, .ref s3, .ref s4])), (s1, .inl (gZ g, 4, .inl (fun _ => nI (bN false)))), (s2, .inl (gI g, 4, .inl (fun _ => nI 0))), (s3, .inl (gI g, 4, .inl (fun _ => nI 0))), (s4, .inl (gA g, 4, .inr (.inr (.inr (.inr (fun i => if i < 4 then some (s4 + 1 + i) else none)))))), (s4 + 1 + 0, .inl (gI g, 40, .inl (fun _ => nI 0))), (s4 + 1 + 1, .inl (gI g, 40, .inl (fun _ => nI 0))), (s4 + 1 + 2, .inl (gI g, 40, .inl (fun _ => nI 0))), (s4 + 1 + 3, .inl (gI g, 40, .inl (fun _ => nI 0))), (e0, .inr (4, [.int (nI 0), .ref e1, .ref e2, .ref e3])), (e1, .inl (gI g, 8, .inl (fun _ => nI 0))), (e2, .inl (gI g, 8, .inl (fun _ => nI 0))), (e3, .inl (gI g, 256, .inl (fun _ => nI 0))), (o0, .inr (4, [.int (nI 0), .ref o1, .ref o2, .ref o3])), (o1, .inl (gI g, 8, .inl (fun _ => nI 0))), (o2, .inl (gI g, 8, .inl (fun _ => nI 0))), (o3, .inl (gI g, 256, .inl (fun _ => nI 0))), (r0, .inr (0, [.int (nI 0), .ref r1, .ref r2])), (r1, .inl (gI g, 5, .inl (fun _ => nI 0))), (r2, .inl (gI g, 5, .inl (fun _ => nI 0)))] [(m0, .inr (7, [.int (nI 0), .int (nI 0), .ref m1, .ref m2, .ref m3, .int (nI 0), .ref m4, .int (nI 0), .int (nI 0), .ref m5, .int (nI 0), .ref m6, .ref m7, .ref m8, .int (nI 0), .ref m9, .ref m10, .ref m11, .ref m12, .ref m13, .ref m14, .ref m15, .ref m16])), (m1, .inl (gI g, 4, .inl (upd (upd (upd (upd (fun _ => nI 0) 0 (-9)) 1 (-9)) 2 (-9)) 3 (-9)))), (m2, .inl (gI g, 4, .inl (fun _ => nI 0))), (m3, .inl (gI g, 160, .inl (fun _ => nI 0))), (m4, .inl (gI g, 8, .inl (fun _ => nI 0))), (m5, .inl (gI g, 8, .inl (fun _ => nI 0))), (m6, .inl (gI g, 6, .inl (fun _ => nI 0))), (m7, .inl (gI g, 6, .inl (fun _ => nI 0))), (m8, .inl (gI g, 8, .inl (fun _ => nI 0))), (m9, .inl (gI g, 10, .inl (fun _ => nI 0))), (m10, .inl (gI g, 10, .inl (fun _ => nI 0))), (m11, .inl (gI g, 10, .inl (fun _ => nI 0))), (m12, .inl (gI g, 10, .inl (fun _ => nI 0))), (m13, .inl (gI g, 256, .inl (fun _ => nI 0))), (m14, .inl (gI g, 8, .inl (fun _ => nI 0))), (m15, .inl (gI g, 5, .inl (fun _ => nI 0))), (m16, .inl (gI g, 5, .inl (fun _ => nI 0)))])
  refine v_astore_n2 h.1 (Nat.le_of_ble_eq_true rfl) dL_law_15 ?_
  refine v_iconst h.1 (v := nI 0) dL_law_16 (by decide) ?_
  refine v_istore_n3 h.1 (Nat.le_of_ble_eq_true rfl) dL_law_17 ?_
  exact law_loop (rr := fun i => s4 + 1 + i) h.1 hX (LwE.of hF h (Nat.le_of_ble_eq_true rfl) (Nat.le_of_ble_eq_true rfl)) _ 0 rfl (Nat.zero_le _) _ (LInv_mk (tr := (nI 0)) (fl := 0) (n := 0) (w := (fun _ => 0)) (hn := 0) (kd := (fun _ => 0)) (pt := (fun _ => 0)) (sn := 0) (sb := (fun _ => 0)) (sf := (fun _ => 0)) (ss := (fun _ => 0)) (sw := (fun _ => 0)) (fil := (fun _ => false)) (srt := (fun _ => 0)) (len := (fun _ => 0)) (cc := (fun _ _ => nI 0)) (ec := 0) (el := (fun _ => 0)) (ea := (fun _ => 0)) (eo := (fun _ => 0)) (oc := 0) (ol := (fun _ => 0)) (oa := (fun _ => 0)) (oo := (fun _ => 0)) (rc := 0) (rw := (fun _ => 0)) (rb := (fun _ => 0)) (msrt := (upd (upd (upd (upd (fun _ => nI 0) 0 (-9)) 1 (-9)) 2 (-9)) 3 (-9))) (mc := (fun _ => nI 0)) (atp := 0) (rt := 0) (rwt := (fun _ => 0)) (far := (fun _ => nI 0)) (ways := (fun _ => 0)) (chain := (fun _ => 0)) (row := (fun _ => 0)) (best := (fun _ => 0)) ⟨⟨Nat.zero_le _, fun _ => Nat.zero_le _, (fun _ h9 => absurd h9 (Nat.not_lt_zero _))⟩, ⟨Nat.zero_le _, fun _ => Nat.zero_le _, fun _ => Nat.zero_le _, (fun _ h9 => absurd h9 (Nat.not_lt_zero _))⟩, ⟨Nat.zero_le _, (fun _ h9 => absurd h9 (Nat.not_lt_zero _)), (fun _ h9 => absurd h9 (Nat.not_lt_zero _)), (fun _ h9 => absurd h9 (Nat.not_lt_zero _)), fun _ => Nat.zero_le _⟩, Or.inl ⟨rfl, rfl⟩, fun _ => Nat.zero_le _, fun _ => Nat.zero_le _⟩ (fun k hk => by rcases (show k = 0 ∨ k = 1 ∨ k = 2 ∨ k = 3 by omega) with rfl | rfl | rfl | rfl <;> rfl) (fun _ _ h9 => Bool.noConfusion h9) (fun _ => Nat.two_pow_pos 8) (fun _ => Nat.two_pow_pos 8) (fun _ => Nat.two_pow_pos 8) (fun _ => Nat.two_pow_pos 8))
set_option maxRecDepth 20000 in
set_option maxHeartbeats 4000000 in
theorem whole_start {p : Program} {e : Env} {s : State} {m : MethodId} {below : List Frame} {meth : Method} {c : Code} (l : Launch) (hflags : l.flags = flags0) {b L : Nat} {xs : Nat → Int32} (hL : L ≤ 3584) (C0 : lw_At p s m meth c b L xs) : W p l e room_1 s m #[Value.ref b] below meth c s.heap [] 0 0 (lw_Z below #[Value.ref b] s) (entryFrame m ([Value.ref b] : List Value).toArray 4) := by
  obtain ⟨hx, hb, hr, hml, hown, hts, hX, hbl, hlocks, hgv⟩ := id C0
  have htsW : ∀ w ∈ wsL_law, w.before #[Value.ref b] s = true := fun w hw => hts w (wsL_law_in w hw)
  obtain ⟨k0, i0, hk0⟩ := u_known (C := RX0) (T := TX0) (N := 3) (n := 3) htsW mw_X0 (htsW _ m_iX0)
  obtain ⟨k1, i1, hk1⟩ := u_known (C := RX1) (T := TX1) (N := 3) (n := 3) htsW mw_X1 (htsW _ m_iX1)
  obtain ⟨k2, i2, hk2⟩ := u_known (C := RX2) (T := TX2) (N := 5) (n := 5) htsW mw_X2 (htsW _ m_iX2)
  obtain ⟨k3, i3, hk3⟩ := u_known (C := RX3) (T := TX3) (N := 4) (n := 4) htsW mw_X3 (htsW _ m_iX3)
  obtain ⟨k4, i4, hk4⟩ := u_known (C := RX4) (T := TX4) (N := 4) (n := 4) htsW mw_X4 (htsW _ m_iX4)
  obtain ⟨k5, i5, hk5⟩ := u_known (C := RX6) (T := TX6) (N := 2) (n := 2) htsW mw_X6 (htsW _ m_iX6)
  obtain ⟨k6, i6, hk6⟩ := u_known (C := RX7) (T := TX7) (N := 9) (n := 9) htsW mw_X7 (htsW _ m_iX7)
  obtain ⟨k7, i7, hk7⟩ := u_known (C := RX8) (T := TX8) (N := 23) (n := 23) htsW mw_X8 (htsW _ m_iX8)
  obtain ⟨cI, kI, pI, hI1, hI2, hI3⟩ := Cond.arrayClass_spec (htsW _ m_arrI)
  obtain ⟨cZ, kZ, pZ, hZ1, hZ2, hZ3⟩ := Cond.arrayClass_spec (htsW _ m_arrZ)
  have hov : (Cond.arrayOver (.array .int)).before #[Value.ref b] s = true := hts _ (List.mem_append_right _ (List.mem_of_getElem? (i := 80) (by decide +kernel)))
  obtain ⟨pA, cA, kA, hA0, -, hA2, hA3, hA1⟩ := arrayOverA_spec hov
  have hKc : ∀ (k : Nat) (q : vw_C), vwCl[k]? = some q → u_Kn s q.1 q.2.1 q.2.2 ((fun k => if k = 0 then k0 else if k = 1 then k1 else if k = 2 then k2 else if k = 3 then k3 else if k = 4 then k4 else if k = 5 then k5 else if k = 6 then k6 else k7) k) ((fun k => if k = 0 then i0 else if k = 1 then i1 else if k = 2 then i2 else if k = 3 then i3 else if k = 4 then i4 else if k = 5 then i5 else if k = 6 then i6 else i7) k) := by
    intro k q hq
    match k, hq with
    | 0, hq => cases hq; exact hk0
    | 1, hq => cases hq; exact hk1
    | 2, hq => cases hq; exact hk2
    | 3, hq => cases hq; exact hk3
    | 4, hq => cases hq; exact hk4
    | 5, hq => cases hq; exact hk5
    | 6, hq => cases hq; exact hk6
    | 7, hq => cases hq; exact hk7
    | k + 8, hq => simp [vwCl] at hq
  have hK : va_K ((fun k => if k = 0 then k0 else if k = 1 then k1 else if k = 2 then k2 else if k = 3 then k3 else if k = 4 then k4 else if k = 5 then k5 else if k = 6 then k6 else k7), (fun k => if k = 0 then i0 else if k = 1 then i1 else if k = 2 then i2 else if k = 3 then i3 else if k = 4 then i4 else if k = 5 then i5 else if k = 6 then i6 else i7)) vwCl [(cI, .int), (cZ, .boolean), (cA, .array .int)] s := by
    refine ⟨hKc, fun k q hq => ?_⟩
    match k, hq with
    | 0, hq => cases hq; exact ⟨fun n z => ⟨fun k h => (by cases h), kI, hI2, pI, hI3⟩, hI1⟩
    | 1, hq => cases hq; exact ⟨fun n z => ⟨fun k h => (by cases h), kZ, hZ2, pZ, hZ3⟩, hZ1⟩
    | 2, hq => cases hq; exact ⟨fun n z => ⟨fun k h => (by cases h), kA, hA2, pA, hA3⟩, hA1⟩
    | k + 3, hq => simp at hq
  have hnw : vNw s := ⟨va_Nw.of rfl (hts _ (List.mem_append_right _ (List.mem_of_getElem? (i := 377) (by decide +kernel)))), va_Nw.of rfl (hts _ (List.mem_append_right _ (List.mem_of_getElem? (i := 346) (by decide +kernel))))⟩
  have hni : vNi s := ⟨va_Nw.of rfl (hts _ (List.mem_append_right _ (List.mem_of_getElem? (i := 23) (by decide +kernel)))), va_Nw.of rfl (hts _ (List.mem_append_right _ (List.mem_of_getElem? (i := 37) (by decide +kernel)))), va_Nw.of rfl (hts _ (List.mem_append_right _ (List.mem_of_getElem? (i := 53) (by decide +kernel)))), va_Nw.of rfl (hts _ (List.mem_append_right _ (List.mem_of_getElem? (i := 75) (by decide +kernel)))), va_Nw.of rfl (hts _ (List.mem_append_right _ (List.mem_of_getElem? (i := 97) (by decide +kernel)))), va_Nw.of rfl (hts _ (List.mem_append_right _ (List.mem_of_getElem? (i := 116) (by decide +kernel)))), hov⟩
  have key := law_all (x := ((l, ((fun k => if k = 0 then k0 else if k = 1 then k1 else if k = 2 then k2 else if k = 3 then k3 else if k = 4 then k4 else if k = 5 then k5 else if k = 6 then k6 else k7), (fun k => if k = 0 then i0 else if k = 1 then i1 else if k = 2 then i2 else if k = 3 then i3 else if k = 4 then i4 else if k = 5 then i5 else if k = 6 then i6 else i7)), cI, cZ, cA), p, e, room_1, s, m, #[Value.ref b], below, meth, c, 0, 0, lw_Z below #[Value.ref b] s, (fun q => s.heap.size ≤ q), 4)) (g := (l, ((fun k => if k = 0 then k0 else if k = 1 then k1 else if k = 2 then k2 else if k = 3 then k3 else if k = 4 then k4 else if k = 5 then k5 else if k = 6 then k6 else k7), (fun k => if k = 0 then i0 else if k = 1 then i1 else if k = 2 then i2 else if k = 3 then i3 else if k = 4 then i4 else if k = 5 then i5 else if k = 6 then i6 else i7)), cI, cZ, cA)) (b := b) (L := L) (xs := xs) (nm := meth.name) ⟨⟨rfl, rfl, rfl, hx, hb, hml, hown, htsW, hK, fun q h9 => h9, hlocks, hnw, Nat.zero_le _, Nat.zero_le _⟩, rfl, rfl, rfl, hni⟩ ⟨hX, hbl, Nat.not_le.mpr hbl, hL⟩ ⟨rfl, rfl, rfl, hr, fun q h9 => h9⟩
  rw [lg_entry_eq]
  exact key s.heap [] _ (fun k q h9 => by simp at h9) ⟨fun i j p q h9 => by simp at h9, fun k q h9 => by simp at h9⟩ va_S.rf (vL_entry [.ref b] 4 (Nat.le_of_ble_eq_true rfl) (fun v hv => by rw [List.mem_singleton.mp hv]; rfl))
