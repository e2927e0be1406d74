theorem lkI_X6 : LkI yX6_init cX6_init 1 := ⟨mn_X6_init, mi_X6, mc_X6_init, ⟨by decide, by decide, by decide +kernel⟩, rfl⟩
def P_X6_init (g : vG) (t0 : Nat) : va_W → Prop := fun wo => ∃ t1 : Nat, wo = [(t0, .inr (5, [.int (nI 0), .ref t1])), (t1, .inl (gI g, 8, .inl (fun _ => nI 0)))]
set_option maxRecDepth 20000 in
set_option maxHeartbeats 4000000 in
theorem c_X6_init {g : vG} {t0 : Nat} : CtA g yX6_init cX6_init 1 ({ frames := 1, cells := 1, slots := 8, locals := 20 } : Room) 1 8 [(t0, .inr (5, [.int (nI 0), .null]))] t0 (P_X6_init g t0) := by
  refine CtA.ofV RX6 rfl (by decide +kernel) rfl (fun x h hr => ?_)
  refine v_aload_n0 h.1 dX6_init_0 ?_
  refine v_objI h.1 m_oX6 (Nat.le_of_ble_eq_true rfl) (Nat.le_of_ble_eq_true rfl) dX6_init_1 ?_
  refine v_aload_n0 h.1 dX6_init_4 ?_
  refine v_iconst h.1 (v := nI 0) dX6_init_5 (by decide) ?_
  refine v_put h.1 mw_X6 tyX6 tyX6_ok nmX6 0 rfl rfl 0 (by decide) mf_X6_9 rfl (ty := .int) (by decide +kernel) rfl rfl (Nat.le_of_ble_eq_true rfl) dX6_init_6 rfl ?_
  show vM x 9 [some (.ref t0)] [] [(t0, .inr (5, [.int (nI 0), .null]))]
  refine v_aload_n0 h.1 dX6_init_9 ?_
  refine v_bipush h.1 (v := nI 8) dX6_init_10 (by decide) ?_
  refine v_newI (k := 8) h (by decide) (Nat.le_of_ble_eq_true rfl) (Nat.le_of_ble_eq_true rfl) dX6_init_12 (fun t1 => ?_)
  have h := h.grow (a := 1) (b := 8) (Nat.le_of_ble_eq_true rfl) (Nat.le_of_ble_eq_true rfl)
  have hr := hr.grow (a := 1) (b := 8)
  generalize vgr x 1 8 = x at h hr ⊢
  show vM x 14 [some (.ref t0)] [.ref t1, .ref t0] [(t0, .inr (5, [.int (nI 0), .null])), (t1, .inl (gI g, 8, .inl (fun _ => nI 0)))]
  refine v_putF h mw_X6 tyX6 tyX6_ok nmX6 0 rfl rfl 1 (by decide) mf_X6_15 rfl rfl (ty := .array .int) (by decide +kernel) rfl rfl (Nat.le_of_ble_eq_true rfl) dX6_init_14 rfl ?_
  show vM x 17 [some (.ref t0)] [] [(t0, .inr (5, [.int (nI 0), .ref t1])), (t1, .inl (gI g, 8, .inl (fun _ => nI 0)))]
  exact v_vretC h hr dX6_init_17 ⟨t1, rfl⟩
theorem lkI_X1 : LkI yX1_init cX1_init 1 := ⟨mn_X1_init, mi_X1, mc_X1_init, ⟨by decide, by decide, by decide +kernel⟩, rfl⟩
def P_X1_init (g : vG) (h0 : Nat) : va_W → Prop := fun wo => ∃ h1 : Nat, ∃ h2 : Nat, wo = [(h0, .inr (1, [.int (nI 0), .ref h1, .ref h2])), (h1, .inl (gI g, 6, .inl (fun _ => nI 0))), (h2, .inl (gI g, 6, .inl (fun _ => nI 0)))]
set_option maxRecDepth 20000 in
set_option maxHeartbeats 4000000 in
theorem c_X1_init {g : vG} {h0 : Nat} : CtA g yX1_init cX1_init 1 ({ frames := 1, cells := 2, slots := 12, locals := 20 } : Room) 2 12 [(h0, .inr (1, [.int (nI 0), .null, .null]))] h0 (P_X1_init g h0) := by
  refine CtA.ofV RX1 rfl (by decide +kernel) rfl (fun x h hr => ?_)
  refine v_aload_n0 h.1 dX1_init_0 ?_
  refine v_objI h.1 m_oX1 (Nat.le_of_ble_eq_true rfl) (Nat.le_of_ble_eq_true rfl) dX1_init_1 ?_
  refine v_aload_n0 h.1 dX1_init_4 ?_
  refine v_iconst h.1 (v := nI 0) dX1_init_5 (by decide) ?_
  refine v_put h.1 mw_X1 tyX1 tyX1_ok nmX1 0 rfl rfl 0 (by decide) mf_X1_9 rfl (ty := .int) (by decide +kernel) rfl rfl (Nat.le_of_ble_eq_true rfl) dX1_init_6 rfl ?_
  show vM x 9 [some (.ref h0)] [] [(h0, .inr (1, [.int (nI 0), .null, .null]))]
  refine v_aload_n0 h.1 dX1_init_9 ?_
  refine v_bipush h.1 (v := nI 6) dX1_init_10 (by decide) ?_
  refine v_newI (k := 6) h (by decide) (Nat.le_of_ble_eq_true rfl) (Nat.le_of_ble_eq_true rfl) dX1_init_12 (fun h1 => ?_)
  have h := h.grow (a := 1) (b := 6) (Nat.le_of_ble_eq_true rfl) (Nat.le_of_ble_eq_true rfl)
  have hr := hr.grow (a := 1) (b := 6)
  generalize vgr x 1 6 = x at h hr ⊢
  show vM x 14 [some (.ref h0)] [.ref h1, .ref h0] [(h0, .inr (1, [.int (nI 0), .null, .null])), (h1, .inl (gI g, 6, .inl (fun _ => nI 0)))]
  refine v_putF h mw_X1 tyX1 tyX1_ok nmX1 0 rfl rfl 1 (by decide) mf_X1_15 rfl rfl (ty := .array .int) (by decide +kernel) rfl rfl (Nat.le_of_ble_eq_true rfl) dX1_init_14 rfl ?_
  show vM x 17 [some (.ref h0)] [] [(h0, .inr (1, [.int (nI 0), .ref h1, .null])), (h1, .inl (gI g, 6, .inl (fun _ => nI 0)))]
  refine v_aload_n0 h.1 dX1_init_17 ?_
  refine v_bipush h.1 (v := nI 6) dX1_init_18 (by decide) ?_
  refine v_newI (k := 6) h (by decide) (Nat.le_of_ble_eq_true rfl) (Nat.le_of_ble_eq_true rfl) dX1_init_20 (fun h2 => ?_)
  have h := h.grow (a := 1) (b := 6) (Nat.le_of_ble_eq_true rfl) (Nat.le_of_ble_eq_true rfl)
  have hr := hr.grow (a := 1) (b := 6)
  generalize vgr x 1 6 = x at h hr ⊢
  show vM x 22 [some (.ref h0)] [.ref h2, .ref h0] [(h0, .inr (1, [.int (nI 0), .ref h1, .null])), (h1, .inl (gI g, 6, .inl (fun _ => nI 0))), (h2, .inl (gI g, 6, .inl (fun _ => nI 0)))]
  refine v_putF h mw_X1 tyX1 tyX1_ok nmX1 0 rfl rfl 2 (by decide) mf_X1_19 rfl rfl (ty := .array .int) (by decide +kernel) rfl rfl (Nat.le_of_ble_eq_true rfl) dX1_init_22 rfl ?_
  show vM x 25 [some (.ref h0)] [] [(h0, .inr (1, [.int (nI 0), .ref h1, .ref h2])), (h1, .inl (gI g, 6, .inl (fun _ => nI 0))), (h2, .inl (gI g, 6, .inl (fun _ => nI 0)))]
  exact v_vretC h hr dX1_init_25 ⟨h1, h2, rfl⟩
theorem lkI_X2 : LkI yX2_init cX2_init 1 := ⟨mn_X2_init, mi_X2, mc_X2_init, ⟨by decide, by decide, by decide +kernel⟩, rfl⟩
def P_X2_init (g : vG) (y0 : Nat) : va_W → Prop := fun wo => ∃ y1 : Nat, ∃ y2 : Nat, ∃ y3 : Nat, ∃ y4 : Nat, wo = [(y0, .inr (2, [.int (nI 0), .ref y1, .ref y2, .ref y3, .ref y4])), (y1, .inl (gI g, 10, .inl (fun _ => nI 0))), (y2, .inl (gI g, 10, .inl (fun _ => nI 0))), (y3, .inl (gI g, 10, .inl (fun _ => nI 0))), (y4, .inl (gI g, 10, .inl (fun _ => nI 0)))]
set_option maxRecDepth 20000 in
set_option maxHeartbeats 4000000 in
theorem c_X2_init {g : vG} {y0 : Nat} : CtA g yX2_init cX2_init 1 ({ frames := 1, cells := 4, slots := 40, locals := 20 } : Room) 4 40 [(y0, .inr (2, [.int (nI 0), .null, .null, .null, .null]))] y0 (P_X2_init g y0) := by
  refine CtA.ofV RX2 rfl (by decide +kernel) rfl (fun x h hr => ?_)
  refine v_aload_n0 h.1 dX2_init_0 ?_
  refine v_objI h.1 m_oX2 (Nat.le_of_ble_eq_true rfl) (Nat.le_of_ble_eq_true rfl) dX2_init_1 ?_
  refine v_aload_n0 h.1 dX2_init_4 ?_
  refine v_iconst h.1 (v := nI 0) dX2_init_5 (by decide) ?_
  refine v_put h.1 mw_X2 tyX2 tyX2_ok nmX2 0 rfl rfl 0 (by decide) mf_X2_9 rfl (ty := .int) (by decide +kernel) rfl rfl (Nat.le_of_ble_eq_true rfl) dX2_init_6 rfl ?_
  show vM x 9 [some (.ref y0)] [] [(y0, .inr (2, [.int (nI 0), .null, .null, .null, .null]))]
  refine v_aload_n0 h.1 dX2_init_9 ?_
  refine v_bipush h.1 (v := nI 10) dX2_init_10 (by decide) ?_
  refine v_newI (k := 10) h (by decide) (Nat.le_of_ble_eq_true rfl) (Nat.le_of_ble_eq_true rfl) dX2_init_12 (fun y1 => ?_)
  have h := h.grow (a := 1) (b := 10) (Nat.le_of_ble_eq_true rfl) (Nat.le_of_ble_eq_true rfl)
  have hr := hr.grow (a := 1) (b := 10)
  generalize vgr x 1 10 = x at h hr ⊢
  show vM x 14 [some (.ref y0)] [.ref y1, .ref y0] [(y0, .inr (2, [.int (nI 0), .null, .null, .null, .null])), (y1, .inl (gI g, 10, .inl (fun _ => nI 0)))]
  refine v_putF h mw_X2 tyX2 tyX2_ok nmX2 0 rfl rfl 1 (by decide) mf_X2_15 rfl rfl (ty := .array .int) (by decide +kernel) rfl rfl (Nat.le_of_ble_eq_true rfl) dX2_init_14 rfl ?_
  show vM x 17 [some (.ref y0)] [] [(y0, .inr (2, [.int (nI 0), .ref y1, .null, .null, .null])), (y1, .inl (gI g, 10, .inl (fun _ => nI 0)))]
  refine v_aload_n0 h.1 dX2_init_17 ?_
  refine v_bipush h.1 (v := nI 10) dX2_init_18 (by decide) ?_
  refine v_newI (k := 10) h (by decide) (Nat.le_of_ble_eq_true rfl) (Nat.le_of_ble_eq_true rfl) dX2_init_20 (fun y2 => ?_)
  have h := h.grow (a := 1) (b := 10) (Nat.le_of_ble_eq_true rfl) (Nat.le_of_ble_eq_true rfl)
  have hr := hr.grow (a := 1) (b := 10)
  generalize vgr x 1 10 = x at h hr ⊢
  show vM x 22 [some (.ref y0)] [.ref y2, .ref y0] [(y0, .inr (2, [.int (nI 0), .ref y1, .null, .null, .null])), (y1, .inl (gI g, 10, .inl (fun _ => nI 0))), (y2, .inl (gI g, 10, .inl (fun _ => nI 0)))]
  refine v_putF h mw_X2 tyX2 tyX2_ok nmX2 0 rfl rfl 2 (by decide) mf_X2_19 rfl rfl (ty := .array .int) (by decide +kernel) rfl rfl (Nat.le_of_ble_eq_true rfl) dX2_init_22 rfl ?_
  show vM x 25 [some (.ref y0)] [] [(y0, .inr (2, [.int (nI 0), .ref y1, .ref y2, .null, .null])), (y1, .inl (gI g, 10, .inl (fun _ => nI 0))), (y2, .inl (gI g, 10, .inl (fun _ => nI 0)))]
  refine v_aload_n0 h.1 dX2_init_25 ?_
  refine v_bipush h.1 (v := nI 10) dX2_init_26 (by decide) ?_
  refine v_newI (k := 10) h (by decide) (Nat.le_of_ble_eq_true rfl) (Nat.le_of_ble_eq_true rfl) dX2_init_28 (fun y3 => ?_)
  have h := h.grow (a := 1) (b := 10) (Nat.le_of_ble_eq_true rfl) (Nat.le_of_ble_eq_true rfl)
  have hr := hr.grow (a := 1) (b := 10)
  generalize vgr x 1 10 = x at h hr ⊢
  show vM x 30 [some (.ref y0)] [.ref y3, .ref y0] [(y0, .inr (2, [.int (nI 0), .ref y1, .ref y2, .null, .null])), (y1, .inl (gI g, 10, .inl (fun _ => nI 0))), (y2, .inl (gI g, 10, .inl (fun _ => nI 0))), (y3, .inl (gI g, 10, .inl (fun _ => nI 0)))]
  refine v_putF h mw_X2 tyX2 tyX2_ok nmX2 0 rfl rfl 3 (by decide) mf_X2_22 rfl rfl (ty := .array .int) (by decide +kernel) rfl rfl (Nat.le_of_ble_eq_true rfl) dX2_init_30 rfl ?_
  show vM x 33 [some (.ref y0)] [] [(y0, .inr (2, [.int (nI 0), .ref y1, .ref y2, .ref y3, .null])), (y1, .inl (gI g, 10, .inl (fun _ => nI 0))), (y2, .inl (gI g, 10, .inl (fun _ => nI 0))), (y3, .inl (gI g, 10, .inl (fun _ => nI 0)))]
  refine v_aload_n0 h.1 dX2_init_33 ?_
  refine v_bipush h.1 (v := nI 10) dX2_init_34 (by decide) ?_
  refine v_newI (k := 10) h (by decide) (Nat.le_of_ble_eq_true rfl) (Nat.le_of_ble_eq_true rfl) dX2_init_36 (fun y4 => ?_)
  have h := h.grow (a := 1) (b := 10) (Nat.le_of_ble_eq_true rfl) (Nat.le_of_ble_eq_true rfl)
  have hr := hr.grow (a := 1) (b := 10)
  generalize vgr x 1 10 = x at h hr ⊢
  show vM x 38 [some (.ref y0)] [.ref y4, .ref y0] [(y0, .inr (2, [.int (nI 0), .ref y1, .ref y2, .ref y3, .null])), (y1, .inl (gI g, 10, .inl (fun _ => nI 0))), (y2, .inl (gI g, 10, .inl (fun _ => nI 0))), (y3, .inl (gI g, 10, .inl (fun _ => nI 0))), (y4, .inl (gI g, 10, .inl (fun _ => nI 0)))]
  refine v_putF h mw_X2 tyX2 tyX2_ok nmX2 0 rfl rfl 4 (by decide) mf_X2_25 rfl rfl (ty := .array .int) (by decide +kernel) rfl rfl (Nat.le_of_ble_eq_true rfl) dX2_init_38 rfl ?_
  show vM x 41 [some (.ref y0)] [] [(y0, .inr (2, [.int (nI 0), .ref y1, .ref y2, .ref y3, .ref y4])), (y1, .inl (gI g, 10, .inl (fun _ => nI 0))), (y2, .inl (gI g, 10, .inl (fun _ => nI 0))), (y3, .inl (gI g, 10, .inl (fun _ => nI 0))), (y4, .inl (gI g, 10, .inl (fun _ => nI 0)))]
  exact v_vretC h hr dX2_init_41 ⟨y1, y2, y3, y4, rfl⟩
theorem lkI_X3 : LkI yX3_init cX3_init 1 := ⟨mn_X3_init, mi_X3, mc_X3_init, ⟨by decide, by decide, by decide +kernel⟩, rfl⟩
def P_X3_init (g : vG) (s0 : Nat) : va_W → Prop := fun wo => ∃ s1 : Nat, ∃ s2 : Nat, ∃ s3 : Nat, ∃ s4 : Nat, wo = [(s0, .inr (3, [.ref s1, .ref s2, .ref s3, .ref s4])), (s1, .inl (gZ g, 4, .inl (fun _ => nI (bN false)))), (s2, .inl (gI g, 4, .inl (fun _ => nI 0))), (s3, .inl (gI g, 4, .inl (fun _ => nI 0))), (s4, .inl (gA g, 4, .inr (.inr (.inr (.inr (fun i => if i < 4 then some (s4 + 1 + i) else none)))))), (s4 + 1 + 0, .inl (gI g, 40, .inl (fun _ => nI 0))), (s4 + 1 + 1, .inl (gI g, 40, .inl (fun _ => nI 0))), (s4 + 1 + 2, .inl (gI g, 40, .inl (fun _ => nI 0))), (s4 + 1 + 3, .inl (gI g, 40, .inl (fun _ => nI 0)))]
set_option maxRecDepth 20000 in
set_option maxHeartbeats 4000000 in
theorem c_X3_init {g : vG} {s0 : Nat} : CtA g yX3_init cX3_init 1 ({ frames := 1, cells := 8, slots := 176, locals := 20 } : Room) 8 176 [(s0, .inr (3, [.null, .null, .null, .null]))] s0 (P_X3_init g s0) := by
  refine CtA.ofV RX3 rfl (by decide +kernel) rfl (fun x h hr => ?_)
  refine v_aload_n0 h.1 dX3_init_0 ?_
  refine v_objI h.1 m_oX3 (Nat.le_of_ble_eq_true rfl) (Nat.le_of_ble_eq_true rfl) dX3_init_1 ?_
  refine v_aload_n0 h.1 dX3_init_4 ?_
  refine v_iconst h.1 (v := nI 4) dX3_init_5 (by decide) ?_
  refine v_newZ (k := 4) h (by decide) (Nat.le_of_ble_eq_true rfl) (Nat.le_of_ble_eq_true rfl) dX3_init_6 (fun s1 => ?_)
  have h := h.grow (a := 1) (b := 4) (Nat.le_of_ble_eq_true rfl) (Nat.le_of_ble_eq_true rfl)
  have hr := hr.grow (a := 1) (b := 4)
  generalize vgr x 1 4 = x at h hr ⊢
  show vM x 8 [some (.ref s0)] [.ref s1, .ref s0] [(s0, .inr (3, [.null, .null, .null, .null])), (s1, .inl (gZ g, 4, .inl (fun _ => nI (bN false))))]
  refine v_putF h mw_X3 tyX3 tyX3_ok nmX3 0 rfl rfl 0 (by decide) mf_X3_9 rfl rfl (ty := .array .boolean) (by decide +kernel) rfl rfl (Nat.le_of_ble_eq_true rfl) dX3_init_8 rfl ?_
  show vM x 11 [some (.ref s0)] [] [(s0, .inr (3, [.ref s1, .null, .null, .null])), (s1, .inl (gZ g, 4, .inl (fun _ => nI (bN false))))]
  refine v_aload_n0 h.1 dX3_init_11 ?_
  refine v_iconst h.1 (v := nI 4) dX3_init_12 (by decide) ?_
  refine v_newI (k := 4) h (by decide) (Nat.le_of_ble_eq_true rfl) (Nat.le_of_ble_eq_true rfl) dX3_init_13 (fun s2 => ?_)
  have h := h.grow (a := 1) (b := 4) (Nat.le_of_ble_eq_true rfl) (Nat.le_of_ble_eq_true rfl)
  have hr := hr.grow (a := 1) (b := 4)
  generalize vgr x 1 4 = x at h hr ⊢
  show vM x 15 [some (.ref s0)] [.ref s2, .ref s0] [(s0, .inr (3, [.ref s1, .null, .null, .null])), (s1, .inl (gZ g, 4, .inl (fun _ => nI (bN false)))), (s2, .inl (gI g, 4, .inl (fun _ => nI 0)))]
  refine v_putF h mw_X3 tyX3 tyX3_ok nmX3 0 rfl rfl 1 (by decide) mf_X3_15 rfl rfl (ty := .array .int) (by decide +kernel) rfl rfl (Nat.le_of_ble_eq_true rfl) dX3_init_15 rfl ?_
  show vM x 18 [some (.ref s0)] [] [(s0, .inr (3, [.ref s1, .ref s2, .null, .null])), (s1, .inl (gZ g, 4, .inl (fun _ => nI (bN false)))), (s2, .inl (gI g, 4, .inl (fun _ => nI 0)))]
  refine v_aload_n0 h.1 dX3_init_18 ?_
  refine v_iconst h.1 (v := nI 4) dX3_init_19 (by decide) ?_
  refine v_newI (k := 4) h (by decide) (Nat.le_of_ble_eq_true rfl) (Nat.le_of_ble_eq_true rfl) dX3_init_20 (fun s3 => ?_)
  have h := h.grow (a := 1) (b := 4) (Nat.le_of_ble_eq_true rfl) (Nat.le_of_ble_eq_true rfl)
  have hr := hr.grow (a := 1) (b := 4)
  generalize vgr x 1 4 = x at h hr ⊢
  show vM x 22 [some (.ref s0)] [.ref s3, .ref s0] [(s0, .inr (3, [.ref s1, .ref s2, .null, .null])), (s1, .inl (gZ g, 4, .inl (fun _ => nI (bN false)))), (s2, .inl (gI g, 4, .inl (fun _ => nI 0))), (s3, .inl (gI g, 4, .inl (fun _ => nI 0)))]
  refine v_putF h mw_X3 tyX3 tyX3_ok nmX3 0 rfl rfl 2 (by decide) mf_X3_19 rfl rfl (ty := .array .int) (by decide +kernel) rfl rfl (Nat.le_of_ble_eq_true rfl) dX3_init_22 rfl ?_
  show vM x 25 [some (.ref s0)] [] [(s0, .inr (3, [.ref s1, .ref s2, .ref s3, .null])), (s1, .inl (gZ g, 4, .inl (fun _ => nI (bN false)))), (s2, .inl (gI g, 4, .inl (fun _ => nI 0))), (s3, .inl (gI g, 4, .inl (fun _ => nI 0)))]
  refine v_aload_n0 h.1 dX3_init_25 ?_
  refine v_iconst h.1 (v := nI 4) dX3_init_26 (by decide) ?_
  refine v_bipush h.1 (v := nI 40) dX3_init_27 (by decide) ?_
  refine v_multi h m_cl22 (Nat.le_of_ble_eq_true rfl) (Nat.le_of_ble_eq_true rfl) dX3_init_29 (fun s4 => ?_)
  have h := h.grow (a := 5) (b := 164) (Nat.le_of_ble_eq_true rfl) (Nat.le_of_ble_eq_true rfl)
  have hr := hr.grow (a := 5) (b := 164)
  generalize vgr x 5 164 = x at h hr ⊢
  show vM x 33 [some (.ref s0)] [.ref s4, .ref s0] [(s0, .inr (3, [.ref s1, .ref s2, .ref s3, .null])), (s1, .inl (gZ g, 4, .inl (fun _ => nI (bN false)))), (s2, .inl (gI g, 4, .inl (fun _ => nI 0))), (s3, .inl (gI g, 4, .inl (fun _ => nI 0))), (s4, .inl (gA g, 4, .inr (.inr (.inr (.inr (fun i => if i < 4 then some (s4 + 1 + i) else none)))))), (s4 + 1 + 0, .inl (gI g, 40, .inl (fun _ => nI 0))), (s4 + 1 + 1, .inl (gI g, 40, .inl (fun _ => nI 0))), (s4 + 1 + 2, .inl (gI g, 40, .inl (fun _ => nI 0))), (s4 + 1 + 3, .inl (gI g, 40, .inl (fun _ => nI 0)))]
  refine v_putF h mw_X3 tyX3 tyX3_ok nmX3 0 rfl rfl 3 (by decide) mf_X3_24 rfl rfl (ty := .array (.array .int)) (by decide +kernel) rfl rfl (Nat.le_of_ble_eq_true rfl) dX3_init_33 rfl ?_
  show vM x 36 [some (.ref s0)] [] [(s0, .inr (3, [.ref s1, .ref s2, .ref s3, .ref s4])), (s1, .inl (gZ g, 4, .inl (fun _ => nI (bN false)))), (s2, .inl (gI g, 4, .inl (fun _ => nI 0))), (s3, .inl (gI g, 4, .inl (fun _ => nI 0))), (s4, .inl (gA g, 4, .inr (.inr (.inr (.inr (fun i => if i < 4 then some (s4 + 1 + i) else none)))))), (s4 + 1 + 0, .inl (gI g, 40, .inl (fun _ => nI 0))), (s4 + 1 + 1, .inl (gI g, 40, .inl (fun _ => nI 0))), (s4 + 1 + 2, .inl (gI g, 40, .inl (fun _ => nI 0))), (s4 + 1 + 3, .inl (gI g, 40, .inl (fun _ => nI 0)))]
  exact v_vretC h hr dX3_init_36 ⟨s1, s2, s3, s4, rfl⟩
theorem lkI_X4 : LkI yX4_init cX4_init 1 := ⟨mn_X4_init, mi_X4, mc_X4_init, ⟨by decide, by decide, by decide +kernel⟩, rfl⟩
def P_X4_init (g : vG) (e0 : Nat) : va_W → Prop := fun wo => ∃ e1 : Nat, ∃ e2 : Nat, ∃ e3 : Nat, wo = [(e0, .inr (4, [.int (nI 0), .ref e1, .ref e2, .ref e3])), (e1, .inl (gI g, 8, .inl (fun _ => nI 0))), (e2, .inl (gI g, 8, .inl (fun _ => nI 0))), (e3, .inl (gI g, 256, .inl (fun _ => nI 0)))]
set_option maxRecDepth 20000 in
set_option maxHeartbeats 4000000 in
theorem c_X4_init {g : vG} {e0 : Nat} : CtA g yX4_init cX4_init 1 ({ frames := 1, cells := 3, slots := 272, locals := 20 } : Room) 3 272 [(e0, .inr (4, [.int (nI 0), .null, .null, .null]))] e0 (P_X4_init g e0) := by
  refine CtA.ofV RX4 rfl (by decide +kernel) rfl (fun x h hr => ?_)
  refine v_aload_n0 h.1 dX4_init_0 ?_
  refine v_objI h.1 m_oX4 (Nat.le_of_ble_eq_true rfl) (Nat.le_of_ble_eq_true rfl) dX4_init_1 ?_
  refine v_aload_n0 h.1 dX4_init_4 ?_
  refine v_iconst h.1 (v := nI 0) dX4_init_5 (by decide) ?_
  refine v_put h.1 mw_X4 tyX4 tyX4_ok nmX4 0 rfl rfl 0 (by decide) mf_X4_9 rfl (ty := .int) (by decide +kernel) rfl rfl (Nat.le_of_ble_eq_true rfl) dX4_init_6 rfl ?_
  show vM x 9 [some (.ref e0)] [] [(e0, .inr (4, [.int (nI 0), .null, .null, .null]))]
  refine v_aload_n0 h.1 dX4_init_9 ?_
  refine v_bipush h.1 (v := nI 8) dX4_init_10 (by decide) ?_
  refine v_newI (k := 8) h (by decide) (Nat.le_of_ble_eq_true rfl) (Nat.le_of_ble_eq_true rfl) dX4_init_12 (fun e1 => ?_)
  have h := h.grow (a := 1) (b := 8) (Nat.le_of_ble_eq_true rfl) (Nat.le_of_ble_eq_true rfl)
  have hr := hr.grow (a := 1) (b := 8)
  generalize vgr x 1 8 = x at h hr ⊢
  show vM x 14 [some (.ref e0)] [.ref e1, .ref e0] [(e0, .inr (4, [.int (nI 0), .null, .null, .null])), (e1, .inl (gI g, 8, .inl (fun _ => nI 0)))]
  refine v_putF h mw_X4 tyX4 tyX4_ok nmX4 0 rfl rfl 1 (by decide) mf_X4_15 rfl rfl (ty := .array .int) (by decide +kernel) rfl rfl (Nat.le_of_ble_eq_true rfl) dX4_init_14 rfl ?_
  show vM x 17 [some (.ref e0)] [] [(e0, .inr (4, [.int (nI 0), .ref e1, .null, .null])), (e1, .inl (gI g, 8, .inl (fun _ => nI 0)))]
  refine v_aload_n0 h.1 dX4_init_17 ?_
  refine v_bipush h.1 (v := nI 8) dX4_init_18 (by decide) ?_
  refine v_newI (k := 8) h (by decide) (Nat.le_of_ble_eq_true rfl) (Nat.le_of_ble_eq_true rfl) dX4_init_20 (fun e2 => ?_)
  have h := h.grow (a := 1) (b := 8) (Nat.le_of_ble_eq_true rfl) (Nat.le_of_ble_eq_true rfl)
  have hr := hr.grow (a := 1) (b := 8)
  generalize vgr x 1 8 = x at h hr ⊢
  show vM x 22 [some (.ref e0)] [.ref e2, .ref e0] [(e0, .inr (4, [.int (nI 0), .ref e1, .null, .null])), (e1, .inl (gI g, 8, .inl (fun _ => nI 0))), (e2, .inl (gI g, 8, .inl (fun _ => nI 0)))]
  refine v_putF h mw_X4 tyX4 tyX4_ok nmX4 0 rfl rfl 2 (by decide) mf_X4_19 rfl rfl (ty := .array .int) (by decide +kernel) rfl rfl (Nat.le_of_ble_eq_true rfl) dX4_init_22 rfl ?_
  show vM x 25 [some (.ref e0)] [] [(e0, .inr (4, [.int (nI 0), .ref e1, .ref e2, .null])), (e1, .inl (gI g, 8, .inl (fun _ => nI 0))), (e2, .inl (gI g, 8, .inl (fun _ => nI 0)))]
  refine v_aload_n0 h.1 dX4_init_25 ?_
  refine v_sipush h.1 (v := nI 256) dX4_init_26 (by decide) ?_
  refine v_newI (k := 256) h (by decide) (Nat.le_of_ble_eq_true rfl) (Nat.le_of_ble_eq_true rfl) dX4_init_29 (fun e3 => ?_)
  have h := h.grow (a := 1) (b := 256) (Nat.le_of_ble_eq_true rfl) (Nat.le_of_ble_eq_true rfl)
  have hr := hr.grow (a := 1) (b := 256)
  generalize vgr x 1 256 = x at h hr ⊢
  show vM x 31 [some (.ref e0)] [.ref e3, .ref e0] [(e0, .inr (4, [.int (nI 0), .ref e1, .ref e2, .null])), (e1, .inl (gI g, 8, .inl (fun _ => nI 0))), (e2, .inl (gI g, 8, .inl (fun _ => nI 0))), (e3, .inl (gI g, 256, .inl (fun _ => nI 0)))]
  refine v_putF h mw_X4 tyX4 tyX4_ok nmX4 0 rfl rfl 3 (by decide) mf_X4_22 rfl rfl (ty := .array .int) (by decide +kernel) rfl rfl (Nat.le_of_ble_eq_true rfl) dX4_init_31 rfl ?_
  show vM x 34 [some (.ref e0)] [] [(e0, .inr (4, [.int (nI 0), .ref e1, .ref e2, .ref e3])), (e1, .inl (gI g, 8, .inl (fun _ => nI 0))), (e2, .inl (gI g, 8, .inl (fun _ => nI 0))), (e3, .inl (gI g, 256, .inl (fun _ => nI 0)))]
  exact v_vretC h hr dX4_init_34 ⟨e1, e2, e3, rfl⟩
theorem lkI_X0 : LkI yX0_init cX0_init 1 := ⟨mn_X0_init, mi_X0, mc_X0_init, ⟨by decide, by decide, by decide +kernel⟩, rfl⟩
def P_X0_init (g : vG) (r0 : Nat) : va_W → Prop := fun wo => ∃ r1 : Nat, ∃ r2 : Nat, wo = [(r0, .inr (0, [.int (nI 0), .ref r1, .ref r2])), (r1, .inl (gI g, 5, .inl (fun _ => nI 0))), (r2, .inl (gI g, 5, .inl (fun _ => nI 0)))]
set_option maxRecDepth 20000 in
set_option maxHeartbeats 4000000 in
theorem c_X0_init {g : vG} {r0 : Nat} : CtA g yX0_init cX0_init 1 ({ frames := 1, cells := 2, slots := 10, locals := 20 } : Room) 2 10 [(r0, .inr (0, [.int (nI 0), .null, .null]))] r0 (P_X0_init g r0) := by
  refine CtA.ofV RX0 rfl (by decide +kernel) rfl (fun x h hr => ?_)
  refine v_aload_n0 h.1 dX0_init_0 ?_
  refine v_objI h.1 m_oX0 (Nat.le_of_ble_eq_true rfl) (Nat.le_of_ble_eq_true rfl) dX0_init_1 ?_
  refine v_aload_n0 h.1 dX0_init_4 ?_
  refine v_iconst h.1 (v := nI 0) dX0_init_5 (by decide) ?_
  refine v_put h.1 mw_X0 tyX0 tyX0_ok nmX0 0 rfl rfl 0 (by decide) mf_X0_9 rfl (ty := .int) (by decide +kernel) rfl rfl (Nat.le_of_ble_eq_true rfl) dX0_init_6 rfl ?_
  show vM x 9 [some (.ref r0)] [] [(r0, .inr (0, [.int (nI 0), .null, .null]))]
  refine v_aload_n0 h.1 dX0_init_9 ?_
  refine v_iconst h.1 (v := nI 5) dX0_init_10 (by decide) ?_
  refine v_newI (k := 5) h (by decide) (Nat.le_of_ble_eq_true rfl) (Nat.le_of_ble_eq_true rfl) dX0_init_11 (fun r1 => ?_)
  have h := h.grow (a := 1) (b := 5) (Nat.le_of_ble_eq_true rfl) (Nat.le_of_ble_eq_true rfl)
  have hr := hr.grow (a := 1) (b := 5)
  generalize vgr x 1 5 = x at h hr ⊢
  show vM x 13 [some (.ref r0)] [.ref r1, .ref r0] [(r0, .inr (0, [.int (nI 0), .null, .null])), (r1, .inl (gI g, 5, .inl (fun _ => nI 0)))]
  refine v_putF h mw_X0 tyX0 tyX0_ok nmX0 0 rfl rfl 1 (by decide) mf_X0_15 rfl rfl (ty := .array .int) (by decide +kernel) rfl rfl (Nat.le_of_ble_eq_true rfl) dX0_init_13 rfl ?_
  show vM x 16 [some (.ref r0)] [] [(r0, .inr (0, [.int (nI 0), .ref r1, .null])), (r1, .inl (gI g, 5, .inl (fun _ => nI 0)))]
  refine v_aload_n0 h.1 dX0_init_16 ?_
  refine v_iconst h.1 (v := nI 5) dX0_init_17 (by decide) ?_
  refine v_newI (k := 5) h (by decide) (Nat.le_of_ble_eq_true rfl) (Nat.le_of_ble_eq_true rfl) dX0_init_18 (fun r2 => ?_)
  have h := h.grow (a := 1) (b := 5) (Nat.le_of_ble_eq_true rfl) (Nat.le_of_ble_eq_true rfl)
  have hr := hr.grow (a := 1) (b := 5)
  generalize vgr x 1 5 = x at h hr ⊢
  show vM x 20 [some (.ref r0)] [.ref r2, .ref r0] [(r0, .inr (0, [.int (nI 0), .ref r1, .null])), (r1, .inl (gI g, 5, .inl (fun _ => nI 0))), (r2, .inl (gI g, 5, .inl (fun _ => nI 0)))]
  refine v_putF h mw_X0 tyX0 tyX0_ok nmX0 0 rfl rfl 2 (by decide) mf_X0_19 rfl rfl (ty := .array .int) (by decide +kernel) rfl rfl (Nat.le_of_ble_eq_true rfl) dX0_init_20 rfl ?_
  show vM x 23 [some (.ref r0)] [] [(r0, .inr (0, [.int (nI 0), .ref r1, .ref r2])), (r1, .inl (gI g, 5, .inl (fun _ => nI 0))), (r2, .inl (gI g, 5, .inl (fun _ => nI 0)))]
  exact v_vretC h hr dX0_init_23 ⟨r1, r2, rfl⟩
theorem lkI_X7 : LkI yX7_init cX7_init 1 := ⟨mn_X7_init, mi_X7, mc_X7_init, ⟨by decide, by decide, by decide +kernel⟩, rfl⟩
def P_X7_init (g : vG) (b0 : Nat) : va_W → Prop := fun wo => ∃ t0 : Nat, ∃ t1 : Nat, ∃ h0 : Nat, ∃ h1 : Nat, ∃ h2 : Nat, ∃ y0 : Nat, ∃ y1 : Nat, ∃ y2 : Nat, ∃ y3 : Nat, ∃ y4 : Nat, ∃ s0 : Nat, ∃ s1 : Nat, ∃ s2 : Nat, ∃ s3 : Nat, ∃ s4 : Nat, ∃ e0 : Nat, ∃ e1 : Nat, ∃ e2 : Nat, ∃ e3 : Nat, ∃ o0 : Nat, ∃ o1 : Nat, ∃ o2 : Nat, ∃ o3 : Nat, ∃ r0 : Nat, ∃ r1 : Nat, ∃ r2 : Nat, wo = [(b0, .inr (6, [.ref t0, .ref h0, .ref y0, .ref s0, .ref e0, .ref o0, .ref r0, .int (nI 0), .int (nI 0)])), (t0, .inr (5, [.int (nI 0), .ref t1])), (t1, .inl (gI g, 8, .inl (fun _ => nI 0))), (h0, .inr (1, [.int (nI 0), .ref h1, .ref h2])), (h1, .inl (gI g, 6, .inl (fun _ => nI 0))), (h2, .inl (gI g, 6, .inl (fun _ => nI 0))), (y0, .inr (2, [.int (nI 0), .ref y1, .ref y2, .ref y3, .ref y4])), (y1, .inl (gI g, 10, .inl (fun _ => nI 0))), (y2, .inl (gI g, 10, .inl (fun _ => nI 0))), (y3, .inl (gI g, 10, .inl (fun _ => nI 0))), (y4, .inl (gI g, 10, .inl (fun _ => nI 0))), (s0, .inr (3, [.ref s1, .ref s2, .ref s3, .ref s4])), (s1, .inl (gZ g, 4, .inl (fun _ => nI (bN false)))), (s2, .inl (gI g, 4, .inl (fun _ => nI 0))), (s3, .inl (gI g, 4, .inl (fun _ => nI 0))), (s4, .inl (gA g, 4, .inr (.inr (.inr (.inr (fun i => if i < 4 then some (s4 + 1 + i) else none)))))), (s4 + 1 + 0, .inl (gI g, 40, .inl (fun _ => nI 0))), (s4 + 1 + 1, .inl (gI g, 40, .inl (fun _ => nI 0))), (s4 + 1 + 2, .inl (gI g, 40, .inl (fun _ => nI 0))), (s4 + 1 + 3, .inl (gI g, 40, .inl (fun _ => nI 0))), (e0, .inr (4, [.int (nI 0), .ref e1, .ref e2, .ref e3])), (e1, .inl (gI g, 8, .inl (fun _ => nI 0))), (e2, .inl (gI g, 8, .inl (fun _ => nI 0))), (e3, .inl (gI g, 256, .inl (fun _ => nI 0))), (o0, .inr (4, [.int (nI 0), .ref o1, .ref o2, .ref o3])), (o1, .inl (gI g, 8, .inl (fun _ => nI 0))), (o2, .inl (gI g, 8, .inl (fun _ => nI 0))), (o3, .inl (gI g, 256, .inl (fun _ => nI 0))), (r0, .inr (0, [.int (nI 0), .ref r1, .ref r2])), (r1, .inl (gI g, 5, .inl (fun _ => nI 0))), (r2, .inl (gI g, 5, .inl (fun _ => nI 0)))]
set_option maxRecDepth 20000 in
set_option maxHeartbeats 4000000 in
theorem c_X7_init {g : vG} {b0 : Nat} : CtA g yX7_init cX7_init 1 ({ frames := 2, cells := 30, slots := 815, locals := 40 } : Room) 30 815 [(b0, .inr (6, [.null, .null, .null, .null, .null, .null, .null, .int (nI 0), .int (nI 0)]))] b0 (P_X7_init g b0) := by
  refine CtA.ofV RX7 rfl (by decide +kernel) rfl (fun x h hr => ?_)
  refine v_aload_n0 h.1 dX7_init_0 ?_
  refine v_objI h.1 m_oX7 (Nat.le_of_ble_eq_true rfl) (Nat.le_of_ble_eq_true rfl) dX7_init_1 ?_
  refine v_aload_n0 h.1 dX7_init_4 ?_
  refine v_newO (ci := 5) (fs := [.int (nI 0), .null]) h mw_X6 tyX6 tyX6_ok mcl_X7_11 m_iX6 mi_X6 rfl (fun j hj => by rcases (show j = 0 ∨ j = 1 by omega) with rfl | rfl <;> rfl) (Nat.le_of_ble_eq_true rfl) (Nat.le_of_ble_eq_true rfl) dX7_init_5 (fun t0 => ?_)
  have h := h.grow (a := 1) (b := 2) (Nat.le_of_ble_eq_true rfl) (Nat.le_of_ble_eq_true rfl)
  have hr := hr.grow (a := 1) (b := 2)
  generalize vgr x 1 2 = x at h hr ⊢
  show vM x 8 [some (.ref b0)] [.ref t0, .ref b0] [(b0, .inr (6, [.null, .null, .null, .null, .null, .null, .null, .int (nI 0), .int (nI 0)])), (t0, .inr (5, [.int (nI 0), .null]))]
  refine v_dup h.1 dX7_init_8 rfl ?_
  refine v_callIN (wr := [(b0, .inr (6, [.null, .null, .null, .null, .null, .null, .null, .int (nI 0), .int (nI 0)]))]) h (c_X6_init (g := g)) lkI_X6 (fun _ hs => hs.1) ⟨rfl, rfl, (Nat.le_of_ble_eq_true rfl), (Nat.le_of_ble_eq_true rfl)⟩ (Nat.le_of_ble_eq_true rfl) (Nat.le_of_ble_eq_true rfl) [1] [0] rfl rfl rfl rfl (by decide) (Nat.le_of_ble_eq_true rfl) dX7_init_9 ?_
  rintro wo9 ⟨t1, rfl⟩
  have h := h.grow (a := 1) (b := 8) (Nat.le_of_ble_eq_true rfl) (Nat.le_of_ble_eq_true rfl)
  have hr := hr.grow (a := 1) (b := 8)
  generalize vgr x 1 8 = x at h hr ⊢
  show vM x 12 [some (.ref b0)] [.ref t0, .ref b0] [(b0, .inr (6, [.null, .null, .null, .null, .null, .null, .null, .int (nI 0), .int (nI 0)])), (t0, .inr (5, [.int (nI 0), .ref t1])), (t1, .inl (gI g, 8, .inl (fun _ => nI 0)))]
  refine v_putF h mw_X7 tyX7 tyX7_ok nmX7 0 rfl rfl 0 (by decide) mf_X7_14 rfl rfl (ty := .object "ByHand$Things") (by decide +kernel) rfl rfl (Nat.le_of_ble_eq_true rfl) dX7_init_12 rfl ?_
  show vM x 15 [some (.ref b0)] [] [(b0, .inr (6, [.ref t0, .null, .null, .null, .null, .null, .null, .int (nI 0), .int (nI 0)])), (t0, .inr (5, [.int (nI 0), .ref t1])), (t1, .inl (gI g, 8, .inl (fun _ => nI 0)))]
  refine v_aload_n0 h.1 dX7_init_15 ?_
  refine v_newO (ci := 1) (fs := [.int (nI 0), .null, .null]) h mw_X1 tyX1 tyX1_ok mcl_X7_18 m_iX1 mi_X1 rfl (fun j hj => by rcases (show j = 0 ∨ j = 1 ∨ j = 2 by omega) with rfl | rfl | rfl <;> rfl) (Nat.le_of_ble_eq_true rfl) (Nat.le_of_ble_eq_true rfl) dX7_init_16 (fun h0 => ?_)
  have h := h.grow (a := 1) (b := 3) (Nat.le_of_ble_eq_true rfl) (Nat.le_of_ble_eq_true rfl)
  have hr := hr.grow (a := 1) (b := 3)
  generalize vgr x 1 3 = x at h hr ⊢
  show vM x 19 [some (.ref b0)] [.ref h0, .ref b0] [(b0, .inr (6, [.ref t0, .null, .null, .null, .null, .null, .null, .int (nI 0), .int (nI 0)])), (t0, .inr (5, [.int (nI 0), .ref t1])), (t1, .inl (gI g, 8, .inl (fun _ => nI 0))), (h0, .inr (1, [.int (nI 0), .null, .null]))]
  refine v_dup h.1 dX7_init_19 rfl ?_
  refine v_callIN (wr := [(b0, .inr (6, [.ref t0, .null, .null, .null, .null, .null, .null, .int (nI 0), .int (nI 0)])), (t0, .inr (5, [.int (nI 0), .ref t1])), (t1, .inl (gI g, 8, .inl (fun _ => nI 0)))]) h (c_X1_init (g := g)) lkI_X1 (fun _ hs => hs.2.1) ⟨rfl, rfl, (Nat.le_of_ble_eq_true rfl), (Nat.le_of_ble_eq_true rfl)⟩ (Nat.le_of_ble_eq_true rfl) (Nat.le_of_ble_eq_true rfl) [3] [0, 1, 2] rfl rfl rfl rfl (by decide) (Nat.le_of_ble_eq_true rfl) dX7_init_20 ?_
  rintro wo9 ⟨h1, h2, rfl⟩
  have h := h.grow (a := 2) (b := 12) (Nat.le_of_ble_eq_true rfl) (Nat.le_of_ble_eq_true rfl)
  have hr := hr.grow (a := 2) (b := 12)
  generalize vgr x 2 12 = x at h hr ⊢
  show vM x 23 [some (.ref b0)] [.ref h0, .ref b0] [(b0, .inr (6, [.ref t0, .null, .null, .null, .null, .null, .null, .int (nI 0), .int (nI 0)])), (t0, .inr (5, [.int (nI 0), .ref t1])), (t1, .inl (gI g, 8, .inl (fun _ => nI 0))), (h0, .inr (1, [.int (nI 0), .ref h1, .ref h2])), (h1, .inl (gI g, 6, .inl (fun _ => nI 0))), (h2, .inl (gI g, 6, .inl (fun _ => nI 0)))]
  refine v_putF h mw_X7 tyX7 tyX7_ok nmX7 0 rfl rfl 1 (by decide) mf_X7_21 rfl rfl (ty := .object "ByHand$Hands") (by decide +kernel) rfl rfl (Nat.le_of_ble_eq_true rfl) dX7_init_23 rfl ?_
  show vM x 26 [some (.ref b0)] [] [(b0, .inr (6, [.ref t0, .ref h0, .null, .null, .null, .null, .null, .int (nI 0), .int (nI 0)])), (t0, .inr (5, [.int (nI 0), .ref t1])), (t1, .inl (gI g, 8, .inl (fun _ => nI 0))), (h0, .inr (1, [.int (nI 0), .ref h1, .ref h2])), (h1, .inl (gI g, 6, .inl (fun _ => nI 0))), (h2, .inl (gI g, 6, .inl (fun _ => nI 0)))]
  refine v_aload_n0 h.1 dX7_init_26 ?_
  refine v_newO (ci := 2) (fs := [.int (nI 0), .null, .null, .null, .null]) h mw_X2 tyX2 tyX2_ok mcl_X7_25 m_iX2 mi_X2 rfl (fun j hj => by rcases (show j = 0 ∨ j = 1 ∨ j = 2 ∨ j = 3 ∨ j = 4 by omega) with rfl | rfl | rfl | rfl | rfl <;> rfl) (Nat.le_of_ble_eq_true rfl) (Nat.le_of_ble_eq_true rfl) dX7_init_27 (fun y0 => ?_)
  have h := h.grow (a := 1) (b := 5) (Nat.le_of_ble_eq_true rfl) (Nat.le_of_ble_eq_true rfl)
  have hr := hr.grow (a := 1) (b := 5)
  generalize vgr x 1 5 = x at h hr ⊢
  show vM x 30 [some (.ref b0)] [.ref y0, .ref b0] [(b0, .inr (6, [.ref t0, .ref h0, .null, .null, .null, .null, .null, .int (nI 0), .int (nI 0)])), (t0, .inr (5, [.int (nI 0), .ref t1])), (t1, .inl (gI g, 8, .inl (fun _ => nI 0))), (h0, .inr (1, [.int (nI 0), .ref h1, .ref h2])), (h1, .inl (gI g, 6, .inl (fun _ => nI 0))), (h2, .inl (gI g, 6, .inl (fun _ => nI 0))), (y0, .inr (2, [.int (nI 0), .null, .null, .null, .null]))]
  refine v_dup h.1 dX7_init_30 rfl ?_
  refine v_callIN (wr := [(b0, .inr (6, [.ref t0, .ref h0, .null, .null, .null, .null, .null, .int (nI 0), .int (nI 0)])), (t0, .inr (5, [.int (nI 0), .ref t1])), (t1, .inl (gI g, 8, .inl (fun _ => nI 0))), (h0, .inr (1, [.int (nI 0), .ref h1, .ref h2])), (h1, .inl (gI g, 6, .inl (fun _ => nI 0))), (h2, .inl (gI g, 6, .inl (fun _ => nI 0)))]) h (c_X2_init (g := g)) lkI_X2 (fun _ hs => hs.2.2.1) ⟨rfl, rfl, (Nat.le_of_ble_eq_true rfl), (Nat.le_of_ble_eq_true rfl)⟩ (Nat.le_of_ble_eq_true rfl) (Nat.le_of_ble_eq_true rfl) [6] [0, 1, 2, 3, 4, 5] rfl rfl rfl rfl (by decide) (Nat.le_of_ble_eq_true rfl) dX7_init_31 ?_
  rintro wo9 ⟨y1, y2, y3, y4, rfl⟩
  have h := h.grow (a := 4) (b := 40) (Nat.le_of_ble_eq_true rfl) (Nat.le_of_ble_eq_true rfl)
  have hr := hr.grow (a := 4) (b := 40)
  generalize vgr x 4 40 = x at h hr ⊢
  show vM x 34 [some (.ref b0)] [.ref y0, .ref b0] [(b0, .inr (6, [.ref t0, .ref h0, .null, .null, .null, .null, .null, .int (nI 0), .int (nI 0)])), (t0, .inr (5, [.int (nI 0), .ref t1])), (t1, .inl (gI g, 8, .inl (fun _ => nI 0))), (h0, .inr (1, [.int (nI 0), .ref h1, .ref h2])), (h1, .inl (gI g, 6, .inl (fun _ => nI 0))), (h2, .inl (gI g, 6, .inl (fun _ => nI 0))), (y0, .inr (2, [.int (nI 0), .ref y1, .ref y2, .ref y3, .ref y4])), (y1, .inl (gI g, 10, .inl (fun _ => nI 0))), (y2, .inl (gI g, 10, .inl (fun _ => nI 0))), (y3, .inl (gI g, 10, .inl (fun _ => nI 0))), (y4, .inl (gI g, 10, .inl (fun _ => nI 0)))]
  refine v_putF h mw_X7 tyX7 tyX7_ok nmX7 0 rfl rfl 2 (by decide) mf_X7_28 rfl rfl (ty := .object "ByHand$Sayings") (by decide +kernel) rfl rfl (Nat.le_of_ble_eq_true rfl) dX7_init_34 rfl ?_
  show vM x 37 [some (.ref b0)] [] [(b0, .inr (6, [.ref t0, .ref h0, .ref y0, .null, .null, .null, .null, .int (nI 0), .int (nI 0)])), (t0, .inr (5, [.int (nI 0), .ref t1])), (t1, .inl (gI g, 8, .inl (fun _ => nI 0))), (h0, .inr (1, [.int (nI 0), .ref h1, .ref h2])), (h1, .inl (gI g, 6, .inl (fun _ => nI 0))), (h2, .inl (gI g, 6, .inl (fun _ => nI 0))), (y0, .inr (2, [.int (nI 0), .ref y1, .ref y2, .ref y3, .ref y4])), (y1, .inl (gI g, 10, .inl (fun _ => nI 0))), (y2, .inl (gI g, 10, .inl (fun _ => nI 0))), (y3, .inl (gI g, 10, .inl (fun _ => nI 0))), (y4, .inl (gI g, 10, .inl (fun _ => nI 0)))]
  refine v_aload_n0 h.1 dX7_init_37 ?_
  refine v_newO (ci := 3) (fs := [.null, .null, .null, .null]) h mw_X3 tyX3 tyX3_ok mcl_X7_32 m_iX3 mi_X3 rfl (fun j hj => by rcases (show j = 0 ∨ j = 1 ∨ j = 2 ∨ j = 3 by omega) with rfl | rfl | rfl | rfl <;> rfl) (Nat.le_of_ble_eq_true rfl) (Nat.le_of_ble_eq_true rfl) dX7_init_38 (fun s0 => ?_)
  have h := h.grow (a := 1) (b := 4) (Nat.le_of_ble_eq_true rfl) (Nat.le_of_ble_eq_true rfl)
  have hr := hr.grow (a := 1) (b := 4)
  generalize vgr x 1 4 = x at h hr ⊢
  show vM x 41 [some (.ref b0)] [.ref s0, .ref b0] [(b0, .inr (6, [.ref t0, .ref h0, .ref y0, .null, .null, .null, .null, .int (nI 0), .int (nI 0)])), (t0, .inr (5, [.int (nI 0), .ref t1])), (t1, .inl (gI g, 8, .inl (fun _ => nI 0))), (h0, .inr (1, [.int (nI 0), .ref h1, .ref h2])), (h1, .inl (gI g, 6, .inl (fun _ => nI 0))), (h2, .inl (gI g, 6, .inl (fun _ => nI 0))), (y0, .inr (2, [.int (nI 0), .ref y1, .ref y2, .ref y3, .ref y4])), (y1, .inl (gI g, 10, .inl (fun _ => nI 0))), (y2, .inl (gI g, 10, .inl (fun _ => nI 0))), (y3, .inl (gI g, 10, .inl (fun _ => nI 0))), (y4, .inl (gI g, 10, .inl (fun _ => nI 0))), (s0, .inr (3, [.null, .null, .null, .null]))]
  refine v_dup h.1 dX7_init_41 rfl ?_
  refine v_callIN (wr := [(b0, .inr (6, [.ref t0, .ref h0, .ref y0, .null, .null, .null, .null, .int (nI 0), .int (nI 0)])), (t0, .inr (5, [.int (nI 0), .ref t1])), (t1, .inl (gI g, 8, .inl (fun _ => nI 0))), (h0, .inr (1, [.int (nI 0), .ref h1, .ref h2])), (h1, .inl (gI g, 6, .inl (fun _ => nI 0))), (h2, .inl (gI g, 6, .inl (fun _ => nI 0))), (y0, .inr (2, [.int (nI 0), .ref y1, .ref y2, .ref y3, .ref y4])), (y1, .inl (gI g, 10, .inl (fun _ => nI 0))), (y2, .inl (gI g, 10, .inl (fun _ => nI 0))), (y3, .inl (gI g, 10, .inl (fun _ => nI 0))), (y4, .inl (gI g, 10, .inl (fun _ => nI 0)))]) h (c_X3_init (g := g)) lkI_X3 (fun _ hs => hs.2.2.2.1) ⟨rfl, rfl, (Nat.le_of_ble_eq_true rfl), (Nat.le_of_ble_eq_true rfl)⟩ (Nat.le_of_ble_eq_true rfl) (Nat.le_of_ble_eq_true rfl) [11] [0, 1, 2, 3, 4, 5, 6, 7, 8, 9, 10] rfl rfl rfl rfl (by decide) (Nat.le_of_ble_eq_true rfl) dX7_init_42 ?_
  rintro wo9 ⟨s1, s2, s3, s4, rfl⟩
  have h := h.grow (a := 8) (b := 176) (Nat.le_of_ble_eq_true rfl) (Nat.le_of_ble_eq_true rfl)
  have hr := hr.grow (a := 8) (b := 176)
  generalize vgr x 8 176 = x at h hr ⊢
  show vM x 45 [some (.ref b0)] [.ref s0, .ref b0] [(b0, .inr (6, [.ref t0, .ref h0, .ref y0, .null, .null, .null, .null, .int (nI 0), .int (nI 0)])), (t0, .inr (5, [.int (nI 0), .ref t1])), (t1, .inl (gI g, 8, .inl (fun _ => nI 0))), (h0, .inr (1, [.int (nI 0), .ref h1, .ref h2])), (h1, .inl (gI g, 6, .inl (fun _ => nI 0))), (h2, .inl (gI g, 6, .inl (fun _ => nI 0))), (y0, .inr (2, [.int (nI 0), .ref y1, .ref y2, .ref y3, .ref y4])), (y1, .inl (gI g, 10, .inl (fun _ => nI 0))), (y2, .inl (gI g, 10, .inl (fun _ => nI 0))), (y3, .inl (gI g, 10, .inl (fun _ => nI 0))), (y4, .inl (gI g, 10, .inl (fun _ => nI 0))), (s0, .inr (3, [.ref s1, .ref s2, .ref s3, .ref s4])), (s1, .inl (gZ g, 4, .inl (fun _ => nI (bN false)))), (s2, .inl (gI g, 4, .inl (fun _ => nI 0))), (s3, .inl (gI g, 4, .inl (fun _ => nI 0))), (s4, .inl (gA g, 4, .inr (.inr (.inr (.inr (fun i => if i < 4 then some (s4 + 1 + i) else none)))))), (s4 + 1 + 0, .inl (gI g, 40, .inl (fun _ => nI 0))), (s4 + 1 + 1, .inl (gI g, 40, .inl (fun _ => nI 0))), (s4 + 1 + 2, .inl (gI g, 40, .inl (fun _ => nI 0))), (s4 + 1 + 3, .inl (gI g, 40, .inl (fun _ => nI 0)))]
  refine v_putF h mw_X7 tyX7 tyX7_ok nmX7 0 rfl rfl 3 (by decide) mf_X7_35 rfl rfl (ty := .object "ByHand$Sheets") (by decide +kernel) rfl rfl (Nat.le_of_ble_eq_true rfl) dX7_init_45 rfl ?_
  show vM x 48 [some (.ref b0)] [] [(b0, .inr (6, [.ref t0, .ref h0, .ref y0, .ref s0, .null, .null, .null, .int (nI 0), .int (nI 0)])), (t0, .inr (5, [.int (nI 0), .ref t1])), (t1, .inl (gI g, 8, .inl (fun _ => nI 0))), (h0, .inr (1, [.int (nI 0), .ref h1, .ref h2])), (h1, .inl (gI g, 6, .inl (fun _ => nI 0))), (h2, .inl (gI g, 6, .inl (fun _ => nI 0))), (y0, .inr (2, [.int (nI 0), .ref y1, .ref y2, .ref y3, .ref y4])), (y1, .inl (gI g, 10, .inl (fun _ => nI 0))), (y2, .inl (gI g, 10, .inl (fun _ => nI 0))), (y3, .inl (gI g, 10, .inl (fun _ => nI 0))), (y4, .inl (gI g, 10, .inl (fun _ => nI 0))), (s0, .inr (3, [.ref s1, .ref s2, .ref s3, .ref s4])), (s1, .inl (gZ g, 4, .inl (fun _ => nI (bN false)))), (s2, .inl (gI g, 4, .inl (fun _ => nI 0))), (s3, .inl (gI g, 4, .inl (fun _ => nI 0))), (s4, .inl (gA g, 4, .inr (.inr (.inr (.inr (fun i => if i < 4 then some (s4 + 1 + i) else none)))))), (s4 + 1 + 0, .inl (gI g, 40, .inl (fun _ => nI 0))), (s4 + 1 + 1, .inl (gI g, 40, .inl (fun _ => nI 0))), (s4 + 1 + 2, .inl (gI g, 40, .inl (fun _ => nI 0))), (s4 + 1 + 3, .inl (gI g, 40, .inl (fun _ => nI 0)))]
  refine v_aload_n0 h.1 dX7_init_48 ?_
  refine v_newO (ci := 4) (fs := [.int (nI 0), .null, .null, .null]) h mw_X4 tyX4 tyX4_ok mcl_X7_39 m_iX4 mi_X4 rfl (fun j hj => by rcases (show j = 0 ∨ j = 1 ∨ j = 2 ∨ j = 3 by omega) with rfl | rfl | rfl | rfl <;> rfl) (Nat.le_of_ble_eq_true rfl) (Nat.le_of_ble_eq_true rfl) dX7_init_49 (fun e0 => ?_)
  have h := h.grow (a := 1) (b := 4) (Nat.le_of_ble_eq_true rfl) (Nat.le_of_ble_eq_true rfl)
  have hr := hr.grow (a := 1) (b := 4)
  generalize vgr x 1 4 = x at h hr ⊢
  show vM x 52 [some (.ref b0)] [.ref e0, .ref b0] [(b0, .inr (6, [.ref t0, .ref h0, .ref y0, .ref s0, .null, .null, .null, .int (nI 0), .int (nI 0)])), (t0, .inr (5, [.int (nI 0), .ref t1])), (t1, .inl (gI g, 8, .inl (fun _ => nI 0))), (h0, .inr (1, [.int (nI 0), .ref h1, .ref h2])), (h1, .inl (gI g, 6, .inl (fun _ => nI 0))), (h2, .inl (gI g, 6, .inl (fun _ => nI 0))), (y0, .inr (2, [.int (nI 0), .ref y1, .ref y2, .ref y3, .ref y4])), (y1, .inl (gI g, 10, .inl (fun _ => nI 0))), (y2, .inl (gI g, 10, .inl (fun _ => nI 0))), (y3, .inl (gI g, 10, .inl (fun _ => nI 0))), (y4, .inl (gI g, 10, .inl (fun _ => nI 0))), (s0, .inr (3, [.ref s1, .ref s2, .ref s3, .ref s4])), (s1, .inl (gZ g, 4, .inl (fun _ => nI (bN false)))), (s2, .inl (gI g, 4, .inl (fun _ => nI 0))), (s3, .inl (gI g, 4, .inl (fun _ => nI 0))), (s4, .inl (gA g, 4, .inr (.inr (.inr (.inr (fun i => if i < 4 then some (s4 + 1 + i) else none)))))), (s4 + 1 + 0, .inl (gI g, 40, .inl (fun _ => nI 0))), (s4 + 1 + 1, .inl (gI g, 40, .inl (fun _ => nI 0))), (s4 + 1 + 2, .inl (gI g, 40, .inl (fun _ => nI 0))), (s4 + 1 + 3, .inl (gI g, 40, .inl (fun _ => nI 0))), (e0, .inr (4, [.int (nI 0), .null, .null, .null]))]
  refine v_dup h.1 dX7_init_52 rfl ?_
  refine v_callIN (wr := [(b0, .inr (6, [.ref t0, .ref h0, .ref y0, .ref s0, .null, .null, .null, .int (nI 0), .int (nI 0)])), (t0, .inr (5, [.int (nI 0), .ref t1])), (t1, .inl (gI g, 8, .inl (fun _ => nI 0))), (h0, .inr (1, [.int (nI 0), .ref h1, .ref h2])), (h1, .inl (gI g, 6, .inl (fun _ => nI 0))), (h2, .inl (gI g, 6, .inl (fun _ => nI 0))), (y0, .inr (2, [.int (nI 0), .ref y1, .ref y2, .ref y3, .ref y4])), (y1, .inl (gI g, 10, .inl (fun _ => nI 0))), (y2, .inl (gI g, 10, .inl (fun _ => nI 0))), (y3, .inl (gI g, 10, .inl (fun _ => nI 0))), (y4, .inl (gI g, 10, .inl (fun _ => nI 0))), (s0, .inr (3, [.ref s1, .ref s2, .ref s3, .ref s4])), (s1, .inl (gZ g, 4, .inl (fun _ => nI (bN false)))), (s2, .inl (gI g, 4, .inl (fun _ => nI 0))), (s3, .inl (gI g, 4, .inl (fun _ => nI 0))), (s4, .inl (gA g, 4, .inr (.inr (.inr (.inr (fun i => if i < 4 then some (s4 + 1 + i) else none)))))), (s4 + 1 + 0, .inl (gI g, 40, .inl (fun _ => nI 0))), (s4 + 1 + 1, .inl (gI g, 40, .inl (fun _ => nI 0))), (s4 + 1 + 2, .inl (gI g, 40, .inl (fun _ => nI 0))), (s4 + 1 + 3, .inl (gI g, 40, .inl (fun _ => nI 0)))]) h (c_X4_init (g := g)) lkI_X4 (fun _ hs => hs.2.2.2.2.1) ⟨rfl, rfl, (Nat.le_of_ble_eq_true rfl), (Nat.le_of_ble_eq_true rfl)⟩ (Nat.le_of_ble_eq_true rfl) (Nat.le_of_ble_eq_true rfl) [20] [0, 1, 2, 3, 4, 5, 6, 7, 8, 9, 10, 11, 12, 13, 14, 15, 16, 17, 18, 19] rfl rfl rfl rfl (by decide) (Nat.le_of_ble_eq_true rfl) dX7_init_53 ?_
  rintro wo9 ⟨e1, e2, e3, rfl⟩
  have h := h.grow (a := 3) (b := 272) (Nat.le_of_ble_eq_true rfl) (Nat.le_of_ble_eq_true rfl)
  have hr := hr.grow (a := 3) (b := 272)
  generalize vgr x 3 272 = x at h hr ⊢
  show vM x 56 [some (.ref b0)] [.ref e0, .ref b0] [(b0, .inr (6, [.ref t0, .ref h0, .ref y0, .ref s0, .null, .null, .null, .int (nI 0), .int (nI 0)])), (t0, .inr (5, [.int (nI 0), .ref t1])), (t1, .inl (gI g, 8, .inl (fun _ => nI 0))), (h0, .inr (1, [.int (nI 0), .ref h1, .ref h2])), (h1, .inl (gI g, 6, .inl (fun _ => nI 0))), (h2, .inl (gI g, 6, .inl (fun _ => nI 0))), (y0, .inr (2, [.int (nI 0), .ref y1, .ref y2, .ref y3, .ref y4])), (y1, .inl (gI g, 10, .inl (fun _ => nI 0))), (y2, .inl (gI g, 10, .inl (fun _ => nI 0))), (y3, .inl (gI g, 10, .inl (fun _ => nI 0))), (y4, .inl (gI g, 10, .inl (fun _ => nI 0))), (s0, .inr (3, [.ref s1, .ref s2, .ref s3, .ref s4])), (s1, .inl (gZ g, 4, .inl (fun _ => nI (bN false)))), (s2, .inl (gI g, 4, .inl (fun _ => nI 0))), (s3, .inl (gI g, 4, .inl (fun _ => nI 0))), (s4, .inl (gA g, 4, .inr (.inr (.inr (.inr (fun i => if i < 4 then some (s4 + 1 + i) else none)))))), (s4 + 1 + 0, .inl (gI g, 40, .inl (fun _ => nI 0))), (s4 + 1 + 1, .inl (gI g, 40, .inl (fun _ => nI 0))), (s4 + 1 + 2, .inl (gI g, 40, .inl (fun _ => nI 0))), (s4 + 1 + 3, .inl (gI g, 40, .inl (fun _ => nI 0))), (e0, .inr (4, [.int (nI 0), .ref e1, .ref e2, .ref e3])), (e1, .inl (gI g, 8, .inl (fun _ => nI 0))), (e2, .inl (gI g, 8, .inl (fun _ => nI 0))), (e3, .inl (gI g, 256, .inl (fun _ => nI 0)))]
  refine v_putF h mw_X7 tyX7 tyX7_ok nmX7 0 rfl rfl 4 (by decide) mf_X7_42 rfl rfl (ty := .object "ByHand$Telling") (by decide +kernel) rfl rfl (Nat.le_of_ble_eq_true rfl) dX7_init_56 rfl ?_
  show vM x 59 [some (.ref b0)] [] [(b0, .inr (6, [.ref t0, .ref h0, .ref y0, .ref s0, .ref e0, .null, .null, .int (nI 0), .int (nI 0)])), (t0, .inr (5, [.int (nI 0), .ref t1])), (t1, .inl (gI g, 8, .inl (fun _ => nI 0))), (h0, .inr (1, [.int (nI 0), .ref h1, .ref h2])), (h1, .inl (gI g, 6, .inl (fun _ => nI 0))), (h2, .inl (gI g, 6, .inl (fun _ => nI 0))), (y0, .inr (2, [.int (nI 0), .ref y1, .ref y2, .ref y3, .ref y4])), (y1, .inl (gI g, 10, .inl (fun _ => nI 0))), (y2, .inl (gI g, 10, .inl (fun _ => nI 0))), (y3, .inl (gI g, 10, .inl (fun _ => nI 0))), (y4, .inl (gI g, 10, .inl (fun _ => nI 0))), (s0, .inr (3, [.ref s1, .ref s2, .ref s3, .ref s4])), (s1, .inl (gZ g, 4, .inl (fun _ => nI (bN false)))), (s2, .inl (gI g, 4, .inl (fun _ => nI 0))), (s3, .inl (gI g, 4, .inl (fun _ => nI 0))), (s4, .inl (gA g, 4, .inr (.inr (.inr (.inr (fun i => if i < 4 then some (s4 + 1 + i) else none)))))), (s4 + 1 + 0, .inl (gI g, 40, .inl (fun _ => nI 0))), (s4 + 1 + 1, .inl (gI g, 40, .inl (fun _ => nI 0))), (s4 + 1 + 2, .inl (gI g, 40, .inl (fun _ => nI 0))), (s4 + 1 + 3, .inl (gI g, 40, .inl (fun _ => nI 0))), (e0, .inr (4, [.int (nI 0), .ref e1, .ref e2, .ref e3])), (e1, .inl (gI g, 8, .inl (fun _ => nI 0))), (e2, .inl (gI g, 8, .inl (fun _ => nI 0))), (e3, .inl (gI g, 256, .inl (fun _ => nI 0)))]
  refine v_aload_n0 h.1 dX7_init_59 ?_
  refine v_newO (ci := 4) (fs := [.int (nI 0), .null, .null, .null]) h mw_X4 tyX4 tyX4_ok mcl_X7_39 m_iX4 mi_X4 rfl (fun j hj => by rcases (show j = 0 ∨ j = 1 ∨ j = 2 ∨ j = 3 by omega) with rfl | rfl | rfl | rfl <;> rfl) (Nat.le_of_ble_eq_true rfl) (Nat.le_of_ble_eq_true rfl) dX7_init_60 (fun o0 => ?_)
  have h := h.grow (a := 1) (b := 4) (Nat.le_of_ble_eq_true rfl) (Nat.le_of_ble_eq_true rfl)
  have hr := hr.grow (a := 1) (b := 4)
  generalize vgr x 1 4 = x at h hr ⊢
  show vM x 63 [some (.ref b0)] [.ref o0, .ref b0] [(b0, .inr (6, [.ref t0, .ref h0, .ref y0, .ref s0, .ref e0, .null, .null, .int (nI 0), .int (nI 0)])), (t0, .inr (5, [.int (nI 0), .ref t1])), (t1, .inl (gI g, 8, .inl (fun _ => nI 0))), (h0, .inr (1, [.int (nI 0), .ref h1, .ref h2])), (h1, .inl (gI g, 6, .inl (fun _ => nI 0))), (h2, .inl (gI g, 6, .inl (fun _ => nI 0))), (y0, .inr (2, [.int (nI 0), .ref y1, .ref y2, .ref y3, .ref y4])), (y1, .inl (gI g, 10, .inl (fun _ => nI 0))), (y2, .inl (gI g, 10, .inl (fun _ => nI 0))), (y3, .inl (gI g, 10, .inl (fun _ => nI 0))), (y4, .inl (gI g, 10, .inl (fun _ => nI 0))), (s0, .inr (3, [.ref s1, .ref s2, .ref s3, .ref s4])), (s1, .inl (gZ g, 4, .inl (fun _ => nI (bN false)))), (s2, .inl (gI g, 4, .inl (fun _ => nI 0))), (s3, .inl (gI g, 4, .inl (fun _ => nI 0))), (s4, .inl (gA g, 4, .inr (.inr (.inr (.inr (fun i => if i < 4 then some (s4 + 1 + i) else none)))))), (s4 + 1 + 0, .inl (gI g, 40, .inl (fun _ => nI 0))), (s4 + 1 + 1, .inl (gI g, 40, .inl (fun _ => nI 0))), (s4 + 1 + 2, .inl (gI g, 40, .inl (fun _ => nI 0))), (s4 + 1 + 3, .inl (gI g, 40, .inl (fun _ => nI 0))), (e0, .inr (4, [.int (nI 0), .ref e1, .ref e2, .ref e3])), (e1, .inl (gI g, 8, .inl (fun _ => nI 0))), (e2, .inl (gI g, 8, .inl (fun _ => nI 0))), (e3, .inl (gI g, 256, .inl (fun _ => nI 0))), (o0, .inr (4, [.int (nI 0), .null, .null, .null]))]
  refine v_dup h.1 dX7_init_63 rfl ?_
  refine v_callIN (wr := [(b0, .inr (6, [.ref t0, .ref h0, .ref y0, .ref s0, .ref e0, .null, .null, .int (nI 0), .int (nI 0)])), (t0, .inr (5, [.int (nI 0), .ref t1])), (t1, .inl (gI g, 8, .inl (fun _ => nI 0))), (h0, .inr (1, [.int (nI 0), .ref h1, .ref h2])), (h1, .inl (gI g, 6, .inl (fun _ => nI 0))), (h2, .inl (gI g, 6, .inl (fun _ => nI 0))), (y0, .inr (2, [.int (nI 0), .ref y1, .ref y2, .ref y3, .ref y4])), (y1, .inl (gI g, 10, .inl (fun _ => nI 0))), (y2, .inl (gI g, 10, .inl (fun _ => nI 0))), (y3, .inl (gI g, 10, .inl (fun _ => nI 0))), (y4, .inl (gI g, 10, .inl (fun _ => nI 0))), (s0, .inr (3, [.ref s1, .ref s2, .ref s3, .ref s4])), (s1, .inl (gZ g, 4, .inl (fun _ => nI (bN false)))), (s2, .inl (gI g, 4, .inl (fun _ => nI 0))), (s3, .inl (gI g, 4, .inl (fun _ => nI 0))), (s4, .inl (gA g, 4, .inr (.inr (.inr (.inr (fun i => if i < 4 then some (s4 + 1 + i) else none)))))), (s4 + 1 + 0, .inl (gI g, 40, .inl (fun _ => nI 0))), (s4 + 1 + 1, .inl (gI g, 40, .inl (fun _ => nI 0))), (s4 + 1 + 2, .inl (gI g, 40, .inl (fun _ => nI 0))), (s4 + 1 + 3, .inl (gI g, 40, .inl (fun _ => nI 0))), (e0, .inr (4, [.int (nI 0), .ref e1, .ref e2, .ref e3])), (e1, .inl (gI g, 8, .inl (fun _ => nI 0))), (e2, .inl (gI g, 8, .inl (fun _ => nI 0))), (e3, .inl (gI g, 256, .inl (fun _ => nI 0)))]) h (c_X4_init (g := g)) lkI_X4 (fun _ hs => hs.2.2.2.2.1) ⟨rfl, rfl, (Nat.le_of_ble_eq_true rfl), (Nat.le_of_ble_eq_true rfl)⟩ (Nat.le_of_ble_eq_true rfl) (Nat.le_of_ble_eq_true rfl) [24] [0, 1, 2, 3, 4, 5, 6, 7, 8, 9, 10, 11, 12, 13, 14, 15, 16, 17, 18, 19, 20, 21, 22, 23] rfl rfl rfl rfl (by decide) (Nat.le_of_ble_eq_true rfl) dX7_init_64 ?_
  rintro wo9 ⟨o1, o2, o3, rfl⟩
  have h := h.grow (a := 3) (b := 272) (Nat.le_of_ble_eq_true rfl) (Nat.le_of_ble_eq_true rfl)
  have hr := hr.grow (a := 3) (b := 272)
  generalize vgr x 3 272 = x at h hr ⊢
  show vM x 67 [some (.ref b0)] [.ref o0, .ref b0] [(b0, .inr (6, [.ref t0, .ref h0, .ref y0, .ref s0, .ref e0, .null, .null, .int (nI 0), .int (nI 0)])), (t0, .inr (5, [.int (nI 0), .ref t1])), (t1, .inl (gI g, 8, .inl (fun _ => nI 0))), (h0, .inr (1, [.int (nI 0), .ref h1, .ref h2])), (h1, .inl (gI g, 6, .inl (fun _ => nI 0))), (h2, .inl (gI g, 6, .inl (fun _ => nI 0))), (y0, .inr (2, [.int (nI 0), .ref y1, .ref y2, .ref y3, .ref y4])), (y1, .inl (gI g, 10, .inl (fun _ => nI 0))), (y2, .inl (gI g, 10, .inl (fun _ => nI 0))), (y3, .inl (gI g, 10, .inl (fun _ => nI 0))), (y4, .inl (gI g, 10, .inl (fun _ => nI 0))), (s0, .inr (3, [.ref s1, .ref s2, .ref s3, .ref s4])), (s1, .inl (gZ g, 4, .inl (fun _ => nI (bN false)))), (s2, .inl (gI g, 4, .inl (fun _ => nI 0))), (s3, .inl (gI g, 4, .inl (fun _ => nI 0))), (s4, .inl (gA g, 4, .inr (.inr (.inr (.inr (fun i => if i < 4 then some (s4 + 1 + i) else none)))))), (s4 + 1 + 0, .inl (gI g, 40, .inl (fun _ => nI 0))), (s4 + 1 + 1, .inl (gI g, 40, .inl (fun _ => nI 0))), (s4 + 1 + 2, .inl (gI g, 40, .inl (fun _ => nI 0))), (s4 + 1 + 3, .inl (gI g, 40, .inl (fun _ => nI 0))), (e0, .inr (4, [.int (nI 0), .ref e1, .ref e2, .ref e3])), (e1, .inl (gI g, 8, .inl (fun _ => nI 0))), (e2, .inl (gI g, 8, .inl (fun _ => nI 0))), (e3, .inl (gI g, 256, .inl (fun _ => nI 0))), (o0, .inr (4, [.int (nI 0), .ref o1, .ref o2, .ref o3])), (o1, .inl (gI g, 8, .inl (fun _ => nI 0))), (o2, .inl (gI g, 8, .inl (fun _ => nI 0))), (o3, .inl (gI g, 256, .inl (fun _ => nI 0)))]
  refine v_putF h mw_X7 tyX7 tyX7_ok nmX7 0 rfl rfl 5 (by decide) mf_X7_46 rfl rfl (ty := .object "ByHand$Telling") (by decide +kernel) rfl rfl (Nat.le_of_ble_eq_true rfl) dX7_init_67 rfl ?_
  show vM x 70 [some (.ref b0)] [] [(b0, .inr (6, [.ref t0, .ref h0, .ref y0, .ref s0, .ref e0, .ref o0, .null, .int (nI 0), .int (nI 0)])), (t0, .inr (5, [.int (nI 0), .ref t1])), (t1, .inl (gI g, 8, .inl (fun _ => nI 0))), (h0, .inr (1, [.int (nI 0), .ref h1, .ref h2])), (h1, .inl (gI g, 6, .inl (fun _ => nI 0))), (h2, .inl (gI g, 6, .inl (fun _ => nI 0))), (y0, .inr (2, [.int (nI 0), .ref y1, .ref y2, .ref y3, .ref y4])), (y1, .inl (gI g, 10, .inl (fun _ => nI 0))), (y2, .inl (gI g, 10, .inl (fun _ => nI 0))), (y3, .inl (gI g, 10, .inl (fun _ => nI 0))), (y4, .inl (gI g, 10, .inl (fun _ => nI 0))), (s0, .inr (3, [.ref s1, .ref s2, .ref s3, .ref s4])), (s1, .inl (gZ g, 4, .inl (fun _ => nI (bN false)))), (s2, .inl (gI g, 4, .inl (fun _ => nI 0))), (s3, .inl (gI g, 4, .inl (fun _ => nI 0))), (s4, .inl (gA g, 4, .inr (.inr (.inr (.inr (fun i => if i < 4 then some (s4 + 1 + i) else none)))))), (s4 + 1 + 0, .inl (gI g, 40, .inl (fun _ => nI 0))), (s4 + 1 + 1, .inl (gI g, 40, .inl (fun _ => nI 0))), (s4 + 1 + 2, .inl (gI g, 40, .inl (fun _ => nI 0))), (s4 + 1 + 3, .inl (gI g, 40, .inl (fun _ => nI 0))), (e0, .inr (4, [.int (nI 0), .ref e1, .ref e2, .ref e3])), (e1, .inl (gI g, 8, .inl (fun _ => nI 0))), (e2, .inl (gI g, 8, .inl (fun _ => nI 0))), (e3, .inl (gI g, 256, .inl (fun _ => nI 0))), (o0, .inr (4, [.int (nI 0), .ref o1, .ref o2, .ref o3])), (o1, .inl (gI g, 8, .inl (fun _ => nI 0))), (o2, .inl (gI g, 8, .inl (fun _ => nI 0))), (o3, .inl (gI g, 256, .inl (fun _ => nI 0)))]
  refine v_aload_n0 h.1 dX7_init_70 ?_
  refine v_newO (ci := 0) (fs := [.int (nI 0), .null, .null]) h mw_X0 tyX0 tyX0_ok mcl_X7_49 m_iX0 mi_X0 rfl (fun j hj => by rcases (show j = 0 ∨ j = 1 ∨ j = 2 by omega) with rfl | rfl | rfl <;> rfl) (Nat.le_of_ble_eq_true rfl) (Nat.le_of_ble_eq_true rfl) dX7_init_71 (fun r0 => ?_)
  have h := h.grow (a := 1) (b := 3) (Nat.le_of_ble_eq_true rfl) (Nat.le_of_ble_eq_true rfl)
  have hr := hr.grow (a := 1) (b := 3)
  generalize vgr x 1 3 = x at h hr ⊢
  show vM x 74 [some (.ref b0)] [.ref r0, .ref b0] [(b0, .inr (6, [.ref t0, .ref h0, .ref y0, .ref s0, .ref e0, .ref o0, .null, .int (nI 0), .int (nI 0)])), (t0, .inr (5, [.int (nI 0), .ref t1])), (t1, .inl (gI g, 8, .inl (fun _ => nI 0))), (h0, .inr (1, [.int (nI 0), .ref h1, .ref h2])), (h1, .inl (gI g, 6, .inl (fun _ => nI 0))), (h2, .inl (gI g, 6, .inl (fun _ => nI 0))), (y0, .inr (2, [.int (nI 0), .ref y1, .ref y2, .ref y3, .ref y4])), (y1, .inl (gI g, 10, .inl (fun _ => nI 0))), (y2, .inl (gI g, 10, .inl (fun _ => nI 0))), (y3, .inl (gI g, 10, .inl (fun _ => nI 0))), (y4, .inl (gI g, 10, .inl (fun _ => nI 0))), (s0, .inr (3, [.ref s1, .ref s2, .ref s3, .ref s4])), (s1, .inl (gZ g, 4, .inl (fun _ => nI (bN false)))), (s2, .inl (gI g, 4, .inl (fun _ => nI 0))), (s3, .inl (gI g, 4, .inl (fun _ => nI 0))), (s4, .inl (gA g, 4, .inr (.inr (.inr (.inr (fun i => if i < 4 then some (s4 + 1 + i) else none)))))), (s4 + 1 + 0, .inl (gI g, 40, .inl (fun _ => nI 0))), (s4 + 1 + 1, .inl (gI g, 40, .inl (fun _ => nI 0))), (s4 + 1 + 2, .inl (gI g, 40, .inl (fun _ => nI 0))), (s4 + 1 + 3, .inl (gI g, 40, .inl (fun _ => nI 0))), (e0, .inr (4, [.int (nI 0), .ref e1, .ref e2, .ref e3])), (e1, .inl (gI g, 8, .inl (fun _ => nI 0))), (e2, .inl (gI g, 8, .inl (fun _ => nI 0))), (e3, .inl (gI g, 256, .inl (fun _ => nI 0))), (o0, .inr (4, [.int (nI 0), .ref o1, .ref o2, .ref o3])), (o1, .inl (gI g, 8, .inl (fun _ => nI 0))), (o2, .inl (gI g, 8, .inl (fun _ => nI 0))), (o3, .inl (gI g, 256, .inl (fun _ => nI 0))), (r0, .inr (0, [.int (nI 0), .null, .null]))]
  refine v_dup h.1 dX7_init_74 rfl ?_
  refine v_callIN (wr := [(b0, .inr (6, [.ref t0, .ref h0, .ref y0, .ref s0, .ref e0, .ref o0, .null, .int (nI 0), .int (nI 0)])), (t0, .inr (5, [.int (nI 0), .ref t1])), (t1, .inl (gI g, 8, .inl (fun _ => nI 0))), (h0, .inr (1, [.int (nI 0), .ref h1, .ref h2])), (h1, .inl (gI g, 6, .inl (fun _ => nI 0))), (h2, .inl (gI g, 6, .inl (fun _ => nI 0))), (y0, .inr (2, [.int (nI 0), .ref y1, .ref y2, .ref y3, .ref y4])), (y1, .inl (gI g, 10, .inl (fun _ => nI 0))), (y2, .inl (gI g, 10, .inl (fun _ => nI 0))), (y3, .inl (gI g, 10, .inl (fun _ => nI 0))), (y4, .inl (gI g, 10, .inl (fun _ => nI 0))), (s0, .inr (3, [.ref s1, .ref s2, .ref s3, .ref s4])), (s1, .inl (gZ g, 4, .inl (fun _ => nI (bN false)))), (s2, .inl (gI g, 4, .inl (fun _ => nI 0))), (s3, .inl (gI g, 4, .inl (fun _ => nI 0))), (s4, .inl (gA g, 4, .inr (.inr (.inr (.inr (fun i => if i < 4 then some (s4 + 1 + i) else none)))))), (s4 + 1 + 0, .inl (gI g, 40, .inl (fun _ => nI 0))), (s4 + 1 + 1, .inl (gI g, 40, .inl (fun _ => nI 0))), (s4 + 1 + 2, .inl (gI g, 40, .inl (fun _ => nI 0))), (s4 + 1 + 3, .inl (gI g, 40, .inl (fun _ => nI 0))), (e0, .inr (4, [.int (nI 0), .ref e1, .ref e2, .ref e3])), (e1, .inl (gI g, 8, .inl (fun _ => nI 0))), (e2, .inl (gI g, 8, .inl (fun _ => nI 0))), (e3, .inl (gI g, 256, .inl (fun _ => nI 0))), (o0, .inr (4, [.int (nI 0), .ref o1, .ref o2, .ref o3])), (o1, .inl (gI g, 8, .inl (fun _ => nI 0))), (o2, .inl (gI g, 8, .inl (fun _ => nI 0))), (o3, .inl (gI g, 256, .inl (fun _ => nI 0)))]) h (c_X0_init (g := g)) lkI_X0 (fun _ hs => hs.2.2.2.2.2.1) ⟨rfl, rfl, (Nat.le_of_ble_eq_true rfl), (Nat.le_of_ble_eq_true rfl)⟩ (Nat.le_of_ble_eq_true rfl) (Nat.le_of_ble_eq_true rfl) [28] [0, 1, 2, 3, 4, 5, 6, 7, 8, 9, 10, 11, 12, 13, 14, 15, 16, 17, 18, 19, 20, 21, 22, 23, 24, 25, 26, 27] rfl rfl rfl rfl (by decide) (Nat.le_of_ble_eq_true rfl) dX7_init_75 ?_
  rintro wo9 ⟨r1, r2, rfl⟩
  have h := h.grow (a := 2) (b := 10) (Nat.le_of_ble_eq_true rfl) (Nat.le_of_ble_eq_true rfl)
  have hr := hr.grow (a := 2) (b := 10)
  generalize vgr x 2 10 = x at h hr ⊢
  show vM x 78 [some (.ref b0)] [.ref r0, .ref b0] [(b0, .inr (6, [.ref t0, .ref h0, .ref y0, .ref s0, .ref e0, .ref o0, .null, .int (nI 0), .int (nI 0)])), (t0, .inr (5, [.int (nI 0), .ref t1])), (t1, .inl (gI g, 8, .inl (fun _ => nI 0))), (h0, .inr (1, [.int (nI 0), .ref h1, .ref h2])), (h1, .inl (gI g, 6, .inl (fun _ => nI 0))), (h2, .inl (gI g, 6, .inl (fun _ => nI 0))), (y0, .inr (2, [.int (nI 0), .ref y1, .ref y2, .ref y3, .ref y4])), (y1, .inl (gI g, 10, .inl (fun _ => nI 0))), (y2, .inl (gI g, 10, .inl (fun _ => nI 0))), (y3, .inl (gI g, 10, .inl (fun _ => nI 0))), (y4, .inl (gI g, 10, .inl (fun _ => nI 0))), (s0, .inr (3, [.ref s1, .ref s2, .ref s3, .ref s4])), (s1, .inl (gZ g, 4, .inl (fun _ => nI (bN false)))), (s2, .inl (gI g, 4, .inl (fun _ => nI 0))), (s3, .inl (gI g, 4, .inl (fun _ => nI 0))), (s4, .inl (gA g, 4, .inr (.inr (.inr (.inr (fun i => if i < 4 then some (s4 + 1 + i) else none)))))), (s4 + 1 + 0, .inl (gI g, 40, .inl (fun _ => nI 0))), (s4 + 1 + 1, .inl (gI g, 40, .inl (fun _ => nI 0))), (s4 + 1 + 2, .inl (gI g, 40, .inl (fun _ => nI 0))), (s4 + 1 + 3, .inl (gI g, 40, .inl (fun _ => nI 0))), (e0, .inr (4, [.int (nI 0), .ref e1, .ref e2, .ref e3])), (e1, .inl (gI g, 8, .inl (fun _ => nI 0))), (e2, .inl (gI g, 8, .inl (fun _ => nI 0))), (e3, .inl (gI g, 256, .inl (fun _ => nI 0))), (o0, .inr (4, [.int (nI 0), .ref o1, .ref o2, .ref o3])), (o1, .inl (gI g, 8, .inl (fun _ => nI 0))), (o2, .inl (gI g, 8, .inl (fun _ => nI 0))), (o3, .inl (gI g, 256, .inl (fun _ => nI 0))), (r0, .inr (0, [.int (nI 0), .ref r1, .ref r2])), (r1, .inl (gI g, 5, .inl (fun _ => nI 0))), (r2, .inl (gI g, 5, .inl (fun _ => nI 0)))]
  refine v_putF h mw_X7 tyX7 tyX7_ok nmX7 0 rfl rfl 6 (by decide) mf_X7_52 rfl rfl (ty := .object "ByHand$HandRow") (by decide +kernel) rfl rfl (Nat.le_of_ble_eq_true rfl) dX7_init_78 rfl ?_
  show vM x 81 [some (.ref b0)] [] [(b0, .inr (6, [.ref t0, .ref h0, .ref y0, .ref s0, .ref e0, .ref o0, .ref r0, .int (nI 0), .int (nI 0)])), (t0, .inr (5, [.int (nI 0), .ref t1])), (t1, .inl (gI g, 8, .inl (fun _ => nI 0))), (h0, .inr (1, [.int (nI 0), .ref h1, .ref h2])), (h1, .inl (gI g, 6, .inl (fun _ => nI 0))), (h2, .inl (gI g, 6, .inl (fun _ => nI 0))), (y0, .inr (2, [.int (nI 0), .ref y1, .ref y2, .ref y3, .ref y4])), (y1, .inl (gI g, 10, .inl (fun _ => nI 0))), (y2, .inl (gI g, 10, .inl (fun _ => nI 0))), (y3, .inl (gI g, 10, .inl (fun _ => nI 0))), (y4, .inl (gI g, 10, .inl (fun _ => nI 0))), (s0, .inr (3, [.ref s1, .ref s2, .ref s3, .ref s4])), (s1, .inl (gZ g, 4, .inl (fun _ => nI (bN false)))), (s2, .inl (gI g, 4, .inl (fun _ => nI 0))), (s3, .inl (gI g, 4, .inl (fun _ => nI 0))), (s4, .inl (gA g, 4, .inr (.inr (.inr (.inr (fun i => if i < 4 then some (s4 + 1 + i) else none)))))), (s4 + 1 + 0, .inl (gI g, 40, .inl (fun _ => nI 0))), (s4 + 1 + 1, .inl (gI g, 40, .inl (fun _ => nI 0))), (s4 + 1 + 2, .inl (gI g, 40, .inl (fun _ => nI 0))), (s4 + 1 + 3, .inl (gI g, 40, .inl (fun _ => nI 0))), (e0, .inr (4, [.int (nI 0), .ref e1, .ref e2, .ref e3])), (e1, .inl (gI g, 8, .inl (fun _ => nI 0))), (e2, .inl (gI g, 8, .inl (fun _ => nI 0))), (e3, .inl (gI g, 256, .inl (fun _ => nI 0))), (o0, .inr (4, [.int (nI 0), .ref o1, .ref o2, .ref o3])), (o1, .inl (gI g, 8, .inl (fun _ => nI 0))), (o2, .inl (gI g, 8, .inl (fun _ => nI 0))), (o3, .inl (gI g, 256, .inl (fun _ => nI 0))), (r0, .inr (0, [.int (nI 0), .ref r1, .ref r2])), (r1, .inl (gI g, 5, .inl (fun _ => nI 0))), (r2, .inl (gI g, 5, .inl (fun _ => nI 0)))]
  refine v_aload_n0 h.1 dX7_init_81 ?_
  refine v_iconst h.1 (v := nI 0) dX7_init_82 (by decide) ?_
  refine v_put h.1 mw_X7 tyX7 tyX7_ok nmX7 0 rfl rfl 7 (by decide) mf_X7_56 rfl (ty := .int) (by decide +kernel) rfl rfl (Nat.le_of_ble_eq_true rfl) dX7_init_83 rfl ?_
  show vM x 86 [some (.ref b0)] [] [(b0, .inr (6, [.ref t0, .ref h0, .ref y0, .ref s0, .ref e0, .ref o0, .ref r0, .int (nI 0), .int (nI 0)])), (t0, .inr (5, [.int (nI 0), .ref t1])), (t1, .inl (gI g, 8, .inl (fun _ => nI 0))), (h0, .inr (1, [.int (nI 0), .ref h1, .ref h2])), (h1, .inl (gI g, 6, .inl (fun _ => nI 0))), (h2, .inl (gI g, 6, .inl (fun _ => nI 0))), (y0, .inr (2, [.int (nI 0), .ref y1, .ref y2, .ref y3, .ref y4])), (y1, .inl (gI g, 10, .inl (fun _ => nI 0))), (y2, .inl (gI g, 10, .inl (fun _ => nI 0))), (y3, .inl (gI g, 10, .inl (fun _ => nI 0))), (y4, .inl (gI g, 10, .inl (fun _ => nI 0))), (s0, .inr (3, [.ref s1, .ref s2, .ref s3, .ref s4])), (s1, .inl (gZ g, 4, .inl (fun _ => nI (bN false)))), (s2, .inl (gI g, 4, .inl (fun _ => nI 0))), (s3, .inl (gI g, 4, .inl (fun _ => nI 0))), (s4, .inl (gA g, 4, .inr (.inr (.inr (.inr (fun i => if i < 4 then some (s4 + 1 + i) else none)))))), (s4 + 1 + 0, .inl (gI g, 40, .inl (fun _ => nI 0))), (s4 + 1 + 1, .inl (gI g, 40, .inl (fun _ => nI 0))), (s4 + 1 + 2, .inl (gI g, 40, .inl (fun _ => nI 0))), (s4 + 1 + 3, .inl (gI g, 40, .inl (fun _ => nI 0))), (e0, .inr (4, [.int (nI 0), .ref e1, .ref e2, .ref e3])), (e1, .inl (gI g, 8, .inl (fun _ => nI 0))), (e2, .inl (gI g, 8, .inl (fun _ => nI 0))), (e3, .inl (gI g, 256, .inl (fun _ => nI 0))), (o0, .inr (4, [.int (nI 0), .ref o1, .ref o2, .ref o3])), (o1, .inl (gI g, 8, .inl (fun _ => nI 0))), (o2, .inl (gI g, 8, .inl (fun _ => nI 0))), (o3, .inl (gI g, 256, .inl (fun _ => nI 0))), (r0, .inr (0, [.int (nI 0), .ref r1, .ref r2])), (r1, .inl (gI g, 5, .inl (fun _ => nI 0))), (r2, .inl (gI g, 5, .inl (fun _ => nI 0)))]
  refine v_aload_n0 h.1 dX7_init_86 ?_
  refine v_iconst h.1 (v := nI 0) dX7_init_87 (by decide) ?_
  refine v_put h.1 mw_X7 tyX7 tyX7_ok nmX7 0 rfl rfl 8 (by decide) mf_X7_60 rfl (ty := .int) (by decide +kernel) rfl rfl (Nat.le_of_ble_eq_true rfl) dX7_init_88 rfl ?_
  show vM x 91 [some (.ref b0)] [] [(b0, .inr (6, [.ref t0, .ref h0, .ref y0, .ref s0, .ref e0, .ref o0, .ref r0, .int (nI 0), .int (nI 0)])), (t0, .inr (5, [.int (nI 0), .ref t1])), (t1, .inl (gI g, 8, .inl (fun _ => nI 0))), (h0, .inr (1, [.int (nI 0), .ref h1, .ref h2])), (h1, .inl (gI g, 6, .inl (fun _ => nI 0))), (h2, .inl (gI g, 6, .inl (fun _ => nI 0))), (y0, .inr (2, [.int (nI 0), .ref y1, .ref y2, .ref y3, .ref y4])), (y1, .inl (gI g, 10, .inl (fun _ => nI 0))), (y2, .inl (gI g, 10, .inl (fun _ => nI 0))), (y3, .inl (gI g, 10, .inl (fun _ => nI 0))), (y4, .inl (gI g, 10, .inl (fun _ => nI 0))), (s0, .inr (3, [.ref s1, .ref s2, .ref s3, .ref s4])), (s1, .inl (gZ g, 4, .inl (fun _ => nI (bN false)))), (s2, .inl (gI g, 4, .inl (fun _ => nI 0))), (s3, .inl (gI g, 4, .inl (fun _ => nI 0))), (s4, .inl (gA g, 4, .inr (.inr (.inr (.inr (fun i => if i < 4 then some (s4 + 1 + i) else none)))))), (s4 + 1 + 0, .inl (gI g, 40, .inl (fun _ => nI 0))), (s4 + 1 + 1, .inl (gI g, 40, .inl (fun _ => nI 0))), (s4 + 1 + 2, .inl (gI g, 40, .inl (fun _ => nI 0))), (s4 + 1 + 3, .inl (gI g, 40, .inl (fun _ => nI 0))), (e0, .inr (4, [.int (nI 0), .ref e1, .ref e2, .ref e3])), (e1, .inl (gI g, 8, .inl (fun _ => nI 0))), (e2, .inl (gI g, 8, .inl (fun _ => nI 0))), (e3, .inl (gI g, 256, .inl (fun _ => nI 0))), (o0, .inr (4, [.int (nI 0), .ref o1, .ref o2, .ref o3])), (o1, .inl (gI g, 8, .inl (fun _ => nI 0))), (o2, .inl (gI g, 8, .inl (fun _ => nI 0))), (o3, .inl (gI g, 256, .inl (fun _ => nI 0))), (r0, .inr (0, [.int (nI 0), .ref r1, .ref r2])), (r1, .inl (gI g, 5, .inl (fun _ => nI 0))), (r2, .inl (gI g, 5, .inl (fun _ => nI 0)))]
  exact v_vretC h hr dX7_init_91 ⟨t0, t1, h0, h1, h2, y0, y1, y2, y3, y4, s0, s1, s2, s3, s4, e0, e1, e2, e3, o0, o1, o2, o3, r0, r1, r2, rfl⟩
