/-! the law's own small methods -/
theorem and31 (v : Int32) : ∃ j, j < 2 ^ 31 ∧ v &&& 2147483647 = nI j := by
  have h : (v &&& 2147483647).toInt = v.toInt % 2147483648 := Jvm.Kit.i32_mask (k := 31) v 2147483647 (by decide) (by decide)
  refine ⟨(v.toInt % 2147483648).toNat, by omega, ?_⟩
  apply Int32.toInt_inj.mp
  rw [nI_toInt (by omega), h]
  omega
def smN (v : Int32) (m : Nat) : Nat := tn (v &&& 2147483647) % m
theorem smN_lt {v : Int32} {m : Nat} (h : 0 < m) : smN v m < m := Nat.mod_lt _ h
theorem c_L_cell {g : vG} {b L : Nat} {xs : Nat → Int32} {k : Nat} (hk : k < 2 ^ 20) : CtX g b L xs yL_cell cL_cell 2 (some .int) (rmOf 0 0) [] [.ref b, .int (nI k)] (fun r wo => (∃ v : Int32, r = some (.int v)) ∧ wo = []) := by
  refine CtX.ofV RL rfl (by decide +kernel) rfl rfl (Nat.le_of_ble_eq_true rfl) (List.forall_mem_cons.mpr ⟨rfl, List.forall_mem_cons.mpr ⟨rfl, fun _ h9 => absurd h9 List.not_mem_nil⟩⟩) (fun x h hX hr => ?_)
  show vM x 0 [some (.ref b), some (.int (nI k))] [] []
  have hL := hX.hL
  refine v_iload_n1 h dL_cell_0 ?_
  refine v_aload_n0 h dL_cell_1 ?_
  refine v_slen h hX dL_cell_2 ?_
  refine v_icmp_geN h dL_cell_3 (tgt := 12) (by decide) (by omega) (by omega) (fun c3 => ?_) (fun c3 => ?_)
  · refine v_ldc h mk_L_7 dL_cell_12 ?_
    refine v_iload_n1 h dL_cell_14 ?_
    refine v_iconst h (v := nI 1) dL_cell_15 (by decide) ?_
    refine v_iadd h dL_cell_16 ?_
    refine v_imul h dL_cell_17 ?_
    exact v_iretP h hr dL_cell_18 ⟨⟨_, rfl⟩, rfl⟩ rfl
  · refine v_aload_n0 h dL_cell_6 ?_
    refine v_iload_n1 h dL_cell_7 ?_
    refine v_sld h hX (by omega) dL_cell_8 ?_
    refine v_goto h dL_cell_9 (tgt := 18) (by decide) ?_
    exact v_iretP h hr dL_cell_18 ⟨⟨_, rfl⟩, rfl⟩ rfl
theorem lgc_pos {x : Nat} (h0 : 0 < x) (h : x < 2 ^ 31) : lg_cmp (lN x) (lN 0) = 1 := by
  have h1 := lN_toInt h
  unfold lg_cmp
  rw [if_pos]
  show lN 0 < lN x
  rw [Int64.lt_iff_toInt_lt, h1]
  show (0 : Int) < x
  omega
theorem cw_S_0_4_i {x : vX} {g : vG} {cc : ByteArray} {own : String} {rm : Room} {nL pc : Nat} {lv : List (Option Value)} {st : List Value} {wt : va_W} {c0 d0 : Nat × va_E} {idx : Nat} {y : MethodName} {bytes : ByteArray} {ml : Nat} {ret : Option FieldType} {rmc : Room} {r : Int32} {p0 p1 p2 p3 : Value} (h : Ok x g cc own rm nL) (hc : Ct g y bytes ml ret rmc [c0] [p0, p1, p2, p3] (some (.int r)) [d0]) (lk : LkS own idx y bytes ml ret 4) (hrm : RmOk rmc rm ml) (hW : (st.map fun v => v.category).sum ≤ 8) (hd : decode cc pc = .ok (.invokestatic idx, 3)) (k : vM x (pc + 3) lv (.int r :: st) (d0 :: wt)) : vM x pc lv (p3 :: p2 :: p1 :: p0 :: st) (c0 :: wt) := v_callS (As := [p0, p1, p2, p3]) (rest := st) h hc lk hrm rfl [0] rfl (by decide) hW hd rfl k
theorem lk_L_31 : LkS RL 31 yL_tells cL_tells 5 (some .boolean) 4 := ⟨ml_L_31, ms_L_tells, mi_L, mc_L_tells, ⟨by decide, by decide, by decide +kernel⟩⟩
set_option maxRecDepth 20000 in
set_option maxHeartbeats 2000000 in
theorem c_L_some {g : vG} {v : Int32} {m : Nat} (hm0 : 0 < m) (hm : m < 2 ^ 31) : Ct g yL_some cL_some 2 (some .int) (rmOf 0 0) [] [.int v, .int (nI m)] (some (.int (nI (smN v m)))) [] := by
  refine Ct.ofV RL rfl (by decide +kernel) rfl rfl rfl (Nat.le_of_ble_eq_true rfl) (List.forall_mem_cons.mpr ⟨rfl, (List.forall_mem_cons.mpr ⟨rfl, (fun _ h9 => absurd h9 List.not_mem_nil)⟩)⟩) (fun x h hr => ?_)
  show vM x 0 [some (.int v), some (.int (nI m))] [] []
  refine v_iload_n0 h dL_some_0 ?_
  refine v_ldc h mk_L_8 dL_some_1 ?_
  refine v_iand h dL_some_3 ?_
  obtain ⟨j9, hj9, ej9⟩ := and31 v
  rw [ej9]
  refine v_iload_n1 h dL_some_4 ?_
  refine v_iremN h dL_some_5 (by omega) (by omega) (by omega) ?_
  exact v_iret h hr dL_some_6 (by rw [smN, ej9, tn_N hj9]) rfl
set_option maxRecDepth 20000 in
set_option maxHeartbeats 2000000 in
theorem c_L_tells {g : vG} {ta0 : Nat} {tt : Nat → Nat} {j : Nat} {a : Nat} {b : Nat} (hj : j < 4) (hk : tt (10 + j) ≤ 2) (hp : tt (16 + j) ≤ 20) (ha : a ≤ 9999) (hb : b ≤ 9999) (ha1 : 1 ≤ a) (hb1 : 1 ≤ b) : Ct g yL_tells cL_tells 5 (some .boolean) (rmOf 0 0) [(ta0, .inl (gI g, 22, .inl (fun z9 => nI (tt z9))))] [.ref ta0, .int (nI j), .int (nI a), .int (nI b)] (some (.int (nI (bN (tls (tt (10 + j)) (tt (16 + j)) a b))))) [(ta0, .inl (gI g, 22, .inl (fun z9 => nI (tt z9))))] := by
  refine Ct.ofV RL rfl (by decide +kernel) rfl rfl rfl (Nat.le_of_ble_eq_true rfl) (List.forall_mem_cons.mpr ⟨rfl, (List.forall_mem_cons.mpr ⟨rfl, (List.forall_mem_cons.mpr ⟨rfl, (List.forall_mem_cons.mpr ⟨rfl, (fun _ h9 => absurd h9 List.not_mem_nil)⟩)⟩)⟩)⟩) (fun x h hr => ?_)
  show vM x 0 [some (.ref ta0), some (.int (nI j)), some (.int (nI a)), some (.int (nI b)), none] [] [(ta0, .inl (gI g, 22, .inl (fun z9 => nI (tt z9))))]
  have ht9 := times_le (k := tt (10 + j)) hp
  have m1 : (times (tt (10 + j)) (tt (16 + j))) * a ≤ 40 * 9999 := Nat.mul_le_mul ht9 ha
  have m2 : (times (tt (10 + j)) (tt (16 + j))) * b ≤ 40 * 9999 := Nat.mul_le_mul ht9 hb
  have e9 : (a - b) * (times (tt (10 + j)) (tt (16 + j))) = (times (tt (10 + j)) (tt (16 + j))) * a - (times (tt (10 + j)) (tt (16 + j))) * b := by rw [Nat.sub_mul, Nat.mul_comm a, Nat.mul_comm b]
  refine v_aload_n0 h dL_tells_0 ?_
  refine v_bipush h (v := nI 10) dL_tells_1 (by decide) ?_
  refine v_iload_n1 h dL_tells_3 ?_
  refine v_iaddN h dL_tells_4 ?_
  refine v_ialdN h 0 rfl (by omega) (Nat.le_of_ble_eq_true rfl) dL_tells_5 ?_
  refine v_if_neN h dL_tells_6 (tgt := 18) (by decide) (by omega) (fun c6 => ?_) (fun c6 => ?_)
  · refine v_iconst h (v := nI 2) dL_tells_18 (by decide) ?_
    refine v_aload_n0 h dL_tells_19 ?_
    refine v_bipush h (v := nI 16) dL_tells_20 (by decide) ?_
    refine v_iload_n1 h dL_tells_22 ?_
    refine v_iaddN h dL_tells_23 ?_
    refine v_ialdN h 0 rfl (by omega) (Nat.le_of_ble_eq_true rfl) dL_tells_24 ?_
    refine v_imulN h dL_tells_25 ?_
    refine vM.top (v := .int (nI (times (tt (10 + j)) (tt (16 + j))))) (by rw [times]; first | rw [if_pos c6] | rw [if_neg (by omega)]) ?_
    refine v_istore4 h (Nat.le_of_ble_eq_true rfl) dL_tells_26 ?_
    refine v_iload_n2 h dL_tells_28 ?_
    refine v_iload_n3 h dL_tells_29 ?_
    refine v_icmp_leN h dL_tells_30 (tgt := 76) (by decide) (by omega) (by omega) (fun c30 => ?_) (fun c30 => ?_)
    · refine v_iconst h (v := nI 0) dL_tells_76 (by decide) ?_
      exact v_zret (v := false) h hr dL_tells_77 (by first | exact (tls_iff.mpr (by omega)).symm | exact (tls_f (by omega)).symm) rfl
    · refine v_aload_n0 h dL_tells_33 ?_
      refine v_bipush h (v := nI 10) dL_tells_34 (by decide) ?_
      refine v_iload_n1 h dL_tells_36 ?_
      refine v_iaddN h dL_tells_37 ?_
      refine v_ialdN h 0 rfl (by omega) (Nat.le_of_ble_eq_true rfl) dL_tells_38 ?_
      refine v_iconst h (v := nI 2) dL_tells_39 (by decide) ?_
      refine v_icmp_neN h dL_tells_40 (tgt := 59) (by decide) (by omega) (by omega) (fun c40 => ?_) (fun c40 => ?_)
      · refine v_iload4 h dL_tells_59 ?_
        refine v_iload_n2 h dL_tells_61 ?_
        refine v_imulN h dL_tells_62 ?_
        refine v_iload_n3 h dL_tells_63 ?_
        refine v_iload4 h dL_tells_64 ?_
        refine v_iload_n3 h dL_tells_66 ?_
        refine v_imulN h dL_tells_67 ?_
        refine v_iaddN h dL_tells_68 ?_
        refine v_icmp_leN h dL_tells_69 (tgt := 76) (by decide) (by omega) (by omega) (fun c69 => ?_) (fun c69 => ?_)
        · refine v_iconst h (v := nI 0) dL_tells_76 (by decide) ?_
          exact v_zret (v := false) h hr dL_tells_77 (by first | exact (tls_iff.mpr (by omega)).symm | exact (tls_f (by omega)).symm) rfl
        · refine v_iconst h (v := nI 1) dL_tells_72 (by decide) ?_
          refine v_goto h dL_tells_73 (tgt := 77) (by decide) ?_
          exact v_zret (v := true) h hr dL_tells_77 (by first | exact (tls_iff.mpr (by omega)).symm | exact (tls_f (by omega)).symm) rfl
      · refine v_iload4 h dL_tells_43 ?_
        refine v_iload_n2 h dL_tells_45 ?_
        refine v_imulN h dL_tells_46 ?_
        refine v_iload_n3 h dL_tells_47 ?_
        refine v_iload4 h dL_tells_48 ?_
        refine v_iload_n3 h dL_tells_50 ?_
        refine v_imulN h dL_tells_51 ?_
        refine v_iaddN h dL_tells_52 ?_
        refine v_icmp_ltN h dL_tells_53 (tgt := 76) (by decide) (by omega) (by omega) (fun c53 => ?_) (fun c53 => ?_)
        · refine v_iconst h (v := nI 0) dL_tells_76 (by decide) ?_
          exact v_zret (v := false) h hr dL_tells_77 (by first | exact (tls_iff.mpr (by omega)).symm | exact (tls_f (by omega)).symm) rfl
        · refine v_goto h dL_tells_56 (tgt := 72) (by decide) ?_
          refine v_iconst h (v := nI 1) dL_tells_72 (by decide) ?_
          refine v_goto h dL_tells_73 (tgt := 77) (by decide) ?_
          exact v_zret (v := true) h hr dL_tells_77 (by first | exact (tls_iff.mpr (by omega)).symm | exact (tls_f (by omega)).symm) rfl
  · refine v_aload_n0 h dL_tells_9 ?_
    refine v_bipush h (v := nI 16) dL_tells_10 (by decide) ?_
    refine v_iload_n1 h dL_tells_12 ?_
    refine v_iaddN h dL_tells_13 ?_
    refine v_ialdN h 0 rfl (by omega) (Nat.le_of_ble_eq_true rfl) dL_tells_14 ?_
    refine v_goto h dL_tells_15 (tgt := 26) (by decide) ?_
    refine vM.top (v := .int (nI (times (tt (10 + j)) (tt (16 + j))))) (by rw [times]; first | rw [if_pos c6] | rw [if_neg (by omega)]) ?_
    refine v_istore4 h (Nat.le_of_ble_eq_true rfl) dL_tells_26 ?_
    refine v_iload_n2 h dL_tells_28 ?_
    refine v_iload_n3 h dL_tells_29 ?_
    refine v_icmp_leN h dL_tells_30 (tgt := 76) (by decide) (by omega) (by omega) (fun c30 => ?_) (fun c30 => ?_)
    · refine v_iconst h (v := nI 0) dL_tells_76 (by decide) ?_
      exact v_zret (v := false) h hr dL_tells_77 (by first | exact (tls_iff.mpr (by omega)).symm | exact (tls_f (by omega)).symm) rfl
    · refine v_aload_n0 h dL_tells_33 ?_
      refine v_bipush h (v := nI 10) dL_tells_34 (by decide) ?_
      refine v_iload_n1 h dL_tells_36 ?_
      refine v_iaddN h dL_tells_37 ?_
      refine v_ialdN h 0 rfl (by omega) (Nat.le_of_ble_eq_true rfl) dL_tells_38 ?_
      refine v_iconst h (v := nI 2) dL_tells_39 (by decide) ?_
      refine v_icmp_neN h dL_tells_40 (tgt := 59) (by decide) (by omega) (by omega) (fun c40 => ?_) (fun c40 => ?_)
      · refine v_iload4 h dL_tells_59 ?_
        refine v_iload_n2 h dL_tells_61 ?_
        refine v_imulN h dL_tells_62 ?_
        refine v_iload_n3 h dL_tells_63 ?_
        refine v_iload4 h dL_tells_64 ?_
        refine v_iload_n3 h dL_tells_66 ?_
        refine v_imulN h dL_tells_67 ?_
        refine v_iaddN h dL_tells_68 ?_
        refine v_icmp_leN h dL_tells_69 (tgt := 76) (by decide) (by omega) (by omega) (fun c69 => ?_) (fun c69 => ?_)
        · refine v_iconst h (v := nI 0) dL_tells_76 (by decide) ?_
          exact v_zret (v := false) h hr dL_tells_77 (by first | exact (tls_iff.mpr (by omega)).symm | exact (tls_f (by omega)).symm) rfl
        · refine v_iconst h (v := nI 1) dL_tells_72 (by decide) ?_
          refine v_goto h dL_tells_73 (tgt := 77) (by decide) ?_
          exact v_zret (v := true) h hr dL_tells_77 (by first | exact (tls_iff.mpr (by omega)).symm | exact (tls_f (by omega)).symm) rfl
      · refine v_iload4 h dL_tells_43 ?_
        refine v_iload_n2 h dL_tells_45 ?_
        refine v_imulN h dL_tells_46 ?_
        refine v_iload_n3 h dL_tells_47 ?_
        refine v_iload4 h dL_tells_48 ?_
        refine v_iload_n3 h dL_tells_50 ?_
        refine v_imulN h dL_tells_51 ?_
        refine v_iaddN h dL_tells_52 ?_
        refine v_icmp_ltN h dL_tells_53 (tgt := 76) (by decide) (by omega) (by omega) (fun c53 => ?_) (fun c53 => ?_)
        · refine v_iconst h (v := nI 0) dL_tells_76 (by decide) ?_
          exact v_zret (v := false) h hr dL_tells_77 (by first | exact (tls_iff.mpr (by omega)).symm | exact (tls_f (by omega)).symm) rfl
        · refine v_goto h dL_tells_56 (tgt := 72) (by decide) ?_
          refine v_iconst h (v := nI 1) dL_tells_72 (by decide) ?_
          refine v_goto h dL_tells_73 (tgt := 77) (by decide) ?_
          exact v_zret (v := true) h hr dL_tells_77 (by first | exact (tls_iff.mpr (by omega)).symm | exact (tls_f (by omega)).symm) rfl
set_option maxRecDepth 20000 in
set_option maxHeartbeats 2000000 in
theorem c_L_alike {g : vG} {ta0 : Nat} {tt : Nat → Nat} {j : Nat} {a : Nat} {b : Nat} (hj : j < 4) (hk : tt (10 + j) ≤ 2) (hp : tt (16 + j) ≤ 20) (ha : a ≤ 9999) (hb : b ≤ 9999) (ha1 : 1 ≤ a) (hb1 : 1 ≤ b) : Ct g yL_alike cL_alike 4 (some .boolean) (rmOf 1 24) [(ta0, .inl (gI g, 22, .inl (fun z9 => nI (tt z9))))] [.ref ta0, .int (nI j), .int (nI a), .int (nI b)] (some (.int (nI (bN (alk (tt (10 + j)) (tt (16 + j)) a b))))) [(ta0, .inl (gI g, 22, .inl (fun z9 => nI (tt z9))))] := by
  refine Ct.ofV RL rfl (by decide +kernel) rfl rfl rfl (Nat.le_of_ble_eq_true rfl) (List.forall_mem_cons.mpr ⟨rfl, (List.forall_mem_cons.mpr ⟨rfl, (List.forall_mem_cons.mpr ⟨rfl, (List.forall_mem_cons.mpr ⟨rfl, (fun _ h9 => absurd h9 List.not_mem_nil)⟩)⟩)⟩)⟩) (fun x h hr => ?_)
  show vM x 0 [some (.ref ta0), some (.int (nI j)), some (.int (nI a)), some (.int (nI b))] [] [(ta0, .inl (gI g, 22, .inl (fun z9 => nI (tt z9))))]
  refine v_aload_n0 h dL_alike_0 ?_
  refine v_iload_n1 h dL_alike_1 ?_
  refine v_iload_n2 h dL_alike_2 ?_
  refine v_iload_n3 h dL_alike_3 ?_
  refine cw_S_0_4_i h (c_L_tells (g := g) (by first | assumption | omega) (by first | assumption | omega) (by first | assumption | omega) (by first | assumption | omega) (by first | assumption | omega) (by first | assumption | omega) (by first | assumption | omega)) lk_L_31 ⟨rfl, rfl, (Nat.le_of_ble_eq_true rfl), (Nat.le_of_ble_eq_true rfl)⟩ (Nat.le_of_ble_eq_true rfl) dL_alike_4 ?_
  refine v_if_neB h dL_alike_7 (tgt := 24) (by decide) (fun c7 => ?_) (fun c7 => ?_)
  · refine v_iconst h (v := nI 0) dL_alike_24 (by decide) ?_
    exact v_zret (v := false) h hr dL_alike_25 (by first | exact (alk_t c7 c17).symm | exact (alk_f1 c7).symm | exact (alk_f2 c17).symm) rfl
  · refine v_aload_n0 h dL_alike_10 ?_
    refine v_iload_n1 h dL_alike_11 ?_
    refine v_iload_n3 h dL_alike_12 ?_
    refine v_iload_n2 h dL_alike_13 ?_
    refine cw_S_0_4_i h (c_L_tells (g := g) (by first | assumption | omega) (by first | assumption | omega) (by first | assumption | omega) (by first | assumption | omega) (by first | assumption | omega) (by first | assumption | omega) (by first | assumption | omega)) lk_L_31 ⟨rfl, rfl, (Nat.le_of_ble_eq_true rfl), (Nat.le_of_ble_eq_true rfl)⟩ (Nat.le_of_ble_eq_true rfl) dL_alike_14 ?_
    refine v_if_neB h dL_alike_17 (tgt := 24) (by decide) (fun c17 => ?_) (fun c17 => ?_)
    · refine v_iconst h (v := nI 0) dL_alike_24 (by decide) ?_
      exact v_zret (v := false) h hr dL_alike_25 (by first | exact (alk_t c7 c17).symm | exact (alk_f1 c7).symm | exact (alk_f2 c17).symm) rfl
    · refine v_iconst h (v := nI 1) dL_alike_20 (by decide) ?_
      refine v_goto h dL_alike_21 (tgt := 25) (by decide) ?_
      exact v_zret (v := true) h hr dL_alike_25 (by first | exact (alk_t c7 c17).symm | exact (alk_f1 c7).symm | exact (alk_f2 c17).symm) rfl
set_option maxHeartbeats 4000000 in
set_option maxRecDepth 100000 in
theorem c_L_isAlike {g : vG} {a b : Nat} (ha : a < 2 ^ 31) (hb0 : 0 < b) (hb2 : b < 2 ^ 31) : Ct g yL_isAlike cL_isAlike 14 (some .boolean) (rmOf 0 0) [] [.long (lN a), .long (lN b), .long (lN (a / Nat.gcd a b)), .long (lN (b / Nat.gcd a b))] (some (.int (nI (bN true)))) [] := by
  refine ⟨rfl, fun sz => Met.ofW (cc := cL_isAlike) (maxL := 14) (ret := some .boolean) (by decide +kernel) rfl ?_⟩
  intro p e s m args below meth c s₁ B hml hv
  obtain ⟨rfl, hsz, hP, hK, hD0, hnw⟩ := hv
  have hx := B.exec
  have hb := B.bytes
  have hr := B.returns
  have hlocks := B.notSynchronized
  subst hsz
  generalize hu : lN (a / Nat.gcd a b) = u
  generalize hd : lN (b / Nat.gcd a b) = d
  have hl := lv_entry ([.long (lN a), .long (lN b), .long u, .long d]) (n := 14) (Nat.le_of_ble_eq_true rfl)
  rw [lg_entry_eq]
  generalize hls : (lg_sl ([.long (lN a), .long (lN b), .long u, .long d]) ++ List.replicate (14 - (lg_sl ([.long (lN a), .long (lN b), .long u, .long d])).length) Slot.unset).toArray = ls at hl ⊢
  have hl : lv_has ls 14 [(0, .long (lN a)), (2, .long (lN b)), (4, .long u), (6, .long d)] := hl
  clear hls
  refine lv_lload_n hx hb dL_isAlike_0 rfl (lv_at hl 0 rfl) ?_
  refine lv_lstore (lv' := [(8, .long (lN a)), (0, .long (lN a)), (2, .long (lN b)), (4, .long u), (6, .long d)]) hx hb dL_isAlike_1 hl (by decide) rfl (fun ls hl => ?_)
  refine lv_lload_n hx hb dL_isAlike_3 rfl (lv_at hl 2 rfl) ?_
  refine lv_lstore (lv' := [(10, .long (lN b)), (8, .long (lN a)), (0, .long (lN a)), (2, .long (lN b)), (4, .long u), (6, .long d)]) hx hb dL_isAlike_4 hl (by decide) rfl (fun ls hl => ?_)
  have Lp : ∀ (k x y : Nat), y = k → x < 2 ^ 31 → y < 2 ^ 31 → Nat.gcd x y = Nat.gcd a b → ∀ ls : Array Slot, lv_has ls 14 [(10, .long (lN y)), (8, .long (lN x)), (0, .long (lN a)), (2, .long (lN b)), (4, .long u), (6, .long d)] → W p g.1 e (headSpec (.code yL_isAlike cL_isAlike 14 (some .boolean) :: wsL_law) (rmOf 0 0)).room s m ([.long (lN a), .long (lN b), .long u, .long d] : List Value).toArray below meth c s.heap [] 0 0 (MQ below (vPost g [] (some (.int (nI (bN true)))) [] s.heap.size) ([.long (lN a), .long (lN b), .long u, .long d] : List Value).toArray s 0 0 (va_A [] s.heap.size)) (F0 m 6 ls []) := by
    intro k
    induction k using Nat.strongRecOn with
    | _ k ih =>
      intro x y hk hxl hyl hg ls hl
      refine lv_lload hx hb dL_isAlike_6 (lv_at hl 0 rfl) ?_
      refine lv_lconst (v := lN 0) hx hb dL_isAlike_8 rfl ?_
      refine W.lcmp hx hb dL_isAlike_9 ?_
      refine lv_if_eq (tgt := 31) hx hb dL_isAlike_10 (by decide) (fun c10 => ?_) (fun c10 => ?_)
      · have hy0 : y = 0 := (lN_eq hyl (by decide)).mp (lgc0.mp c10)
        subst hy0
        rw [Nat.gcd_zero_right] at hg
        have hx0 : 0 < x := by rw [hg]; exact Nat.gcd_pos_of_pos_right a hb0
        refine lv_lload hx hb dL_isAlike_31 (lv_at hl 1 rfl) ?_
        refine lv_lconst (v := lN 0) hx hb dL_isAlike_33 rfl ?_
        refine W.lcmp hx hb dL_isAlike_34 ?_
        rw [lgc_pos hx0 hxl]
        refine lv_if_le (tgt := 62) hx hb dL_isAlike_35 (by decide) (fun c35 => absurd c35 (by decide)) (fun c35 => ?_)
        refine lv_lload hx hb dL_isAlike_38 (lv_at hl 4 rfl) ?_
        refine lv_lload_n hx hb dL_isAlike_40 rfl (lv_at hl 2 rfl) ?_
        refine lv_lload hx hb dL_isAlike_41 (lv_at hl 1 rfl) ?_
        refine lv_ldiv hx hb dL_isAlike_43 (fun q => by have := (lN_eq hxl (b := 0) (by decide)).mp q; omega) ?_
        rw [pk_lDiv (by omega) hx0 (by omega), hg, hu]
        refine W.lcmp hx hb dL_isAlike_44 ?_
        refine lv_if_ne (tgt := 62) hx hb dL_isAlike_45 (by decide) (fun c45 => absurd (lgc0.mpr rfl) c45) (fun c45 => ?_)
        refine lv_lload hx hb dL_isAlike_48 (lv_at hl 5 rfl) ?_
        refine lv_lload_n hx hb dL_isAlike_50 rfl (lv_at hl 3 rfl) ?_
        refine lv_lload hx hb dL_isAlike_51 (lv_at hl 1 rfl) ?_
        refine lv_ldiv hx hb dL_isAlike_53 (fun q => by have := (lN_eq hxl (b := 0) (by decide)).mp q; omega) ?_
        rw [pk_lDiv (by omega) hx0 (by omega), hg, hd]
        refine W.lcmp hx hb dL_isAlike_54 ?_
        refine lv_if_ne (tgt := 62) hx hb dL_isAlike_55 (by decide) (fun c55 => absurd (lgc0.mpr rfl) c55) (fun c55 => ?_)
        refine lv_iconst (v := nI (bN true)) hx hb dL_isAlike_58 rfl ?_
        refine lv_goto (tgt := 63) hx hb dL_isAlike_59 (by decide) ?_
        exact W.zret hx hb hr rfl (fun t ht hW => ⟨⟨rfl, fun k q h => by simp at h⟩, (va_S.rf (A := va_A [] s.heap.size)).F ht⟩) (fun q h => absurd h List.not_mem_nil) dL_isAlike_63
      · have hy0 : 0 < y := by
          rcases Nat.eq_zero_or_pos y with q | q
          · subst q; exact absurd (lgc0.mpr rfl) c10
          · exact q
        refine lv_lload hx hb dL_isAlike_13 (lv_at hl 1 rfl) ?_
        refine lv_lload hx hb dL_isAlike_15 (lv_at hl 0 rfl) ?_
        refine lv_lrem hx hb dL_isAlike_17 (fun q => by have := (lN_eq hyl (b := 0) (by decide)).mp q; omega) ?_
        rw [pk_lRem (by omega) hy0 (by omega)]
        refine lv_lstore (lv' := [(12, .long (lN (x % y))), (10, .long (lN y)), (8, .long (lN x)), (0, .long (lN a)), (2, .long (lN b)), (4, .long u), (6, .long d)]) hx hb dL_isAlike_18 hl (by decide) rfl (fun ls hl => ?_)
        refine lv_lload hx hb dL_isAlike_20 (lv_at hl 1 rfl) ?_
        refine lv_lstore (lv' := [(8, .long (lN y)), (12, .long (lN (x % y))), (10, .long (lN y)), (0, .long (lN a)), (2, .long (lN b)), (4, .long u), (6, .long d)]) hx hb dL_isAlike_22 hl (by decide) rfl (fun ls hl => ?_)
        refine lv_lload hx hb dL_isAlike_24 (lv_at hl 1 rfl) ?_
        refine lv_lstore (lv' := [(10, .long (lN (x % y))), (8, .long (lN y)), (12, .long (lN (x % y))), (0, .long (lN a)), (2, .long (lN b)), (4, .long u), (6, .long d)]) hx hb dL_isAlike_26 hl (by decide) rfl (fun ls hl => ?_)
        refine lv_goto (tgt := 6) hx hb dL_isAlike_28 (by decide) ?_
        have hlt := Nat.mod_lt x hy0
        exact ih (x % y) (by omega) y (x % y) rfl hyl (by omega) (by rw [Nat.gcd_comm, ← Nat.gcd_rec, Nat.gcd_comm]; exact hg) ls (lv_sub hl [0, 1, 3, 4, 5, 6] rfl)
  exact Lp b a b rfl ha hb2 rfl ls hl
