/-! the law's sections: what a finer hand gains; what is refused -/
theorem nk31 {n k : Nat} (hn : n ≤ 6) (hk : k ≤ 4) : n ^ k < 2 ^ 31 := Nat.lt_of_le_of_lt (Nat.le_trans (Nat.pow_le_pow_left hn k) (Nat.pow_le_pow_right (by decide) hk)) (by decide : 6 ^ 4 < 2 ^ 31)
theorem atk_b {R w : Nat → Nat} {n M s k : Nat} (hT : wfT n w) (h : atk R w n M s k) : M ≤ 999 ∧ s ≤ k := by
  obtain ⟨h1, z, -, -, e⟩ := h
  have := hT.2.1 z
  omega
theorem leg_t {k1 p1 k2 p2 n x c q : Nat} {w : Nat → Nat} (h : leg k1 p1 k2 p2 w n x c q = true) (h1 : alk k1 p1 (w (cps n x c q)) (w (cps n x c (q + 1))) = true) (h2 : tls k2 p2 (w (cps n x c (q + 1))) (w (cps n x c q)) = true) : leg k1 p1 k2 p2 w n x c (q + 1) = true := by
  show (leg k1 p1 k2 p2 w n x c q && (alk k1 p1 (w (cps n x c q)) (w (cps n x c (q + 1))) && tls k2 p2 (w (cps n x c (q + 1))) (w (cps n x c q)))) = true
  rw [h, h1, h2]; rfl
theorem leg_f1 {k1 p1 k2 p2 n x c q : Nat} {w : Nat → Nat} (h1 : alk k1 p1 (w (cps n x c q)) (w (cps n x c (q + 1))) = false) : leg k1 p1 k2 p2 w n x c (q + 1) = false := by
  show (leg k1 p1 k2 p2 w n x c q && (alk k1 p1 (w (cps n x c q)) (w (cps n x c (q + 1))) && tls k2 p2 (w (cps n x c (q + 1))) (w (cps n x c q)))) = false
  rw [h1, Bool.false_and, Bool.and_false]
theorem leg_f2 {k1 p1 k2 p2 n x c q : Nat} {w : Nat → Nat} (h2 : tls k2 p2 (w (cps n x c (q + 1))) (w (cps n x c q)) = false) : leg k1 p1 k2 p2 w n x c (q + 1) = false := by
  show (leg k1 p1 k2 p2 w n x c q && (alk k1 p1 (w (cps n x c q)) (w (cps n x c (q + 1))) && tls k2 p2 (w (cps n x c (q + 1))) (w (cps n x c q)))) = false
  rw [h2, Bool.and_false, Bool.and_false]
theorem leg_mono {k1 p1 k2 p2 n x c q r : Nat} {w : Nat → Nat} (h : leg k1 p1 k2 p2 w n x c r = true) (hq : q ≤ r) : leg k1 p1 k2 p2 w n x c q = true := allTo_iff.mpr (fun j hj => allTo_iff.mp h j (by omega))
theorem law_hd2 {P : Nat → Prop} {M s q : Nat} {f : Nat → Nat} (h : ∀ q9, q9 ≤ q → P q9 → dm M s (f q9) q9) (h2 : P (q + 1) → dm M s (f (q + 1)) (q + 1)) : ∀ q9, q9 ≤ q + 1 → P q9 → dm M s (f q9) q9 := by
  intro q9 h9 h8
  rcases Nat.lt_or_ge q9 (q + 1) with z | z
  · exact h q9 (by omega) h8
  · have e6 : q9 = q + 1 := by omega
    rw [e6] at h8 ⊢
    exact h2 h8
theorem law_hdx {k1 p1 k2 p2 n x c q k M s : Nat} {w : Nat → Nat} (hd : ∀ c9, c9 < c → ∀ q9, q9 ≤ k → leg k1 p1 k2 p2 w n x c9 q9 = true → dm M s (w (cps n x c9 q9)) q9) (hd2 : ∀ q9, q9 ≤ q → leg k1 p1 k2 p2 w n x c q9 = true → dm M s (w (cps n x c q9)) q9) (he : k ≤ q ∨ leg k1 p1 k2 p2 w n x c q = false) : ∀ c9, c9 < c + 1 → ∀ q9, q9 ≤ k → leg k1 p1 k2 p2 w n x c9 q9 = true → dm M s (w (cps n x c9 q9)) q9 := by
  intro c9 h9 q9 h8 h7
  rcases Nat.lt_or_ge c9 c with z | z
  · exact hd c9 z q9 h8 h7
  · have e6 : c9 = c := by omega
    rw [e6] at h7 ⊢
    rcases Nat.lt_or_ge q q9 with z2 | z2
    · rcases he with h | h
      · omega
      · rw [leg_mono h7 (Nat.le_of_lt z2)] at h; cases h
    · exact hd2 q9 z2 h7
theorem law_i0 {P : Nat → Prop} {M s : Nat} {f : Nat → Nat} (h : dm M s (f 0) 0) : ∀ q9, q9 ≤ 0 → P q9 → dm M s (f q9) q9 := by
  intro q9 h9 _
  have e6 : q9 = 0 := by omega
  rw [e6]
  exact h
theorem rN_self {n : Nat} (h : n < 2 ^ 31) : rN (nI n) n = none := rN_f (inR_f1 (nI_le (Nat.le_refl n) h))
/-- what the law's end needs -/
def LwE (x : vX) : Prop := ∀ (lv : List (Option Value)) (ws : va_W) (pc : Nat), decode code pc = .ok (.ireturn, 1) → vM x pc lv [.int 1] ws
set_option maxRecDepth 20000 in
set_option maxHeartbeats 4000000 in
theorem law_g {x : vX} {g : vG} {b L : Nat} {xs : Nat → Int32} {ad rr : Nat → Nat} {ta0 n hm : Nat} {tt w kd pt : Nat → Nat} {turn : Nat} (h : Ok x g code RL room_1 19) (hX : LwX x b L xs) (hG : AGT tt n hm w kd pt) (ht : turn < 2) (K : ∀ ws : va_W, PInv g ad rr n w hm kd pt ws → vM x 1270 [some (.ref b), some (.ref (ad 0)), some (.ref ta0), none, some (.int (nI n)), some (.int (nI turn)), none, none, none, none, none, none, none, none, none, none, none, none, none] [] (wcat [(ta0, .inl (gI g, 22, .inl (fun z9 => nI (tt z9))))] ws)) : ∀ ws : va_W, PInv g ad rr n w hm kd pt ws → vM x 959 [some (.ref b), some (.ref (ad 0)), some (.ref ta0), none, some (.int (nI n)), some (.int (nI turn)), none, none, none, none, none, none, none, none, none, none, none, none, none] [] (wcat [(ta0, .inl (gI g, 22, .inl (fun z9 => nI (tt z9))))] ws) := by
  intro ws hI
  have hn := hG.n2
  refine v_aload_n0 h dL_law_959 ?_
  refine v_bipush h (v := nI 7) dL_law_960 (by decide) ?_
  refine v_iload5 h dL_law_962 ?_
  refine v_iaddN h dL_law_964 ?_
  refine v_cell h hX (by omega) ⟨rfl, rfl, (Nat.le_of_ble_eq_true rfl), (Nat.le_of_ble_eq_true rfl)⟩ (Nat.le_of_ble_eq_true rfl) dL_law_965 (fun v965 => ?_)
  refine v_aload_n2 h dL_law_968 ?_
  refine v_bipush h (v := nI 9) dL_law_969 (by decide) ?_
  refine v_t9 h hG dL_law_971 ?_
  refine v_some h (by omega) (by omega) ⟨rfl, rfl, (Nat.le_of_ble_eq_true rfl), (Nat.le_of_ble_eq_true rfl)⟩ (Nat.le_of_ble_eq_true rfl) dL_law_972 (fun j972 hj972 => ?_)
  refine v_istore6 h (Nat.le_of_ble_eq_true rfl) dL_law_975 ?_
  refine v_aload_n0 h dL_law_977 ?_
  refine v_bipush h (v := nI 7) dL_law_978 (by decide) ?_
  refine v_iload5 h dL_law_980 ?_
  refine v_iaddN h dL_law_982 ?_
  refine v_cell h hX (by omega) ⟨rfl, rfl, (Nat.le_of_ble_eq_true rfl), (Nat.le_of_ble_eq_true rfl)⟩ (Nat.le_of_ble_eq_true rfl) dL_law_983 (fun v983 => ?_)
  refine v_iconst h (v := nI 3) dL_law_986 (by decide) ?_
  refine v_ishr h dL_law_987 ?_
  refine v_aload_n2 h dL_law_988 ?_
  refine v_bipush h (v := nI 9) dL_law_989 (by decide) ?_
  refine v_t9 h hG dL_law_991 ?_
  refine v_some h (by omega) (by omega) ⟨rfl, rfl, (Nat.le_of_ble_eq_true rfl), (Nat.le_of_ble_eq_true rfl)⟩ (Nat.le_of_ble_eq_true rfl) dL_law_992 (fun j992 hj992 => ?_)
  refine v_istore7 h (Nat.le_of_ble_eq_true rfl) dL_law_995 ?_
  refine v_aload_n0 h dL_law_997 ?_
  refine v_bipush h (v := nI 7) dL_law_998 (by decide) ?_
  refine v_iload5 h dL_law_1000 ?_
  refine v_iaddN h dL_law_1002 ?_
  refine v_cell h hX (by omega) ⟨rfl, rfl, (Nat.le_of_ble_eq_true rfl), (Nat.le_of_ble_eq_true rfl)⟩ (Nat.le_of_ble_eq_true rfl) dL_law_1003 (fun v1003 => ?_)
  refine v_bipush h (v := nI 6) dL_law_1006 (by decide) ?_
  refine v_ishr h dL_law_1008 ?_
  refine v_iload4 h dL_law_1009 ?_
  refine v_some h (by omega) (by omega) ⟨rfl, rfl, (Nat.le_of_ble_eq_true rfl), (Nat.le_of_ble_eq_true rfl)⟩ (Nat.le_of_ble_eq_true rfl) dL_law_1011 (fun j1011 hj1011 => ?_)
  refine v_istore8 h (Nat.le_of_ble_eq_true rfl) dL_law_1014 ?_
  refine v_iconst h (v := nI 0) dL_law_1016 (by decide) ?_
  refine v_istore9 h (Nat.le_of_ble_eq_true rfl) dL_law_1017 ?_
  have L1019 : ∀ (k1019 : Nat) (k : Nat) (ws : va_W), 5 - k = k1019 → (k ≤ 5) → (PInv g ad rr n w hm kd pt ws) → vM x 1019 [some (.ref b), some (.ref (ad 0)), some (.ref ta0), none, some (.int (nI n)), some (.int (nI turn)), some (.int (nI j972)), some (.int (nI j992)), some (.int (nI j1011)), some (.int (nI k)), none, none, none, none, none, none, none, none, none] [] (wcat [(ta0, .inl (gI g, 22, .inl (fun z9 => nI (tt z9))))] ws) := by
    intro k1019
    induction k1019 using Nat.strongRecOn with
    | _ k1019 ih1019 =>
      intro k ws hm1019 hk hI
      refine v_iload9 h dL_law_1019 ?_
      refine v_iconst h (v := nI 5) dL_law_1021 (by decide) ?_
      refine v_icmp_geN h dL_law_1022 (tgt := 1270) (by decide) (by first | omega | exact Nat.lt_of_le_of_lt (bN_le _) (by decide)) (by first | omega | exact Nat.lt_of_le_of_lt (bN_le _) (by decide)) (fun c1022 => ?_) (fun c1022 => ?_)
      · exact vM.fg (K _ hI) ⟨rfl, rfl, rfl, rfl, rfl, trivial⟩
      · refine v_aload_n2 h dL_law_1025 ?_
        refine v_iconst h (v := nI 1) dL_law_1026 (by decide) ?_
        refine v_iload8 h dL_law_1027 ?_
        refine v_iaddN h dL_law_1029 ?_
        refine v_tw h hG (by omega) dL_law_1030 ?_
        refine v_istore10 h (Nat.le_of_ble_eq_true rfl) dL_law_1031 ?_
        refine v_iconst h (v := nI 0) dL_law_1033 (by decide) ?_
        refine v_istore11 h (Nat.le_of_ble_eq_true rfl) dL_law_1034 ?_
        refine v_iconst h (v := nI 1) dL_law_1036 (by decide) ?_
        refine v_istore12 h (Nat.le_of_ble_eq_true rfl) dL_law_1037 ?_
        refine v_iconst h (v := nI 0) dL_law_1039 (by decide) ?_
        refine v_istore13 h (Nat.le_of_ble_eq_true rfl) dL_law_1040 ?_
        have L1042 : ∀ (k1042 : Nat) (r : Nat), k - r = k1042 → (r ≤ k) → vM x 1042 [some (.ref b), some (.ref (ad 0)), some (.ref ta0), none, some (.int (nI n)), some (.int (nI turn)), some (.int (nI j972)), some (.int (nI j992)), some (.int (nI j1011)), some (.int (nI k)), some (.int (nI (w j1011))), some (.int (nI 0)), some (.int (nI (n ^ r))), some (.int (nI r)), none, none, none, none, none] [] (wcat [(ta0, .inl (gI g, 22, .inl (fun z9 => nI (tt z9))))] ws) := by
          intro k1042
          induction k1042 using Nat.strongRecOn with
          | _ k1042 ih1042 =>
            intro r hm1042 hr
            refine v_iload13 h dL_law_1042 ?_
            refine v_iload9 h dL_law_1044 ?_
            refine v_icmp_geN h dL_law_1046 (tgt := 1062) (by decide) (by first | omega | exact Nat.lt_of_le_of_lt (bN_le _) (by decide)) (by first | omega | exact Nat.lt_of_le_of_lt (bN_le _) (by decide)) (fun c1046 => ?_) (fun c1046 => ?_)
            · have e9 : k = r := by omega
              subst e9
              have hnk : n ^ k < 2 ^ 31 := nk31 hn.2.1 (by omega)
              refine v_iconst h (v := nI 0) dL_law_1062 (by decide) ?_
              refine v_istore13 h (Nat.le_of_ble_eq_true rfl) dL_law_1063 ?_
              have L1065 : ∀ (k1065 : Nat) (c M s : Nat), n ^ k - c = k1065 → (c ≤ n ^ k) → (atk (gnR (alkS (kd j972) (pt j972) w n) (ligS (kd j992) (pt j992) w n) n j1011) w n M s k) → (dm M s (w j1011) 0) → (∀ c9, c9 < c → ∀ q9, q9 ≤ k → (leg (kd j972) (pt j972) (kd j992) (pt j992) w n j1011 c9 q9) = true → dm M s (w (cps n j1011 c9 q9)) q9) → vM x 1065 [some (.ref b), some (.ref (ad 0)), some (.ref ta0), none, some (.int (nI n)), some (.int (nI turn)), some (.int (nI j972)), some (.int (nI j992)), some (.int (nI j1011)), some (.int (nI k)), some (.int (nI M)), some (.int (nI s)), some (.int (nI (n ^ k))), some (.int (nI c)), none, none, none, none, none] [] (wcat [(ta0, .inl (gI g, 22, .inl (fun z9 => nI (tt z9))))] ws) := by
                intro k1065
                induction k1065 using Nat.strongRecOn with
                | _ k1065 ih1065 =>
                  intro c M s hm1065 hc ha hd0 hd
                  refine v_iload13 h dL_law_1065 ?_
                  refine v_iload12 h dL_law_1067 ?_
                  refine v_icmp_geN h dL_law_1069 (tgt := 1226) (by decide) (by first | omega | exact Nat.lt_of_le_of_lt (bN_le _) (by decide)) (by first | omega | exact Nat.lt_of_le_of_lt (bN_le _) (by decide)) (fun c1069 => ?_) (fun c1069 => ?_)
                  · have hM9 := atk_b hG.2.2.2.2.2.2.2.2.1 ha
                    have hgn := gain_eq hj1011 ha (fun c9 h9 => hd c9 (by omega))
                    refine v_aload_n1 h dL_law_1226 ?_
                    refine v_iload6 h dL_law_1227 ?_
                    refine v_iload7 h dL_law_1229 ?_
                    refine v_iload8 h dL_law_1231 ?_
                    refine v_iload9 h dL_law_1233 ?_
                    refine v_iconst h (v := nI 0) dL_law_1235 (by decide) ?_
                    refine kk_gain0 h hG hI (by first | assumption | omega) (by first | assumption | omega) (by first | assumption | omega) (by first | assumption | omega) ⟨rfl, rfl, (Nat.le_of_ble_eq_true rfl), (Nat.le_of_ble_eq_true rfl)⟩ (Nat.le_of_ble_eq_true rfl) dL_law_1236 (fun ws hI => ?_)
                    rw [hgn.1]
                    refine v_iload10 h dL_law_1239 ?_
                    refine v_icmp_neN h dL_law_1241 (tgt := 1262) (by decide) (by first | omega | exact Nat.lt_of_le_of_lt (bN_le _) (by decide)) (by first | omega | exact Nat.lt_of_le_of_lt (bN_le _) (by decide)) (fun c1241 => ?_) (fun c1241 => ?_)
                    · exact absurd rfl c1241
                    · refine v_aload_n1 h dL_law_1244 ?_
                      refine v_iload6 h dL_law_1245 ?_
                      refine v_iload7 h dL_law_1247 ?_
                      refine v_iload8 h dL_law_1249 ?_
                      refine v_iload9 h dL_law_1251 ?_
                      refine v_iconst h (v := nI 1) dL_law_1253 (by decide) ?_
                      refine kk_gain1 h hG hI (by first | assumption | omega) (by first | assumption | omega) (by first | assumption | omega) (by first | assumption | omega) ⟨rfl, rfl, (Nat.le_of_ble_eq_true rfl), (Nat.le_of_ble_eq_true rfl)⟩ (Nat.le_of_ble_eq_true rfl) dL_law_1254 (fun ws hI => ?_)
                      rw [hgn.2]
                      refine v_iload11 h dL_law_1257 ?_
                      refine v_icmp_eqN h dL_law_1259 (tgt := 1264) (by decide) (by first | omega | exact Nat.lt_of_le_of_lt (bN_le _) (by decide)) (by first | omega | exact Nat.lt_of_le_of_lt (bN_le _) (by decide)) (fun c1259 => ?_) (fun c1259 => ?_)
                      · refine v_iincN9 h (Nat.le_of_ble_eq_true rfl) dL_law_1264 ?_
                        refine v_goto h dL_law_1267 (tgt := 1019) (by decide) ?_
                        exact vM.fg (ih1019 _ (by omega) (k + 1) _ rfl (by first | assumption | rfl | omega) (by first | assumption | rfl | omega)) ⟨rfl, rfl, rfl, rfl, rfl, rfl, rfl, rfl, rfl, trivial⟩
                      · exact absurd rfl c1259
                  · refine v_iload13 h dL_law_1072 ?_
                    refine v_istore14 h (Nat.le_of_ble_eq_true rfl) dL_law_1074 ?_
                    refine v_iload8 h dL_law_1076 ?_
                    refine v_istore15 h (Nat.le_of_ble_eq_true rfl) dL_law_1078 ?_
                    refine v_iconst h (v := nI 1) dL_law_1080 (by decide) ?_
                    refine v_istore16 h (Nat.le_of_ble_eq_true rfl) dL_law_1081 ?_
                    refine v_iconst h (v := nI 1) dL_law_1083 (by decide) ?_
                    refine v_istore17 h (Nat.le_of_ble_eq_true rfl) dL_law_1084 ?_
                    have L1086 : ∀ (k1086 : Nat) (q M s : Nat), k - q = k1086 → (q ≤ k) → (atk (gnR (alkS (kd j972) (pt j972) w n) (ligS (kd j992) (pt j992) w n) n j1011) w n M s k) → (dm M s (w j1011) 0) → (∀ c9, c9 < c → ∀ q9, q9 ≤ k → (leg (kd j972) (pt j972) (kd j992) (pt j992) w n j1011 c9 q9) = true → dm M s (w (cps n j1011 c9 q9)) q9) → (∀ q9, q9 ≤ q → (leg (kd j972) (pt j972) (kd j992) (pt j992) w n j1011 c q9) = true → dm M s (w (cps n j1011 c q9)) q9) → vM x 1086 [some (.ref b), some (.ref (ad 0)), some (.ref ta0), none, some (.int (nI n)), some (.int (nI turn)), some (.int (nI j972)), some (.int (nI j992)), some (.int (nI j1011)), some (.int (nI k)), some (.int (nI M)), some (.int (nI s)), some (.int (nI (n ^ k))), some (.int (nI c)), some (.int (nI (c / n ^ q))), some (.int (nI (cps n j1011 c q))), some (.int (nI (bN (leg (kd j972) (pt j972) (kd j992) (pt j992) w n j1011 c q)))), some (.int (nI (q + 1))), none] [] (wcat [(ta0, .inl (gI g, 22, .inl (fun z9 => nI (tt z9))))] ws) := by
                      intro k1086
                      induction k1086 using Nat.strongRecOn with
                      | _ k1086 ih1086 =>
                        intro q M s hm1086 hq ha hd0 hd hd2
                        refine v_iload17 h dL_law_1086 ?_
                        refine v_iload9 h dL_law_1088 ?_
                        refine v_icmp_gtN h dL_law_1090 (tgt := 1220) (by decide) (by first | omega | exact Nat.lt_of_le_of_lt (bN_le _) (by decide)) (by first | omega | exact Nat.lt_of_le_of_lt (bN_le _) (by decide)) (fun c1090 => ?_) (fun c1090 => ?_)
                        · refine v_iincN13 h (Nat.le_of_ble_eq_true rfl) dL_law_1220 ?_
                          refine v_goto h dL_law_1223 (tgt := 1065) (by decide) ?_
                          exact vM.fg (ih1065 _ (by omega) (c + 1) _ _ rfl (by first | assumption | rfl | omega) (by exact ha) (by exact hd0) (by exact law_hdx hd hd2 (by first | exact Or.inl (by omega) | exact Or.inr c1095))) ⟨rfl, rfl, rfl, rfl, rfl, rfl, rfl, rfl, rfl, rfl, rfl, rfl, rfl, trivial⟩
                        · refine v_iload16 h dL_law_1093 ?_
                          refine v_if_eqB h dL_law_1095 (tgt := 1220) (by decide) (fun c1095 => ?_) (fun c1095 => ?_)
                          · refine v_iincN13 h (Nat.le_of_ble_eq_true rfl) dL_law_1220 ?_
                            refine v_goto h dL_law_1223 (tgt := 1065) (by decide) ?_
                            exact vM.fg (ih1065 _ (by omega) (c + 1) _ _ rfl (by first | assumption | rfl | omega) (by exact ha) (by exact hd0) (by exact law_hdx hd hd2 (by first | exact Or.inl (by omega) | exact Or.inr c1095))) ⟨rfl, rfl, rfl, rfl, rfl, rfl, rfl, rfl, rfl, rfl, rfl, rfl, rfl, trivial⟩
                          · have hb1 := cps_lt (c := c) hj1011 q
                            have hb2 := cps_lt (c := c) hj1011 (q + 1)
                            have hw2 := hG.wb hb2
                            have hM9 := atk_b hG.2.2.2.2.2.2.2.2.1 ha
                            refine v_iload14 h dL_law_1098 ?_
                            refine v_iload4 h dL_law_1100 ?_
                            refine v_iremN h dL_law_1102 (by exact Nat.lt_of_le_of_lt (Nat.div_le_self _ _) (by omega)) (by omega) (by omega) ?_
                            refine vM.top (v := .int (nI (cps n j1011 c (q + 1)))) rfl ?_
                            refine v_istore18 h (Nat.le_of_ble_eq_true rfl) dL_law_1103 ?_
                            refine v_iload14 h dL_law_1105 ?_
                            refine v_iload4 h dL_law_1107 ?_
                            refine v_idivN h dL_law_1109 (by exact Nat.lt_of_le_of_lt (Nat.div_le_self _ _) (by omega)) (by omega) (by omega) ?_
                            refine v_istore14 h (Nat.le_of_ble_eq_true rfl) dL_law_1110 ?_
                            refine v_aload_n2 h dL_law_1112 ?_
                            refine v_iload6 h dL_law_1113 ?_
                            refine v_aload_n2 h dL_law_1115 ?_
                            refine v_iconst h (v := nI 1) dL_law_1116 (by decide) ?_
                            refine v_iload15 h dL_law_1117 ?_
                            refine v_iaddN h dL_law_1119 ?_
                            refine v_tw h hG (by omega) dL_law_1120 ?_
                            refine v_aload_n2 h dL_law_1121 ?_
                            refine v_iconst h (v := nI 1) dL_law_1122 (by decide) ?_
                            refine v_iload18 h dL_law_1123 ?_
                            refine v_iaddN h dL_law_1125 ?_
                            refine v_tw h hG (by omega) dL_law_1126 ?_
                            refine v_lalike h hG (by first | assumption | omega) (by first | assumption | omega) (by first | assumption | omega) ⟨rfl, rfl, (Nat.le_of_ble_eq_true rfl), (Nat.le_of_ble_eq_true rfl)⟩ (Nat.le_of_ble_eq_true rfl) dL_law_1127 ?_
                            refine v_if_eqB h dL_law_1130 (tgt := 1158) (by decide) (fun c1130 => ?_) (fun c1130 => ?_)
                            · refine v_iconst h (v := nI 0) dL_law_1158 (by decide) ?_
                              refine v_istore16 h (Nat.le_of_ble_eq_true rfl) dL_law_1159 ?_
                              refine v_iload18 h dL_law_1161 ?_
                              refine v_istore15 h (Nat.le_of_ble_eq_true rfl) dL_law_1163 ?_
                              refine v_iload16 h dL_law_1165 ?_
                              refine v_if_eqN h dL_law_1167 (tgt := 1214) (by decide) (by decide) (fun _ => ?_) (fun c9 => absurd c9 (by decide))
                              refine v_iincN17 h (Nat.le_of_ble_eq_true rfl) dL_law_1214 ?_
                              refine v_goto h dL_law_1217 (tgt := 1086) (by decide) ?_
                              exact vM.fg (ih1086 _ (by omega) (q + 1) _ _ rfl (by first | assumption | rfl | omega) (by first | exact ha | exact ⟨by omega, _, hb2, leg_R hj1011 (q + 1) (leg_t c1095 c1130 c1151), rfl⟩) (by first | exact hd0 | exact dm_re hd0 (by omega) (by intro h6; omega)) (by first | exact hd | exact fun c9 h9 q9 h8 h7 => dm_re (hd c9 h9 q9 h8 h7) (by omega) (by intro h6; omega)) (by first | exact law_hd2 hd2 (fun h8 => absurd h8 (by rw [leg_f1 c1130]; decide)) | exact law_hd2 hd2 (fun h8 => absurd h8 (by rw [leg_f2 c1151]; decide)) | exact law_hd2 hd2 (fun _ => Or.inl c1178) | exact law_hd2 hd2 (fun _ => Or.inr ⟨c1189, c1196⟩) | exact law_hd2 (fun q9 h9 h8 => dm_re (hd2 q9 h9 h8) (by omega) (by intro h6; omega)) (fun _ => Or.inr ⟨rfl, Nat.le_refl _⟩))) ⟨rfl, rfl, rfl, rfl, rfl, rfl, rfl, rfl, rfl, rfl, rfl, rfl, rfl, (by rw [Nat.pow_succ, ← Nat.div_div_eq_div_mul]), rfl, (by first | rw [leg_t c1095 c1130 c1151]; rfl | rw [leg_f1 c1130]; rfl | rw [leg_f2 c1151]; rfl), rfl, trivial⟩
                            · refine v_aload_n2 h dL_law_1133 ?_
                              refine v_iload7 h dL_law_1134 ?_
                              refine v_aload_n2 h dL_law_1136 ?_
                              refine v_iconst h (v := nI 1) dL_law_1137 (by decide) ?_
                              refine v_iload18 h dL_law_1138 ?_
                              refine v_iaddN h dL_law_1140 ?_
                              refine v_tw h hG (by omega) dL_law_1141 ?_
                              refine v_aload_n2 h dL_law_1142 ?_
                              refine v_iconst h (v := nI 1) dL_law_1143 (by decide) ?_
                              refine v_iload15 h dL_law_1144 ?_
                              refine v_iaddN h dL_law_1146 ?_
                              refine v_tw h hG (by omega) dL_law_1147 ?_
                              refine v_ltells h hG (by first | assumption | omega) (by first | assumption | omega) (by first | assumption | omega) ⟨rfl, rfl, (Nat.le_of_ble_eq_true rfl), (Nat.le_of_ble_eq_true rfl)⟩ (Nat.le_of_ble_eq_true rfl) dL_law_1148 ?_
                              refine v_if_eqB h dL_law_1151 (tgt := 1158) (by decide) (fun c1151 => ?_) (fun c1151 => ?_)
                              · refine v_iconst h (v := nI 0) dL_law_1158 (by decide) ?_
                                refine v_istore16 h (Nat.le_of_ble_eq_true rfl) dL_law_1159 ?_
                                refine v_iload18 h dL_law_1161 ?_
                                refine v_istore15 h (Nat.le_of_ble_eq_true rfl) dL_law_1163 ?_
                                refine v_iload16 h dL_law_1165 ?_
                                refine v_if_eqN h dL_law_1167 (tgt := 1214) (by decide) (by decide) (fun _ => ?_) (fun c9 => absurd c9 (by decide))
                                refine v_iincN17 h (Nat.le_of_ble_eq_true rfl) dL_law_1214 ?_
                                refine v_goto h dL_law_1217 (tgt := 1086) (by decide) ?_
                                exact vM.fg (ih1086 _ (by omega) (q + 1) _ _ rfl (by first | assumption | rfl | omega) (by first | exact ha | exact ⟨by omega, _, hb2, leg_R hj1011 (q + 1) (leg_t c1095 c1130 c1151), rfl⟩) (by first | exact hd0 | exact dm_re hd0 (by omega) (by intro h6; omega)) (by first | exact hd | exact fun c9 h9 q9 h8 h7 => dm_re (hd c9 h9 q9 h8 h7) (by omega) (by intro h6; omega)) (by first | exact law_hd2 hd2 (fun h8 => absurd h8 (by rw [leg_f1 c1130]; decide)) | exact law_hd2 hd2 (fun h8 => absurd h8 (by rw [leg_f2 c1151]; decide)) | exact law_hd2 hd2 (fun _ => Or.inl c1178) | exact law_hd2 hd2 (fun _ => Or.inr ⟨c1189, c1196⟩) | exact law_hd2 (fun q9 h9 h8 => dm_re (hd2 q9 h9 h8) (by omega) (by intro h6; omega)) (fun _ => Or.inr ⟨rfl, Nat.le_refl _⟩))) ⟨rfl, rfl, rfl, rfl, rfl, rfl, rfl, rfl, rfl, rfl, rfl, rfl, rfl, (by rw [Nat.pow_succ, ← Nat.div_div_eq_div_mul]), rfl, (by first | rw [leg_t c1095 c1130 c1151]; rfl | rw [leg_f1 c1130]; rfl | rw [leg_f2 c1151]; rfl), rfl, trivial⟩
                              · refine v_iconst h (v := nI 1) dL_law_1154 (by decide) ?_
                                refine v_goto h dL_law_1155 (tgt := 1159) (by decide) ?_
                                refine v_istore16 h (Nat.le_of_ble_eq_true rfl) dL_law_1159 ?_
                                refine v_iload18 h dL_law_1161 ?_
                                refine v_istore15 h (Nat.le_of_ble_eq_true rfl) dL_law_1163 ?_
                                refine v_iload16 h dL_law_1165 ?_
                                refine v_if_eqN h dL_law_1167 (tgt := 1214) (by decide) (by decide) (fun c9 => absurd c9 (by decide)) (fun _ => ?_)
                                refine v_aload_n2 h dL_law_1170 ?_
                                refine v_iconst h (v := nI 1) dL_law_1171 (by decide) ?_
                                refine v_iload15 h dL_law_1172 ?_
                                refine v_iaddN h dL_law_1174 ?_
                                refine v_tw h hG (by omega) dL_law_1175 ?_
                                refine v_iload10 h dL_law_1176 ?_
                                refine v_icmp_ltN h dL_law_1178 (tgt := 1214) (by decide) (by first | omega | exact Nat.lt_of_le_of_lt (bN_le _) (by decide)) (by first | omega | exact Nat.lt_of_le_of_lt (bN_le _) (by decide)) (fun c1178 => ?_) (fun c1178 => ?_)
                                · refine v_iincN17 h (Nat.le_of_ble_eq_true rfl) dL_law_1214 ?_
                                  refine v_goto h dL_law_1217 (tgt := 1086) (by decide) ?_
                                  exact vM.fg (ih1086 _ (by omega) (q + 1) _ _ rfl (by first | assumption | rfl | omega) (by first | exact ha | exact ⟨by omega, _, hb2, leg_R hj1011 (q + 1) (leg_t c1095 c1130 c1151), rfl⟩) (by first | exact hd0 | exact dm_re hd0 (by omega) (by intro h6; omega)) (by first | exact hd | exact fun c9 h9 q9 h8 h7 => dm_re (hd c9 h9 q9 h8 h7) (by omega) (by intro h6; omega)) (by first | exact law_hd2 hd2 (fun h8 => absurd h8 (by rw [leg_f1 c1130]; decide)) | exact law_hd2 hd2 (fun h8 => absurd h8 (by rw [leg_f2 c1151]; decide)) | exact law_hd2 hd2 (fun _ => Or.inl c1178) | exact law_hd2 hd2 (fun _ => Or.inr ⟨c1189, c1196⟩) | exact law_hd2 (fun q9 h9 h8 => dm_re (hd2 q9 h9 h8) (by omega) (by intro h6; omega)) (fun _ => Or.inr ⟨rfl, Nat.le_refl _⟩))) ⟨rfl, rfl, rfl, rfl, rfl, rfl, rfl, rfl, rfl, rfl, rfl, rfl, rfl, (by rw [Nat.pow_succ, ← Nat.div_div_eq_div_mul]), rfl, (by first | rw [leg_t c1095 c1130 c1151]; rfl | rw [leg_f1 c1130]; rfl | rw [leg_f2 c1151]; rfl), rfl, trivial⟩
                                · refine v_aload_n2 h dL_law_1181 ?_
                                  refine v_iconst h (v := nI 1) dL_law_1182 (by decide) ?_
                                  refine v_iload15 h dL_law_1183 ?_
                                  refine v_iaddN h dL_law_1185 ?_
                                  refine v_tw h hG (by omega) dL_law_1186 ?_
                                  refine v_iload10 h dL_law_1187 ?_
                                  refine v_icmp_neN h dL_law_1189 (tgt := 1202) (by decide) (by first | omega | exact Nat.lt_of_le_of_lt (bN_le _) (by decide)) (by first | omega | exact Nat.lt_of_le_of_lt (bN_le _) (by decide)) (fun c1189 => ?_) (fun c1189 => ?_)
                                  · refine v_aload_n2 h dL_law_1202 ?_
                                    refine v_iconst h (v := nI 1) dL_law_1203 (by decide) ?_
                                    refine v_iload15 h dL_law_1204 ?_
                                    refine v_iaddN h dL_law_1206 ?_
                                    refine v_tw h hG (by omega) dL_law_1207 ?_
                                    refine v_istore10 h (Nat.le_of_ble_eq_true rfl) dL_law_1208 ?_
                                    refine v_iload17 h dL_law_1210 ?_
                                    refine v_istore11 h (Nat.le_of_ble_eq_true rfl) dL_law_1212 ?_
                                    refine v_iincN17 h (Nat.le_of_ble_eq_true rfl) dL_law_1214 ?_
                                    refine v_goto h dL_law_1217 (tgt := 1086) (by decide) ?_
                                    exact vM.fg (ih1086 _ (by omega) (q + 1) _ _ rfl (by first | assumption | rfl | omega) (by first | exact ha | exact ⟨by omega, _, hb2, leg_R hj1011 (q + 1) (leg_t c1095 c1130 c1151), rfl⟩) (by first | exact hd0 | exact dm_re hd0 (by omega) (by intro h6; omega)) (by first | exact hd | exact fun c9 h9 q9 h8 h7 => dm_re (hd c9 h9 q9 h8 h7) (by omega) (by intro h6; omega)) (by first | exact law_hd2 hd2 (fun h8 => absurd h8 (by rw [leg_f1 c1130]; decide)) | exact law_hd2 hd2 (fun h8 => absurd h8 (by rw [leg_f2 c1151]; decide)) | exact law_hd2 hd2 (fun _ => Or.inl c1178) | exact law_hd2 hd2 (fun _ => Or.inr ⟨c1189, c1196⟩) | exact law_hd2 (fun q9 h9 h8 => dm_re (hd2 q9 h9 h8) (by omega) (by intro h6; omega)) (fun _ => Or.inr ⟨rfl, Nat.le_refl _⟩))) ⟨rfl, rfl, rfl, rfl, rfl, rfl, rfl, rfl, rfl, rfl, rfl, rfl, rfl, (by rw [Nat.pow_succ, ← Nat.div_div_eq_div_mul]), rfl, (by first | rw [leg_t c1095 c1130 c1151]; rfl | rw [leg_f1 c1130]; rfl | rw [leg_f2 c1151]; rfl), rfl, trivial⟩
                                  · refine v_iload17 h dL_law_1192 ?_
                                    refine v_iload11 h dL_law_1194 ?_
                                    refine v_icmp_ltN h dL_law_1196 (tgt := 1202) (by decide) (by first | omega | exact Nat.lt_of_le_of_lt (bN_le _) (by decide)) (by first | omega | exact Nat.lt_of_le_of_lt (bN_le _) (by decide)) (fun c1196 => ?_) (fun c1196 => ?_)
                                    · refine v_aload_n2 h dL_law_1202 ?_
                                      refine v_iconst h (v := nI 1) dL_law_1203 (by decide) ?_
                                      refine v_iload15 h dL_law_1204 ?_
                                      refine v_iaddN h dL_law_1206 ?_
                                      refine v_tw h hG (by omega) dL_law_1207 ?_
                                      refine v_istore10 h (Nat.le_of_ble_eq_true rfl) dL_law_1208 ?_
                                      refine v_iload17 h dL_law_1210 ?_
                                      refine v_istore11 h (Nat.le_of_ble_eq_true rfl) dL_law_1212 ?_
                                      refine v_iincN17 h (Nat.le_of_ble_eq_true rfl) dL_law_1214 ?_
                                      refine v_goto h dL_law_1217 (tgt := 1086) (by decide) ?_
                                      exact vM.fg (ih1086 _ (by omega) (q + 1) _ _ rfl (by first | assumption | rfl | omega) (by first | exact ha | exact ⟨by omega, _, hb2, leg_R hj1011 (q + 1) (leg_t c1095 c1130 c1151), rfl⟩) (by first | exact hd0 | exact dm_re hd0 (by omega) (by intro h6; omega)) (by first | exact hd | exact fun c9 h9 q9 h8 h7 => dm_re (hd c9 h9 q9 h8 h7) (by omega) (by intro h6; omega)) (by first | exact law_hd2 hd2 (fun h8 => absurd h8 (by rw [leg_f1 c1130]; decide)) | exact law_hd2 hd2 (fun h8 => absurd h8 (by rw [leg_f2 c1151]; decide)) | exact law_hd2 hd2 (fun _ => Or.inl c1178) | exact law_hd2 hd2 (fun _ => Or.inr ⟨c1189, c1196⟩) | exact law_hd2 (fun q9 h9 h8 => dm_re (hd2 q9 h9 h8) (by omega) (by intro h6; omega)) (fun _ => Or.inr ⟨rfl, Nat.le_refl _⟩))) ⟨rfl, rfl, rfl, rfl, rfl, rfl, rfl, rfl, rfl, rfl, rfl, rfl, rfl, (by rw [Nat.pow_succ, ← Nat.div_div_eq_div_mul]), rfl, (by first | rw [leg_t c1095 c1130 c1151]; rfl | rw [leg_f1 c1130]; rfl | rw [leg_f2 c1151]; rfl), rfl, trivial⟩
                                    · refine v_goto h dL_law_1199 (tgt := 1214) (by decide) ?_
                                      refine v_iincN17 h (Nat.le_of_ble_eq_true rfl) dL_law_1214 ?_
                                      refine v_goto h dL_law_1217 (tgt := 1086) (by decide) ?_
                                      exact vM.fg (ih1086 _ (by omega) (q + 1) _ _ rfl (by first | assumption | rfl | omega) (by first | exact ha | exact ⟨by omega, _, hb2, leg_R hj1011 (q + 1) (leg_t c1095 c1130 c1151), rfl⟩) (by first | exact hd0 | exact dm_re hd0 (by omega) (by intro h6; omega)) (by first | exact hd | exact fun c9 h9 q9 h8 h7 => dm_re (hd c9 h9 q9 h8 h7) (by omega) (by intro h6; omega)) (by first | exact law_hd2 hd2 (fun h8 => absurd h8 (by rw [leg_f1 c1130]; decide)) | exact law_hd2 hd2 (fun h8 => absurd h8 (by rw [leg_f2 c1151]; decide)) | exact law_hd2 hd2 (fun _ => Or.inl c1178) | exact law_hd2 hd2 (fun _ => Or.inr ⟨c1189, c1196⟩) | exact law_hd2 (fun q9 h9 h8 => dm_re (hd2 q9 h9 h8) (by omega) (by intro h6; omega)) (fun _ => Or.inr ⟨rfl, Nat.le_refl _⟩))) ⟨rfl, rfl, rfl, rfl, rfl, rfl, rfl, rfl, rfl, rfl, rfl, rfl, rfl, (by rw [Nat.pow_succ, ← Nat.div_div_eq_div_mul]), rfl, (by first | rw [leg_t c1095 c1130 c1151]; rfl | rw [leg_f1 c1130]; rfl | rw [leg_f2 c1151]; rfl), rfl, trivial⟩
                    exact vM.fg (L1086 _ 0 _ _ rfl (by first | assumption | rfl | omega) (by exact ha) (by exact hd0) (by exact hd) (by exact law_i0 hd0)) ⟨rfl, rfl, rfl, rfl, rfl, rfl, rfl, rfl, rfl, rfl, rfl, rfl, rfl, (by rw [Nat.pow_zero, Nat.div_one]), rfl, rfl, rfl, trivial⟩
              exact vM.fg (L1065 _ 0 (w j1011) 0 rfl (by first | assumption | rfl | omega) (by exact ⟨Nat.zero_le _, j1011, hj1011, by show (2 ^ j1011).testBit j1011 = true; rw [two_bit]; exact decide_eq_true rfl, rfl⟩) (by exact Or.inr ⟨rfl, Nat.le_refl _⟩) (by exact fun _ h9 => absurd h9 (Nat.not_lt_zero _))) ⟨rfl, rfl, rfl, rfl, rfl, rfl, rfl, rfl, rfl, rfl, rfl, rfl, rfl, trivial⟩
            · refine v_iload12 h dL_law_1049 ?_
              refine v_iload4 h dL_law_1051 ?_
              refine v_imulN h dL_law_1053 ?_
              refine v_istore12 h (Nat.le_of_ble_eq_true rfl) dL_law_1054 ?_
              refine v_iincN13 h (Nat.le_of_ble_eq_true rfl) dL_law_1056 ?_
              refine v_goto h dL_law_1059 (tgt := 1042) (by decide) ?_
              exact vM.fg (ih1042 _ (by omega) (r + 1) rfl (by first | assumption | rfl | omega)) ⟨rfl, rfl, rfl, rfl, rfl, rfl, rfl, rfl, rfl, rfl, rfl, rfl, rfl, trivial⟩
        exact vM.fg (L1042 _ 0 rfl (by first | assumption | rfl | omega)) ⟨rfl, rfl, rfl, rfl, rfl, rfl, rfl, rfl, rfl, rfl, rfl, rfl, rfl, trivial⟩
  exact vM.fg (L1019 _ 0 _ rfl (by first | assumption | rfl | omega) (by first | assumption | rfl | omega)) ⟨rfl, rfl, rfl, rfl, rfl, rfl, rfl, rfl, rfl, trivial⟩
set_option maxRecDepth 20000 in
set_option maxHeartbeats 4000000 in
theorem law_r {x : vX} {g : vG} {b L : Nat} {xs : Nat → Int32} {ad rr : Nat → Nat} {ta0 n hm : Nat} {tt w kd pt : Nat → Nat}  (h : Ok x g code RL room_1 19) (hX : LwX x b L xs) (hG : AGT tt n hm w kd pt) (hE : LwE x) : ∀ ws : va_W, PInv g ad rr n w hm kd pt ws → vM x 1276 [some (.ref b), some (.ref (ad 0)), some (.ref ta0), none, some (.int (nI n)), none, none, none, none, none, none, none, none, none, none, none, none, none, none] [] (wcat [(ta0, .inl (gI g, 22, .inl (fun z9 => nI (tt z9))))] ws) := by
  intro ws hI
  have hn := hG.n2
  refine v_aload_n1 h dL_law_1276 ?_
  refine v_iload4 h dL_law_1277 ?_
  refine k_weight h hI lk_L_57 ⟨rfl, rfl, (Nat.le_of_ble_eq_true rfl), (Nat.le_of_ble_eq_true rfl)⟩ (Nat.le_of_ble_eq_true rfl) dL_law_1279 (fun ws hI => ?_)
  have e1279 : s_weight n w (nI n) = -1 := by unfold s_weight; rw [rN_self (by omega)]
  rw [e1279]
  refine v_iconst h (v := -1) dL_law_1282 (by decide) ?_
  refine v_icmp_ne h dL_law_1283 (tgt := 1568) (by decide) (fun c1283 => ?_) (fun c1283 => ?_)
  · exact absurd rfl c1283
  · refine v_aload_n1 h dL_law_1286 ?_
    refine v_iload4 h dL_law_1287 ?_
    refine v_iconst h (v := nI 1) dL_law_1289 (by decide) ?_
    refine k_weigh h hI lk_L_47 ⟨rfl, rfl, (Nat.le_of_ble_eq_true rfl), (Nat.le_of_ble_eq_true rfl)⟩ (Nat.le_of_ble_eq_true rfl) dL_law_1290 (fun ws hI => ?_)
    have e1290 : s_weigh n w (nI n) (nI 1) = (-1, w) := by unfold s_weigh; rw [rN_self (by omega)]
    rw [e1290] at hI ⊢
    replace hI := hI hG.2.2.2.2.2.2.2.2.1 hG.2.2.2.2.2.2.2.2.2
    refine v_iconst h (v := -1) dL_law_1293 (by decide) ?_
    refine v_icmp_ne h dL_law_1294 (tgt := 1568) (by decide) (fun c1294 => ?_) (fun c1294 => ?_)
    · exact absurd rfl c1294
    · refine v_aload_n1 h dL_law_1297 ?_
      refine v_iconst h (v := nI 0) dL_law_1298 (by decide) ?_
      refine v_iconst h (v := nI 0) dL_law_1299 (by decide) ?_
      refine k_weigh h hI lk_L_47 ⟨rfl, rfl, (Nat.le_of_ble_eq_true rfl), (Nat.le_of_ble_eq_true rfl)⟩ (Nat.le_of_ble_eq_true rfl) dL_law_1300 (fun ws hI => ?_)
      have e1300 : s_weigh n w (nI 0) (nI 0) = (-2, w) := by unfold s_weigh; rw [rN_N (j := 0) (by omega) (by omega), (by decide : rW (nI 0) 1 999 = none)]
      rw [e1300] at hI ⊢
      replace hI := hI hG.2.2.2.2.2.2.2.2.1 hG.2.2.2.2.2.2.2.2.2
      refine v_bipush h (v := -2) dL_law_1303 (by decide) ?_
      refine v_icmp_ne h dL_law_1305 (tgt := 1568) (by decide) (fun c1305 => ?_) (fun c1305 => ?_)
      · exact absurd rfl c1305
      · refine v_aload_n1 h dL_law_1308 ?_
        refine v_iconst h (v := nI 0) dL_law_1309 (by decide) ?_
        refine v_sipush h (v := nI 1000) dL_law_1310 (by decide) ?_
        refine k_weigh h hI lk_L_47 ⟨rfl, rfl, (Nat.le_of_ble_eq_true rfl), (Nat.le_of_ble_eq_true rfl)⟩ (Nat.le_of_ble_eq_true rfl) dL_law_1313 (fun ws hI => ?_)
        have e1313 : s_weigh n w (nI 0) (nI 1000) = (-2, w) := by unfold s_weigh; rw [rN_N (j := 0) (by omega) (by omega), (by decide : rW (nI 1000) 1 999 = none)]
        rw [e1313] at hI ⊢
        replace hI := hI hG.2.2.2.2.2.2.2.2.1 hG.2.2.2.2.2.2.2.2.2
        refine v_bipush h (v := -2) dL_law_1316 (by decide) ?_
        refine v_icmp_ne h dL_law_1318 (tgt := 1568) (by decide) (fun c1318 => ?_) (fun c1318 => ?_)
        · exact absurd rfl c1318
        · refine v_aload_n1 h dL_law_1321 ?_
          refine v_aload_n2 h dL_law_1322 ?_
          refine v_bipush h (v := nI 9) dL_law_1323 (by decide) ?_
          refine v_t9 h hG dL_law_1325 ?_
          refine v_iconst h (v := nI 1) dL_law_1326 (by decide) ?_
          refine v_iconst h (v := nI 1) dL_law_1327 (by decide) ?_
          refine k_tells h hI lk_L_50 ⟨rfl, rfl, (Nat.le_of_ble_eq_true rfl), (Nat.le_of_ble_eq_true rfl)⟩ (Nat.le_of_ble_eq_true rfl) dL_law_1328 (fun ws hI => ?_)
          have e1328 : s_tells hm kd pt (nI hm) (nI 1) (nI 1) = -1 := by unfold s_tells; rw [rN_self (by omega)]
          rw [e1328]
          refine v_iconst h (v := -1) dL_law_1331 (by decide) ?_
          refine v_icmp_ne h dL_law_1332 (tgt := 1568) (by decide) (fun c1332 => ?_) (fun c1332 => ?_)
          · exact absurd rfl c1332
          · refine v_aload_n1 h dL_law_1335 ?_
            refine v_iconst h (v := nI 0) dL_law_1336 (by decide) ?_
            refine v_iconst h (v := nI 0) dL_law_1337 (by decide) ?_
            refine v_iconst h (v := nI 1) dL_law_1338 (by decide) ?_
            refine k_tells h hI lk_L_50 ⟨rfl, rfl, (Nat.le_of_ble_eq_true rfl), (Nat.le_of_ble_eq_true rfl)⟩ (Nat.le_of_ble_eq_true rfl) dL_law_1339 (fun ws hI => ?_)
            have e1339 : s_tells hm kd pt (nI 0) (nI 0) (nI 1) = -2 := by unfold s_tells; rw [rN_N (j := 0) (by omega) (by omega), (by decide : rW (nI 0) 1 9999 = none)]
            rw [e1339]
            refine v_bipush h (v := -2) dL_law_1342 (by decide) ?_
            refine v_icmp_ne h dL_law_1344 (tgt := 1568) (by decide) (fun c1344 => ?_) (fun c1344 => ?_)
            · exact absurd rfl c1344
            · refine v_aload_n1 h dL_law_1347 ?_
              refine v_iconst h (v := nI 0) dL_law_1348 (by decide) ?_
              refine v_iconst h (v := nI 1) dL_law_1349 (by decide) ?_
              refine v_sipush h (v := nI 10000) dL_law_1350 (by decide) ?_
              refine k_tells h hI lk_L_50 ⟨rfl, rfl, (Nat.le_of_ble_eq_true rfl), (Nat.le_of_ble_eq_true rfl)⟩ (Nat.le_of_ble_eq_true rfl) dL_law_1353 (fun ws hI => ?_)
              have e1353 : s_tells hm kd pt (nI 0) (nI 1) (nI 10000) = -2 := by unfold s_tells; rw [rN_N (j := 0) (by omega) (by omega), rW_N (j := 1) (by decide) (by decide) (by decide), (by decide : rW (nI 10000) 1 9999 = none)]
              rw [e1353]
              refine v_bipush h (v := -2) dL_law_1356 (by decide) ?_
              refine v_icmp_ne h dL_law_1358 (tgt := 1568) (by decide) (fun c1358 => ?_) (fun c1358 => ?_)
              · exact absurd rfl c1358
              · refine v_aload_n1 h dL_law_1361 ?_
                refine v_iconst h (v := nI 0) dL_law_1362 (by decide) ?_
                refine v_iload4 h dL_law_1363 ?_
                refine k_alike h hI lk_L_55 ⟨rfl, rfl, (Nat.le_of_ble_eq_true rfl), (Nat.le_of_ble_eq_true rfl)⟩ (Nat.le_of_ble_eq_true rfl) dL_law_1365 (fun ws hI => ?_)
                have e1365 : s_alike n w hm kd pt (nI 0) (nI n) = -1 := by unfold s_alike; rw [rN_N (j := 0) (by omega) (by omega), rN_self (by omega)]
                rw [e1365]
                refine v_iconst h (v := -1) dL_law_1368 (by decide) ?_
                refine v_icmp_ne h dL_law_1369 (tgt := 1568) (by decide) (fun c1369 => ?_) (fun c1369 => ?_)
                · exact absurd rfl c1369
                · refine v_aload_n1 h dL_law_1372 ?_
                  refine v_aload_n2 h dL_law_1373 ?_
                  refine v_bipush h (v := nI 9) dL_law_1374 (by decide) ?_
                  refine v_t9 h hG dL_law_1376 ?_
                  refine v_iconst h (v := nI 0) dL_law_1377 (by decide) ?_
                  refine k_alike h hI lk_L_55 ⟨rfl, rfl, (Nat.le_of_ble_eq_true rfl), (Nat.le_of_ble_eq_true rfl)⟩ (Nat.le_of_ble_eq_true rfl) dL_law_1378 (fun ws hI => ?_)
                  have e1378 : s_alike n w hm kd pt (nI hm) (nI 0) = -1 := by unfold s_alike; rw [rN_self (by omega)]
                  rw [e1378]
                  refine v_iconst h (v := -1) dL_law_1381 (by decide) ?_
                  refine v_icmp_ne h dL_law_1382 (tgt := 1568) (by decide) (fun c1382 => ?_) (fun c1382 => ?_)
                  · exact absurd rfl c1382
                  · refine v_aload_n1 h dL_law_1385 ?_
                    refine v_iconst h (v := nI 0) dL_law_1386 (by decide) ?_
                    refine v_aload_n2 h dL_law_1387 ?_
                    refine v_bipush h (v := nI 9) dL_law_1388 (by decide) ?_
                    refine v_t9 h hG dL_law_1390 ?_
                    refine k_finer h hI lk_L_69 ⟨rfl, rfl, (Nat.le_of_ble_eq_true rfl), (Nat.le_of_ble_eq_true rfl)⟩ (Nat.le_of_ble_eq_true rfl) dL_law_1391 (fun ws hI => ?_)
                    have e1391 : s_finer n w hm kd pt (nI 0) (nI hm) = -1 := by unfold s_finer; rw [rN_N (j := 0) (by omega) (by omega), rN_self (by omega)]
                    rw [e1391]
                    refine v_iconst h (v := -1) dL_law_1394 (by decide) ?_
                    refine v_icmp_ne h dL_law_1395 (tgt := 1568) (by decide) (fun c1395 => ?_) (fun c1395 => ?_)
                    · exact absurd rfl c1395
                    · refine v_aload_n1 h dL_law_1398 ?_
                      refine v_iconst h (v := nI 0) dL_law_1399 (by decide) ?_
                      refine v_iconst h (v := nI 0) dL_law_1400 (by decide) ?_
                      refine v_iload4 h dL_law_1401 ?_
                      refine v_iconst h (v := nI 0) dL_law_1403 (by decide) ?_
                      refine k_way h hI lk_L_75 ⟨rfl, rfl, (Nat.le_of_ble_eq_true rfl), (Nat.le_of_ble_eq_true rfl)⟩ (Nat.le_of_ble_eq_true rfl) dL_law_1404 (fun ws hI => ?_)
                      have e1404 : s_way n w hm kd pt (nI 0) (nI 0) (nI n) (nI 0) = -1 := by unfold s_way; rw [rN_N (j := 0) (by omega) (by omega), rN_N (j := 0) (by omega) (by omega), rN_self (by omega)]
                      rw [e1404]
                      refine v_iconst h (v := -1) dL_law_1407 (by decide) ?_
                      refine v_icmp_ne h dL_law_1408 (tgt := 1568) (by decide) (fun c1408 => ?_) (fun c1408 => ?_)
                      · exact absurd rfl c1408
                      · refine v_aload_n1 h dL_law_1411 ?_
                        refine v_iconst h (v := nI 0) dL_law_1412 (by decide) ?_
                        refine v_iconst h (v := nI 0) dL_law_1413 (by decide) ?_
                        refine v_iconst h (v := nI 0) dL_law_1414 (by decide) ?_
                        refine v_bipush h (v := -2) dL_law_1415 (by decide) ?_
                        refine k_way h hI lk_L_75 ⟨rfl, rfl, (Nat.le_of_ble_eq_true rfl), (Nat.le_of_ble_eq_true rfl)⟩ (Nat.le_of_ble_eq_true rfl) dL_law_1417 (fun ws hI => ?_)
                        have e1417 : s_way n w hm kd pt (nI 0) (nI 0) (nI 0) (-2) = -1 := by unfold s_way; rw [rN_N (j := 0) (by omega) (by omega), rN_N (j := 0) (by omega) (by omega)]; exact if_pos (by decide)
                        rw [e1417]
                        refine v_iconst h (v := -1) dL_law_1420 (by decide) ?_
                        refine v_icmp_ne h dL_law_1421 (tgt := 1568) (by decide) (fun c1421 => ?_) (fun c1421 => ?_)
                        · exact absurd rfl c1421
                        · refine v_aload_n1 h dL_law_1424 ?_
                          refine v_aload_n2 h dL_law_1425 ?_
                          refine v_bipush h (v := nI 9) dL_law_1426 (by decide) ?_
                          refine v_t9 h hG dL_law_1428 ?_
                          refine v_iconst h (v := nI 0) dL_law_1429 (by decide) ?_
                          refine v_iconst h (v := nI 0) dL_law_1430 (by decide) ?_
                          refine v_iconst h (v := nI 0) dL_law_1431 (by decide) ?_
                          refine k_way h hI lk_L_75 ⟨rfl, rfl, (Nat.le_of_ble_eq_true rfl), (Nat.le_of_ble_eq_true rfl)⟩ (Nat.le_of_ble_eq_true rfl) dL_law_1432 (fun ws hI => ?_)
                          have e1432 : s_way n w hm kd pt (nI hm) (nI 0) (nI 0) (nI 0) = -1 := by unfold s_way; rw [rN_self (by omega)]
                          rw [e1432]
                          refine v_iconst h (v := -1) dL_law_1435 (by decide) ?_
                          refine v_icmp_ne h dL_law_1436 (tgt := 1568) (by decide) (fun c1436 => ?_) (fun c1436 => ?_)
                          · exact absurd rfl c1436
                          · refine v_aload_n1 h dL_law_1439 ?_
                            refine v_iconst h (v := nI 0) dL_law_1440 (by decide) ?_
                            refine v_iload4 h dL_law_1441 ?_
                            refine v_iconst h (v := nI 0) dL_law_1443 (by decide) ?_
                            refine k_noon h hI lk_L_72 ⟨rfl, rfl, (Nat.le_of_ble_eq_true rfl), (Nat.le_of_ble_eq_true rfl)⟩ (Nat.le_of_ble_eq_true rfl) dL_law_1444 (fun ws hI => ?_)
                            have e1444 : s_noon n w hm kd pt (nI 0) (nI n) (nI 0) = -1 := by unfold s_noon; rw [rN_N (j := 0) (by omega) (by omega), rN_self (by omega)]
                            rw [e1444]
                            refine v_iconst h (v := -1) dL_law_1447 (by decide) ?_
                            refine v_icmp_ne h dL_law_1448 (tgt := 1568) (by decide) (fun c1448 => ?_) (fun c1448 => ?_)
                            · exact absurd rfl c1448
                            · refine v_aload_n1 h dL_law_1451 ?_
                              refine v_iconst h (v := nI 0) dL_law_1452 (by decide) ?_
                              refine v_iconst h (v := nI 0) dL_law_1453 (by decide) ?_
                              refine v_bipush h (v := nI 100) dL_law_1454 (by decide) ?_
                              refine k_noon h hI lk_L_72 ⟨rfl, rfl, (Nat.le_of_ble_eq_true rfl), (Nat.le_of_ble_eq_true rfl)⟩ (Nat.le_of_ble_eq_true rfl) dL_law_1456 (fun ws hI => ?_)
                              have e1456 : s_noon n w hm kd pt (nI 0) (nI 0) (nI 100) = -2 := by unfold s_noon; rw [rN_N (j := 0) (by omega) (by omega), rN_N (j := 0) (by omega) (by omega), (by decide : rW (nI 100) 0 99 = none)]
                              rw [e1456]
                              refine v_bipush h (v := -2) dL_law_1459 (by decide) ?_
                              refine v_icmp_ne h dL_law_1461 (tgt := 1568) (by decide) (fun c1461 => ?_) (fun c1461 => ?_)
                              · exact absurd rfl c1461
                              · refine v_aload_n1 h dL_law_1464 ?_
                                refine v_iconst h (v := nI 0) dL_law_1465 (by decide) ?_
                                refine v_iconst h (v := nI 0) dL_law_1466 (by decide) ?_
                                refine v_iconst h (v := -1) dL_law_1467 (by decide) ?_
                                refine k_noon h hI lk_L_72 ⟨rfl, rfl, (Nat.le_of_ble_eq_true rfl), (Nat.le_of_ble_eq_true rfl)⟩ (Nat.le_of_ble_eq_true rfl) dL_law_1468 (fun ws hI => ?_)
                                have e1468 : s_noon n w hm kd pt (nI 0) (nI 0) (-1) = -2 := by unfold s_noon; rw [rN_N (j := 0) (by omega) (by omega), rN_N (j := 0) (by omega) (by omega), (by decide : rW (-1) 0 99 = none)]
                                rw [e1468]
                                refine v_bipush h (v := -2) dL_law_1471 (by decide) ?_
                                refine v_icmp_ne h dL_law_1473 (tgt := 1568) (by decide) (fun c1473 => ?_) (fun c1473 => ?_)
                                · exact absurd rfl c1473
                                · refine v_aload_n1 h dL_law_1476 ?_
                                  refine v_aload_n2 h dL_law_1477 ?_
                                  refine v_bipush h (v := nI 9) dL_law_1478 (by decide) ?_
                                  refine v_t9 h hG dL_law_1480 ?_
                                  refine v_iconst h (v := nI 0) dL_law_1481 (by decide) ?_
                                  refine v_iconst h (v := nI 0) dL_law_1482 (by decide) ?_
                                  refine v_iconst h (v := nI 0) dL_law_1483 (by decide) ?_
                                  refine v_iconst h (v := nI 0) dL_law_1484 (by decide) ?_
                                  refine k_gain h hI lk_L_78 ⟨rfl, rfl, (Nat.le_of_ble_eq_true rfl), (Nat.le_of_ble_eq_true rfl)⟩ (Nat.le_of_ble_eq_true rfl) dL_law_1485 (fun ws hI => ?_)
                                  have e1485 : s_gain n w hm kd pt (nI hm) (nI 0) (nI 0) (nI 0) (nI 0) = -1 := by unfold s_gain; rw [rN_self (by omega)]
                                  rw [e1485]
                                  refine v_iconst h (v := -1) dL_law_1488 (by decide) ?_
                                  refine v_icmp_ne h dL_law_1489 (tgt := 1568) (by decide) (fun c1489 => ?_) (fun c1489 => ?_)
                                  · exact absurd rfl c1489
                                  · refine v_aload_n1 h dL_law_1492 ?_
                                    refine v_iconst h (v := nI 0) dL_law_1493 (by decide) ?_
                                    refine v_iconst h (v := nI 0) dL_law_1494 (by decide) ?_
                                    refine v_iload4 h dL_law_1495 ?_
                                    refine v_iconst h (v := nI 0) dL_law_1497 (by decide) ?_
                                    refine v_iconst h (v := nI 0) dL_law_1498 (by decide) ?_
                                    refine k_gain h hI lk_L_78 ⟨rfl, rfl, (Nat.le_of_ble_eq_true rfl), (Nat.le_of_ble_eq_true rfl)⟩ (Nat.le_of_ble_eq_true rfl) dL_law_1499 (fun ws hI => ?_)
                                    have e1499 : s_gain n w hm kd pt (nI 0) (nI 0) (nI n) (nI 0) (nI 0) = -1 := by unfold s_gain; rw [rN_N (j := 0) (by omega) (by omega), rN_self (by omega)]
                                    rw [e1499]
                                    refine v_iconst h (v := -1) dL_law_1502 (by decide) ?_
                                    refine v_icmp_ne h dL_law_1503 (tgt := 1568) (by decide) (fun c1503 => ?_) (fun c1503 => ?_)
                                    · exact absurd rfl c1503
                                    · refine v_aload_n1 h dL_law_1506 ?_
                                      refine v_iconst h (v := nI 0) dL_law_1507 (by decide) ?_
                                      refine v_iconst h (v := nI 0) dL_law_1508 (by decide) ?_
                                      refine v_iconst h (v := nI 0) dL_law_1509 (by decide) ?_
                                      refine v_bipush h (v := nI 9) dL_law_1510 (by decide) ?_
                                      refine v_iconst h (v := nI 0) dL_law_1512 (by decide) ?_
                                      refine k_gain h hI lk_L_78 ⟨rfl, rfl, (Nat.le_of_ble_eq_true rfl), (Nat.le_of_ble_eq_true rfl)⟩ (Nat.le_of_ble_eq_true rfl) dL_law_1513 (fun ws hI => ?_)
                                      have e1513 : s_gain n w hm kd pt (nI 0) (nI 0) (nI 0) (nI 9) (nI 0) = -2 := by unfold s_gain; rw [rN_N (j := 0) (by omega) (by omega), rN_N (j := 0) (by omega) (by omega), (by decide : rW (nI 9) 0 8 = none)]
                                      rw [e1513]
                                      refine v_bipush h (v := -2) dL_law_1516 (by decide) ?_
                                      refine v_icmp_ne h dL_law_1518 (tgt := 1568) (by decide) (fun c1518 => ?_) (fun c1518 => ?_)
                                      · exact absurd rfl c1518
                                      · refine v_aload_n1 h dL_law_1521 ?_
                                        refine v_iconst h (v := nI 0) dL_law_1522 (by decide) ?_
                                        refine v_iconst h (v := nI 0) dL_law_1523 (by decide) ?_
                                        refine v_iconst h (v := nI 0) dL_law_1524 (by decide) ?_
                                        refine v_iconst h (v := nI 0) dL_law_1525 (by decide) ?_
                                        refine v_iconst h (v := nI 2) dL_law_1526 (by decide) ?_
                                        refine k_gain h hI lk_L_78 ⟨rfl, rfl, (Nat.le_of_ble_eq_true rfl), (Nat.le_of_ble_eq_true rfl)⟩ (Nat.le_of_ble_eq_true rfl) dL_law_1527 (fun ws hI => ?_)
                                        have e1527 : s_gain n w hm kd pt (nI 0) (nI 0) (nI 0) (nI 0) (nI 2) = -2 := by unfold s_gain; rw [rN_N (j := 0) (by omega) (by omega), rN_N (j := 0) (by omega) (by omega), rW_N (j := 0) (by decide) (by decide) (by decide), (by decide : rW (nI 2) 0 1 = none)]
                                        rw [e1527]
                                        refine v_bipush h (v := -2) dL_law_1530 (by decide) ?_
                                        refine v_icmp_ne h dL_law_1532 (tgt := 1568) (by decide) (fun c1532 => ?_) (fun c1532 => ?_)
                                        · exact absurd rfl c1532
                                        · refine v_aload_n1 h dL_law_1535 ?_
                                          refine v_aload_n2 h dL_law_1536 ?_
                                          refine v_bipush h (v := nI 9) dL_law_1537 (by decide) ?_
                                          refine v_t9 h hG dL_law_1539 ?_
                                          refine v_iconst h (v := nI 0) dL_law_1540 (by decide) ?_
                                          refine k_odds h hI (Or.inr hn.1) lk_L_61 ⟨rfl, rfl, (Nat.le_of_ble_eq_true rfl), (Nat.le_of_ble_eq_true rfl)⟩ (Nat.le_of_ble_eq_true rfl) dL_law_1541 (fun ws hI => ?_)
                                          have e1541 : s_odds n w hm kd pt (nI hm) (nI 0) = -9223372036854775808 := by unfold s_odds; rw [rN_self (by omega)]
                                          rw [e1541]
                                          refine v_ldc2 h mk2_L_82 dL_law_1544 ?_
                                          refine v_lcmp h dL_law_1547 ?_
                                          refine v_if_ne h dL_law_1548 (tgt := 1568) (by decide) (fun c1548 => ?_) (fun c1548 => ?_)
                                          · exact absurd (lgc0.mpr rfl) c1548
                                          · refine v_aload_n1 h dL_law_1551 ?_
                                            refine v_iconst h (v := nI 0) dL_law_1552 (by decide) ?_
                                            refine v_iconst h (v := nI 2) dL_law_1553 (by decide) ?_
                                            refine k_odds h hI (Or.inr hn.1) lk_L_61 ⟨rfl, rfl, (Nat.le_of_ble_eq_true rfl), (Nat.le_of_ble_eq_true rfl)⟩ (Nat.le_of_ble_eq_true rfl) dL_law_1554 (fun ws hI => ?_)
                                            have e1554 : s_odds n w hm kd pt (nI 0) (nI 2) = -9223372036854775808 := by unfold s_odds; rw [rN_N (j := 0) (by omega) (by omega), (by decide : rW (nI 2) 0 1 = none)]
                                            rw [e1554]
                                            refine v_ldc2 h mk2_L_82 dL_law_1557 ?_
                                            refine v_lcmp h dL_law_1560 ?_
                                            refine v_if_ne h dL_law_1561 (tgt := 1568) (by decide) (fun c1561 => ?_) (fun c1561 => ?_)
                                            · exact absurd (lgc0.mpr rfl) c1561
                                            · refine v_iconst h (v := nI 1) dL_law_1564 (by decide) ?_
                                              refine v_goto h dL_law_1565 (tgt := 1569) (by decide) ?_
                                              refine vM.top (v := .int 1) (congrArg Value.int (by decide)) ?_
                                              exact hE _ _ _ dL_law_1569
