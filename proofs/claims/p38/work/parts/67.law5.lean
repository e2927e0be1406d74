theorem put_b {tt : Nat → Nat} {i v : Nat} (h : ∀ j, j < i → 1 ≤ tt (1 + j) ∧ tt (1 + j) ≤ 999) (h1 : 1 ≤ v) (h2 : v ≤ 999) : ∀ j, j < i + 1 → 1 ≤ up tt (1 + i) v (1 + j) ∧ up tt (1 + i) v (1 + j) ≤ 999 := by
  intro j hj
  by_cases e : j = i
  · subst e
    rw [up_self]
    exact ⟨h1, h2⟩
  · rw [up_ne _ _ (by omega)]
    exact h j (by omega)
def P_put (g : vG) (ad rr : Nat → Nat) (ta0 : Nat) : Option Value → va_W → Prop := fun r wo => ∃ (n : Nat) (tt : Nat → Nat) (c : Nat → Int32) (ws : va_W), 2 ≤ n ∧ n ≤ 6 ∧ tt 0 = n ∧ tt 9 = 0 ∧ (∀ j, j < n → 1 ≤ tt (1 + j) ∧ tt (1 + j) ≤ 999) ∧ TX c n tt ∧ S1 g ad rr c ws ∧ r = some (.int (nI (4 * n - 1))) ∧ wo = wcat [(ta0, .inl (gI g, 22, .inl (fun z9 => nI (tt z9))))] ws
set_option maxRecDepth 20000 in
set_option maxHeartbeats 4000000 in
theorem put_loop {x : vX} {g : vG} {b L : Nat} {xs : Nat → Int32} {ad rr : Nat → Nat} {ta0 n base : Nat} {tt : Nat → Nat} {c : Nat → Int32} {wi0 ws0 : va_W} (h : Ok x g cL_put RL (rmOf 4 90) 11) (hX : LwX x b L xs) (hr : RetP x (some .int) wi0 (P_put g ad rr ta0)) (hw0 : wi0.map (fun q => q.1) = ta0 :: adL ad rr) (hn2 : 2 ≤ n) (hn6 : n ≤ 6) (hb1 : 1 ≤ base) (hb9 : base ≤ 900) (h00 : tt 0 = n) (h90 : tt 9 = 0) (hI0 : S1 g ad rr c ws0) : vM x 75 [some (.ref (ad 0)), some (.ref b), some (.int (nI 0)), some (.int (nI 6)), some (.ref ta0), none, some (.int (nI 0)), some (.int (nI base)), none, none, none] [] (wcat [(ta0, .inl (gI g, 22, .inl (fun z9 => nI (tt z9))))] ws0) := by
  refine v_iconst h (v := nI 0) dL_put_75 (by decide) ?_
  refine v_istore8 h (Nat.le_of_ble_eq_true rfl) dL_put_76 ?_
  have L78 : ∀ (k78 : Nat) (i : Nat) (tt1 : Nat → Nat) (c1 : Nat → Int32) (ws : va_W), n - i = k78 → (i ≤ n) → (tt1 0 = n) → (tt1 9 = 0) → (∀ j, j < i → 1 ≤ tt1 (1 + j) ∧ tt1 (1 + j) ≤ 999) → (S1 g ad rr c1 ws) → (TX c1 i tt1) → vM x 78 [some (.ref (ad 0)), some (.ref b), some (.int (nI 0)), some (.int (nI 6)), some (.ref ta0), none, some (.int (nI (4 * i - 1))), some (.int (nI base)), some (.int (nI i)), none, none] [] (wcat [(ta0, .inl (gI g, 22, .inl (fun z9 => nI (tt1 z9))))] ws) := by
    intro k78
    induction k78 using Nat.strongRecOn with
    | _ k78 ih78 =>
      intro i tt1 c1 ws hm78 hi h0 h9 hb hI hx
      refine v_iload8 h dL_put_78 ?_
      refine v_aload4 h dL_put_80 ?_
      refine v_iconst h (v := nI 0) dL_put_82 (by decide) ?_
      refine v_ialdN h 0 rfl (by omega) (Nat.le_of_ble_eq_true rfl) dL_put_83 ?_
      rw [h0]
      refine v_icmp_geN h dL_put_84 (tgt := 272) (by decide) (by omega) (by omega) (fun c84 => ?_) (fun c84 => ?_)
      · have e9 : n = i := by omega
        subst e9
        refine v_iload6 h dL_put_272 ?_
        exact v_iretP h hr dL_put_274 ⟨n, tt1, c1, ws, hn2, hn6, h0, h9, hb, hx, hI, rfl, rfl⟩ (by rw [hw0]; show ta0 :: ws.map (fun q => q.1) = _; rw [hI.fst])
      · refine v_aload_n1 h dL_put_87 ?_
        refine v_iload_n2 h dL_put_88 ?_
        refine v_iconst h (v := nI 1) dL_put_89 (by decide) ?_
        refine v_iaddN h dL_put_90 ?_
        refine v_iload8 h dL_put_91 ?_
        refine v_iconst h (v := nI 4) dL_put_93 (by decide) ?_
        refine v_iremN h dL_put_94 (by omega) (by omega) (by omega) ?_
        refine v_iaddN h dL_put_95 ?_
        refine v_cell h hX (by omega) ⟨rfl, rfl, (Nat.le_of_ble_eq_true rfl), (Nat.le_of_ble_eq_true rfl)⟩ (Nat.le_of_ble_eq_true rfl) dL_put_96 (fun v96 => ?_)
        refine v_iload8 h dL_put_99 ?_
        refine v_iconst h (v := nI 4) dL_put_101 (by decide) ?_
        refine v_idivN h dL_put_102 (by omega) (by omega) (by omega) ?_
        refine v_bipush h (v := nI 14) dL_put_103 (by decide) ?_
        refine v_imulN h dL_put_105 ?_
        refine v_ishr h dL_put_106 ?_
        refine v_istore9 h (Nat.le_of_ble_eq_true rfl) dL_put_107 ?_
        have K2 : ∀ v : Nat, 1 ≤ v → v ≤ 999 → vM x 162 [some (.ref (ad 0)), some (.ref b), some (.int (nI 0)), some (.int (nI 6)), some (.ref ta0), none, some (.int (nI (4 * i - 1))), some (.int (nI base)), some (.int (nI i)), none, none] [.int (nI v)] (wcat [(ta0, .inl (gI g, 22, .inl (fun z9 => nI (tt1 z9))))] ws) := by
          intro v hv1 hv2
          refine v_istore10 h (Nat.le_of_ble_eq_true rfl) dL_put_162 ?_
          refine v_aload4 h dL_put_164 ?_
          refine v_iconst h (v := nI 1) dL_put_166 (by decide) ?_
          refine v_iload8 h dL_put_167 ?_
          refine v_iaddN h dL_put_169 ?_
          refine v_iload10 h dL_put_170 ?_
          refine v_iastN h 0 rfl (by omega) (Nat.le_of_ble_eq_true rfl) dL_put_172 (ws' := (wcat [(ta0, .inl (gI g, 22, .inl (fun z9 => nI ((up tt1 (1 + i) v) z9))))] ws)) rfl ?_
          refine v_iload8 h dL_put_173 ?_
          refine v_if_leN h dL_put_175 (tgt := 194) (by decide) (by omega) (fun c175 => ?_) (fun c175 => ?_)
          · refine v_aload_n0 h dL_put_194 ?_
            refine v_iconst h (v := nI 0) dL_put_195 (by decide) ?_
            refine v_iload6 h dL_put_196 ?_
            refine v_iincN6 h (Nat.le_of_ble_eq_true rfl) dL_put_198 ?_
            refine v_bipush h (v := nI 48) dL_put_201 (by decide) ?_
            refine v_iload10 h dL_put_203 ?_
            refine v_bipush h (v := nI 100) dL_put_205 (by decide) ?_
            refine v_idivN h dL_put_207 (by omega) (by omega) (by omega) ?_
            refine v_iaddN h dL_put_208 ?_
            refine kk_put h hI (by omega) (by omega) ⟨rfl, rfl, (Nat.le_of_ble_eq_true rfl), (Nat.le_of_ble_eq_true rfl)⟩ (Nat.le_of_ble_eq_true rfl) dL_put_209 (fun ws hI => ?_)
            refine v_iconst h (v := nI 1) dL_put_212 (by decide) ?_
            refine v_icmp_neN h dL_put_213 (tgt := 263) (by decide) (by omega) (by omega) (fun c213 => ?_) (fun c213 => ?_)
            · exact absurd rfl c213
            · refine v_aload_n0 h dL_put_216 ?_
              refine v_iconst h (v := nI 0) dL_put_217 (by decide) ?_
              refine v_iload6 h dL_put_218 ?_
              refine v_iincN6 h (Nat.le_of_ble_eq_true rfl) dL_put_220 ?_
              refine v_bipush h (v := nI 48) dL_put_223 (by decide) ?_
              refine v_iload10 h dL_put_225 ?_
              refine v_bipush h (v := nI 10) dL_put_227 (by decide) ?_
              refine v_idivN h dL_put_229 (by omega) (by omega) (by omega) ?_
              refine v_bipush h (v := nI 10) dL_put_230 (by decide) ?_
              refine v_iremN h dL_put_232 (by omega) (by omega) (by omega) ?_
              refine v_iaddN h dL_put_233 ?_
              refine kk_put h hI (by omega) (by omega) ⟨rfl, rfl, (Nat.le_of_ble_eq_true rfl), (Nat.le_of_ble_eq_true rfl)⟩ (Nat.le_of_ble_eq_true rfl) dL_put_234 (fun ws hI => ?_)
              refine v_iconst h (v := nI 1) dL_put_237 (by decide) ?_
              refine v_icmp_neN h dL_put_238 (tgt := 263) (by decide) (by omega) (by omega) (fun c238 => ?_) (fun c238 => ?_)
              · exact absurd rfl c238
              · refine v_aload_n0 h dL_put_241 ?_
                refine v_iconst h (v := nI 0) dL_put_242 (by decide) ?_
                refine v_iload6 h dL_put_243 ?_
                refine v_iincN6 h (Nat.le_of_ble_eq_true rfl) dL_put_245 ?_
                refine v_bipush h (v := nI 48) dL_put_248 (by decide) ?_
                refine v_iload10 h dL_put_250 ?_
                refine v_bipush h (v := nI 10) dL_put_252 (by decide) ?_
                refine v_iremN h dL_put_254 (by omega) (by omega) (by omega) ?_
                refine v_iaddN h dL_put_255 ?_
                refine kk_put h hI (by omega) (by omega) ⟨rfl, rfl, (Nat.le_of_ble_eq_true rfl), (Nat.le_of_ble_eq_true rfl)⟩ (Nat.le_of_ble_eq_true rfl) dL_put_256 (fun ws hI => ?_)
                refine v_iconst h (v := nI 1) dL_put_259 (by decide) ?_
                refine v_icmp_eqN h dL_put_260 (tgt := 266) (by decide) (by omega) (by omega) (fun c260 => ?_) (fun c260 => ?_)
                · refine v_iincN8 h (Nat.le_of_ble_eq_true rfl) dL_put_266 ?_
                  refine v_goto h dL_put_269 (tgt := 78) (by decide) ?_
                  exact vM.fg (ih78 _ (by omega) (i + 1) (up tt1 (1 + i) v) _ _ rfl (by first | assumption | rfl | omega) (by exact (up_ne _ _ (by omega)).trans h0) (by exact (up_ne _ _ (by omega)).trans h9) (by exact put_b hb hv1 hv2) (by exact hI) (by exact TX.up hx (fun z hz => by first | (exfalso; omega) | rw [upd_ne _ (by omega), upd_ne _ (by omega), upd_ne _ (by omega), upd_ne _ (by omega)]) (by rw [upd_ne _ (by omega), upd_ne _ (by omega), upd_eq _ (by omega)]) (by rw [upd_ne _ (by omega), upd_eq _ (by omega)]) (by rw [upd_eq _ (by omega)]) (fun h6 => by first | (exfalso; omega) | rw [upd_ne _ (by omega), upd_ne _ (by omega), upd_ne _ (by omega), upd_eq _ (by omega)]))) ⟨rfl, rfl, rfl, rfl, rfl, (by exact congrArg (fun q => some (Value.int (nI q))) (by omega)), rfl, rfl, trivial⟩
                · exact absurd rfl c260
          · refine v_aload_n0 h dL_put_178 ?_
            refine v_iconst h (v := nI 0) dL_put_179 (by decide) ?_
            refine v_iload6 h dL_put_180 ?_
            refine v_iincN6 h (Nat.le_of_ble_eq_true rfl) dL_put_182 ?_
            refine v_bipush h (v := nI 59) dL_put_185 (by decide) ?_
            refine kk_put h hI (by omega) (by omega) ⟨rfl, rfl, (Nat.le_of_ble_eq_true rfl), (Nat.le_of_ble_eq_true rfl)⟩ (Nat.le_of_ble_eq_true rfl) dL_put_187 (fun ws hI => ?_)
            refine v_iconst h (v := nI 1) dL_put_190 (by decide) ?_
            refine v_icmp_neN h dL_put_191 (tgt := 263) (by decide) (by omega) (by omega) (fun c191 => ?_) (fun c191 => ?_)
            · exact absurd rfl c191
            · refine v_aload_n0 h dL_put_194 ?_
              refine v_iconst h (v := nI 0) dL_put_195 (by decide) ?_
              refine v_iload6 h dL_put_196 ?_
              refine v_iincN6 h (Nat.le_of_ble_eq_true rfl) dL_put_198 ?_
              refine v_bipush h (v := nI 48) dL_put_201 (by decide) ?_
              refine v_iload10 h dL_put_203 ?_
              refine v_bipush h (v := nI 100) dL_put_205 (by decide) ?_
              refine v_idivN h dL_put_207 (by omega) (by omega) (by omega) ?_
              refine v_iaddN h dL_put_208 ?_
              refine kk_put h hI (by omega) (by omega) ⟨rfl, rfl, (Nat.le_of_ble_eq_true rfl), (Nat.le_of_ble_eq_true rfl)⟩ (Nat.le_of_ble_eq_true rfl) dL_put_209 (fun ws hI => ?_)
              refine v_iconst h (v := nI 1) dL_put_212 (by decide) ?_
              refine v_icmp_neN h dL_put_213 (tgt := 263) (by decide) (by omega) (by omega) (fun c213 => ?_) (fun c213 => ?_)
              · exact absurd rfl c213
              · refine v_aload_n0 h dL_put_216 ?_
                refine v_iconst h (v := nI 0) dL_put_217 (by decide) ?_
                refine v_iload6 h dL_put_218 ?_
                refine v_iincN6 h (Nat.le_of_ble_eq_true rfl) dL_put_220 ?_
                refine v_bipush h (v := nI 48) dL_put_223 (by decide) ?_
                refine v_iload10 h dL_put_225 ?_
                refine v_bipush h (v := nI 10) dL_put_227 (by decide) ?_
                refine v_idivN h dL_put_229 (by omega) (by omega) (by omega) ?_
                refine v_bipush h (v := nI 10) dL_put_230 (by decide) ?_
                refine v_iremN h dL_put_232 (by omega) (by omega) (by omega) ?_
                refine v_iaddN h dL_put_233 ?_
                refine kk_put h hI (by omega) (by omega) ⟨rfl, rfl, (Nat.le_of_ble_eq_true rfl), (Nat.le_of_ble_eq_true rfl)⟩ (Nat.le_of_ble_eq_true rfl) dL_put_234 (fun ws hI => ?_)
                refine v_iconst h (v := nI 1) dL_put_237 (by decide) ?_
                refine v_icmp_neN h dL_put_238 (tgt := 263) (by decide) (by omega) (by omega) (fun c238 => ?_) (fun c238 => ?_)
                · exact absurd rfl c238
                · refine v_aload_n0 h dL_put_241 ?_
                  refine v_iconst h (v := nI 0) dL_put_242 (by decide) ?_
                  refine v_iload6 h dL_put_243 ?_
                  refine v_iincN6 h (Nat.le_of_ble_eq_true rfl) dL_put_245 ?_
                  refine v_bipush h (v := nI 48) dL_put_248 (by decide) ?_
                  refine v_iload10 h dL_put_250 ?_
                  refine v_bipush h (v := nI 10) dL_put_252 (by decide) ?_
                  refine v_iremN h dL_put_254 (by omega) (by omega) (by omega) ?_
                  refine v_iaddN h dL_put_255 ?_
                  refine kk_put h hI (by omega) (by omega) ⟨rfl, rfl, (Nat.le_of_ble_eq_true rfl), (Nat.le_of_ble_eq_true rfl)⟩ (Nat.le_of_ble_eq_true rfl) dL_put_256 (fun ws hI => ?_)
                  refine v_iconst h (v := nI 1) dL_put_259 (by decide) ?_
                  refine v_icmp_eqN h dL_put_260 (tgt := 266) (by decide) (by omega) (by omega) (fun c260 => ?_) (fun c260 => ?_)
                  · refine v_iincN8 h (Nat.le_of_ble_eq_true rfl) dL_put_266 ?_
                    refine v_goto h dL_put_269 (tgt := 78) (by decide) ?_
                    exact vM.fg (ih78 _ (by omega) (i + 1) (up tt1 (1 + i) v) _ _ rfl (by first | assumption | rfl | omega) (by exact (up_ne _ _ (by omega)).trans h0) (by exact (up_ne _ _ (by omega)).trans h9) (by exact put_b hb hv1 hv2) (by exact hI) (by exact TX.up hx (fun z hz => by first | (exfalso; omega) | rw [upd_ne _ (by omega), upd_ne _ (by omega), upd_ne _ (by omega), upd_ne _ (by omega)]) (by rw [upd_ne _ (by omega), upd_ne _ (by omega), upd_eq _ (by omega)]) (by rw [upd_ne _ (by omega), upd_eq _ (by omega)]) (by rw [upd_eq _ (by omega)]) (fun h6 => by first | (exfalso; omega) | rw [upd_ne _ (by omega), upd_ne _ (by omega), upd_ne _ (by omega), upd_eq _ (by omega)]))) ⟨rfl, rfl, rfl, rfl, rfl, (by exact congrArg (fun q => some (Value.int (nI q))) (by omega)), rfl, rfl, trivial⟩
                  · exact absurd rfl c260
        refine v_iload9 h dL_put_109 ?_
        refine v_iconst h (v := nI 5) dL_put_111 (by decide) ?_
        refine v_some h (by omega) (by omega) ⟨rfl, rfl, (Nat.le_of_ble_eq_true rfl), (Nat.le_of_ble_eq_true rfl)⟩ (Nat.le_of_ble_eq_true rfl) dL_put_112 (fun j112 hj112 => ?_)
        refine v_if_neN h dL_put_115 (tgt := 133) (by decide) (by omega) (fun c115 => ?_) (fun c115 => ?_)
        · refine v_iload7 h dL_put_133 ?_
          refine v_iload9 h dL_put_135 ?_
          refine v_iconst h (v := nI 2) dL_put_137 (by decide) ?_
          refine v_ishr h dL_put_138 ?_
          refine v_iload9 h dL_put_139 ?_
          refine v_bipush h (v := nI 8) dL_put_141 (by decide) ?_
          refine v_ishr h dL_put_143 ?_
          refine v_iconst h (v := nI 2) dL_put_144 (by decide) ?_
          refine v_some h (by omega) (by omega) ⟨rfl, rfl, (Nat.le_of_ble_eq_true rfl), (Nat.le_of_ble_eq_true rfl)⟩ (Nat.le_of_ble_eq_true rfl) dL_put_145 (fun j145 hj145 => ?_)
          refine v_if_neN h dL_put_148 (tgt := 156) (by decide) (by omega) (fun c148 => ?_) (fun c148 => ?_)
          · refine v_bipush h (v := nI 20) dL_put_156 (by decide) ?_
            refine v_some h (by omega) (by omega) ⟨rfl, rfl, (Nat.le_of_ble_eq_true rfl), (Nat.le_of_ble_eq_true rfl)⟩ (Nat.le_of_ble_eq_true rfl) dL_put_158 (fun j158 hj158 => ?_)
            refine v_iaddN h dL_put_161 ?_
            exact vM.fg (K2 _ (by omega) (by omega)) ⟨rfl, rfl, rfl, rfl, rfl, rfl, rfl, rfl, trivial⟩
          · refine v_bipush h (v := nI 90) dL_put_151 (by decide) ?_
            refine v_goto h dL_put_153 (tgt := 158) (by decide) ?_
            refine v_some h (by omega) (by omega) ⟨rfl, rfl, (Nat.le_of_ble_eq_true rfl), (Nat.le_of_ble_eq_true rfl)⟩ (Nat.le_of_ble_eq_true rfl) dL_put_158 (fun j158 hj158 => ?_)
            refine v_iaddN h dL_put_161 ?_
            exact vM.fg (K2 _ (by omega) (by omega)) ⟨rfl, rfl, rfl, rfl, rfl, rfl, rfl, rfl, trivial⟩
        · refine v_iconst h (v := nI 1) dL_put_118 (by decide) ?_
          refine v_iload9 h dL_put_119 ?_
          refine v_iconst h (v := nI 2) dL_put_121 (by decide) ?_
          refine v_ishr h dL_put_122 ?_
          refine v_sipush h (v := nI 999) dL_put_123 (by decide) ?_
          refine v_some h (by omega) (by omega) ⟨rfl, rfl, (Nat.le_of_ble_eq_true rfl), (Nat.le_of_ble_eq_true rfl)⟩ (Nat.le_of_ble_eq_true rfl) dL_put_126 (fun j126 hj126 => ?_)
          refine v_iaddN h dL_put_129 ?_
          refine v_goto h dL_put_130 (tgt := 162) (by decide) ?_
          exact vM.fg (K2 _ (by omega) (by omega)) ⟨rfl, rfl, rfl, rfl, rfl, rfl, rfl, rfl, trivial⟩
  exact vM.fg (L78 _ 0 tt c ws0 rfl (by first | assumption | rfl | omega) (by exact h00) (by exact h90) (by exact fun j9 h9 => absurd h9 (Nat.not_lt_zero _)) (by exact hI0) (by exact fun j9 h9 => absurd h9 (Nat.not_lt_zero _))) ⟨rfl, rfl, rfl, rfl, rfl, rfl, rfl, rfl, trivial⟩
set_option maxRecDepth 20000 in
set_option maxHeartbeats 4000000 in
theorem c_L_put {g : vG} {b L : Nat} {xs : Nat → Int32} {ad rr : Nat → Nat} {ta0 : Nat} {tt : Nat → Nat} {ws0 : va_W} (hI : S0 g ad rr ws0) : CtX g b L xs yL_put cL_put 11 (some .int) (rmOf 4 90) (wcat [(ta0, .inl (gI g, 22, .inl (fun z9 => nI (tt z9))))] ws0) [.ref (ad 0), .ref b, .int (nI 0), .int (nI 6), .ref ta0] (P_put g ad rr ta0) := by
  refine CtX.ofV RL rfl (by decide +kernel) rfl rfl (Nat.le_of_ble_eq_true rfl) (List.forall_mem_cons.mpr ⟨rfl, (List.forall_mem_cons.mpr ⟨rfl, (List.forall_mem_cons.mpr ⟨rfl, (List.forall_mem_cons.mpr ⟨rfl, (List.forall_mem_cons.mpr ⟨rfl, (fun _ h9 => absurd h9 List.not_mem_nil)⟩)⟩)⟩)⟩)⟩) (fun x h hX hr => ?_)
  have hw0 : (wcat [(ta0, .inl (gI g, 22, .inl (fun z9 => nI (tt z9))))] ws0).map (fun q => q.1) = ta0 :: adL ad rr := by show ta0 :: ws0.map (fun q => q.1) = _; rw [hI.fst]
  show vM x 0 [some (.ref (ad 0)), some (.ref b), some (.int (nI 0)), some (.int (nI 6)), some (.ref ta0), none, none, none, none, none, none] [] (wcat [(ta0, .inl (gI g, 22, .inl (fun z9 => nI (tt z9))))] ws0)
  refine v_aload_n1 h dL_put_0 ?_
  refine v_iload_n2 h dL_put_1 ?_
  refine v_cell h hX (by omega) ⟨rfl, rfl, (Nat.le_of_ble_eq_true rfl), (Nat.le_of_ble_eq_true rfl)⟩ (Nat.le_of_ble_eq_true rfl) dL_put_2 (fun v2 => ?_)
  refine v_istore5 h (Nat.le_of_ble_eq_true rfl) dL_put_5 ?_
  refine v_aload4 h dL_put_7 ?_
  refine v_iconst h (v := nI 0) dL_put_9 (by decide) ?_
  refine v_iconst h (v := nI 2) dL_put_10 (by decide) ?_
  refine v_iload5 h dL_put_11 ?_
  refine v_iload_n3 h dL_put_13 ?_
  refine v_iconst h (v := nI 1) dL_put_14 (by decide) ?_
  refine v_isubN h dL_put_15 (by omega) ?_
  refine v_some h (by omega) (by omega) ⟨rfl, rfl, (Nat.le_of_ble_eq_true rfl), (Nat.le_of_ble_eq_true rfl)⟩ (Nat.le_of_ble_eq_true rfl) dL_put_16 (fun j16 hj16 => ?_)
  refine v_iaddN h dL_put_19 ?_
  refine v_iastN h 0 rfl (by omega) (Nat.le_of_ble_eq_true rfl) dL_put_20 (ws' := (wcat [(ta0, .inl (gI g, 22, .inl (fun z9 => nI ((up tt 0 (2 + j16)) z9))))] ws0)) rfl ?_
  refine v_aload4 h dL_put_21 ?_
  refine v_bipush h (v := nI 9) dL_put_23 (by decide) ?_
  refine v_iconst h (v := nI 0) dL_put_25 (by decide) ?_
  refine v_iastN h 0 rfl (by omega) (Nat.le_of_ble_eq_true rfl) dL_put_26 (ws' := (wcat [(ta0, .inl (gI g, 22, .inl (fun z9 => nI ((up (up tt 0 (2 + j16)) 9 0) z9))))] ws0)) rfl ?_
  refine v_aload_n0 h dL_put_27 ?_
  refine v_iconst h (v := nI 0) dL_put_28 (by decide) ?_
  refine v_iconst h (v := nI 0) dL_put_29 (by decide) ?_
  refine v_bipush h (v := nI 40) dL_put_30 (by decide) ?_
  refine kk_sheet h hI ⟨rfl, rfl, (Nat.le_of_ble_eq_true rfl), (Nat.le_of_ble_eq_true rfl)⟩ (Nat.le_of_ble_eq_true rfl) dL_put_32 (fun c ws hI => ?_)
  refine v_iconst h (v := nI 1) dL_put_35 (by decide) ?_
  refine v_icmp_eqN h dL_put_36 (tgt := 42) (by decide) (by omega) (by omega) (fun c36 => ?_) (fun c36 => ?_)
  · refine v_iconst h (v := nI 0) dL_put_42 (by decide) ?_
    refine v_istore6 h (Nat.le_of_ble_eq_true rfl) dL_put_43 ?_
    refine v_iconst h (v := nI 1) dL_put_45 (by decide) ?_
    refine v_iload5 h dL_put_46 ?_
    refine v_iconst h (v := nI 4) dL_put_48 (by decide) ?_
    refine v_ishr h dL_put_49 ?_
    refine v_iload5 h dL_put_50 ?_
    refine v_iconst h (v := nI 3) dL_put_52 (by decide) ?_
    refine v_ishr h dL_put_53 ?_
    refine v_iconst h (v := nI 2) dL_put_54 (by decide) ?_
    refine v_some h (by omega) (by omega) ⟨rfl, rfl, (Nat.le_of_ble_eq_true rfl), (Nat.le_of_ble_eq_true rfl)⟩ (Nat.le_of_ble_eq_true rfl) dL_put_55 (fun j55 hj55 => ?_)
    refine v_if_neN h dL_put_58 (tgt := 67) (by decide) (by omega) (fun c58 => ?_) (fun c58 => ?_)
    · refine v_bipush h (v := nI 60) dL_put_67 (by decide) ?_
      refine v_some h (by omega) (by omega) ⟨rfl, rfl, (Nat.le_of_ble_eq_true rfl), (Nat.le_of_ble_eq_true rfl)⟩ (Nat.le_of_ble_eq_true rfl) dL_put_69 (fun j69 hj69 => ?_)
      refine v_iaddN h dL_put_72 ?_
      refine v_istore7 h (Nat.le_of_ble_eq_true rfl) dL_put_73 ?_
      exact vM.fg (put_loop (n := 2 + j16) (base := 1 + j69) h hX hr hw0 (by omega) (by omega) (by omega) (by omega) ((up_ne _ _ (by decide)).trans (up_self _ _ _)) (up_self _ _ _) hI) ⟨rfl, rfl, rfl, rfl, rfl, rfl, rfl, trivial⟩
    · refine v_sipush h (v := nI 900) dL_put_61 (by decide) ?_
      refine v_goto h dL_put_64 (tgt := 69) (by decide) ?_
      refine v_some h (by omega) (by omega) ⟨rfl, rfl, (Nat.le_of_ble_eq_true rfl), (Nat.le_of_ble_eq_true rfl)⟩ (Nat.le_of_ble_eq_true rfl) dL_put_69 (fun j69 hj69 => ?_)
      refine v_iaddN h dL_put_72 ?_
      refine v_istore7 h (Nat.le_of_ble_eq_true rfl) dL_put_73 ?_
      exact vM.fg (put_loop (n := 2 + j16) (base := 1 + j69) h hX hr hw0 (by omega) (by omega) (by omega) (by omega) ((up_ne _ _ (by decide)).trans (up_self _ _ _)) (up_self _ _ _) hI) ⟨rfl, rfl, rfl, rfl, rfl, rfl, rfl, trivial⟩
  · exact absurd rfl c36
