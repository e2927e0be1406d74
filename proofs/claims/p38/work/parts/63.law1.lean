/-! the law's sections: what each hand tells, what is alike, the odds; which hand is finer -/
theorem alk31 {k p n x : Nat} {w : Nat → Nat} (h : n ≤ 6) : alkS k p w n x < 2 ^ 31 := Nat.lt_of_lt_of_le alkS_lt (Nat.pow_le_pow_right (by decide) (by omega))
theorem told31 {k p n : Nat} {w : Nat → Nat} (h : n ≤ 6) : toldL k p w n n < 2 ^ 31 := Nat.lt_of_le_of_lt (toldL_le n) (Nat.lt_of_le_of_lt (Nat.mul_le_mul h h) (by decide))
set_option maxRecDepth 20000 in
set_option maxHeartbeats 4000000 in
theorem law_s1 {x : vX} {g : vG} {b L : Nat} {xs : Nat → Int32} {ad rr : Nat → Nat} {ta0 n hm : Nat} {tt w kd pt : Nat → Nat} {turn j : Nat} (h : Ok x g code RL room_1 19) (hX : LwX x b L xs) (hG : AGT tt n hm w kd pt) (hj : j < hm) (K : ∀ ws : va_W, PInv g ad rr n w hm kd pt ws → vM x 328 [some (.ref b), some (.ref (ad 0)), some (.ref ta0), none, some (.int (nI n)), some (.int (nI turn)), some (.int (nI j)), some (.int (nI (toldL (kd j) (pt j) w n n))), none, none, none, none, none, none, none, none, none, none, none] [] (wcat [(ta0, .inl (gI g, 22, .inl (fun z9 => nI (tt z9))))] ws)) : ∀ ws : va_W, PInv g ad rr n w hm kd pt ws → vM x 146 [some (.ref b), some (.ref (ad 0)), some (.ref ta0), none, some (.int (nI n)), some (.int (nI turn)), some (.int (nI j)), none, none, none, none, none, none, none, none, none, none, none, none] [] (wcat [(ta0, .inl (gI g, 22, .inl (fun z9 => nI (tt z9))))] ws) := by
  intro ws hI
  have hn := hG.n2
  refine v_iconst h (v := nI 0) dL_law_146 (by decide) ?_
  refine v_istore7 h (Nat.le_of_ble_eq_true rfl) dL_law_147 ?_
  refine v_iconst h (v := nI 0) dL_law_149 (by decide) ?_
  refine v_istore8 h (Nat.le_of_ble_eq_true rfl) dL_law_150 ?_
  have L152 : ∀ (k152 : Nat) (i : Nat) (ws : va_W), n - i = k152 → (i ≤ n) → (PInv g ad rr n w hm kd pt ws) → vM x 152 [some (.ref b), some (.ref (ad 0)), some (.ref ta0), none, some (.int (nI n)), some (.int (nI turn)), some (.int (nI j)), some (.int (nI (toldL (kd j) (pt j) w n i))), some (.int (nI i)), none, none, none, none, none, none, none, none, none, none] [] (wcat [(ta0, .inl (gI g, 22, .inl (fun z9 => nI (tt z9))))] ws) := by
    intro k152
    induction k152 using Nat.strongRecOn with
    | _ k152 ih152 =>
      intro i ws hm152 hi hI
      refine v_iload8 h dL_law_152 ?_
      refine v_iload4 h dL_law_154 ?_
      refine v_icmp_geN h dL_law_156 (tgt := 328) (by decide) (by first | omega | exact Nat.lt_of_le_of_lt (bN_le _) (by decide)) (by first | omega | exact Nat.lt_of_le_of_lt (bN_le _) (by decide)) (fun c156 => ?_) (fun c156 => ?_)
      · have e9 : n = i := by omega
        subst e9
        exact vM.fg (K _ hI) ⟨rfl, rfl, rfl, rfl, rfl, rfl, rfl, trivial⟩
      · refine v_iconst h (v := nI 0) dL_law_159 (by decide) ?_
        refine v_istore9 h (Nat.le_of_ble_eq_true rfl) dL_law_160 ?_
        refine v_iconst h (v := nI 0) dL_law_162 (by decide) ?_
        refine v_istore10 h (Nat.le_of_ble_eq_true rfl) dL_law_163 ?_
        have L165 : ∀ (k165 : Nat) (q : Nat) (ws : va_W), n - q = k165 → (q ≤ n) → (PInv g ad rr n w hm kd pt ws) → vM x 165 [some (.ref b), some (.ref (ad 0)), some (.ref ta0), none, some (.int (nI n)), some (.int (nI turn)), some (.int (nI j)), some (.int (nI (toldL (kd j) (pt j) w n i + sumTo (tl1 (kd j) (pt j) w i) q))), some (.int (nI i)), some (.int (nI (orTo (alkF (kd j) (pt j) w i) q))), some (.int (nI q)), none, none, none, none, none, none, none, none] [] (wcat [(ta0, .inl (gI g, 22, .inl (fun z9 => nI (tt z9))))] ws) := by
          intro k165
          induction k165 using Nat.strongRecOn with
          | _ k165 ih165 =>
            intro q ws hm165 hq hI
            refine v_iload10 h dL_law_165 ?_
            refine v_iload4 h dL_law_167 ?_
            refine v_icmp_geN h dL_law_169 (tgt := 292) (by decide) (by first | omega | exact Nat.lt_of_le_of_lt (bN_le _) (by decide)) (by first | omega | exact Nat.lt_of_le_of_lt (bN_le _) (by decide)) (fun c169 => ?_) (fun c169 => ?_)
            · have e9 : n = q := by omega
              subst e9
              refine v_aload_n1 h dL_law_292 ?_
              refine v_iload6 h dL_law_293 ?_
              refine v_iload8 h dL_law_295 ?_
              refine kk_alike h hG hI (by first | assumption | omega) (by first | assumption | omega) ⟨rfl, rfl, (Nat.le_of_ble_eq_true rfl), (Nat.le_of_ble_eq_true rfl)⟩ (Nat.le_of_ble_eq_true rfl) dL_law_297 (fun ws hI => ?_)
              refine v_iload9 h dL_law_300 ?_
              refine v_icmp_neN h dL_law_302 (tgt := 320) (by decide) (by exact alk31 hn.2.1) (by exact alk31 hn.2.1) (fun c302 => ?_) (fun c302 => ?_)
              · exact absurd rfl c302
              · refine v_aload_n1 h dL_law_305 ?_
                refine v_iload8 h dL_law_306 ?_
                refine kk_weight h hG hI (by first | assumption | omega) ⟨rfl, rfl, (Nat.le_of_ble_eq_true rfl), (Nat.le_of_ble_eq_true rfl)⟩ (Nat.le_of_ble_eq_true rfl) dL_law_308 (fun ws hI => ?_)
                refine v_aload_n2 h dL_law_311 ?_
                refine v_iconst h (v := nI 1) dL_law_312 (by decide) ?_
                refine v_iload8 h dL_law_313 ?_
                refine v_iaddN h dL_law_315 ?_
                refine v_tw h hG (by omega) dL_law_316 ?_
                refine v_icmp_eqN h dL_law_317 (tgt := 322) (by decide) (by first | omega | (have := hG.wb (x := i) (by omega); omega)) (by first | omega | (have := hG.wb (x := i) (by omega); omega)) (fun c317 => ?_) (fun c317 => ?_)
                · refine v_iincN8 h (Nat.le_of_ble_eq_true rfl) dL_law_322 ?_
                  refine v_goto h dL_law_325 (tgt := 152) (by decide) ?_
                  exact vM.fg (ih152 _ (by omega) (i + 1) _ rfl (by first | assumption | rfl | omega) (by first | assumption | rfl | omega)) ⟨rfl, rfl, rfl, rfl, rfl, rfl, rfl, rfl, trivial⟩
                · exact absurd rfl c317
            · refine v_aload_n1 h dL_law_172 ?_
              refine v_iload6 h dL_law_173 ?_
              refine v_aload_n2 h dL_law_175 ?_
              refine v_iconst h (v := nI 1) dL_law_176 (by decide) ?_
              refine v_iload8 h dL_law_177 ?_
              refine v_iaddN h dL_law_179 ?_
              refine v_tw h hG (by omega) dL_law_180 ?_
              refine v_aload_n2 h dL_law_181 ?_
              refine v_iconst h (v := nI 1) dL_law_182 (by decide) ?_
              refine v_iload10 h dL_law_183 ?_
              refine v_iaddN h dL_law_185 ?_
              refine v_tw h hG (by omega) dL_law_186 ?_
              refine kk_tells h hG hI (by first | assumption | omega) (by first | assumption | omega) (by first | assumption | omega) ⟨rfl, rfl, (Nat.le_of_ble_eq_true rfl), (Nat.le_of_ble_eq_true rfl)⟩ (Nat.le_of_ble_eq_true rfl) dL_law_187 (fun ws hI => ?_)
              refine v_aload_n2 h dL_law_190 ?_
              refine v_iload6 h dL_law_191 ?_
              refine v_aload_n2 h dL_law_193 ?_
              refine v_iconst h (v := nI 1) dL_law_194 (by decide) ?_
              refine v_iload8 h dL_law_195 ?_
              refine v_iaddN h dL_law_197 ?_
              refine v_tw h hG (by omega) dL_law_198 ?_
              refine v_aload_n2 h dL_law_199 ?_
              refine v_iconst h (v := nI 1) dL_law_200 (by decide) ?_
              refine v_iload10 h dL_law_201 ?_
              refine v_iaddN h dL_law_203 ?_
              refine v_tw h hG (by omega) dL_law_204 ?_
              refine v_ltells h hG (by first | assumption | omega) (by first | assumption | omega) (by first | assumption | omega) ⟨rfl, rfl, (Nat.le_of_ble_eq_true rfl), (Nat.le_of_ble_eq_true rfl)⟩ (Nat.le_of_ble_eq_true rfl) dL_law_205 ?_
              refine v_if_eqB h dL_law_208 (tgt := 215) (by decide) (fun c208 => ?_) (fun c208 => ?_)
              · refine v_iconst h (v := nI 0) dL_law_215 (by decide) ?_
                refine v_icmp_eqN h dL_law_216 (tgt := 221) (by decide) (by first | omega | exact Nat.lt_of_le_of_lt (bN_le _) (by decide)) (by first | omega | exact Nat.lt_of_le_of_lt (bN_le _) (by decide)) (fun c216 => ?_) (fun c216 => ?_)
                · refine v_iload9 h dL_law_221 ?_
                  refine v_aload_n2 h dL_law_223 ?_
                  refine v_iload6 h dL_law_224 ?_
                  refine v_aload_n2 h dL_law_226 ?_
                  refine v_iconst h (v := nI 1) dL_law_227 (by decide) ?_
                  refine v_iload8 h dL_law_228 ?_
                  refine v_iaddN h dL_law_230 ?_
                  refine v_tw h hG (by omega) dL_law_231 ?_
                  refine v_aload_n2 h dL_law_232 ?_
                  refine v_iconst h (v := nI 1) dL_law_233 (by decide) ?_
                  refine v_iload10 h dL_law_234 ?_
                  refine v_iaddN h dL_law_236 ?_
                  refine v_tw h hG (by omega) dL_law_237 ?_
                  refine v_lalike h hG (by first | assumption | omega) (by first | assumption | omega) (by first | assumption | omega) ⟨rfl, rfl, (Nat.le_of_ble_eq_true rfl), (Nat.le_of_ble_eq_true rfl)⟩ (Nat.le_of_ble_eq_true rfl) dL_law_238 ?_
                  refine v_if_eqB h dL_law_241 (tgt := 251) (by decide) (fun c241 => ?_) (fun c241 => ?_)
                  · refine v_iconst h (v := nI 0) dL_law_251 (by decide) ?_
                    refine v_iorN h dL_law_252 ?_
                    refine v_istore9 h (Nat.le_of_ble_eq_true rfl) dL_law_253 ?_
                    refine v_iload7 h dL_law_255 ?_
                    refine v_aload_n2 h dL_law_257 ?_
                    refine v_iload6 h dL_law_258 ?_
                    refine v_aload_n2 h dL_law_260 ?_
                    refine v_iconst h (v := nI 1) dL_law_261 (by decide) ?_
                    refine v_iload8 h dL_law_262 ?_
                    refine v_iaddN h dL_law_264 ?_
                    refine v_tw h hG (by omega) dL_law_265 ?_
                    refine v_aload_n2 h dL_law_266 ?_
                    refine v_iconst h (v := nI 1) dL_law_267 (by decide) ?_
                    refine v_iload10 h dL_law_268 ?_
                    refine v_iaddN h dL_law_270 ?_
                    refine v_tw h hG (by omega) dL_law_271 ?_
                    refine v_ltells h hG (by first | assumption | omega) (by first | assumption | omega) (by first | assumption | omega) ⟨rfl, rfl, (Nat.le_of_ble_eq_true rfl), (Nat.le_of_ble_eq_true rfl)⟩ (Nat.le_of_ble_eq_true rfl) dL_law_272 ?_
                    refine v_if_eqB h dL_law_275 (tgt := 282) (by decide) (fun c275 => ?_) (fun c275 => ?_)
                    · refine v_iconst h (v := nI 0) dL_law_282 (by decide) ?_
                      refine v_iaddN h dL_law_283 ?_
                      refine v_istore7 h (Nat.le_of_ble_eq_true rfl) dL_law_284 ?_
                      refine v_iincN10 h (Nat.le_of_ble_eq_true rfl) dL_law_286 ?_
                      refine v_goto h dL_law_289 (tgt := 165) (by decide) ?_
                      exact vM.fg (ih165 _ (by omega) (q + 1) _ rfl (by first | assumption | rfl | omega) (by first | assumption | rfl | omega)) ⟨rfl, rfl, rfl, rfl, rfl, rfl, (by first | rw [sumTo, show (tl1 (kd j) (pt j) w i) q = 1 from bN_t c275, Nat.add_assoc] | rw [sumTo, show (tl1 (kd j) (pt j) w i) q = 0 from bN_f c275, Nat.add_assoc]), rfl, (by first | rw [orTo, alkF_t c241] | rw [orTo, alkF_f c241]), rfl, trivial⟩
                    · refine v_iconst h (v := nI 1) dL_law_278 (by decide) ?_
                      refine v_goto h dL_law_279 (tgt := 283) (by decide) ?_
                      refine v_iaddN h dL_law_283 ?_
                      refine v_istore7 h (Nat.le_of_ble_eq_true rfl) dL_law_284 ?_
                      refine v_iincN10 h (Nat.le_of_ble_eq_true rfl) dL_law_286 ?_
                      refine v_goto h dL_law_289 (tgt := 165) (by decide) ?_
                      exact vM.fg (ih165 _ (by omega) (q + 1) _ rfl (by first | assumption | rfl | omega) (by first | assumption | rfl | omega)) ⟨rfl, rfl, rfl, rfl, rfl, rfl, (by first | rw [sumTo, show (tl1 (kd j) (pt j) w i) q = 1 from bN_t c275, Nat.add_assoc] | rw [sumTo, show (tl1 (kd j) (pt j) w i) q = 0 from bN_f c275, Nat.add_assoc]), rfl, (by first | rw [orTo, alkF_t c241] | rw [orTo, alkF_f c241]), rfl, trivial⟩
                  · refine v_iconst h (v := nI 1) dL_law_244 (by decide) ?_
                    refine v_iload10 h dL_law_245 ?_
                    refine v_ishlN h dL_law_247 (by omega) ?_
                    refine v_goto h dL_law_248 (tgt := 252) (by decide) ?_
                    refine v_iorN h dL_law_252 ?_
                    refine v_istore9 h (Nat.le_of_ble_eq_true rfl) dL_law_253 ?_
                    refine v_iload7 h dL_law_255 ?_
                    refine v_aload_n2 h dL_law_257 ?_
                    refine v_iload6 h dL_law_258 ?_
                    refine v_aload_n2 h dL_law_260 ?_
                    refine v_iconst h (v := nI 1) dL_law_261 (by decide) ?_
                    refine v_iload8 h dL_law_262 ?_
                    refine v_iaddN h dL_law_264 ?_
                    refine v_tw h hG (by omega) dL_law_265 ?_
                    refine v_aload_n2 h dL_law_266 ?_
                    refine v_iconst h (v := nI 1) dL_law_267 (by decide) ?_
                    refine v_iload10 h dL_law_268 ?_
                    refine v_iaddN h dL_law_270 ?_
                    refine v_tw h hG (by omega) dL_law_271 ?_
                    refine v_ltells h hG (by first | assumption | omega) (by first | assumption | omega) (by first | assumption | omega) ⟨rfl, rfl, (Nat.le_of_ble_eq_true rfl), (Nat.le_of_ble_eq_true rfl)⟩ (Nat.le_of_ble_eq_true rfl) dL_law_272 ?_
                    refine v_if_eqB h dL_law_275 (tgt := 282) (by decide) (fun c275 => ?_) (fun c275 => ?_)
                    · refine v_iconst h (v := nI 0) dL_law_282 (by decide) ?_
                      refine v_iaddN h dL_law_283 ?_
                      refine v_istore7 h (Nat.le_of_ble_eq_true rfl) dL_law_284 ?_
                      refine v_iincN10 h (Nat.le_of_ble_eq_true rfl) dL_law_286 ?_
                      refine v_goto h dL_law_289 (tgt := 165) (by decide) ?_
                      exact vM.fg (ih165 _ (by omega) (q + 1) _ rfl (by first | assumption | rfl | omega) (by first | assumption | rfl | omega)) ⟨rfl, rfl, rfl, rfl, rfl, rfl, (by first | rw [sumTo, show (tl1 (kd j) (pt j) w i) q = 1 from bN_t c275, Nat.add_assoc] | rw [sumTo, show (tl1 (kd j) (pt j) w i) q = 0 from bN_f c275, Nat.add_assoc]), rfl, (by first | rw [orTo, alkF_t c241] | rw [orTo, alkF_f c241]), rfl, trivial⟩
                    · refine v_iconst h (v := nI 1) dL_law_278 (by decide) ?_
                      refine v_goto h dL_law_279 (tgt := 283) (by decide) ?_
                      refine v_iaddN h dL_law_283 ?_
                      refine v_istore7 h (Nat.le_of_ble_eq_true rfl) dL_law_284 ?_
                      refine v_iincN10 h (Nat.le_of_ble_eq_true rfl) dL_law_286 ?_
                      refine v_goto h dL_law_289 (tgt := 165) (by decide) ?_
                      exact vM.fg (ih165 _ (by omega) (q + 1) _ rfl (by first | assumption | rfl | omega) (by first | assumption | rfl | omega)) ⟨rfl, rfl, rfl, rfl, rfl, rfl, (by first | rw [sumTo, show (tl1 (kd j) (pt j) w i) q = 1 from bN_t c275, Nat.add_assoc] | rw [sumTo, show (tl1 (kd j) (pt j) w i) q = 0 from bN_f c275, Nat.add_assoc]), rfl, (by first | rw [orTo, alkF_t c241] | rw [orTo, alkF_f c241]), rfl, trivial⟩
                · first | exact absurd (bN_t c208) c216 | exact absurd (bN_f c208) c216
              · refine v_iconst h (v := nI 1) dL_law_211 (by decide) ?_
                refine v_goto h dL_law_212 (tgt := 216) (by decide) ?_
                refine v_icmp_eqN h dL_law_216 (tgt := 221) (by decide) (by first | omega | exact Nat.lt_of_le_of_lt (bN_le _) (by decide)) (by first | omega | exact Nat.lt_of_le_of_lt (bN_le _) (by decide)) (fun c216 => ?_) (fun c216 => ?_)
                · refine v_iload9 h dL_law_221 ?_
                  refine v_aload_n2 h dL_law_223 ?_
                  refine v_iload6 h dL_law_224 ?_
                  refine v_aload_n2 h dL_law_226 ?_
                  refine v_iconst h (v := nI 1) dL_law_227 (by decide) ?_
                  refine v_iload8 h dL_law_228 ?_
                  refine v_iaddN h dL_law_230 ?_
                  refine v_tw h hG (by omega) dL_law_231 ?_
                  refine v_aload_n2 h dL_law_232 ?_
                  refine v_iconst h (v := nI 1) dL_law_233 (by decide) ?_
                  refine v_iload10 h dL_law_234 ?_
                  refine v_iaddN h dL_law_236 ?_
                  refine v_tw h hG (by omega) dL_law_237 ?_
                  refine v_lalike h hG (by first | assumption | omega) (by first | assumption | omega) (by first | assumption | omega) ⟨rfl, rfl, (Nat.le_of_ble_eq_true rfl), (Nat.le_of_ble_eq_true rfl)⟩ (Nat.le_of_ble_eq_true rfl) dL_law_238 ?_
                  refine v_if_eqB h dL_law_241 (tgt := 251) (by decide) (fun c241 => ?_) (fun c241 => ?_)
                  · refine v_iconst h (v := nI 0) dL_law_251 (by decide) ?_
                    refine v_iorN h dL_law_252 ?_
                    refine v_istore9 h (Nat.le_of_ble_eq_true rfl) dL_law_253 ?_
                    refine v_iload7 h dL_law_255 ?_
                    refine v_aload_n2 h dL_law_257 ?_
                    refine v_iload6 h dL_law_258 ?_
                    refine v_aload_n2 h dL_law_260 ?_
                    refine v_iconst h (v := nI 1) dL_law_261 (by decide) ?_
                    refine v_iload8 h dL_law_262 ?_
                    refine v_iaddN h dL_law_264 ?_
                    refine v_tw h hG (by omega) dL_law_265 ?_
                    refine v_aload_n2 h dL_law_266 ?_
                    refine v_iconst h (v := nI 1) dL_law_267 (by decide) ?_
                    refine v_iload10 h dL_law_268 ?_
                    refine v_iaddN h dL_law_270 ?_
                    refine v_tw h hG (by omega) dL_law_271 ?_
                    refine v_ltells h hG (by first | assumption | omega) (by first | assumption | omega) (by first | assumption | omega) ⟨rfl, rfl, (Nat.le_of_ble_eq_true rfl), (Nat.le_of_ble_eq_true rfl)⟩ (Nat.le_of_ble_eq_true rfl) dL_law_272 ?_
                    refine v_if_eqB h dL_law_275 (tgt := 282) (by decide) (fun c275 => ?_) (fun c275 => ?_)
                    · refine v_iconst h (v := nI 0) dL_law_282 (by decide) ?_
                      refine v_iaddN h dL_law_283 ?_
                      refine v_istore7 h (Nat.le_of_ble_eq_true rfl) dL_law_284 ?_
                      refine v_iincN10 h (Nat.le_of_ble_eq_true rfl) dL_law_286 ?_
                      refine v_goto h dL_law_289 (tgt := 165) (by decide) ?_
                      exact vM.fg (ih165 _ (by omega) (q + 1) _ rfl (by first | assumption | rfl | omega) (by first | assumption | rfl | omega)) ⟨rfl, rfl, rfl, rfl, rfl, rfl, (by first | rw [sumTo, show (tl1 (kd j) (pt j) w i) q = 1 from bN_t c275, Nat.add_assoc] | rw [sumTo, show (tl1 (kd j) (pt j) w i) q = 0 from bN_f c275, Nat.add_assoc]), rfl, (by first | rw [orTo, alkF_t c241] | rw [orTo, alkF_f c241]), rfl, trivial⟩
                    · refine v_iconst h (v := nI 1) dL_law_278 (by decide) ?_
                      refine v_goto h dL_law_279 (tgt := 283) (by decide) ?_
                      refine v_iaddN h dL_law_283 ?_
                      refine v_istore7 h (Nat.le_of_ble_eq_true rfl) dL_law_284 ?_
                      refine v_iincN10 h (Nat.le_of_ble_eq_true rfl) dL_law_286 ?_
                      refine v_goto h dL_law_289 (tgt := 165) (by decide) ?_
                      exact vM.fg (ih165 _ (by omega) (q + 1) _ rfl (by first | assumption | rfl | omega) (by first | assumption | rfl | omega)) ⟨rfl, rfl, rfl, rfl, rfl, rfl, (by first | rw [sumTo, show (tl1 (kd j) (pt j) w i) q = 1 from bN_t c275, Nat.add_assoc] | rw [sumTo, show (tl1 (kd j) (pt j) w i) q = 0 from bN_f c275, Nat.add_assoc]), rfl, (by first | rw [orTo, alkF_t c241] | rw [orTo, alkF_f c241]), rfl, trivial⟩
                  · refine v_iconst h (v := nI 1) dL_law_244 (by decide) ?_
                    refine v_iload10 h dL_law_245 ?_
                    refine v_ishlN h dL_law_247 (by omega) ?_
                    refine v_goto h dL_law_248 (tgt := 252) (by decide) ?_
                    refine v_iorN h dL_law_252 ?_
                    refine v_istore9 h (Nat.le_of_ble_eq_true rfl) dL_law_253 ?_
                    refine v_iload7 h dL_law_255 ?_
                    refine v_aload_n2 h dL_law_257 ?_
                    refine v_iload6 h dL_law_258 ?_
                    refine v_aload_n2 h dL_law_260 ?_
                    refine v_iconst h (v := nI 1) dL_law_261 (by decide) ?_
                    refine v_iload8 h dL_law_262 ?_
                    refine v_iaddN h dL_law_264 ?_
                    refine v_tw h hG (by omega) dL_law_265 ?_
                    refine v_aload_n2 h dL_law_266 ?_
                    refine v_iconst h (v := nI 1) dL_law_267 (by decide) ?_
                    refine v_iload10 h dL_law_268 ?_
                    refine v_iaddN h dL_law_270 ?_
                    refine v_tw h hG (by omega) dL_law_271 ?_
                    refine v_ltells h hG (by first | assumption | omega) (by first | assumption | omega) (by first | assumption | omega) ⟨rfl, rfl, (Nat.le_of_ble_eq_true rfl), (Nat.le_of_ble_eq_true rfl)⟩ (Nat.le_of_ble_eq_true rfl) dL_law_272 ?_
                    refine v_if_eqB h dL_law_275 (tgt := 282) (by decide) (fun c275 => ?_) (fun c275 => ?_)
                    · refine v_iconst h (v := nI 0) dL_law_282 (by decide) ?_
                      refine v_iaddN h dL_law_283 ?_
                      refine v_istore7 h (Nat.le_of_ble_eq_true rfl) dL_law_284 ?_
                      refine v_iincN10 h (Nat.le_of_ble_eq_true rfl) dL_law_286 ?_
                      refine v_goto h dL_law_289 (tgt := 165) (by decide) ?_
                      exact vM.fg (ih165 _ (by omega) (q + 1) _ rfl (by first | assumption | rfl | omega) (by first | assumption | rfl | omega)) ⟨rfl, rfl, rfl, rfl, rfl, rfl, (by first | rw [sumTo, show (tl1 (kd j) (pt j) w i) q = 1 from bN_t c275, Nat.add_assoc] | rw [sumTo, show (tl1 (kd j) (pt j) w i) q = 0 from bN_f c275, Nat.add_assoc]), rfl, (by first | rw [orTo, alkF_t c241] | rw [orTo, alkF_f c241]), rfl, trivial⟩
                    · refine v_iconst h (v := nI 1) dL_law_278 (by decide) ?_
                      refine v_goto h dL_law_279 (tgt := 283) (by decide) ?_
                      refine v_iaddN h dL_law_283 ?_
                      refine v_istore7 h (Nat.le_of_ble_eq_true rfl) dL_law_284 ?_
                      refine v_iincN10 h (Nat.le_of_ble_eq_true rfl) dL_law_286 ?_
                      refine v_goto h dL_law_289 (tgt := 165) (by decide) ?_
                      exact vM.fg (ih165 _ (by omega) (q + 1) _ rfl (by first | assumption | rfl | omega) (by first | assumption | rfl | omega)) ⟨rfl, rfl, rfl, rfl, rfl, rfl, (by first | rw [sumTo, show (tl1 (kd j) (pt j) w i) q = 1 from bN_t c275, Nat.add_assoc] | rw [sumTo, show (tl1 (kd j) (pt j) w i) q = 0 from bN_f c275, Nat.add_assoc]), rfl, (by first | rw [orTo, alkF_t c241] | rw [orTo, alkF_f c241]), rfl, trivial⟩
                · first | exact absurd (bN_t c208) c216 | exact absurd (bN_f c208) c216
        exact vM.fg (L165 _ 0 _ rfl (by first | assumption | rfl | omega) (by first | assumption | rfl | omega)) ⟨rfl, rfl, rfl, rfl, rfl, rfl, rfl, rfl, rfl, rfl, trivial⟩
  exact vM.fg (L152 _ 0 _ rfl (by first | assumption | rfl | omega) (by first | assumption | rfl | omega)) ⟨rfl, rfl, rfl, rfl, rfl, rfl, rfl, rfl, trivial⟩
set_option maxRecDepth 20000 in
set_option maxHeartbeats 4000000 in
theorem law_s2 {x : vX} {g : vG} {b L : Nat} {xs : Nat → Int32} {ad rr : Nat → Nat} {ta0 n hm : Nat} {tt w kd pt : Nat → Nat} {turn j : Nat} (h : Ok x g code RL room_1 19) (hX : LwX x b L xs) (hG : AGT tt n hm w kd pt) (hj : j < hm) (K : ∀ ws : va_W, PInv g ad rr n w hm kd pt ws → vM x 363 [some (.ref b), some (.ref (ad 0)), some (.ref ta0), none, some (.int (nI n)), some (.int (nI turn)), some (.int (nI j)), none, none, none, none, none, none, none, none, none, none, none, none] [] (wcat [(ta0, .inl (gI g, 22, .inl (fun z9 => nI (tt z9))))] ws)) : ∀ ws : va_W, PInv g ad rr n w hm kd pt ws → vM x 328 [some (.ref b), some (.ref (ad 0)), some (.ref ta0), none, some (.int (nI n)), some (.int (nI turn)), some (.int (nI j)), some (.int (nI (toldL (kd j) (pt j) w n n))), none, none, none, none, none, none, none, none, none, none, none] [] (wcat [(ta0, .inl (gI g, 22, .inl (fun z9 => nI (tt z9))))] ws) := by
  intro ws hI
  have hn := hG.n2
  refine v_iload7 h dL_law_328 ?_
  refine v_i2l h dL_law_330 ?_
  rw [nI_l (show (toldL (kd j) (pt j) w n n) < 2 ^ 31 from told31 hn.2.1), toldL_eq (by omega)]
  refine v_iload4 h dL_law_331 ?_
  refine v_iload4 h dL_law_333 ?_
  refine v_iconst h (v := nI 1) dL_law_335 (by decide) ?_
  refine v_isubN h dL_law_336 (by omega) ?_
  refine v_imulN h dL_law_337 ?_
  refine v_iconst h (v := nI 2) dL_law_338 (by decide) ?_
  refine v_idivN h dL_law_339 (by exact Nat.lt_of_le_of_lt (Nat.mul_le_mul hn.2.1 (show n - 1 ≤ 5 by omega)) (by decide)) (by decide) (by decide) ?_
  refine v_i2l h dL_law_340 ?_
  rw [nI_l (odd_lt hn.2.1)]
  refine v_aload_n1 h dL_law_341 ?_
  refine v_iload6 h dL_law_342 ?_
  refine v_iconst h (v := nI 0) dL_law_344 (by decide) ?_
  refine kk_odds0 h hG hI (by first | assumption | omega) ⟨rfl, rfl, (Nat.le_of_ble_eq_true rfl), (Nat.le_of_ble_eq_true rfl)⟩ (Nat.le_of_ble_eq_true rfl) dL_law_345 (fun ws hI => ?_)
  refine v_aload_n1 h dL_law_348 ?_
  refine v_iload6 h dL_law_349 ?_
  refine v_iconst h (v := nI 1) dL_law_351 (by decide) ?_
  refine kk_odds1 h hG hI (by first | assumption | omega) ⟨rfl, rfl, (Nat.le_of_ble_eq_true rfl), (Nat.le_of_ble_eq_true rfl)⟩ (Nat.le_of_ble_eq_true rfl) dL_law_352 (fun ws hI => ?_)
  refine v_isAlike h (by exact Nat.lt_of_le_of_lt toldN_le (by omega)) (by exact odd_pos hn.1) (by exact odd_lt hn.2.1) ⟨rfl, rfl, (Nat.le_of_ble_eq_true rfl), (Nat.le_of_ble_eq_true rfl)⟩ (Nat.le_of_ble_eq_true rfl) dL_law_355 ?_
  refine v_if_neB h dL_law_358 (tgt := 363) (by decide) (fun c358 => ?_) (fun c358 => ?_)
  · exact vM.fg (K _ hI) ⟨rfl, rfl, rfl, rfl, rfl, rfl, trivial⟩
  · cases c358
set_option maxRecDepth 20000 in
set_option maxHeartbeats 4000000 in
theorem law_s3 {x : vX} {g : vG} {b L : Nat} {xs : Nat → Int32} {ad rr : Nat → Nat} {ta0 n hm : Nat} {tt w kd pt : Nat → Nat} {turn j : Nat} (h : Ok x g code RL room_1 19) (hX : LwX x b L xs) (hG : AGT tt n hm w kd pt) (hj : j < hm) (K : ∀ ws : va_W, PInv g ad rr n w hm kd pt ws → vM x 529 [some (.ref b), some (.ref (ad 0)), some (.ref ta0), none, some (.int (nI n)), some (.int (nI turn)), some (.int (nI j)), none, none, none, none, none, none, none, none, none, none, none, none] [] (wcat [(ta0, .inl (gI g, 22, .inl (fun z9 => nI (tt z9))))] ws)) : ∀ ws : va_W, PInv g ad rr n w hm kd pt ws → vM x 363 [some (.ref b), some (.ref (ad 0)), some (.ref ta0), none, some (.int (nI n)), some (.int (nI turn)), some (.int (nI j)), none, none, none, none, none, none, none, none, none, none, none, none] [] (wcat [(ta0, .inl (gI g, 22, .inl (fun z9 => nI (tt z9))))] ws) := by
  intro ws hI
  have hn := hG.n2
  refine v_iconst h (v := nI 0) dL_law_363 (by decide) ?_
  refine v_istore8 h (Nat.le_of_ble_eq_true rfl) dL_law_364 ?_
  have L366 : ∀ (k366 : Nat) (i : Nat) (ws : va_W), hm - i = k366 → (i ≤ hm) → (PInv g ad rr n w hm kd pt ws) → vM x 366 [some (.ref b), some (.ref (ad 0)), some (.ref ta0), none, some (.int (nI n)), some (.int (nI turn)), some (.int (nI j)), none, some (.int (nI i)), none, none, none, none, none, none, none, none, none, none] [] (wcat [(ta0, .inl (gI g, 22, .inl (fun z9 => nI (tt z9))))] ws) := by
    intro k366
    induction k366 using Nat.strongRecOn with
    | _ k366 ih366 =>
      intro i ws hm366 hi hI
      refine v_iload8 h dL_law_366 ?_
      refine v_aload_n2 h dL_law_368 ?_
      refine v_bipush h (v := nI 9) dL_law_369 (by decide) ?_
      refine v_t9 h hG dL_law_371 ?_
      refine v_icmp_geN h dL_law_372 (tgt := 529) (by decide) (by first | omega | exact Nat.lt_of_le_of_lt (bN_le _) (by decide)) (by first | omega | exact Nat.lt_of_le_of_lt (bN_le _) (by decide)) (fun c372 => ?_) (fun c372 => ?_)
      · exact vM.fg (K _ hI) ⟨rfl, rfl, rfl, rfl, rfl, rfl, trivial⟩
      · refine v_iconst h (v := nI 1) dL_law_375 (by decide) ?_
        refine v_istore9 h (Nat.le_of_ble_eq_true rfl) dL_law_376 ?_
        refine v_iconst h (v := nI 0) dL_law_378 (by decide) ?_
        refine v_istore10 h (Nat.le_of_ble_eq_true rfl) dL_law_379 ?_
        refine v_iconst h (v := nI 0) dL_law_381 (by decide) ?_
        refine v_istore11 h (Nat.le_of_ble_eq_true rfl) dL_law_382 ?_
        have L384 : ∀ (k384 : Nat) (u : Nat), n - u = k384 → (u ≤ n) → vM x 384 [some (.ref b), some (.ref (ad 0)), some (.ref ta0), none, some (.int (nI n)), some (.int (nI turn)), some (.int (nI j)), none, some (.int (nI i)), some (.int (nI (bN (fnAll (kd j) (pt j) (kd i) (pt i) w n u)))), some (.int (nI (fnM (kd j) (pt j) (kd i) (pt i) w n u))), some (.int (nI u)), none, none, none, none, none, none, none] [] (wcat [(ta0, .inl (gI g, 22, .inl (fun z9 => nI (tt z9))))] ws) := by
          intro k384
          induction k384 using Nat.strongRecOn with
          | _ k384 ih384 =>
            intro u hm384 hu
            refine v_iload11 h dL_law_384 ?_
            refine v_iload4 h dL_law_386 ?_
            refine v_icmp_geN h dL_law_388 (tgt := 495) (by decide) (by first | omega | exact Nat.lt_of_le_of_lt (bN_le _) (by decide)) (by first | omega | exact Nat.lt_of_le_of_lt (bN_le _) (by decide)) (fun c388 => ?_) (fun c388 => ?_)
            · have e9 : n = u := by omega
              subst e9
              refine v_aload_n1 h dL_law_495 ?_
              refine v_iload6 h dL_law_496 ?_
              refine v_iload8 h dL_law_498 ?_
              refine kk_finer h hG hI (by first | assumption | omega) (by first | assumption | omega) ⟨rfl, rfl, (Nat.le_of_ble_eq_true rfl), (Nat.le_of_ble_eq_true rfl)⟩ (Nat.le_of_ble_eq_true rfl) dL_law_500 (fun ws hI => ?_)
              refine v_iload9 h dL_law_503 ?_
              refine v_if_eqB h dL_law_505 (tgt := 517) (by decide) (fun c505 => ?_) (fun c505 => ?_)
              · refine v_iconst h (v := nI 0) dL_law_517 (by decide) ?_
                refine v_icmp_eqN h dL_law_518 (tgt := 523) (by decide) (by first | omega | exact Nat.lt_of_le_of_lt (bN_le _) (by decide)) (by first | omega | exact Nat.lt_of_le_of_lt (bN_le _) (by decide)) (fun c518 => ?_) (fun c518 => ?_)
                · refine v_iincN8 h (Nat.le_of_ble_eq_true rfl) dL_law_523 ?_
                  refine v_goto h dL_law_526 (tgt := 366) (by decide) ?_
                  exact vM.fg (ih366 _ (by omega) (i + 1) _ rfl (by first | assumption | rfl | omega) (by first | assumption | rfl | omega)) ⟨rfl, rfl, rfl, rfl, rfl, rfl, rfl, trivial⟩
                · first | exact absurd (show bN (finM n (ligS (kd j) (pt j) w n) (ligS (kd i) (pt i) w n)) = 1 by rw [fin_law, c505, decide_eq_true c510]; rfl) c518 | exact absurd (show bN (finM n (ligS (kd j) (pt j) w n) (ligS (kd i) (pt i) w n)) = 0 by rw [fin_law, c505, decide_eq_false (by omega)]; rfl) c518 | exact absurd (show bN (finM n (ligS (kd j) (pt j) w n) (ligS (kd i) (pt i) w n)) = 0 by rw [fin_law, c505]; rfl) c518
              · refine v_iload10 h dL_law_508 ?_
                refine v_if_leN h dL_law_510 (tgt := 517) (by decide) (by exact Nat.lt_of_le_of_lt (fnM_le _) (Nat.lt_of_le_of_lt (Nat.mul_le_mul hn.2.1 hn.2.1) (by decide))) (fun c510 => ?_) (fun c510 => ?_)
                · refine v_iconst h (v := nI 0) dL_law_517 (by decide) ?_
                  refine v_icmp_eqN h dL_law_518 (tgt := 523) (by decide) (by first | omega | exact Nat.lt_of_le_of_lt (bN_le _) (by decide)) (by first | omega | exact Nat.lt_of_le_of_lt (bN_le _) (by decide)) (fun c518 => ?_) (fun c518 => ?_)
                  · refine v_iincN8 h (Nat.le_of_ble_eq_true rfl) dL_law_523 ?_
                    refine v_goto h dL_law_526 (tgt := 366) (by decide) ?_
                    exact vM.fg (ih366 _ (by omega) (i + 1) _ rfl (by first | assumption | rfl | omega) (by first | assumption | rfl | omega)) ⟨rfl, rfl, rfl, rfl, rfl, rfl, rfl, trivial⟩
                  · first | exact absurd (show bN (finM n (ligS (kd j) (pt j) w n) (ligS (kd i) (pt i) w n)) = 1 by rw [fin_law, c505, decide_eq_true c510]; rfl) c518 | exact absurd (show bN (finM n (ligS (kd j) (pt j) w n) (ligS (kd i) (pt i) w n)) = 0 by rw [fin_law, c505, decide_eq_false (by omega)]; rfl) c518 | exact absurd (show bN (finM n (ligS (kd j) (pt j) w n) (ligS (kd i) (pt i) w n)) = 0 by rw [fin_law, c505]; rfl) c518
                · refine v_iconst h (v := nI 1) dL_law_513 (by decide) ?_
                  refine v_goto h dL_law_514 (tgt := 518) (by decide) ?_
                  refine v_icmp_eqN h dL_law_518 (tgt := 523) (by decide) (by first | omega | exact Nat.lt_of_le_of_lt (bN_le _) (by decide)) (by first | omega | exact Nat.lt_of_le_of_lt (bN_le _) (by decide)) (fun c518 => ?_) (fun c518 => ?_)
                  · refine v_iincN8 h (Nat.le_of_ble_eq_true rfl) dL_law_523 ?_
                    refine v_goto h dL_law_526 (tgt := 366) (by decide) ?_
                    exact vM.fg (ih366 _ (by omega) (i + 1) _ rfl (by first | assumption | rfl | omega) (by first | assumption | rfl | omega)) ⟨rfl, rfl, rfl, rfl, rfl, rfl, rfl, trivial⟩
                  · first | exact absurd (show bN (finM n (ligS (kd j) (pt j) w n) (ligS (kd i) (pt i) w n)) = 1 by rw [fin_law, c505, decide_eq_true c510]; rfl) c518 | exact absurd (show bN (finM n (ligS (kd j) (pt j) w n) (ligS (kd i) (pt i) w n)) = 0 by rw [fin_law, c505, decide_eq_false (by omega)]; rfl) c518 | exact absurd (show bN (finM n (ligS (kd j) (pt j) w n) (ligS (kd i) (pt i) w n)) = 0 by rw [fin_law, c505]; rfl) c518
            · refine v_iconst h (v := nI 0) dL_law_391 (by decide) ?_
              refine v_istore12 h (Nat.le_of_ble_eq_true rfl) dL_law_392 ?_
              have L394 : ∀ (k394 : Nat) (v : Nat), n - v = k394 → (v ≤ n) → vM x 394 [some (.ref b), some (.ref (ad 0)), some (.ref ta0), none, some (.int (nI n)), some (.int (nI turn)), some (.int (nI j)), none, some (.int (nI i)), some (.int (nI (bN (fnAll (kd j) (pt j) (kd i) (pt i) w n u && allTo (fnA (kd j) (pt j) (kd i) (pt i) w u) v)))), some (.int (nI (fnM (kd j) (pt j) (kd i) (pt i) w n u + sumTo (fun y => bN (fnB (kd j) (pt j) (kd i) (pt i) w u y)) v))), some (.int (nI u)), some (.int (nI v)), none, none, none, none, none, none] [] (wcat [(ta0, .inl (gI g, 22, .inl (fun z9 => nI (tt z9))))] ws) := by
                intro k394
                induction k394 using Nat.strongRecOn with
                | _ k394 ih394 =>
                  intro v hm394 hv
                  refine v_iload12 h dL_law_394 ?_
                  refine v_iload4 h dL_law_396 ?_
                  refine v_icmp_geN h dL_law_398 (tgt := 489) (by decide) (by first | omega | exact Nat.lt_of_le_of_lt (bN_le _) (by decide)) (by first | omega | exact Nat.lt_of_le_of_lt (bN_le _) (by decide)) (fun c398 => ?_) (fun c398 => ?_)
                  · have e9 : n = v := by omega
                    subst e9
                    refine v_iincN11 h (Nat.le_of_ble_eq_true rfl) dL_law_489 ?_
                    refine v_goto h dL_law_492 (tgt := 384) (by decide) ?_
                    exact vM.fg (ih384 _ (by omega) (u + 1) rfl (by first | assumption | rfl | omega)) ⟨rfl, rfl, rfl, rfl, rfl, rfl, rfl, rfl, rfl, rfl, trivial⟩
                  · refine v_aload_n2 h dL_law_401 ?_
                    refine v_iload6 h dL_law_402 ?_
                    refine v_aload_n2 h dL_law_404 ?_
                    refine v_iconst h (v := nI 1) dL_law_405 (by decide) ?_
                    refine v_iload11 h dL_law_406 ?_
                    refine v_iaddN h dL_law_408 ?_
                    refine v_tw h hG (by omega) dL_law_409 ?_
                    refine v_aload_n2 h dL_law_410 ?_
                    refine v_iconst h (v := nI 1) dL_law_411 (by decide) ?_
                    refine v_iload12 h dL_law_412 ?_
                    refine v_iaddN h dL_law_414 ?_
                    refine v_tw h hG (by omega) dL_law_415 ?_
                    refine v_ltells h hG (by first | assumption | omega) (by first | assumption | omega) (by first | assumption | omega) ⟨rfl, rfl, (Nat.le_of_ble_eq_true rfl), (Nat.le_of_ble_eq_true rfl)⟩ (Nat.le_of_ble_eq_true rfl) dL_law_416 ?_
                    refine v_istore13 h (Nat.le_of_ble_eq_true rfl) dL_law_419 ?_
                    refine v_aload_n2 h dL_law_421 ?_
                    refine v_iload8 h dL_law_422 ?_
                    refine v_aload_n2 h dL_law_424 ?_
                    refine v_iconst h (v := nI 1) dL_law_425 (by decide) ?_
                    refine v_iload11 h dL_law_426 ?_
                    refine v_iaddN h dL_law_428 ?_
                    refine v_tw h hG (by omega) dL_law_429 ?_
                    refine v_aload_n2 h dL_law_430 ?_
                    refine v_iconst h (v := nI 1) dL_law_431 (by decide) ?_
                    refine v_iload12 h dL_law_432 ?_
                    refine v_iaddN h dL_law_434 ?_
                    refine v_tw h hG (by omega) dL_law_435 ?_
                    refine v_ltells h hG (by first | assumption | omega) (by first | assumption | omega) (by first | assumption | omega) ⟨rfl, rfl, (Nat.le_of_ble_eq_true rfl), (Nat.le_of_ble_eq_true rfl)⟩ (Nat.le_of_ble_eq_true rfl) dL_law_436 ?_
                    refine v_istore14 h (Nat.le_of_ble_eq_true rfl) dL_law_439 ?_
                    refine v_iload9 h dL_law_441 ?_
                    refine v_if_eqB h dL_law_443 (tgt := 460) (by decide) (fun c443 => ?_) (fun c443 => ?_)
                    · refine v_iconst h (v := nI 0) dL_law_460 (by decide) ?_
                      refine v_istore9 h (Nat.le_of_ble_eq_true rfl) dL_law_461 ?_
                      refine v_iload10 h dL_law_463 ?_
                      refine v_iload13 h dL_law_465 ?_
                      refine v_if_eqB h dL_law_467 (tgt := 479) (by decide) (fun c467 => ?_) (fun c467 => ?_)
                      · refine v_iconst h (v := nI 0) dL_law_479 (by decide) ?_
                        refine v_iaddN h dL_law_480 ?_
                        refine v_istore10 h (Nat.le_of_ble_eq_true rfl) dL_law_481 ?_
                        refine v_iincN12 h (Nat.le_of_ble_eq_true rfl) dL_law_483 ?_
                        refine v_goto h dL_law_486 (tgt := 394) (by decide) ?_
                        exact vM.fg (ih394 _ (by omega) (v + 1) rfl (by first | assumption | rfl | omega)) ⟨rfl, rfl, rfl, rfl, rfl, rfl, rfl, (by first | (rw [allTo, ← Bool.and_assoc, c443]; simp [fnA, c448, bN]; done) | (rw [allTo, ← Bool.and_assoc, c443]; simp [fnA, c448, c453, bN]; done) | (rw [allTo, ← Bool.and_assoc, c443]; simp [bN]; done)), (by first | (rw [sumTo, ← Nat.add_assoc]; simp [fnB, bN, c467, c472]; done) | (rw [sumTo, ← Nat.add_assoc]; simp [fnB, bN, c467]; done)), rfl, rfl, trivial⟩
                      · refine v_iload14 h dL_law_470 ?_
                        refine v_if_neB h dL_law_472 (tgt := 479) (by decide) (fun c472 => ?_) (fun c472 => ?_)
                        · refine v_iconst h (v := nI 0) dL_law_479 (by decide) ?_
                          refine v_iaddN h dL_law_480 ?_
                          refine v_istore10 h (Nat.le_of_ble_eq_true rfl) dL_law_481 ?_
                          refine v_iincN12 h (Nat.le_of_ble_eq_true rfl) dL_law_483 ?_
                          refine v_goto h dL_law_486 (tgt := 394) (by decide) ?_
                          exact vM.fg (ih394 _ (by omega) (v + 1) rfl (by first | assumption | rfl | omega)) ⟨rfl, rfl, rfl, rfl, rfl, rfl, rfl, (by first | (rw [allTo, ← Bool.and_assoc, c443]; simp [fnA, c448, bN]; done) | (rw [allTo, ← Bool.and_assoc, c443]; simp [fnA, c448, c453, bN]; done) | (rw [allTo, ← Bool.and_assoc, c443]; simp [bN]; done)), (by first | (rw [sumTo, ← Nat.add_assoc]; simp [fnB, bN, c467, c472]; done) | (rw [sumTo, ← Nat.add_assoc]; simp [fnB, bN, c467]; done)), rfl, rfl, trivial⟩
                        · refine v_iconst h (v := nI 1) dL_law_475 (by decide) ?_
                          refine v_goto h dL_law_476 (tgt := 480) (by decide) ?_
                          refine v_iaddN h dL_law_480 ?_
                          refine v_istore10 h (Nat.le_of_ble_eq_true rfl) dL_law_481 ?_
                          refine v_iincN12 h (Nat.le_of_ble_eq_true rfl) dL_law_483 ?_
                          refine v_goto h dL_law_486 (tgt := 394) (by decide) ?_
                          exact vM.fg (ih394 _ (by omega) (v + 1) rfl (by first | assumption | rfl | omega)) ⟨rfl, rfl, rfl, rfl, rfl, rfl, rfl, (by first | (rw [allTo, ← Bool.and_assoc, c443]; simp [fnA, c448, bN]; done) | (rw [allTo, ← Bool.and_assoc, c443]; simp [fnA, c448, c453, bN]; done) | (rw [allTo, ← Bool.and_assoc, c443]; simp [bN]; done)), (by first | (rw [sumTo, ← Nat.add_assoc]; simp [fnB, bN, c467, c472]; done) | (rw [sumTo, ← Nat.add_assoc]; simp [fnB, bN, c467]; done)), rfl, rfl, trivial⟩
                    · refine v_iload13 h dL_law_446 ?_
                      refine v_if_neB h dL_law_448 (tgt := 456) (by decide) (fun c448 => ?_) (fun c448 => ?_)
                      · refine v_iconst h (v := nI 1) dL_law_456 (by decide) ?_
                        refine v_goto h dL_law_457 (tgt := 461) (by decide) ?_
                        refine v_istore9 h (Nat.le_of_ble_eq_true rfl) dL_law_461 ?_
                        refine v_iload10 h dL_law_463 ?_
                        refine v_iload13 h dL_law_465 ?_
                        refine v_if_eqB h dL_law_467 (tgt := 479) (by decide) (fun c467 => ?_) (fun c467 => ?_)
                        · refine v_iconst h (v := nI 0) dL_law_479 (by decide) ?_
                          refine v_iaddN h dL_law_480 ?_
                          refine v_istore10 h (Nat.le_of_ble_eq_true rfl) dL_law_481 ?_
                          refine v_iincN12 h (Nat.le_of_ble_eq_true rfl) dL_law_483 ?_
                          refine v_goto h dL_law_486 (tgt := 394) (by decide) ?_
                          exact vM.fg (ih394 _ (by omega) (v + 1) rfl (by first | assumption | rfl | omega)) ⟨rfl, rfl, rfl, rfl, rfl, rfl, rfl, (by first | (rw [allTo, ← Bool.and_assoc, c443]; simp [fnA, c448, bN]; done) | (rw [allTo, ← Bool.and_assoc, c443]; simp [fnA, c448, c453, bN]; done) | (rw [allTo, ← Bool.and_assoc, c443]; simp [bN]; done)), (by first | (rw [sumTo, ← Nat.add_assoc]; simp [fnB, bN, c467, c472]; done) | (rw [sumTo, ← Nat.add_assoc]; simp [fnB, bN, c467]; done)), rfl, rfl, trivial⟩
                        · refine v_iload14 h dL_law_470 ?_
                          refine v_if_neB h dL_law_472 (tgt := 479) (by decide) (fun c472 => ?_) (fun c472 => ?_)
                          · refine v_iconst h (v := nI 0) dL_law_479 (by decide) ?_
                            refine v_iaddN h dL_law_480 ?_
                            refine v_istore10 h (Nat.le_of_ble_eq_true rfl) dL_law_481 ?_
                            refine v_iincN12 h (Nat.le_of_ble_eq_true rfl) dL_law_483 ?_
                            refine v_goto h dL_law_486 (tgt := 394) (by decide) ?_
                            exact vM.fg (ih394 _ (by omega) (v + 1) rfl (by first | assumption | rfl | omega)) ⟨rfl, rfl, rfl, rfl, rfl, rfl, rfl, (by first | (rw [allTo, ← Bool.and_assoc, c443]; simp [fnA, c448, bN]; done) | (rw [allTo, ← Bool.and_assoc, c443]; simp [fnA, c448, c453, bN]; done) | (rw [allTo, ← Bool.and_assoc, c443]; simp [bN]; done)), (by first | (rw [sumTo, ← Nat.add_assoc]; simp [fnB, bN, c467, c472]; done) | (rw [sumTo, ← Nat.add_assoc]; simp [fnB, bN, c467]; done)), rfl, rfl, trivial⟩
                          · refine v_iconst h (v := nI 1) dL_law_475 (by decide) ?_
                            refine v_goto h dL_law_476 (tgt := 480) (by decide) ?_
                            refine v_iaddN h dL_law_480 ?_
                            refine v_istore10 h (Nat.le_of_ble_eq_true rfl) dL_law_481 ?_
                            refine v_iincN12 h (Nat.le_of_ble_eq_true rfl) dL_law_483 ?_
                            refine v_goto h dL_law_486 (tgt := 394) (by decide) ?_
                            exact vM.fg (ih394 _ (by omega) (v + 1) rfl (by first | assumption | rfl | omega)) ⟨rfl, rfl, rfl, rfl, rfl, rfl, rfl, (by first | (rw [allTo, ← Bool.and_assoc, c443]; simp [fnA, c448, bN]; done) | (rw [allTo, ← Bool.and_assoc, c443]; simp [fnA, c448, c453, bN]; done) | (rw [allTo, ← Bool.and_assoc, c443]; simp [bN]; done)), (by first | (rw [sumTo, ← Nat.add_assoc]; simp [fnB, bN, c467, c472]; done) | (rw [sumTo, ← Nat.add_assoc]; simp [fnB, bN, c467]; done)), rfl, rfl, trivial⟩
                      · refine v_iload14 h dL_law_451 ?_
                        refine v_if_neB h dL_law_453 (tgt := 460) (by decide) (fun c453 => ?_) (fun c453 => ?_)
                        · refine v_iconst h (v := nI 0) dL_law_460 (by decide) ?_
                          refine v_istore9 h (Nat.le_of_ble_eq_true rfl) dL_law_461 ?_
                          refine v_iload10 h dL_law_463 ?_
                          refine v_iload13 h dL_law_465 ?_
                          refine v_if_eqB h dL_law_467 (tgt := 479) (by decide) (fun c467 => ?_) (fun c467 => ?_)
                          · refine v_iconst h (v := nI 0) dL_law_479 (by decide) ?_
                            refine v_iaddN h dL_law_480 ?_
                            refine v_istore10 h (Nat.le_of_ble_eq_true rfl) dL_law_481 ?_
                            refine v_iincN12 h (Nat.le_of_ble_eq_true rfl) dL_law_483 ?_
                            refine v_goto h dL_law_486 (tgt := 394) (by decide) ?_
                            exact vM.fg (ih394 _ (by omega) (v + 1) rfl (by first | assumption | rfl | omega)) ⟨rfl, rfl, rfl, rfl, rfl, rfl, rfl, (by first | (rw [allTo, ← Bool.and_assoc, c443]; simp [fnA, c448, bN]; done) | (rw [allTo, ← Bool.and_assoc, c443]; simp [fnA, c448, c453, bN]; done) | (rw [allTo, ← Bool.and_assoc, c443]; simp [bN]; done)), (by first | (rw [sumTo, ← Nat.add_assoc]; simp [fnB, bN, c467, c472]; done) | (rw [sumTo, ← Nat.add_assoc]; simp [fnB, bN, c467]; done)), rfl, rfl, trivial⟩
                          · refine v_iload14 h dL_law_470 ?_
                            refine v_if_neB h dL_law_472 (tgt := 479) (by decide) (fun c472 => ?_) (fun c472 => ?_)
                            · refine v_iconst h (v := nI 0) dL_law_479 (by decide) ?_
                              refine v_iaddN h dL_law_480 ?_
                              refine v_istore10 h (Nat.le_of_ble_eq_true rfl) dL_law_481 ?_
                              refine v_iincN12 h (Nat.le_of_ble_eq_true rfl) dL_law_483 ?_
                              refine v_goto h dL_law_486 (tgt := 394) (by decide) ?_
                              exact vM.fg (ih394 _ (by omega) (v + 1) rfl (by first | assumption | rfl | omega)) ⟨rfl, rfl, rfl, rfl, rfl, rfl, rfl, (by first | (rw [allTo, ← Bool.and_assoc, c443]; simp [fnA, c448, bN]; done) | (rw [allTo, ← Bool.and_assoc, c443]; simp [fnA, c448, c453, bN]; done) | (rw [allTo, ← Bool.and_assoc, c443]; simp [bN]; done)), (by first | (rw [sumTo, ← Nat.add_assoc]; simp [fnB, bN, c467, c472]; done) | (rw [sumTo, ← Nat.add_assoc]; simp [fnB, bN, c467]; done)), rfl, rfl, trivial⟩
                            · refine v_iconst h (v := nI 1) dL_law_475 (by decide) ?_
                              refine v_goto h dL_law_476 (tgt := 480) (by decide) ?_
                              refine v_iaddN h dL_law_480 ?_
                              refine v_istore10 h (Nat.le_of_ble_eq_true rfl) dL_law_481 ?_
                              refine v_iincN12 h (Nat.le_of_ble_eq_true rfl) dL_law_483 ?_
                              refine v_goto h dL_law_486 (tgt := 394) (by decide) ?_
                              exact vM.fg (ih394 _ (by omega) (v + 1) rfl (by first | assumption | rfl | omega)) ⟨rfl, rfl, rfl, rfl, rfl, rfl, rfl, (by first | (rw [allTo, ← Bool.and_assoc, c443]; simp [fnA, c448, bN]; done) | (rw [allTo, ← Bool.and_assoc, c443]; simp [fnA, c448, c453, bN]; done) | (rw [allTo, ← Bool.and_assoc, c443]; simp [bN]; done)), (by first | (rw [sumTo, ← Nat.add_assoc]; simp [fnB, bN, c467, c472]; done) | (rw [sumTo, ← Nat.add_assoc]; simp [fnB, bN, c467]; done)), rfl, rfl, trivial⟩
                        · refine v_iconst h (v := nI 1) dL_law_456 (by decide) ?_
                          refine v_goto h dL_law_457 (tgt := 461) (by decide) ?_
                          refine v_istore9 h (Nat.le_of_ble_eq_true rfl) dL_law_461 ?_
                          refine v_iload10 h dL_law_463 ?_
                          refine v_iload13 h dL_law_465 ?_
                          refine v_if_eqB h dL_law_467 (tgt := 479) (by decide) (fun c467 => ?_) (fun c467 => ?_)
                          · refine v_iconst h (v := nI 0) dL_law_479 (by decide) ?_
                            refine v_iaddN h dL_law_480 ?_
                            refine v_istore10 h (Nat.le_of_ble_eq_true rfl) dL_law_481 ?_
                            refine v_iincN12 h (Nat.le_of_ble_eq_true rfl) dL_law_483 ?_
                            refine v_goto h dL_law_486 (tgt := 394) (by decide) ?_
                            exact vM.fg (ih394 _ (by omega) (v + 1) rfl (by first | assumption | rfl | omega)) ⟨rfl, rfl, rfl, rfl, rfl, rfl, rfl, (by first | (rw [allTo, ← Bool.and_assoc, c443]; simp [fnA, c448, bN]; done) | (rw [allTo, ← Bool.and_assoc, c443]; simp [fnA, c448, c453, bN]; done) | (rw [allTo, ← Bool.and_assoc, c443]; simp [bN]; done)), (by first | (rw [sumTo, ← Nat.add_assoc]; simp [fnB, bN, c467, c472]; done) | (rw [sumTo, ← Nat.add_assoc]; simp [fnB, bN, c467]; done)), rfl, rfl, trivial⟩
                          · refine v_iload14 h dL_law_470 ?_
                            refine v_if_neB h dL_law_472 (tgt := 479) (by decide) (fun c472 => ?_) (fun c472 => ?_)
                            · refine v_iconst h (v := nI 0) dL_law_479 (by decide) ?_
                              refine v_iaddN h dL_law_480 ?_
                              refine v_istore10 h (Nat.le_of_ble_eq_true rfl) dL_law_481 ?_
                              refine v_iincN12 h (Nat.le_of_ble_eq_true rfl) dL_law_483 ?_
                              refine v_goto h dL_law_486 (tgt := 394) (by decide) ?_
                              exact vM.fg (ih394 _ (by omega) (v + 1) rfl (by first | assumption | rfl | omega)) ⟨rfl, rfl, rfl, rfl, rfl, rfl, rfl, (by first | (rw [allTo, ← Bool.and_assoc, c443]; simp [fnA, c448, bN]; done) | (rw [allTo, ← Bool.and_assoc, c443]; simp [fnA, c448, c453, bN]; done) | (rw [allTo, ← Bool.and_assoc, c443]; simp [bN]; done)), (by first | (rw [sumTo, ← Nat.add_assoc]; simp [fnB, bN, c467, c472]; done) | (rw [sumTo, ← Nat.add_assoc]; simp [fnB, bN, c467]; done)), rfl, rfl, trivial⟩
                            · refine v_iconst h (v := nI 1) dL_law_475 (by decide) ?_
                              refine v_goto h dL_law_476 (tgt := 480) (by decide) ?_
                              refine v_iaddN h dL_law_480 ?_
                              refine v_istore10 h (Nat.le_of_ble_eq_true rfl) dL_law_481 ?_
                              refine v_iincN12 h (Nat.le_of_ble_eq_true rfl) dL_law_483 ?_
                              refine v_goto h dL_law_486 (tgt := 394) (by decide) ?_
                              exact vM.fg (ih394 _ (by omega) (v + 1) rfl (by first | assumption | rfl | omega)) ⟨rfl, rfl, rfl, rfl, rfl, rfl, rfl, (by first | (rw [allTo, ← Bool.and_assoc, c443]; simp [fnA, c448, bN]; done) | (rw [allTo, ← Bool.and_assoc, c443]; simp [fnA, c448, c453, bN]; done) | (rw [allTo, ← Bool.and_assoc, c443]; simp [bN]; done)), (by first | (rw [sumTo, ← Nat.add_assoc]; simp [fnB, bN, c467, c472]; done) | (rw [sumTo, ← Nat.add_assoc]; simp [fnB, bN, c467]; done)), rfl, rfl, trivial⟩
              exact vM.fg (L394 _ 0 rfl (by first | assumption | rfl | omega)) ⟨rfl, rfl, rfl, rfl, rfl, rfl, rfl, (by rw [allTo, Bool.and_true]), rfl, rfl, rfl, trivial⟩
        exact vM.fg (L384 _ 0 rfl (by first | assumption | rfl | omega)) ⟨rfl, rfl, rfl, rfl, rfl, rfl, rfl, rfl, rfl, rfl, trivial⟩
  exact vM.fg (L366 _ 0 _ rfl (by first | assumption | rfl | omega) (by first | assumption | rfl | omega)) ⟨rfl, rfl, rfl, rfl, rfl, rfl, rfl, trivial⟩
