/-! The law: its cases with helpers. -/
section LawCases2
variable {X : jx_X} {l : Launch} {E : jx_E} {b : Nat} {R : Room} {Q : State → Prop} {G : jx_H} {sz ce sl a x n N : Nat} {xs : Nat → Int32} {v5 v6 : Option Value} {σ : rs_S}
set_option maxRecDepth 100000 in
set_option maxHeartbeats 1000000 in
theorem lc_sentence (k : jx_ok X l E b yL_law code 7 (some .boolean) R) (htr : ∀ e : Env, l.admits e → e.platform.stackTraces = false) (hX : va_X a N xs (jx_s X) (jx_s X).heap) (hbl : a < (jx_s X).heap.size) (hab : a < b) (hN : N < 2 ^ 31) (hn : 4 * n + 3 < N) (r1 : 11 ≤ R.frames) (r2 : 378 ≤ R.locals) (r3 : ce + 9 ≤ R.cells) (r4 : sl + 47 ≤ R.slots) (hLS : lwS E x σ G sz) (K : ∀ (σ' : rs_S) (G' : jx_H) (sz' ce' sl' : Nat) (w5 w6 : Option Value), lwS E x σ' G' sz' → ce' ≤ ce + 9 → sl' ≤ sl + 47 → jx_w X E b Q 1289 (lL a x n w5 w6) [] G' sz' ce' sl') : jx_w X E b Q 152 (lL a x n v5 v6) [] G sz ce sl := by
  obtain ⟨uw, fo, ca, co, lo, lc, kn, on, cut, u, f, g, fl, h, sp, β, ρ, D, P, w, hC, hR, hM, ho⟩ := hLS
  rcases hC.1.2.2.1 with h0 | h1
  · have e2 : σ.1 2 = 0 := (R_on hR).trans h0
    have em : ∀ y, ms_sentence σ (d_sn β uw) (xs (4 * n + 1)) y = (0, rs_f σ 0 1) := fun y => by rw [ms_sentence, if_pos e2]
    refine jx_aload_n k dL_law_152 rfl ?_
    refine jx_aload_n k dL_law_153 rfl ?_
    refine jx_iload k dL_law_154 rfl ?_
    refine jx_iconst k dL_law_156 (v := 1) (by decide) ?_
    refine jx_iadd k dL_law_157 ?_
    refine jx_sld k hX hbl hab hN dL_law_158 (p := 4 * n + 1) (nI_add _ 1) (by omega) ?_
    refine jx_aload_n k dL_law_159 rfl ?_
    refine jx_iload k dL_law_160 rfl ?_
    refine jx_iconst k dL_law_162 (v := 2) (by decide) ?_
    refine jx_iadd k dL_law_163 ?_
    refine jx_sld k hX hbl hab hN dL_law_164 (p := 4 * n + 2) (nI_add _ 2) (by omega) ?_
    refine jx_i2l k dL_law_165 ?_
    refine jx_bipush k dL_law_166 (v := 32) (by decide) ?_
    refine jx_lshl k dL_law_168 ?_
    refine jx_aload_n k dL_law_169 rfl ?_
    refine jx_iload k dL_law_170 rfl ?_
    refine jx_iconst k dL_law_172 (v := 3) (by decide) ?_
    refine jx_iadd k dL_law_173 ?_
    refine jx_sld k hX hbl hab hN dL_law_174 (p := 4 * n + 3) (nI_add _ 3) (by omega) ?_
    refine jx_i2l k dL_law_175 ?_
    refine jx_ldc2 k jn_912 dL_law_176 ?_
    refine jx_land k dL_law_179 ?_
    refine jx_lor k dL_law_180 ?_
    refine jx_aload_n k dL_law_181 rfl ?_
    refine jx_callSW1 k (n := 4) jn_376 jn_33 ⟨by decide +kernel, by decide +kernel⟩ (by decide +kernel) jn_374 jn_375 (h0_sentence _ _ _ _ _ htr x (x + 51) uw fo ca co lo lc kn on cut u f g fl h sp β ρ D P hC h0 (xs (4 * n + 1)) _) dL_law_182 rfl rfl rfl (Nat.le_of_ble_eq_true rfl) ⟨by omega, by omega⟩ ⟨by omega, by omega⟩ ?_
    refine jx_istore k dL_law_185 (Nat.le_of_ble_eq_true rfl) rfl (L' := [_, _, _, _, _, _, _]) rfl ?_
    refine jx_aload_n k dL_law_187 rfl ?_
    refine jx_aload_n k dL_law_188 rfl ?_
    refine jx_iload k dL_law_189 rfl ?_
    refine jx_iconst k dL_law_191 (v := 1) (by decide) ?_
    refine jx_iadd k dL_law_192 ?_
    refine jx_sld k hX hbl hab hN dL_law_193 (p := 4 * n + 1) (nI_add _ 1) (by omega) ?_
    refine jx_aload_n k dL_law_194 rfl ?_
    refine jx_iload k dL_law_195 rfl ?_
    refine jx_iconst k dL_law_197 (v := 2) (by decide) ?_
    refine jx_iadd k dL_law_198 ?_
    refine jx_sld k hX hbl hab hN dL_law_199 (p := 4 * n + 2) (nI_add _ 2) (by omega) ?_
    refine jx_i2l k dL_law_200 ?_
    refine jx_bipush k dL_law_201 (v := 32) (by decide) ?_
    refine jx_lshl k dL_law_203 ?_
    refine jx_aload_n k dL_law_204 rfl ?_
    refine jx_iload k dL_law_205 rfl ?_
    refine jx_iconst k dL_law_207 (v := 3) (by decide) ?_
    refine jx_iadd k dL_law_208 ?_
    refine jx_sld k hX hbl hab hN dL_law_209 (p := 4 * n + 3) (nI_add _ 3) (by omega) ?_
    refine jx_i2l k dL_law_210 ?_
    refine jx_ldc2 k jn_912 dL_law_211 ?_
    refine jx_land k dL_law_214 ?_
    refine jx_lor k dL_law_215 ?_
    rw [← MC_G hM]
    refine jx_callV1 k mL_56 (q_sentence _ _ _ _ _ _ σ (d_sn β uw) (xs (4 * n + 1)) _ (R_sn hR).1 (R_sn hR).2) rm_a0 rfl dL_law_216 rfl rfl rfl (Nat.le_of_ble_eq_true rfl) ⟨by omega, by omega⟩ ⟨by omega, by omega⟩ ?_
    rw [em]
    refine jx_istore k dL_law_219 (Nat.le_of_ble_eq_true rfl) rfl (L' := [_, _, _, _, _, _, _]) rfl ?_
    refine jx_aload_n k dL_law_221 rfl ?_
    refine jx_callVP k mL_57 (q_thrown _ _ _ _ _ _ _) rm_a0 rfl dL_law_222 rfl rfl rfl (Nat.le_of_ble_eq_true rfl) ⟨by omega, by omega⟩ ⟨by omega, by omega⟩ ?_
    refine jx_iload k dL_law_225 rfl ?_
    refine jx_icmp_eq k dL_law_227 (tgt := 232) rfl (fun _ => ?_) (fun hh => absurd rfl hh)
    refine jx_iload k dL_law_232 rfl ?_
    refine jx_if_ne k dL_law_234 (tgt := 249) rfl (fun _ => ?_) (fun hh => absurd hh (by decide))
    refine jx_goto k dL_law_249 (tgt := 1289) rfl ?_
    exact K _ _ _ _ _ _ _ (lwS_of hC (Nat.le_succ _) (fun _ _ => rfl) (RR_0 1 hR) ho) (by omega) (by omega)
  · refine jx_aload_n k dL_law_152 rfl ?_
    refine jx_aload_n k dL_law_153 rfl ?_
    refine jx_iload k dL_law_154 rfl ?_
    refine jx_iconst k dL_law_156 (v := 1) (by decide) ?_
    refine jx_iadd k dL_law_157 ?_
    refine jx_sld k hX hbl hab hN dL_law_158 (p := 4 * n + 1) (nI_add _ 1) (by omega) ?_
    refine jx_aload_n k dL_law_159 rfl ?_
    refine jx_iload k dL_law_160 rfl ?_
    refine jx_iconst k dL_law_162 (v := 2) (by decide) ?_
    refine jx_iadd k dL_law_163 ?_
    refine jx_sld k hX hbl hab hN dL_law_164 (p := 4 * n + 2) (nI_add _ 2) (by omega) ?_
    refine jx_i2l k dL_law_165 ?_
    refine jx_bipush k dL_law_166 (v := 32) (by decide) ?_
    refine jx_lshl k dL_law_168 ?_
    refine jx_aload_n k dL_law_169 rfl ?_
    refine jx_iload k dL_law_170 rfl ?_
    refine jx_iconst k dL_law_172 (v := 3) (by decide) ?_
    refine jx_iadd k dL_law_173 ?_
    refine jx_sld k hX hbl hab hN dL_law_174 (p := 4 * n + 3) (nI_add _ 3) (by omega) ?_
    refine jx_i2l k dL_law_175 ?_
    refine jx_ldc2 k jn_912 dL_law_176 ?_
    refine jx_land k dL_law_179 ?_
    refine jx_lor k dL_law_180 ?_
    refine jx_aload_n k dL_law_181 rfl ?_
    refine jx_callSW k (n := 4) jn_376 jn_33 ⟨by decide +kernel, by decide +kernel⟩ (by decide +kernel) jn_374 jn_375 (h1_sentence _ _ _ _ _ x uw fo ca co lo lc kn on cut u f g fl h sp β ρ D P hC h1 w ho (xs (4 * n + 1)) _) dL_law_182 rfl rfl rfl (Nat.le_of_ble_eq_true rfl) ⟨by omega, by omega⟩ ⟨by omega, by omega⟩ ?_
    rintro v G9 sz1 ⟨rfl, r, G1, hf, rfl, hr, rfl, hC1⟩
    refine jx_istore k dL_law_185 (Nat.le_of_ble_eq_true rfl) rfl (L' := [_, _, _, _, _, _, _]) rfl ?_
    refine jx_aload_n k dL_law_187 rfl ?_
    refine jx_aload_n k dL_law_188 rfl ?_
    refine jx_iload k dL_law_189 rfl ?_
    refine jx_iconst k dL_law_191 (v := 1) (by decide) ?_
    refine jx_iadd k dL_law_192 ?_
    refine jx_sld k hX hbl hab hN dL_law_193 (p := 4 * n + 1) (nI_add _ 1) (by omega) ?_
    refine jx_aload_n k dL_law_194 rfl ?_
    refine jx_iload k dL_law_195 rfl ?_
    refine jx_iconst k dL_law_197 (v := 2) (by decide) ?_
    refine jx_iadd k dL_law_198 ?_
    refine jx_sld k hX hbl hab hN dL_law_199 (p := 4 * n + 2) (nI_add _ 2) (by omega) ?_
    refine jx_i2l k dL_law_200 ?_
    refine jx_bipush k dL_law_201 (v := 32) (by decide) ?_
    refine jx_lshl k dL_law_203 ?_
    refine jx_aload_n k dL_law_204 rfl ?_
    refine jx_iload k dL_law_205 rfl ?_
    refine jx_iconst k dL_law_207 (v := 3) (by decide) ?_
    refine jx_iadd k dL_law_208 ?_
    refine jx_sld k hX hbl hab hN dL_law_209 (p := 4 * n + 3) (nI_add _ 3) (by omega) ?_
    refine jx_i2l k dL_law_210 ?_
    refine jx_ldc2 k jn_912 dL_law_211 ?_
    refine jx_land k dL_law_214 ?_
    refine jx_lor k dL_law_215 ?_
    rw [← MC_G (MC_o (MC_f hM hf))]
    refine jx_callV1 k mL_56 (q_sentence _ _ _ _ _ _ σ (d_sn β uw) (xs (4 * n + 1)) _ (R_sn hR).1 (R_sn hR).2) rm_a0 rfl dL_law_216 rfl rfl rfl (Nat.le_of_ble_eq_true rfl) ⟨by omega, by omega⟩ ⟨by omega, by omega⟩ ?_
    refine jx_istore k dL_law_219 (Nat.le_of_ble_eq_true rfl) rfl (L' := [_, _, _, _, _, _, _]) rfl ?_
    refine jx_aload_n k dL_law_221 rfl ?_
    refine jx_callVP k mL_57 (q_thrown _ _ _ _ _ _ _) rm_a0 rfl dL_law_222 rfl rfl rfl (Nat.le_of_ble_eq_true rfl) ⟨by omega, by omega⟩ ⟨by omega, by omega⟩ ?_
    have ht := fun y => R_sentence (Cp_of hC) hR h1 (xs (4 * n + 1)) y
    refine jx_iload k dL_law_225 rfl ?_
    refine jx_icmp_eq k dL_law_227 (tgt := 232) rfl (fun _ => ?_) (fun hh => absurd (ht _).2.2 hh)
    refine jx_iload k dL_law_232 rfl ?_
    refine jx_if_ne k dL_law_234 (tgt := 249) rfl (fun hh => absurd rfl hh) (fun _ => ?_)
    refine jx_aload_n k dL_law_237 rfl ?_
    refine jx_iconst k dL_law_238 (v := 0) (by decide) ?_
    refine jx_lldN k dL_law_239 ((rm_out (by omega)).trans (va_up_self _ _ _)) (p := 0) rfl (by decide) (by decide) ?_
    refine jx_iload k dL_law_240 rfl ?_
    refine jx_i2l k dL_law_242 ?_
    refine jx_lcmp k dL_law_243 ?_
    refine jx_if_eq k dL_law_244 (tgt := 249) rfl (fun _ => ?_) (fun hh => absurd (lc_eq.mpr ((if_pos rfl).trans (hr.trans (congrArg Int32.toInt64 (ht _).1)))) hh)
    refine jx_goto k dL_law_249 (tgt := 1289) rfl ?_
    exact K _ _ _ _ _ _ _ (lwS_of hC1 (Nat.le_refl _) (fun q hq => va_up_ne _ _ (by omega)) (ht _).2.1 (va_up_self _ _ _)) (by omega) (by omega)
set_option maxRecDepth 100000 in
set_option maxHeartbeats 1000000 in
theorem lc_sound (k : jx_ok X l E b yL_law code 7 (some .boolean) R) (htr : ∀ e : Env, l.admits e → e.platform.stackTraces = false) (hX : va_X a N xs (jx_s X) (jx_s X).heap) (hbl : a < (jx_s X).heap.size) (hab : a < b) (hN : N < 2 ^ 31) (hn : 4 * n + 3 < N) (r1 : 11 ≤ R.frames) (r2 : 378 ≤ R.locals) (r3 : ce + 9 ≤ R.cells) (r4 : sl + 47 ≤ R.slots) (hLS : lwS E x σ G sz) (K : ∀ (σ' : rs_S) (G' : jx_H) (sz' ce' sl' : Nat) (w5 w6 : Option Value), lwS E x σ' G' sz' → ce' ≤ ce + 9 → sl' ≤ sl + 47 → jx_w X E b Q 1289 (lL a x n w5 w6) [] G' sz' ce' sl') : jx_w X E b Q 252 (lL a x n v5 v6) [] G sz ce sl := by
  obtain ⟨uw, fo, ca, co, lo, lc, kn, on, cut, u, f, g, fl, h, sp, β, ρ, D, P, w, hC, hR, hM, ho⟩ := hLS
  rcases hC.1.2.2.1 with h0 | h1
  · have e2 : σ.1 2 = 0 := (R_on hR).trans h0
    refine jx_aload_n k dL_law_252 rfl ?_
    refine jx_aload_n k dL_law_253 rfl ?_
    refine jx_iload k dL_law_254 rfl ?_
    refine jx_iconst k dL_law_256 (v := 1) (by decide) ?_
    refine jx_iadd k dL_law_257 ?_
    refine jx_sld k hX hbl hab hN dL_law_258 (p := 4 * n + 1) (nI_add _ 1) (by omega) ?_
    refine jx_aload_n k dL_law_259 rfl ?_
    refine jx_iload k dL_law_260 rfl ?_
    refine jx_iconst k dL_law_262 (v := 2) (by decide) ?_
    refine jx_iadd k dL_law_263 ?_
    refine jx_sld k hX hbl hab hN dL_law_264 (p := 4 * n + 2) (nI_add _ 2) (by omega) ?_
    refine jx_aload_n k dL_law_265 rfl ?_
    refine jx_iload k dL_law_266 rfl ?_
    refine jx_iconst k dL_law_268 (v := 3) (by decide) ?_
    refine jx_iadd k dL_law_269 ?_
    refine jx_sld k hX hbl hab hN dL_law_270 (p := 4 * n + 3) (nI_add _ 3) (by omega) ?_
    refine jx_aload_n k dL_law_271 rfl ?_
    refine jx_callSW1 k (n := 5) jn_460 jn_33 ⟨by decide +kernel, by decide +kernel⟩ (by decide +kernel) jn_458 jn_459 (h0_sound _ _ _ _ _ htr x (x + 51) uw fo ca co lo lc kn on cut u f g fl h sp β ρ D P hC h0 (xs (4 * n + 1)) (xs (4 * n + 2)) (xs (4 * n + 3))) dL_law_272 rfl rfl rfl (Nat.le_of_ble_eq_true rfl) ⟨by omega, by omega⟩ ⟨by omega, by omega⟩ ?_
    refine jx_istore k dL_law_275 (Nat.le_of_ble_eq_true rfl) rfl (L' := [_, _, _, _, _, _, _]) rfl ?_
    refine jx_aload_n k dL_law_277 rfl ?_
    refine jx_aload_n k dL_law_278 rfl ?_
    refine jx_iload k dL_law_279 rfl ?_
    refine jx_iconst k dL_law_281 (v := 1) (by decide) ?_
    refine jx_iadd k dL_law_282 ?_
    refine jx_sld k hX hbl hab hN dL_law_283 (p := 4 * n + 1) (nI_add _ 1) (by omega) ?_
    refine jx_aload_n k dL_law_284 rfl ?_
    refine jx_iload k dL_law_285 rfl ?_
    refine jx_iconst k dL_law_287 (v := 2) (by decide) ?_
    refine jx_iadd k dL_law_288 ?_
    refine jx_sld k hX hbl hab hN dL_law_289 (p := 4 * n + 2) (nI_add _ 2) (by omega) ?_
    refine jx_aload_n k dL_law_290 rfl ?_
    refine jx_iload k dL_law_291 rfl ?_
    refine jx_iconst k dL_law_293 (v := 3) (by decide) ?_
    refine jx_iadd k dL_law_294 ?_
    refine jx_sld k hX hbl hab hN dL_law_295 (p := 4 * n + 3) (nI_add _ 3) (by omega) ?_
    rw [← MC_G hM]
    refine jx_callV1 k mL_64 (q_sound _ _ _ _ _ _ σ (xs (4 * n + 1)) (xs (4 * n + 2)) (xs (4 * n + 3))) rm_a0 rfl dL_law_296 rfl rfl rfl (Nat.le_of_ble_eq_true rfl) ⟨by omega, by omega⟩ ⟨by omega, by omega⟩ ?_
    rw [show ms_sound σ (xs (4 * n + 1)) (xs (4 * n + 2)) (xs (4 * n + 3)) = (0, rs_f σ 0 1) by rw [ms_sound, if_pos e2]]
    refine jx_istore k dL_law_299 (Nat.le_of_ble_eq_true rfl) rfl (L' := [_, _, _, _, _, _, _]) rfl ?_
    refine jx_aload_n k dL_law_301 rfl ?_
    refine jx_callVP k mL_57 (q_thrown _ _ _ _ _ _ _) rm_a0 rfl dL_law_302 rfl rfl rfl (Nat.le_of_ble_eq_true rfl) ⟨by omega, by omega⟩ ⟨by omega, by omega⟩ ?_
    refine jx_iload k dL_law_305 rfl ?_
    refine jx_icmp_eq k dL_law_307 (tgt := 312) rfl (fun _ => ?_) (fun hh => absurd rfl hh)
    refine jx_iload k dL_law_312 rfl ?_
    refine jx_if_ne k dL_law_314 (tgt := 336) rfl (fun _ => ?_) (fun hh => absurd hh (by decide))
    refine jx_goto k dL_law_336 (tgt := 1289) rfl ?_
    exact K _ _ _ _ _ _ _ (lwS_of hC (Nat.le_succ _) (fun _ _ => rfl) (RR_0 1 hR) ho) (by omega) (by omega)
  · refine jx_aload_n k dL_law_252 rfl ?_
    refine jx_aload_n k dL_law_253 rfl ?_
    refine jx_iload k dL_law_254 rfl ?_
    refine jx_iconst k dL_law_256 (v := 1) (by decide) ?_
    refine jx_iadd k dL_law_257 ?_
    refine jx_sld k hX hbl hab hN dL_law_258 (p := 4 * n + 1) (nI_add _ 1) (by omega) ?_
    refine jx_aload_n k dL_law_259 rfl ?_
    refine jx_iload k dL_law_260 rfl ?_
    refine jx_iconst k dL_law_262 (v := 2) (by decide) ?_
    refine jx_iadd k dL_law_263 ?_
    refine jx_sld k hX hbl hab hN dL_law_264 (p := 4 * n + 2) (nI_add _ 2) (by omega) ?_
    refine jx_aload_n k dL_law_265 rfl ?_
    refine jx_iload k dL_law_266 rfl ?_
    refine jx_iconst k dL_law_268 (v := 3) (by decide) ?_
    refine jx_iadd k dL_law_269 ?_
    refine jx_sld k hX hbl hab hN dL_law_270 (p := 4 * n + 3) (nI_add _ 3) (by omega) ?_
    refine jx_aload_n k dL_law_271 rfl ?_
    refine jx_callSW k (n := 5) jn_460 jn_33 ⟨by decide +kernel, by decide +kernel⟩ (by decide +kernel) jn_458 jn_459 (h1_sound _ _ _ _ _ x uw fo ca co lo lc kn on cut u f g fl h sp β ρ D P hC h1 w ho (xs (4 * n + 1)) (xs (4 * n + 2)) (xs (4 * n + 3))) dL_law_272 rfl rfl rfl (Nat.le_of_ble_eq_true rfl) ⟨by omega, by omega⟩ ⟨by omega, by omega⟩ ?_
    rintro v G9 sz1 ⟨rfl, r, G1, hf, rfl, hr, rfl, hC1⟩
    refine jx_istore k dL_law_275 (Nat.le_of_ble_eq_true rfl) rfl (L' := [_, _, _, _, _, _, _]) rfl ?_
    refine jx_aload_n k dL_law_277 rfl ?_
    refine jx_aload_n k dL_law_278 rfl ?_
    refine jx_iload k dL_law_279 rfl ?_
    refine jx_iconst k dL_law_281 (v := 1) (by decide) ?_
    refine jx_iadd k dL_law_282 ?_
    refine jx_sld k hX hbl hab hN dL_law_283 (p := 4 * n + 1) (nI_add _ 1) (by omega) ?_
    refine jx_aload_n k dL_law_284 rfl ?_
    refine jx_iload k dL_law_285 rfl ?_
    refine jx_iconst k dL_law_287 (v := 2) (by decide) ?_
    refine jx_iadd k dL_law_288 ?_
    refine jx_sld k hX hbl hab hN dL_law_289 (p := 4 * n + 2) (nI_add _ 2) (by omega) ?_
    refine jx_aload_n k dL_law_290 rfl ?_
    refine jx_iload k dL_law_291 rfl ?_
    refine jx_iconst k dL_law_293 (v := 3) (by decide) ?_
    refine jx_iadd k dL_law_294 ?_
    refine jx_sld k hX hbl hab hN dL_law_295 (p := 4 * n + 3) (nI_add _ 3) (by omega) ?_
    rw [← MC_G (MC_o (MC_f hM hf))]
    refine jx_callV1 k mL_64 (q_sound _ _ _ _ _ _ σ (xs (4 * n + 1)) (xs (4 * n + 2)) (xs (4 * n + 3))) rm_a0 rfl dL_law_296 rfl rfl rfl (Nat.le_of_ble_eq_true rfl) ⟨by omega, by omega⟩ ⟨by omega, by omega⟩ ?_
    refine jx_istore k dL_law_299 (Nat.le_of_ble_eq_true rfl) rfl (L' := [_, _, _, _, _, _, _]) rfl ?_
    refine jx_aload_n k dL_law_301 rfl ?_
    refine jx_callVP k mL_57 (q_thrown _ _ _ _ _ _ _) rm_a0 rfl dL_law_302 rfl rfl rfl (Nat.le_of_ble_eq_true rfl) ⟨by omega, by omega⟩ ⟨by omega, by omega⟩ ?_
    have ht := R_sound (Cp_of hC) hR h1 (xs (4 * n + 1)) (xs (4 * n + 2)) (xs (4 * n + 3))
    refine jx_iload k dL_law_305 rfl ?_
    refine jx_icmp_eq k dL_law_307 (tgt := 312) rfl (fun _ => ?_) (fun hh => absurd ht.2.2 hh)
    refine jx_iload k dL_law_312 rfl ?_
    refine jx_if_ne k dL_law_314 (tgt := 336) rfl (fun hh => absurd rfl hh) (fun _ => ?_)
    refine jx_aload_n k dL_law_317 rfl ?_
    refine jx_iconst k dL_law_318 (v := 0) (by decide) ?_
    refine jx_lldN k dL_law_319 ((rm_out (by omega)).trans (va_up_self _ _ _)) (p := 0) rfl (by decide) (by decide) ?_
    refine jx_iload k dL_law_320 rfl ?_
    by_cases hk : ka_sd (xs (4 * n + 1)) (xs (4 * n + 2)) (xs (4 * n + 3))
    · have he : ¬ ((ms_sound σ (xs (4 * n + 1)) (xs (4 * n + 2)) (xs (4 * n + 3))).1) = 0 := by rw [← ht.1, jb_t hk]; decide
      refine jx_if_eq k dL_law_322 (tgt := 329) rfl (fun hh => absurd hh he) (fun _ => ?_)
      refine jx_lconst k dL_law_325 (v := 1) (by decide) ?_
      refine jx_goto k dL_law_326 (tgt := 330) rfl ?_
      refine jx_lcmp k dL_law_330 ?_
      refine jx_if_eq k dL_law_331 (tgt := 336) rfl (fun _ => ?_) (fun hh => absurd (lc_eq.mpr ((if_pos rfl).trans (hr.trans (if_pos hk)))) hh)
      refine jx_goto k dL_law_336 (tgt := 1289) rfl ?_
      exact K _ _ _ _ _ _ _ (lwS_of hC1 (Nat.le_refl _) (fun q hq => va_up_ne _ _ (by omega)) ht.2.1 (va_up_self _ _ _)) (by omega) (by omega)
    · have he : ((ms_sound σ (xs (4 * n + 1)) (xs (4 * n + 2)) (xs (4 * n + 3))).1) = 0 := by rw [← ht.1, jb_f hk]
      refine jx_if_eq k dL_law_322 (tgt := 329) rfl (fun _ => ?_) (fun hh => absurd he hh)
      refine jx_lconst k dL_law_329 (v := 0) (by decide) ?_
      refine jx_lcmp k dL_law_330 ?_
      refine jx_if_eq k dL_law_331 (tgt := 336) rfl (fun _ => ?_) (fun hh => absurd (lc_eq.mpr ((if_pos rfl).trans (hr.trans (if_neg hk)))) hh)
      refine jx_goto k dL_law_336 (tgt := 1289) rfl ?_
      exact K _ _ _ _ _ _ _ (lwS_of hC1 (Nat.le_refl _) (fun q hq => va_up_ne _ _ (by omega)) ht.2.1 (va_up_self _ _ _)) (by omega) (by omega)
set_option maxRecDepth 100000 in
set_option maxHeartbeats 1000000 in
theorem lc_paint (k : jx_ok X l E b yL_law code 7 (some .boolean) R) (htr : ∀ e : Env, l.admits e → e.platform.stackTraces = false) (hX : va_X a N xs (jx_s X) (jx_s X).heap) (hbl : a < (jx_s X).heap.size) (hab : a < b) (hN : N < 2 ^ 31) (hn : 4 * n + 3 < N) (r1 : 11 ≤ R.frames) (r2 : 378 ≤ R.locals) (r3 : ce + 9 ≤ R.cells) (r4 : sl + 47 ≤ R.slots) (hLS : lwS E x σ G sz) (K : ∀ (σ' : rs_S) (G' : jx_H) (sz' ce' sl' : Nat) (w5 w6 : Option Value), lwS E x σ' G' sz' → ce' ≤ ce + 9 → sl' ≤ sl + 47 → jx_w X E b Q 1289 (lL a x n w5 w6) [] G' sz' ce' sl') : jx_w X E b Q 339 (lL a x n v5 v6) [] G sz ce sl := by
  obtain ⟨uw, fo, ca, co, lo, lc, kn, on, cut, u, f, g, fl, h, sp, β, ρ, D, P, w, hC, hR, hM, ho⟩ := hLS
  rcases hC.1.2.2.1 with h0 | h1
  · have e2 : σ.1 2 = 0 := (R_on hR).trans h0
    refine jx_aload_n k dL_law_339 rfl ?_
    refine jx_aload_n k dL_law_340 rfl ?_
    refine jx_iload k dL_law_341 rfl ?_
    refine jx_iconst k dL_law_343 (v := 1) (by decide) ?_
    refine jx_iadd k dL_law_344 ?_
    refine jx_sld k hX hbl hab hN dL_law_345 (p := 4 * n + 1) (nI_add _ 1) (by omega) ?_
    refine jx_aload_n k dL_law_346 rfl ?_
    refine jx_iload k dL_law_347 rfl ?_
    refine jx_iconst k dL_law_349 (v := 2) (by decide) ?_
    refine jx_iadd k dL_law_350 ?_
    refine jx_sld k hX hbl hab hN dL_law_351 (p := 4 * n + 2) (nI_add _ 2) (by omega) ?_
    refine jx_aload_n k dL_law_352 rfl ?_
    refine jx_callSW1 k (n := 4) jn_471 jn_33 ⟨by decide +kernel, by decide +kernel⟩ (by decide +kernel) jn_469 jn_470 (h0_paint _ _ _ _ _ htr x (x + 51) uw fo ca co lo lc kn on cut u f g fl h sp β ρ D P hC h0 (xs (4 * n + 1)) (xs (4 * n + 2))) dL_law_353 rfl rfl rfl (Nat.le_of_ble_eq_true rfl) ⟨by omega, by omega⟩ ⟨by omega, by omega⟩ ?_
    refine jx_istore k dL_law_356 (Nat.le_of_ble_eq_true rfl) rfl (L' := [_, _, _, _, _, _, _]) rfl ?_
    refine jx_aload_n k dL_law_358 rfl ?_
    refine jx_aload_n k dL_law_359 rfl ?_
    refine jx_iload k dL_law_360 rfl ?_
    refine jx_iconst k dL_law_362 (v := 1) (by decide) ?_
    refine jx_iadd k dL_law_363 ?_
    refine jx_sld k hX hbl hab hN dL_law_364 (p := 4 * n + 1) (nI_add _ 1) (by omega) ?_
    refine jx_aload_n k dL_law_365 rfl ?_
    refine jx_iload k dL_law_366 rfl ?_
    refine jx_iconst k dL_law_368 (v := 2) (by decide) ?_
    refine jx_iadd k dL_law_369 ?_
    refine jx_sld k hX hbl hab hN dL_law_370 (p := 4 * n + 2) (nI_add _ 2) (by omega) ?_
    rw [← MC_G hM]
    refine jx_callV1 k mL_68 (q_paint _ _ _ _ _ _ σ (xs (4 * n + 1)) (xs (4 * n + 2))) rm_a0 rfl dL_law_371 rfl rfl rfl (Nat.le_of_ble_eq_true rfl) ⟨by omega, by omega⟩ ⟨by omega, by omega⟩ ?_
    rw [show ms_paint σ (xs (4 * n + 1)) (xs (4 * n + 2)) = (0, rs_f σ 0 1) by rw [ms_paint, if_pos e2]]
    refine jx_istore k dL_law_374 (Nat.le_of_ble_eq_true rfl) rfl (L' := [_, _, _, _, _, _, _]) rfl ?_
    refine jx_aload_n k dL_law_376 rfl ?_
    refine jx_callVP k mL_57 (q_thrown _ _ _ _ _ _ _) rm_a0 rfl dL_law_377 rfl rfl rfl (Nat.le_of_ble_eq_true rfl) ⟨by omega, by omega⟩ ⟨by omega, by omega⟩ ?_
    refine jx_iload k dL_law_380 rfl ?_
    refine jx_icmp_eq k dL_law_382 (tgt := 387) rfl (fun _ => ?_) (fun hh => absurd rfl hh)
    refine jx_iload k dL_law_387 rfl ?_
    refine jx_if_ne k dL_law_389 (tgt := 411) rfl (fun _ => ?_) (fun hh => absurd hh (by decide))
    refine jx_goto k dL_law_411 (tgt := 1289) rfl ?_
    exact K _ _ _ _ _ _ _ (lwS_of hC (Nat.le_succ _) (fun _ _ => rfl) (RR_0 1 hR) ho) (by omega) (by omega)
  · refine jx_aload_n k dL_law_339 rfl ?_
    refine jx_aload_n k dL_law_340 rfl ?_
    refine jx_iload k dL_law_341 rfl ?_
    refine jx_iconst k dL_law_343 (v := 1) (by decide) ?_
    refine jx_iadd k dL_law_344 ?_
    refine jx_sld k hX hbl hab hN dL_law_345 (p := 4 * n + 1) (nI_add _ 1) (by omega) ?_
    refine jx_aload_n k dL_law_346 rfl ?_
    refine jx_iload k dL_law_347 rfl ?_
    refine jx_iconst k dL_law_349 (v := 2) (by decide) ?_
    refine jx_iadd k dL_law_350 ?_
    refine jx_sld k hX hbl hab hN dL_law_351 (p := 4 * n + 2) (nI_add _ 2) (by omega) ?_
    refine jx_aload_n k dL_law_352 rfl ?_
    refine jx_callSW k (n := 4) jn_471 jn_33 ⟨by decide +kernel, by decide +kernel⟩ (by decide +kernel) jn_469 jn_470 (h1_paint _ _ _ _ _ x uw fo ca co lo lc kn on cut u f g fl h sp β ρ D P hC h1 w ho (xs (4 * n + 1)) (xs (4 * n + 2))) dL_law_353 rfl rfl rfl (Nat.le_of_ble_eq_true rfl) ⟨by omega, by omega⟩ ⟨by omega, by omega⟩ ?_
    rintro v G9 sz1 ⟨rfl, r, G1, hf, rfl, hr, rfl, hC1⟩
    refine jx_istore k dL_law_356 (Nat.le_of_ble_eq_true rfl) rfl (L' := [_, _, _, _, _, _, _]) rfl ?_
    refine jx_aload_n k dL_law_358 rfl ?_
    refine jx_aload_n k dL_law_359 rfl ?_
    refine jx_iload k dL_law_360 rfl ?_
    refine jx_iconst k dL_law_362 (v := 1) (by decide) ?_
    refine jx_iadd k dL_law_363 ?_
    refine jx_sld k hX hbl hab hN dL_law_364 (p := 4 * n + 1) (nI_add _ 1) (by omega) ?_
    refine jx_aload_n k dL_law_365 rfl ?_
    refine jx_iload k dL_law_366 rfl ?_
    refine jx_iconst k dL_law_368 (v := 2) (by decide) ?_
    refine jx_iadd k dL_law_369 ?_
    refine jx_sld k hX hbl hab hN dL_law_370 (p := 4 * n + 2) (nI_add _ 2) (by omega) ?_
    rw [← MC_G (MC_o (MC_f hM hf))]
    refine jx_callV1 k mL_68 (q_paint _ _ _ _ _ _ σ (xs (4 * n + 1)) (xs (4 * n + 2))) rm_a0 rfl dL_law_371 rfl rfl rfl (Nat.le_of_ble_eq_true rfl) ⟨by omega, by omega⟩ ⟨by omega, by omega⟩ ?_
    refine jx_istore k dL_law_374 (Nat.le_of_ble_eq_true rfl) rfl (L' := [_, _, _, _, _, _, _]) rfl ?_
    refine jx_aload_n k dL_law_376 rfl ?_
    refine jx_callVP k mL_57 (q_thrown _ _ _ _ _ _ _) rm_a0 rfl dL_law_377 rfl rfl rfl (Nat.le_of_ble_eq_true rfl) ⟨by omega, by omega⟩ ⟨by omega, by omega⟩ ?_
    have ht := R_paint (Cp_of hC) hR h1 (xs (4 * n + 1)) (xs (4 * n + 2))
    refine jx_iload k dL_law_380 rfl ?_
    refine jx_icmp_eq k dL_law_382 (tgt := 387) rfl (fun _ => ?_) (fun hh => absurd ht.2.2 hh)
    refine jx_iload k dL_law_387 rfl ?_
    refine jx_if_ne k dL_law_389 (tgt := 411) rfl (fun hh => absurd rfl hh) (fun _ => ?_)
    refine jx_aload_n k dL_law_392 rfl ?_
    refine jx_iconst k dL_law_393 (v := 0) (by decide) ?_
    refine jx_lldN k dL_law_394 ((rm_out (by omega)).trans (va_up_self _ _ _)) (p := 0) rfl (by decide) (by decide) ?_
    refine jx_iload k dL_law_395 rfl ?_
    by_cases hk : ka_pa (xs (4 * n + 1)) (xs (4 * n + 2))
    · have he : ¬ ((ms_paint σ (xs (4 * n + 1)) (xs (4 * n + 2))).1) = 0 := by rw [← ht.1, jb_t hk]; decide
      refine jx_if_eq k dL_law_397 (tgt := 404) rfl (fun hh => absurd hh he) (fun _ => ?_)
      refine jx_lconst k dL_law_400 (v := 1) (by decide) ?_
      refine jx_goto k dL_law_401 (tgt := 405) rfl ?_
      refine jx_lcmp k dL_law_405 ?_
      refine jx_if_eq k dL_law_406 (tgt := 411) rfl (fun _ => ?_) (fun hh => absurd (lc_eq.mpr ((if_pos rfl).trans (hr.trans (if_pos hk)))) hh)
      refine jx_goto k dL_law_411 (tgt := 1289) rfl ?_
      exact K _ _ _ _ _ _ _ (lwS_of hC1 (Nat.le_refl _) (fun q hq => va_up_ne _ _ (by omega)) ht.2.1 (va_up_self _ _ _)) (by omega) (by omega)
    · have he : ((ms_paint σ (xs (4 * n + 1)) (xs (4 * n + 2))).1) = 0 := by rw [← ht.1, jb_f hk]
      refine jx_if_eq k dL_law_397 (tgt := 404) rfl (fun _ => ?_) (fun hh => absurd he hh)
      refine jx_lconst k dL_law_404 (v := 0) (by decide) ?_
      refine jx_lcmp k dL_law_405 ?_
      refine jx_if_eq k dL_law_406 (tgt := 411) rfl (fun _ => ?_) (fun hh => absurd (lc_eq.mpr ((if_pos rfl).trans (hr.trans (if_neg hk)))) hh)
      refine jx_goto k dL_law_411 (tgt := 1289) rfl ?_
      exact K _ _ _ _ _ _ _ (lwS_of hC1 (Nat.le_refl _) (fun q hq => va_up_ne _ _ (by omega)) ht.2.1 (va_up_self _ _ _)) (by omega) (by omega)
set_option maxRecDepth 100000 in
set_option maxHeartbeats 1000000 in
theorem lc_contact (k : jx_ok X l E b yL_law code 7 (some .boolean) R) (htr : ∀ e : Env, l.admits e → e.platform.stackTraces = false) (hX : va_X a N xs (jx_s X) (jx_s X).heap) (hbl : a < (jx_s X).heap.size) (hab : a < b) (hN : N < 2 ^ 31) (hn : 4 * n + 3 < N) (r1 : 11 ≤ R.frames) (r2 : 378 ≤ R.locals) (r3 : ce + 9 ≤ R.cells) (r4 : sl + 47 ≤ R.slots) (hLS : lwS E x σ G sz) (K : ∀ (σ' : rs_S) (G' : jx_H) (sz' ce' sl' : Nat) (w5 w6 : Option Value), lwS E x σ' G' sz' → ce' ≤ ce + 9 → sl' ≤ sl + 47 → jx_w X E b Q 1289 (lL a x n w5 w6) [] G' sz' ce' sl') : jx_w X E b Q 465 (lL a x n v5 v6) [] G sz ce sl := by
  obtain ⟨uw, fo, ca, co, lo, lc, kn, on, cut, u, f, g, fl, h, sp, β, ρ, D, P, w, hC, hR, hM, ho⟩ := hLS
  rcases hC.1.2.2.1 with h0 | h1
  · by_cases hz : xs (4 * n + 2) = 0
    · have e2 : σ.1 2 = 0 := (R_on hR).trans h0
      refine jx_aload_n k dL_law_465 rfl ?_
      refine jx_aload_n k dL_law_466 rfl ?_
      refine jx_iload k dL_law_467 rfl ?_
      refine jx_iconst k dL_law_469 (v := 1) (by decide) ?_
      refine jx_iadd k dL_law_470 ?_
      refine jx_sld k hX hbl hab hN dL_law_471 (p := 4 * n + 1) (nI_add _ 1) (by omega) ?_
      refine jx_aload_n k dL_law_472 rfl ?_
      refine jx_iload k dL_law_473 rfl ?_
      refine jx_iconst k dL_law_475 (v := 2) (by decide) ?_
      refine jx_iadd k dL_law_476 ?_
      refine jx_sld k hX hbl hab hN dL_law_477 (p := 4 * n + 2) (nI_add _ 2) (by omega) ?_
      refine jx_if_eq k dL_law_478 (tgt := 485) rfl (fun _ => ?_) (fun hh => absurd hz hh)
      refine jx_iconst k dL_law_485 (v := 0) (by decide) ?_
      refine jx_aload_n k dL_law_486 rfl ?_
      refine jx_callSW1 k (n := 4) jn_499 jn_33 ⟨by decide +kernel, by decide +kernel⟩ (by decide +kernel) jn_497 jn_498 (h0_contact _ _ _ _ _ htr x (x + 51) uw fo ca co lo lc kn on cut u f g fl h sp β ρ D P hC h0 (xs (4 * n + 1)) 0) dL_law_487 rfl rfl rfl (Nat.le_of_ble_eq_true rfl) ⟨by omega, by omega⟩ ⟨by omega, by omega⟩ ?_
      refine jx_istore k dL_law_490 (Nat.le_of_ble_eq_true rfl) rfl (L' := [_, _, _, _, _, _, _]) rfl ?_
      refine jx_aload_n k dL_law_492 rfl ?_
      refine jx_aload_n k dL_law_493 rfl ?_
      refine jx_iload k dL_law_494 rfl ?_
      refine jx_iconst k dL_law_496 (v := 1) (by decide) ?_
      refine jx_iadd k dL_law_497 ?_
      refine jx_sld k hX hbl hab hN dL_law_498 (p := 4 * n + 1) (nI_add _ 1) (by omega) ?_
      refine jx_aload_n k dL_law_499 rfl ?_
      refine jx_iload k dL_law_500 rfl ?_
      refine jx_iconst k dL_law_502 (v := 2) (by decide) ?_
      refine jx_iadd k dL_law_503 ?_
      refine jx_sld k hX hbl hab hN dL_law_504 (p := 4 * n + 2) (nI_add _ 2) (by omega) ?_
      refine jx_if_eq k dL_law_505 (tgt := 512) rfl (fun _ => ?_) (fun hh => absurd hz hh)
      refine jx_iconst k dL_law_512 (v := 0) (by decide) ?_
      rw [← MC_G hM]
      refine jx_callV1 k mL_76 (q_contact _ _ _ _ _ _ σ (xs (4 * n + 1)) 0) rm_a0 rfl dL_law_513 rfl rfl rfl (Nat.le_of_ble_eq_true rfl) ⟨by omega, by omega⟩ ⟨by omega, by omega⟩ ?_
      rw [show ms_contact σ (xs (4 * n + 1)) 0 = (0, rs_f σ 0 1) by rw [ms_contact, if_pos e2]]
      refine jx_istore k dL_law_516 (Nat.le_of_ble_eq_true rfl) rfl (L' := [_, _, _, _, _, _, _]) rfl ?_
      refine jx_aload_n k dL_law_518 rfl ?_
      refine jx_callVP k mL_57 (q_thrown _ _ _ _ _ _ _) rm_a0 rfl dL_law_519 rfl rfl rfl (Nat.le_of_ble_eq_true rfl) ⟨by omega, by omega⟩ ⟨by omega, by omega⟩ ?_
      refine jx_iload k dL_law_522 rfl ?_
      refine jx_icmp_eq k dL_law_524 (tgt := 529) rfl (fun _ => ?_) (fun hh => absurd rfl hh)
      refine jx_iload k dL_law_529 rfl ?_
      refine jx_if_ne k dL_law_531 (tgt := 553) rfl (fun _ => ?_) (fun hh => absurd hh (by decide))
      refine jx_goto k dL_law_553 (tgt := 1289) rfl ?_
      exact K _ _ _ _ _ _ _ (lwS_of hC (Nat.le_succ _) (fun _ _ => rfl) (RR_0 1 hR) ho) (by omega) (by omega)
    · have e2 : σ.1 2 = 0 := (R_on hR).trans h0
      refine jx_aload_n k dL_law_465 rfl ?_
      refine jx_aload_n k dL_law_466 rfl ?_
      refine jx_iload k dL_law_467 rfl ?_
      refine jx_iconst k dL_law_469 (v := 1) (by decide) ?_
      refine jx_iadd k dL_law_470 ?_
      refine jx_sld k hX hbl hab hN dL_law_471 (p := 4 * n + 1) (nI_add _ 1) (by omega) ?_
      refine jx_aload_n k dL_law_472 rfl ?_
      refine jx_iload k dL_law_473 rfl ?_
      refine jx_iconst k dL_law_475 (v := 2) (by decide) ?_
      refine jx_iadd k dL_law_476 ?_
      refine jx_sld k hX hbl hab hN dL_law_477 (p := 4 * n + 2) (nI_add _ 2) (by omega) ?_
      refine jx_if_eq k dL_law_478 (tgt := 485) rfl (fun hh => absurd hh hz) (fun _ => ?_)
      refine jx_iconst k dL_law_481 (v := 1) (by decide) ?_
      refine jx_goto k dL_law_482 (tgt := 486) rfl ?_
      refine jx_aload_n k dL_law_486 rfl ?_
      refine jx_callSW1 k (n := 4) jn_499 jn_33 ⟨by decide +kernel, by decide +kernel⟩ (by decide +kernel) jn_497 jn_498 (h0_contact _ _ _ _ _ htr x (x + 51) uw fo ca co lo lc kn on cut u f g fl h sp β ρ D P hC h0 (xs (4 * n + 1)) 1) dL_law_487 rfl rfl rfl (Nat.le_of_ble_eq_true rfl) ⟨by omega, by omega⟩ ⟨by omega, by omega⟩ ?_
      refine jx_istore k dL_law_490 (Nat.le_of_ble_eq_true rfl) rfl (L' := [_, _, _, _, _, _, _]) rfl ?_
      refine jx_aload_n k dL_law_492 rfl ?_
      refine jx_aload_n k dL_law_493 rfl ?_
      refine jx_iload k dL_law_494 rfl ?_
      refine jx_iconst k dL_law_496 (v := 1) (by decide) ?_
      refine jx_iadd k dL_law_497 ?_
      refine jx_sld k hX hbl hab hN dL_law_498 (p := 4 * n + 1) (nI_add _ 1) (by omega) ?_
      refine jx_aload_n k dL_law_499 rfl ?_
      refine jx_iload k dL_law_500 rfl ?_
      refine jx_iconst k dL_law_502 (v := 2) (by decide) ?_
      refine jx_iadd k dL_law_503 ?_
      refine jx_sld k hX hbl hab hN dL_law_504 (p := 4 * n + 2) (nI_add _ 2) (by omega) ?_
      refine jx_if_eq k dL_law_505 (tgt := 512) rfl (fun hh => absurd hh hz) (fun _ => ?_)
      refine jx_iconst k dL_law_508 (v := 1) (by decide) ?_
      refine jx_goto k dL_law_509 (tgt := 513) rfl ?_
      rw [← MC_G hM]
      refine jx_callV1 k mL_76 (q_contact _ _ _ _ _ _ σ (xs (4 * n + 1)) 1) rm_a0 rfl dL_law_513 rfl rfl rfl (Nat.le_of_ble_eq_true rfl) ⟨by omega, by omega⟩ ⟨by omega, by omega⟩ ?_
      rw [show ms_contact σ (xs (4 * n + 1)) 1 = (0, rs_f σ 0 1) by rw [ms_contact, if_pos e2]]
      refine jx_istore k dL_law_516 (Nat.le_of_ble_eq_true rfl) rfl (L' := [_, _, _, _, _, _, _]) rfl ?_
      refine jx_aload_n k dL_law_518 rfl ?_
      refine jx_callVP k mL_57 (q_thrown _ _ _ _ _ _ _) rm_a0 rfl dL_law_519 rfl rfl rfl (Nat.le_of_ble_eq_true rfl) ⟨by omega, by omega⟩ ⟨by omega, by omega⟩ ?_
      refine jx_iload k dL_law_522 rfl ?_
      refine jx_icmp_eq k dL_law_524 (tgt := 529) rfl (fun _ => ?_) (fun hh => absurd rfl hh)
      refine jx_iload k dL_law_529 rfl ?_
      refine jx_if_ne k dL_law_531 (tgt := 553) rfl (fun _ => ?_) (fun hh => absurd hh (by decide))
      refine jx_goto k dL_law_553 (tgt := 1289) rfl ?_
      exact K _ _ _ _ _ _ _ (lwS_of hC (Nat.le_succ _) (fun _ _ => rfl) (RR_0 1 hR) ho) (by omega) (by omega)
  · by_cases hz : xs (4 * n + 2) = 0
    · refine jx_aload_n k dL_law_465 rfl ?_
      refine jx_aload_n k dL_law_466 rfl ?_
      refine jx_iload k dL_law_467 rfl ?_
      refine jx_iconst k dL_law_469 (v := 1) (by decide) ?_
      refine jx_iadd k dL_law_470 ?_
      refine jx_sld k hX hbl hab hN dL_law_471 (p := 4 * n + 1) (nI_add _ 1) (by omega) ?_
      refine jx_aload_n k dL_law_472 rfl ?_
      refine jx_iload k dL_law_473 rfl ?_
      refine jx_iconst k dL_law_475 (v := 2) (by decide) ?_
      refine jx_iadd k dL_law_476 ?_
      refine jx_sld k hX hbl hab hN dL_law_477 (p := 4 * n + 2) (nI_add _ 2) (by omega) ?_
      refine jx_if_eq k dL_law_478 (tgt := 485) rfl (fun _ => ?_) (fun hh => absurd hz hh)
      refine jx_iconst k dL_law_485 (v := 0) (by decide) ?_
      refine jx_aload_n k dL_law_486 rfl ?_
      refine jx_callSW k (n := 4) jn_499 jn_33 ⟨by decide +kernel, by decide +kernel⟩ (by decide +kernel) jn_497 jn_498 (h1_contact _ _ _ _ _ x uw fo ca co lo lc kn on cut u f g fl h sp β ρ D P hC h1 w ho (xs (4 * n + 1)) 0) dL_law_487 rfl rfl rfl (Nat.le_of_ble_eq_true rfl) ⟨by omega, by omega⟩ ⟨by omega, by omega⟩ ?_
      rintro v G9 sz1 ⟨rfl, r, G1, hf, rfl, hr, rfl, hC1⟩
      refine jx_istore k dL_law_490 (Nat.le_of_ble_eq_true rfl) rfl (L' := [_, _, _, _, _, _, _]) rfl ?_
      refine jx_aload_n k dL_law_492 rfl ?_
      refine jx_aload_n k dL_law_493 rfl ?_
      refine jx_iload k dL_law_494 rfl ?_
      refine jx_iconst k dL_law_496 (v := 1) (by decide) ?_
      refine jx_iadd k dL_law_497 ?_
      refine jx_sld k hX hbl hab hN dL_law_498 (p := 4 * n + 1) (nI_add _ 1) (by omega) ?_
      refine jx_aload_n k dL_law_499 rfl ?_
      refine jx_iload k dL_law_500 rfl ?_
      refine jx_iconst k dL_law_502 (v := 2) (by decide) ?_
      refine jx_iadd k dL_law_503 ?_
      refine jx_sld k hX hbl hab hN dL_law_504 (p := 4 * n + 2) (nI_add _ 2) (by omega) ?_
      refine jx_if_eq k dL_law_505 (tgt := 512) rfl (fun _ => ?_) (fun hh => absurd hz hh)
      refine jx_iconst k dL_law_512 (v := 0) (by decide) ?_
      rw [← MC_G (MC_o (MC_f hM hf))]
      refine jx_callV1 k mL_76 (q_contact _ _ _ _ _ _ σ (xs (4 * n + 1)) 0) rm_a0 rfl dL_law_513 rfl rfl rfl (Nat.le_of_ble_eq_true rfl) ⟨by omega, by omega⟩ ⟨by omega, by omega⟩ ?_
      refine jx_istore k dL_law_516 (Nat.le_of_ble_eq_true rfl) rfl (L' := [_, _, _, _, _, _, _]) rfl ?_
      refine jx_aload_n k dL_law_518 rfl ?_
      refine jx_callVP k mL_57 (q_thrown _ _ _ _ _ _ _) rm_a0 rfl dL_law_519 rfl rfl rfl (Nat.le_of_ble_eq_true rfl) ⟨by omega, by omega⟩ ⟨by omega, by omega⟩ ?_
      have ht := R_contact hR h1 (xs (4 * n + 1)) 0
      refine jx_iload k dL_law_522 rfl ?_
      refine jx_icmp_eq k dL_law_524 (tgt := 529) rfl (fun _ => ?_) (fun hh => absurd ht.2.2 hh)
      refine jx_iload k dL_law_529 rfl ?_
      refine jx_if_ne k dL_law_531 (tgt := 553) rfl (fun hh => absurd rfl hh) (fun _ => ?_)
      refine jx_aload_n k dL_law_534 rfl ?_
      refine jx_iconst k dL_law_535 (v := 0) (by decide) ?_
      refine jx_lldN k dL_law_536 ((rm_out (by omega)).trans (va_up_self _ _ _)) (p := 0) rfl (by decide) (by decide) ?_
      refine jx_iload k dL_law_537 rfl ?_
      by_cases hk : 0 ≤ xs (4 * n + 1) ∧ xs (4 * n + 1) < 16
      · have he : ¬ ((ms_contact σ (xs (4 * n + 1)) 0).1) = 0 := by rw [← ht.1, jb_t hk]; decide
        refine jx_if_eq k dL_law_539 (tgt := 546) rfl (fun hh => absurd hh he) (fun _ => ?_)
        refine jx_lconst k dL_law_542 (v := 1) (by decide) ?_
        refine jx_goto k dL_law_543 (tgt := 547) rfl ?_
        refine jx_lcmp k dL_law_547 ?_
        refine jx_if_eq k dL_law_548 (tgt := 553) rfl (fun _ => ?_) (fun hh => absurd (lc_eq.mpr ((if_pos rfl).trans (hr.trans (if_pos hk)))) hh)
        refine jx_goto k dL_law_553 (tgt := 1289) rfl ?_
        exact K _ _ _ _ _ _ _ (lwS_of hC1 (Nat.le_refl _) (fun q hq => va_up_ne _ _ (by omega)) ht.2.1 (va_up_self _ _ _)) (by omega) (by omega)
      · have he : ((ms_contact σ (xs (4 * n + 1)) 0).1) = 0 := by rw [← ht.1, jb_f hk]
        refine jx_if_eq k dL_law_539 (tgt := 546) rfl (fun _ => ?_) (fun hh => absurd he hh)
        refine jx_lconst k dL_law_546 (v := 0) (by decide) ?_
        refine jx_lcmp k dL_law_547 ?_
        refine jx_if_eq k dL_law_548 (tgt := 553) rfl (fun _ => ?_) (fun hh => absurd (lc_eq.mpr ((if_pos rfl).trans (hr.trans (if_neg hk)))) hh)
        refine jx_goto k dL_law_553 (tgt := 1289) rfl ?_
        exact K _ _ _ _ _ _ _ (lwS_of hC1 (Nat.le_refl _) (fun q hq => va_up_ne _ _ (by omega)) ht.2.1 (va_up_self _ _ _)) (by omega) (by omega)
    · refine jx_aload_n k dL_law_465 rfl ?_
      refine jx_aload_n k dL_law_466 rfl ?_
      refine jx_iload k dL_law_467 rfl ?_
      refine jx_iconst k dL_law_469 (v := 1) (by decide) ?_
      refine jx_iadd k dL_law_470 ?_
      refine jx_sld k hX hbl hab hN dL_law_471 (p := 4 * n + 1) (nI_add _ 1) (by omega) ?_
      refine jx_aload_n k dL_law_472 rfl ?_
      refine jx_iload k dL_law_473 rfl ?_
      refine jx_iconst k dL_law_475 (v := 2) (by decide) ?_
      refine jx_iadd k dL_law_476 ?_
      refine jx_sld k hX hbl hab hN dL_law_477 (p := 4 * n + 2) (nI_add _ 2) (by omega) ?_
      refine jx_if_eq k dL_law_478 (tgt := 485) rfl (fun hh => absurd hh hz) (fun _ => ?_)
      refine jx_iconst k dL_law_481 (v := 1) (by decide) ?_
      refine jx_goto k dL_law_482 (tgt := 486) rfl ?_
      refine jx_aload_n k dL_law_486 rfl ?_
      refine jx_callSW k (n := 4) jn_499 jn_33 ⟨by decide +kernel, by decide +kernel⟩ (by decide +kernel) jn_497 jn_498 (h1_contact _ _ _ _ _ x uw fo ca co lo lc kn on cut u f g fl h sp β ρ D P hC h1 w ho (xs (4 * n + 1)) 1) dL_law_487 rfl rfl rfl (Nat.le_of_ble_eq_true rfl) ⟨by omega, by omega⟩ ⟨by omega, by omega⟩ ?_
      rintro v G9 sz1 ⟨rfl, r, G1, hf, rfl, hr, rfl, hC1⟩
      refine jx_istore k dL_law_490 (Nat.le_of_ble_eq_true rfl) rfl (L' := [_, _, _, _, _, _, _]) rfl ?_
      refine jx_aload_n k dL_law_492 rfl ?_
      refine jx_aload_n k dL_law_493 rfl ?_
      refine jx_iload k dL_law_494 rfl ?_
      refine jx_iconst k dL_law_496 (v := 1) (by decide) ?_
      refine jx_iadd k dL_law_497 ?_
      refine jx_sld k hX hbl hab hN dL_law_498 (p := 4 * n + 1) (nI_add _ 1) (by omega) ?_
      refine jx_aload_n k dL_law_499 rfl ?_
      refine jx_iload k dL_law_500 rfl ?_
      refine jx_iconst k dL_law_502 (v := 2) (by decide) ?_
      refine jx_iadd k dL_law_503 ?_
      refine jx_sld k hX hbl hab hN dL_law_504 (p := 4 * n + 2) (nI_add _ 2) (by omega) ?_
      refine jx_if_eq k dL_law_505 (tgt := 512) rfl (fun hh => absurd hh hz) (fun _ => ?_)
      refine jx_iconst k dL_law_508 (v := 1) (by decide) ?_
      refine jx_goto k dL_law_509 (tgt := 513) rfl ?_
      rw [← MC_G (MC_o (MC_f hM hf))]
      refine jx_callV1 k mL_76 (q_contact _ _ _ _ _ _ σ (xs (4 * n + 1)) 1) rm_a0 rfl dL_law_513 rfl rfl rfl (Nat.le_of_ble_eq_true rfl) ⟨by omega, by omega⟩ ⟨by omega, by omega⟩ ?_
      refine jx_istore k dL_law_516 (Nat.le_of_ble_eq_true rfl) rfl (L' := [_, _, _, _, _, _, _]) rfl ?_
      refine jx_aload_n k dL_law_518 rfl ?_
      refine jx_callVP k mL_57 (q_thrown _ _ _ _ _ _ _) rm_a0 rfl dL_law_519 rfl rfl rfl (Nat.le_of_ble_eq_true rfl) ⟨by omega, by omega⟩ ⟨by omega, by omega⟩ ?_
      have ht := R_contact hR h1 (xs (4 * n + 1)) 1
      refine jx_iload k dL_law_522 rfl ?_
      refine jx_icmp_eq k dL_law_524 (tgt := 529) rfl (fun _ => ?_) (fun hh => absurd ht.2.2 hh)
      refine jx_iload k dL_law_529 rfl ?_
      refine jx_if_ne k dL_law_531 (tgt := 553) rfl (fun hh => absurd rfl hh) (fun _ => ?_)
      refine jx_aload_n k dL_law_534 rfl ?_
      refine jx_iconst k dL_law_535 (v := 0) (by decide) ?_
      refine jx_lldN k dL_law_536 ((rm_out (by omega)).trans (va_up_self _ _ _)) (p := 0) rfl (by decide) (by decide) ?_
      refine jx_iload k dL_law_537 rfl ?_
      by_cases hk : 0 ≤ xs (4 * n + 1) ∧ xs (4 * n + 1) < 16
      · have he : ¬ ((ms_contact σ (xs (4 * n + 1)) 1).1) = 0 := by rw [← ht.1, jb_t hk]; decide
        refine jx_if_eq k dL_law_539 (tgt := 546) rfl (fun hh => absurd hh he) (fun _ => ?_)
        refine jx_lconst k dL_law_542 (v := 1) (by decide) ?_
        refine jx_goto k dL_law_543 (tgt := 547) rfl ?_
        refine jx_lcmp k dL_law_547 ?_
        refine jx_if_eq k dL_law_548 (tgt := 553) rfl (fun _ => ?_) (fun hh => absurd (lc_eq.mpr ((if_pos rfl).trans (hr.trans (if_pos hk)))) hh)
        refine jx_goto k dL_law_553 (tgt := 1289) rfl ?_
        exact K _ _ _ _ _ _ _ (lwS_of hC1 (Nat.le_refl _) (fun q hq => va_up_ne _ _ (by omega)) ht.2.1 (va_up_self _ _ _)) (by omega) (by omega)
      · have he : ((ms_contact σ (xs (4 * n + 1)) 1).1) = 0 := by rw [← ht.1, jb_f hk]
        refine jx_if_eq k dL_law_539 (tgt := 546) rfl (fun _ => ?_) (fun hh => absurd he hh)
        refine jx_lconst k dL_law_546 (v := 0) (by decide) ?_
        refine jx_lcmp k dL_law_547 ?_
        refine jx_if_eq k dL_law_548 (tgt := 553) rfl (fun _ => ?_) (fun hh => absurd (lc_eq.mpr ((if_pos rfl).trans (hr.trans (if_neg hk)))) hh)
        refine jx_goto k dL_law_553 (tgt := 1289) rfl ?_
        exact K _ _ _ _ _ _ _ (lwS_of hC1 (Nat.le_refl _) (fun q hq => va_up_ne _ _ (by omega)) ht.2.1 (va_up_self _ _ _)) (by omega) (by omega)
set_option maxRecDepth 100000 in
set_option maxHeartbeats 1000000 in
theorem lc_release (k : jx_ok X l E b yL_law code 7 (some .boolean) R) (htr : ∀ e : Env, l.admits e → e.platform.stackTraces = false) (hX : va_X a N xs (jx_s X) (jx_s X).heap) (hbl : a < (jx_s X).heap.size) (hab : a < b) (hN : N < 2 ^ 31) (hn : 4 * n + 3 < N) (r1 : 11 ≤ R.frames) (r2 : 378 ≤ R.locals) (r3 : ce + 9 ≤ R.cells) (r4 : sl + 47 ≤ R.slots) (hLS : lwS E x σ G sz) (K : ∀ (σ' : rs_S) (G' : jx_H) (sz' ce' sl' : Nat) (w5 w6 : Option Value), lwS E x σ' G' sz' → ce' ≤ ce + 9 → sl' ≤ sl + 47 → jx_w X E b Q 1289 (lL a x n w5 w6) [] G' sz' ce' sl') : jx_w X E b Q 693 (lL a x n v5 v6) [] G sz ce sl := by
  obtain ⟨uw, fo, ca, co, lo, lc, kn, on, cut, u, f, g, fl, h, sp, β, ρ, D, P, w, hC, hR, hM, ho⟩ := hLS
  rcases hC.1.2.2.1 with h0 | h1
  · have e2 : σ.1 2 = 0 := (R_on hR).trans h0
    refine jx_aload_n k dL_law_693 rfl ?_
    refine jx_aload_n k dL_law_694 rfl ?_
    refine jx_iload k dL_law_695 rfl ?_
    refine jx_iconst k dL_law_697 (v := 1) (by decide) ?_
    refine jx_iadd k dL_law_698 ?_
    refine jx_sld k hX hbl hab hN dL_law_699 (p := 4 * n + 1) (nI_add _ 1) (by omega) ?_
    refine jx_aload_n k dL_law_700 rfl ?_
    refine jx_callSW1 k (n := 3) jn_624 jn_33 ⟨by decide +kernel, by decide +kernel⟩ (by decide +kernel) jn_622 jn_623 (h0_release _ _ _ _ _ htr x (x + 51) uw fo ca co lo lc kn on cut u f g fl h sp β ρ D P hC h0 (xs (4 * n + 1))) dL_law_701 rfl rfl rfl (Nat.le_of_ble_eq_true rfl) ⟨by omega, by omega⟩ ⟨by omega, by omega⟩ ?_
    refine jx_istore k dL_law_704 (Nat.le_of_ble_eq_true rfl) rfl (L' := [_, _, _, _, _, _, _]) rfl ?_
    refine jx_aload_n k dL_law_706 rfl ?_
    refine jx_aload_n k dL_law_707 rfl ?_
    refine jx_iload k dL_law_708 rfl ?_
    refine jx_iconst k dL_law_710 (v := 1) (by decide) ?_
    refine jx_iadd k dL_law_711 ?_
    refine jx_sld k hX hbl hab hN dL_law_712 (p := 4 * n + 1) (nI_add _ 1) (by omega) ?_
    rw [← MC_G hM]
    refine jx_callV1 k mL_90 (q_release _ _ _ _ _ _ σ (xs (4 * n + 1))) rm_a0 rfl dL_law_713 rfl rfl rfl (Nat.le_of_ble_eq_true rfl) ⟨by omega, by omega⟩ ⟨by omega, by omega⟩ ?_
    rw [show ms_release σ (xs (4 * n + 1)) = (0, rs_f σ 0 1) by rw [ms_release, if_pos e2]]
    refine jx_istore k dL_law_716 (Nat.le_of_ble_eq_true rfl) rfl (L' := [_, _, _, _, _, _, _]) rfl ?_
    refine jx_aload_n k dL_law_718 rfl ?_
    refine jx_callVP k mL_57 (q_thrown _ _ _ _ _ _ _) rm_a0 rfl dL_law_719 rfl rfl rfl (Nat.le_of_ble_eq_true rfl) ⟨by omega, by omega⟩ ⟨by omega, by omega⟩ ?_
    refine jx_iload k dL_law_722 rfl ?_
    refine jx_icmp_eq k dL_law_724 (tgt := 729) rfl (fun _ => ?_) (fun hh => absurd rfl hh)
    refine jx_iload k dL_law_729 rfl ?_
    refine jx_if_ne k dL_law_731 (tgt := 753) rfl (fun _ => ?_) (fun hh => absurd hh (by decide))
    refine jx_goto k dL_law_753 (tgt := 1289) rfl ?_
    exact K _ _ _ _ _ _ _ (lwS_of hC (Nat.le_succ _) (fun _ _ => rfl) (RR_0 1 hR) ho) (by omega) (by omega)
  · refine jx_aload_n k dL_law_693 rfl ?_
    refine jx_aload_n k dL_law_694 rfl ?_
    refine jx_iload k dL_law_695 rfl ?_
    refine jx_iconst k dL_law_697 (v := 1) (by decide) ?_
    refine jx_iadd k dL_law_698 ?_
    refine jx_sld k hX hbl hab hN dL_law_699 (p := 4 * n + 1) (nI_add _ 1) (by omega) ?_
    refine jx_aload_n k dL_law_700 rfl ?_
    refine jx_callSW k (n := 3) jn_624 jn_33 ⟨by decide +kernel, by decide +kernel⟩ (by decide +kernel) jn_622 jn_623 (h1_release _ _ _ _ _ x uw fo ca co lo lc kn on cut u f g fl h sp β ρ D P hC h1 w ho (xs (4 * n + 1))) dL_law_701 rfl rfl rfl (Nat.le_of_ble_eq_true rfl) ⟨by omega, by omega⟩ ⟨by omega, by omega⟩ ?_
    rintro v G9 sz1 ⟨rfl, r, G1, hf, rfl, hr, rfl, hC1⟩
    refine jx_istore k dL_law_704 (Nat.le_of_ble_eq_true rfl) rfl (L' := [_, _, _, _, _, _, _]) rfl ?_
    refine jx_aload_n k dL_law_706 rfl ?_
    refine jx_aload_n k dL_law_707 rfl ?_
    refine jx_iload k dL_law_708 rfl ?_
    refine jx_iconst k dL_law_710 (v := 1) (by decide) ?_
    refine jx_iadd k dL_law_711 ?_
    refine jx_sld k hX hbl hab hN dL_law_712 (p := 4 * n + 1) (nI_add _ 1) (by omega) ?_
    rw [← MC_G (MC_o (MC_f hM hf))]
    refine jx_callV1 k mL_90 (q_release _ _ _ _ _ _ σ (xs (4 * n + 1))) rm_a0 rfl dL_law_713 rfl rfl rfl (Nat.le_of_ble_eq_true rfl) ⟨by omega, by omega⟩ ⟨by omega, by omega⟩ ?_
    refine jx_istore k dL_law_716 (Nat.le_of_ble_eq_true rfl) rfl (L' := [_, _, _, _, _, _, _]) rfl ?_
    refine jx_aload_n k dL_law_718 rfl ?_
    refine jx_callVP k mL_57 (q_thrown _ _ _ _ _ _ _) rm_a0 rfl dL_law_719 rfl rfl rfl (Nat.le_of_ble_eq_true rfl) ⟨by omega, by omega⟩ ⟨by omega, by omega⟩ ?_
    have ht := R_release hR h1 (xs (4 * n + 1))
    refine jx_iload k dL_law_722 rfl ?_
    refine jx_icmp_eq k dL_law_724 (tgt := 729) rfl (fun _ => ?_) (fun hh => absurd ht.2.2 hh)
    refine jx_iload k dL_law_729 rfl ?_
    refine jx_if_ne k dL_law_731 (tgt := 753) rfl (fun hh => absurd rfl hh) (fun _ => ?_)
    refine jx_aload_n k dL_law_734 rfl ?_
    refine jx_iconst k dL_law_735 (v := 0) (by decide) ?_
    refine jx_lldN k dL_law_736 ((rm_out (by omega)).trans (va_up_self _ _ _)) (p := 0) rfl (by decide) (by decide) ?_
    refine jx_iload k dL_law_737 rfl ?_
    by_cases hk : ka_us u (xs (4 * n + 1))
    · have he : ¬ ((ms_release σ (xs (4 * n + 1))).1) = 0 := by rw [← ht.1, jb_t hk]; decide
      refine jx_if_eq k dL_law_739 (tgt := 746) rfl (fun hh => absurd hh he) (fun _ => ?_)
      refine jx_lconst k dL_law_742 (v := 1) (by decide) ?_
      refine jx_goto k dL_law_743 (tgt := 747) rfl ?_
      refine jx_lcmp k dL_law_747 ?_
      refine jx_if_eq k dL_law_748 (tgt := 753) rfl (fun _ => ?_) (fun hh => absurd (lc_eq.mpr ((if_pos rfl).trans (hr.trans (if_pos hk)))) hh)
      refine jx_goto k dL_law_753 (tgt := 1289) rfl ?_
      exact K _ _ _ _ _ _ _ (lwS_of hC1 (Nat.le_refl _) (fun q hq => va_up_ne _ _ (by omega)) ht.2.1 (va_up_self _ _ _)) (by omega) (by omega)
    · have he : ((ms_release σ (xs (4 * n + 1))).1) = 0 := by rw [← ht.1, jb_f hk]
      refine jx_if_eq k dL_law_739 (tgt := 746) rfl (fun _ => ?_) (fun hh => absurd he hh)
      refine jx_lconst k dL_law_746 (v := 0) (by decide) ?_
      refine jx_lcmp k dL_law_747 ?_
      refine jx_if_eq k dL_law_748 (tgt := 753) rfl (fun _ => ?_) (fun hh => absurd (lc_eq.mpr ((if_pos rfl).trans (hr.trans (if_neg hk)))) hh)
      refine jx_goto k dL_law_753 (tgt := 1289) rfl ?_
      exact K _ _ _ _ _ _ _ (lwS_of hC1 (Nat.le_refl _) (fun q hq => va_up_ne _ _ (by omega)) ht.2.1 (va_up_self _ _ _)) (by omega) (by omega)
set_option maxRecDepth 100000 in
set_option maxHeartbeats 1000000 in
theorem lc_show (k : jx_ok X l E b yL_law code 7 (some .boolean) R) (htr : ∀ e : Env, l.admits e → e.platform.stackTraces = false) (hX : va_X a N xs (jx_s X) (jx_s X).heap) (hbl : a < (jx_s X).heap.size) (hab : a < b) (hN : N < 2 ^ 31) (hn : 4 * n + 3 < N) (r1 : 11 ≤ R.frames) (r2 : 378 ≤ R.locals) (r3 : ce + 9 ≤ R.cells) (r4 : sl + 47 ≤ R.slots) (hLS : lwS E x σ G sz) (K : ∀ (σ' : rs_S) (G' : jx_H) (sz' ce' sl' : Nat) (w5 w6 : Option Value), lwS E x σ' G' sz' → ce' ≤ ce + 9 → sl' ≤ sl + 47 → jx_w X E b Q 1289 (lL a x n w5 w6) [] G' sz' ce' sl') : jx_w X E b Q 414 (lL a x n v5 v6) [] G sz ce sl := by
  obtain ⟨uw, fo, ca, co, lo, lc, kn, on, cut, u, f, g, fl, h, sp, β, ρ, D, P, w, hC, hR, hM, ho⟩ := hLS
  rcases hC.1.2.2.1 with h0 | h1
  · have e2 : σ.1 2 = 0 := (R_on hR).trans h0
    refine jx_aload_n k dL_law_414 rfl ?_
    refine jx_aload_n k dL_law_415 rfl ?_
    refine jx_callSW1 k (n := 2) jn_483 jn_33 ⟨by decide +kernel, by decide +kernel⟩ (by decide +kernel) jn_481 jn_482 (h0_show _ _ _ _ _ htr x (x + 51) uw fo ca co lo lc kn on cut u f g fl h sp β ρ D P hC h0 ) dL_law_416 rfl rfl rfl (Nat.le_of_ble_eq_true rfl) ⟨by omega, by omega⟩ ⟨by omega, by omega⟩ ?_
    refine jx_istore k dL_law_419 (Nat.le_of_ble_eq_true rfl) rfl (L' := [_, _, _, _, _, _, _]) rfl ?_
    refine jx_aload_n k dL_law_421 rfl ?_
    rw [← MC_G hM]
    refine jx_callV1 k mL_72 (q_show _ _ _ _ _ _ σ ) rm_a0 rfl dL_law_422 rfl rfl rfl (Nat.le_of_ble_eq_true rfl) ⟨by omega, by omega⟩ ⟨by omega, by omega⟩ ?_
    rw [show ms_show σ = (0, rs_f σ 0 1) by rw [ms_show, if_pos e2]]
    refine jx_istore k dL_law_425 (Nat.le_of_ble_eq_true rfl) rfl (L' := [_, _, _, _, _, _, _]) rfl ?_
    refine jx_aload_n k dL_law_427 rfl ?_
    refine jx_callVP k mL_57 (q_thrown _ _ _ _ _ _ _) rm_a0 rfl dL_law_428 rfl rfl rfl (Nat.le_of_ble_eq_true rfl) ⟨by omega, by omega⟩ ⟨by omega, by omega⟩ ?_
    refine jx_iload k dL_law_431 rfl ?_
    refine jx_icmp_eq k dL_law_433 (tgt := 438) rfl (fun _ => ?_) (fun hh => absurd rfl hh)
    refine jx_iload k dL_law_438 rfl ?_
    refine jx_if_ne k dL_law_440 (tgt := 462) rfl (fun _ => ?_) (fun hh => absurd hh (by decide))
    refine jx_goto k dL_law_462 (tgt := 1289) rfl ?_
    exact K _ _ _ _ _ _ _ (lwS_of hC (Nat.le_succ _) (fun _ _ => rfl) (RR_0 1 hR) ho) (by omega) (by omega)
  · by_cases hp : d_po β uw = none
    · refine jx_aload_n k dL_law_414 rfl ?_
      refine jx_aload_n k dL_law_415 rfl ?_
      refine jx_callSW k (n := 2) jn_483 jn_33 ⟨by decide +kernel, by decide +kernel⟩ (by decide +kernel) jn_481 jn_482 (h1_show1 _ _ _ _ _ x uw fo ca co lo lc kn on cut u f g fl h sp β ρ D P hC h1 w ho hp) dL_law_416 rfl rfl rfl (Nat.le_of_ble_eq_true rfl) ⟨by omega, by omega⟩ ⟨by omega, by omega⟩ ?_
      rintro v G9 sz1 ⟨rfl, r, G1, hf, rfl, hr, rfl, hC1⟩
      refine jx_istore k dL_law_419 (Nat.le_of_ble_eq_true rfl) rfl (L' := [_, _, _, _, _, _, _]) rfl ?_
      refine jx_aload_n k dL_law_421 rfl ?_
      rw [← MC_G (MC_o (MC_f hM hf))]
      refine jx_callV1 k mL_72 (q_show _ _ _ _ _ _ σ ) rm_a0 rfl dL_law_422 rfl rfl rfl (Nat.le_of_ble_eq_true rfl) ⟨by omega, by omega⟩ ⟨by omega, by omega⟩ ?_
      refine jx_istore k dL_law_425 (Nat.le_of_ble_eq_true rfl) rfl (L' := [_, _, _, _, _, _, _]) rfl ?_
      refine jx_aload_n k dL_law_427 rfl ?_
      refine jx_callVP k mL_57 (q_thrown _ _ _ _ _ _ _) rm_a0 rfl dL_law_428 rfl rfl rfl (Nat.le_of_ble_eq_true rfl) ⟨by omega, by omega⟩ ⟨by omega, by omega⟩ ?_
      have ht := R_show1 (Cp_of hC) hR h1 hp
      refine jx_iload k dL_law_431 rfl ?_
      refine jx_icmp_eq k dL_law_433 (tgt := 438) rfl (fun _ => ?_) (fun hh => absurd ht.2.2 hh)
      refine jx_iload k dL_law_438 rfl ?_
      refine jx_if_ne k dL_law_440 (tgt := 462) rfl (fun hh => absurd rfl hh) (fun _ => ?_)
      refine jx_aload_n k dL_law_443 rfl ?_
      refine jx_iconst k dL_law_444 (v := 0) (by decide) ?_
      refine jx_lldN k dL_law_445 ((rm_out (by omega)).trans (va_up_self _ _ _)) (p := 0) rfl (by decide) (by decide) ?_
      refine jx_iload k dL_law_446 rfl ?_
      refine jx_if_eq k dL_law_448 (tgt := 455) rfl (fun hh => absurd hh (by rw [← ht.1]; decide)) (fun _ => ?_)
      refine jx_lconst k dL_law_451 (v := 1) (by decide) ?_
      refine jx_goto k dL_law_452 (tgt := 456) rfl ?_
      refine jx_lcmp k dL_law_456 ?_
      refine jx_if_eq k dL_law_457 (tgt := 462) rfl (fun _ => ?_) (fun hh => absurd (lc_eq.mpr ((if_pos rfl).trans hr)) hh)
      refine jx_goto k dL_law_462 (tgt := 1289) rfl ?_
      exact K _ _ _ _ _ _ _ (lwS_of hC1 (Nat.le_refl _) (fun q hq => va_up_ne _ _ (by omega)) ht.2.1 (va_up_self _ _ _)) (by omega) (by omega)
    · refine jx_aload_n k dL_law_414 rfl ?_
      refine jx_aload_n k dL_law_415 rfl ?_
      refine jx_callSW k (n := 2) jn_483 jn_33 ⟨by decide +kernel, by decide +kernel⟩ (by decide +kernel) jn_481 jn_482 (h1_show0 _ _ _ _ _ x uw fo ca co lo lc kn on cut u f g fl h sp β ρ D P hC h1 w ho hp) dL_law_416 rfl rfl rfl (Nat.le_of_ble_eq_true rfl) ⟨by omega, by omega⟩ ⟨by omega, by omega⟩ ?_
      rintro v G9 sz1 ⟨rfl, r, G1, hf, rfl, hr, rfl, rfl⟩
      refine jx_istore k dL_law_419 (Nat.le_of_ble_eq_true rfl) rfl (L' := [_, _, _, _, _, _, _]) rfl ?_
      refine jx_aload_n k dL_law_421 rfl ?_
      rw [← MC_G (MC_o (MC_f hM hf))]
      refine jx_callV1 k mL_72 (q_show _ _ _ _ _ _ σ ) rm_a0 rfl dL_law_422 rfl rfl rfl (Nat.le_of_ble_eq_true rfl) ⟨by omega, by omega⟩ ⟨by omega, by omega⟩ ?_
      refine jx_istore k dL_law_425 (Nat.le_of_ble_eq_true rfl) rfl (L' := [_, _, _, _, _, _, _]) rfl ?_
      refine jx_aload_n k dL_law_427 rfl ?_
      refine jx_callVP k mL_57 (q_thrown _ _ _ _ _ _ _) rm_a0 rfl dL_law_428 rfl rfl rfl (Nat.le_of_ble_eq_true rfl) ⟨by omega, by omega⟩ ⟨by omega, by omega⟩ ?_
      have ht := R_show0 hR h1 hp
      refine jx_iload k dL_law_431 rfl ?_
      refine jx_icmp_eq k dL_law_433 (tgt := 438) rfl (fun _ => ?_) (fun hh => absurd ht.2.2 hh)
      refine jx_iload k dL_law_438 rfl ?_
      refine jx_if_ne k dL_law_440 (tgt := 462) rfl (fun hh => absurd rfl hh) (fun _ => ?_)
      refine jx_aload_n k dL_law_443 rfl ?_
      refine jx_iconst k dL_law_444 (v := 0) (by decide) ?_
      refine jx_lldN k dL_law_445 ((rm_out (by omega)).trans (va_up_self _ _ _)) (p := 0) rfl (by decide) (by decide) ?_
      refine jx_iload k dL_law_446 rfl ?_
      refine jx_if_eq k dL_law_448 (tgt := 455) rfl (fun _ => ?_) (fun hh => absurd ht.1.symm hh)
      refine jx_lconst k dL_law_455 (v := 0) (by decide) ?_
      refine jx_lcmp k dL_law_456 ?_
      refine jx_if_eq k dL_law_457 (tgt := 462) rfl (fun _ => ?_) (fun hh => absurd (lc_eq.mpr ((if_pos rfl).trans hr)) hh)
      refine jx_goto k dL_law_462 (tgt := 1289) rfl ?_
      exact K _ _ _ _ _ _ _ (lwS_of hC (Nat.le_refl _) (fun q hq => va_up_ne _ _ (by omega)) ht.2.1 (va_up_self _ _ _)) (by omega) (by omega)
set_option maxRecDepth 100000 in
set_option maxHeartbeats 1000000 in
theorem lc_freeze (k : jx_ok X l E b yL_law code 7 (some .boolean) R) (htr : ∀ e : Env, l.admits e → e.platform.stackTraces = false) (hX : va_X a N xs (jx_s X) (jx_s X).heap) (hbl : a < (jx_s X).heap.size) (hab : a < b) (hN : N < 2 ^ 31) (hn : 4 * n + 3 < N) (r1 : 11 ≤ R.frames) (r2 : 378 ≤ R.locals) (r3 : ce + 9 ≤ R.cells) (r4 : sl + 47 ≤ R.slots) (hLS : lwS E x σ G sz) (K : ∀ (σ' : rs_S) (G' : jx_H) (sz' ce' sl' : Nat) (w5 w6 : Option Value), lwS E x σ' G' sz' → ce' ≤ ce + 9 → sl' ≤ sl + 47 → jx_w X E b Q 1289 (lL a x n w5 w6) [] G' sz' ce' sl') : jx_w X E b Q 625 (lL a x n v5 v6) [] G sz ce sl := by
  obtain ⟨uw, fo, ca, co, lo, lc, kn, on, cut, u, f, g, fl, h, sp, β, ρ, D, P, w, hC, hR, hM, ho⟩ := hLS
  obtain ⟨nw, hnw⟩ : ∃ nw, nw ≤ 9999 ∧ d_tm β uw = nI nw ∧ σ.1 1 = nI nw := by
    obtain ⟨c1, ⟨nw, w1, w2⟩, _⟩ := hR.2.2.2.2.2.1
    exact ⟨nw, w1, w2, c1.trans w2⟩
  rcases hC.1.2.2.1 with h0 | h1
  · have e2 : σ.1 2 = 0 := (R_on hR).trans h0
    refine jx_aload_n k dL_law_625 rfl ?_
    refine jx_aload_n k dL_law_626 rfl ?_
    refine jx_iload k dL_law_627 rfl ?_
    refine jx_iconst k dL_law_629 (v := 1) (by decide) ?_
    refine jx_iadd k dL_law_630 ?_
    refine jx_sld k hX hbl hab hN dL_law_631 (p := 4 * n + 1) (nI_add _ 1) (by omega) ?_
    refine jx_aload_n k dL_law_632 rfl ?_
    refine jx_iload k dL_law_633 rfl ?_
    refine jx_iconst k dL_law_635 (v := 2) (by decide) ?_
    refine jx_iadd k dL_law_636 ?_
    refine jx_sld k hX hbl hab hN dL_law_637 (p := 4 * n + 2) (nI_add _ 2) (by omega) ?_
    refine jx_aload_n k dL_law_638 rfl ?_
    refine jx_callSW1 k (n := 4) jn_595 jn_33 ⟨by decide +kernel, by decide +kernel⟩ (by decide +kernel) jn_593 jn_594 (h0_freeze _ _ _ _ _ htr x (x + 51) uw fo ca co lo lc kn on cut u f g fl h sp β ρ D P hC h0 (xs (4 * n + 1)) (xs (4 * n + 2))) dL_law_639 rfl rfl rfl (Nat.le_of_ble_eq_true rfl) ⟨by omega, by omega⟩ ⟨by omega, by omega⟩ ?_
    refine jx_istore k dL_law_642 (Nat.le_of_ble_eq_true rfl) rfl (L' := [_, _, _, _, _, _, _]) rfl ?_
    refine jx_aload_n k dL_law_644 rfl ?_
    refine jx_aload_n k dL_law_645 rfl ?_
    refine jx_iload k dL_law_646 rfl ?_
    refine jx_iconst k dL_law_648 (v := 1) (by decide) ?_
    refine jx_iadd k dL_law_649 ?_
    refine jx_sld k hX hbl hab hN dL_law_650 (p := 4 * n + 1) (nI_add _ 1) (by omega) ?_
    refine jx_aload_n k dL_law_651 rfl ?_
    refine jx_iload k dL_law_652 rfl ?_
    refine jx_iconst k dL_law_654 (v := 2) (by decide) ?_
    refine jx_iadd k dL_law_655 ?_
    refine jx_sld k hX hbl hab hN dL_law_656 (p := 4 * n + 2) (nI_add _ 2) (by omega) ?_
    rw [← MC_G hM]
    refine jx_callV1 k mL_87 (q_freeze _ _ _ _ _ _ σ nw (xs (4 * n + 1)) (xs (4 * n + 2)) (hnw.2.2) hnw.1) rm_a0 rfl dL_law_657 rfl rfl rfl (Nat.le_of_ble_eq_true rfl) ⟨by omega, by omega⟩ ⟨by omega, by omega⟩ ?_
    rw [show ms_freeze σ nw (xs (4 * n + 1)) (xs (4 * n + 2)) = (0, rs_f σ 0 1) by rw [ms_freeze, if_pos e2]]
    refine jx_istore k dL_law_660 (Nat.le_of_ble_eq_true rfl) rfl (L' := [_, _, _, _, _, _, _]) rfl ?_
    refine jx_aload_n k dL_law_662 rfl ?_
    refine jx_callVP k mL_57 (q_thrown _ _ _ _ _ _ _) rm_a0 rfl dL_law_663 rfl rfl rfl (Nat.le_of_ble_eq_true rfl) ⟨by omega, by omega⟩ ⟨by omega, by omega⟩ ?_
    refine jx_iload k dL_law_666 rfl ?_
    refine jx_icmp_eq k dL_law_668 (tgt := 673) rfl (fun _ => ?_) (fun hh => absurd rfl hh)
    refine jx_iload k dL_law_673 rfl ?_
    refine jx_if_ne k dL_law_675 (tgt := 690) rfl (fun _ => ?_) (fun hh => absurd hh (by decide))
    refine jx_goto k dL_law_690 (tgt := 1289) rfl ?_
    exact K _ _ _ _ _ _ _ (lwS_of hC (Nat.le_succ _) (fun _ _ => rfl) (RR_0 1 hR) ho) (by omega) (by omega)
  · by_cases hr0 : ¬ ka_fr (xs (4 * n + 1)) (xs (4 * n + 2)) ∨ fz_un u = -1
    · refine jx_aload_n k dL_law_625 rfl ?_
      refine jx_aload_n k dL_law_626 rfl ?_
      refine jx_iload k dL_law_627 rfl ?_
      refine jx_iconst k dL_law_629 (v := 1) (by decide) ?_
      refine jx_iadd k dL_law_630 ?_
      refine jx_sld k hX hbl hab hN dL_law_631 (p := 4 * n + 1) (nI_add _ 1) (by omega) ?_
      refine jx_aload_n k dL_law_632 rfl ?_
      refine jx_iload k dL_law_633 rfl ?_
      refine jx_iconst k dL_law_635 (v := 2) (by decide) ?_
      refine jx_iadd k dL_law_636 ?_
      refine jx_sld k hX hbl hab hN dL_law_637 (p := 4 * n + 2) (nI_add _ 2) (by omega) ?_
      refine jx_aload_n k dL_law_638 rfl ?_
      refine jx_callSW k (n := 4) jn_595 jn_33 ⟨by decide +kernel, by decide +kernel⟩ (by decide +kernel) jn_593 jn_594 (h1_freeze0 _ _ _ _ _ x uw fo ca co lo lc kn on cut u f g fl h sp β ρ D P hC h1 w ho (xs (4 * n + 1)) (xs (4 * n + 2)) hr0) dL_law_639 rfl rfl rfl (Nat.le_of_ble_eq_true rfl) ⟨by omega, by omega⟩ ⟨by omega, by omega⟩ ?_
      rintro v G9 sz1 ⟨rfl, r, G1, hf, rfl, hr, rfl, rfl⟩
      refine jx_istore k dL_law_642 (Nat.le_of_ble_eq_true rfl) rfl (L' := [_, _, _, _, _, _, _]) rfl ?_
      refine jx_aload_n k dL_law_644 rfl ?_
      refine jx_aload_n k dL_law_645 rfl ?_
      refine jx_iload k dL_law_646 rfl ?_
      refine jx_iconst k dL_law_648 (v := 1) (by decide) ?_
      refine jx_iadd k dL_law_649 ?_
      refine jx_sld k hX hbl hab hN dL_law_650 (p := 4 * n + 1) (nI_add _ 1) (by omega) ?_
      refine jx_aload_n k dL_law_651 rfl ?_
      refine jx_iload k dL_law_652 rfl ?_
      refine jx_iconst k dL_law_654 (v := 2) (by decide) ?_
      refine jx_iadd k dL_law_655 ?_
      refine jx_sld k hX hbl hab hN dL_law_656 (p := 4 * n + 2) (nI_add _ 2) (by omega) ?_
      rw [← MC_G (MC_o (MC_f hM hf))]
      refine jx_callV1 k mL_87 (q_freeze _ _ _ _ _ _ σ nw (xs (4 * n + 1)) (xs (4 * n + 2)) (hnw.2.2) hnw.1) rm_a0 rfl dL_law_657 rfl rfl rfl (Nat.le_of_ble_eq_true rfl) ⟨by omega, by omega⟩ ⟨by omega, by omega⟩ ?_
      refine jx_istore k dL_law_660 (Nat.le_of_ble_eq_true rfl) rfl (L' := [_, _, _, _, _, _, _]) rfl ?_
      refine jx_aload_n k dL_law_662 rfl ?_
      refine jx_callVP k mL_57 (q_thrown _ _ _ _ _ _ _) rm_a0 rfl dL_law_663 rfl rfl rfl (Nat.le_of_ble_eq_true rfl) ⟨by omega, by omega⟩ ⟨by omega, by omega⟩ ?_
      have ht := R_freeze0 hR h1 nw (xs (4 * n + 1)) (xs (4 * n + 2)) hr0
      refine jx_iload k dL_law_666 rfl ?_
      refine jx_icmp_eq k dL_law_668 (tgt := 673) rfl (fun _ => ?_) (fun hh => absurd ht.2.2 hh)
      refine jx_iload k dL_law_673 rfl ?_
      refine jx_if_ne k dL_law_675 (tgt := 690) rfl (fun hh => absurd rfl hh) (fun _ => ?_)
      refine jx_aload_n k dL_law_678 rfl ?_
      refine jx_iconst k dL_law_679 (v := 0) (by decide) ?_
      refine jx_lldN k dL_law_680 ((rm_out (by omega)).trans (va_up_self _ _ _)) (p := 0) rfl (by decide) (by decide) ?_
      refine jx_iload k dL_law_681 rfl ?_
      refine jx_i2l k dL_law_683 ?_
      refine jx_lcmp k dL_law_684 ?_
      refine jx_if_eq k dL_law_685 (tgt := 690) rfl (fun _ => ?_) (fun hh => absurd (lc_eq.mpr ((if_pos rfl).trans (hr.trans (congrArg Int32.toInt64 ht.1)))) hh)
      refine jx_goto k dL_law_690 (tgt := 1289) rfl ?_
      exact K _ _ _ _ _ _ _ (lwS_of hC (Nat.le_refl _) (fun q hq => va_up_ne _ _ (by omega)) ht.2.1 (va_up_self _ _ _)) (by omega) (by omega)
    · have hr1 : ka_fr (xs (4 * n + 1)) (xs (4 * n + 2)) := Classical.byContradiction (fun e => hr0 (.inl e))
      obtain ⟨j, hj3, hu⟩ : ∃ j, j < 3 ∧ fz_un u = nI j := (fz_un_c u).resolve_left (fun e => hr0 (.inr e))
      have hF := R_freeze1 hR h1 hnw.2.1 hnw.1 (xs (4 * n + 1)) (xs (4 * n + 2)) hr1 hj3 hu
      by_cases hk : 20 < kf_n (upd u j 1) (ka_f1 f β uw j (xs (4 * n + 1))) (ka_g1 g β uw j (xs (4 * n + 2))) β uw h
      · refine jx_aload_n k dL_law_625 rfl ?_
        refine jx_aload_n k dL_law_626 rfl ?_
        refine jx_iload k dL_law_627 rfl ?_
        refine jx_iconst k dL_law_629 (v := 1) (by decide) ?_
        refine jx_iadd k dL_law_630 ?_
        refine jx_sld k hX hbl hab hN dL_law_631 (p := 4 * n + 1) (nI_add _ 1) (by omega) ?_
        refine jx_aload_n k dL_law_632 rfl ?_
        refine jx_iload k dL_law_633 rfl ?_
        refine jx_iconst k dL_law_635 (v := 2) (by decide) ?_
        refine jx_iadd k dL_law_636 ?_
        refine jx_sld k hX hbl hab hN dL_law_637 (p := 4 * n + 2) (nI_add _ 2) (by omega) ?_
        refine jx_aload_n k dL_law_638 rfl ?_
        refine jx_callSW k (n := 4) jn_595 jn_33 ⟨by decide +kernel, by decide +kernel⟩ (by decide +kernel) jn_593 jn_594 (h1_freeze1 _ _ _ _ _ x uw fo ca co lo lc kn on cut u f g fl h sp β ρ D P hC h1 w ho (xs (4 * n + 1)) (xs (4 * n + 2)) hr1 j hj3 hu) dL_law_639 rfl rfl rfl (Nat.le_of_ble_eq_true rfl) ⟨by omega, by omega⟩ ⟨by omega, by omega⟩ ?_
        rintro v G9 sz1 ⟨rfl, r, G1, hf, rfl, rfl, hq1⟩
        rw [if_pos hk] at hq1 hF
        obtain ⟨hr, hC1⟩ := hq1
        refine jx_istore k dL_law_642 (Nat.le_of_ble_eq_true rfl) rfl (L' := [_, _, _, _, _, _, _]) rfl ?_
        refine jx_aload_n k dL_law_644 rfl ?_
        refine jx_aload_n k dL_law_645 rfl ?_
        refine jx_iload k dL_law_646 rfl ?_
        refine jx_iconst k dL_law_648 (v := 1) (by decide) ?_
        refine jx_iadd k dL_law_649 ?_
        refine jx_sld k hX hbl hab hN dL_law_650 (p := 4 * n + 1) (nI_add _ 1) (by omega) ?_
        refine jx_aload_n k dL_law_651 rfl ?_
        refine jx_iload k dL_law_652 rfl ?_
        refine jx_iconst k dL_law_654 (v := 2) (by decide) ?_
        refine jx_iadd k dL_law_655 ?_
        refine jx_sld k hX hbl hab hN dL_law_656 (p := 4 * n + 2) (nI_add _ 2) (by omega) ?_
        rw [← MC_G (MC_o (MC_f hM hf))]
        refine jx_callV1 k mL_87 (q_freeze _ _ _ _ _ _ σ nw (xs (4 * n + 1)) (xs (4 * n + 2)) (hnw.2.2) hnw.1) rm_a0 rfl dL_law_657 rfl rfl rfl (Nat.le_of_ble_eq_true rfl) ⟨by omega, by omega⟩ ⟨by omega, by omega⟩ ?_
        refine jx_istore k dL_law_660 (Nat.le_of_ble_eq_true rfl) rfl (L' := [_, _, _, _, _, _, _]) rfl ?_
        refine jx_aload_n k dL_law_662 rfl ?_
        refine jx_callVP k mL_57 (q_thrown _ _ _ _ _ _ _) rm_a0 rfl dL_law_663 rfl rfl rfl (Nat.le_of_ble_eq_true rfl) ⟨by omega, by omega⟩ ⟨by omega, by omega⟩ ?_
        have ht := hF
        refine jx_iload k dL_law_666 rfl ?_
        refine jx_icmp_eq k dL_law_668 (tgt := 673) rfl (fun _ => ?_) (fun hh => absurd ht.2.2 hh)
        refine jx_iload k dL_law_673 rfl ?_
        refine jx_if_ne k dL_law_675 (tgt := 690) rfl (fun hh => absurd rfl hh) (fun _ => ?_)
        refine jx_aload_n k dL_law_678 rfl ?_
        refine jx_iconst k dL_law_679 (v := 0) (by decide) ?_
        refine jx_lldN k dL_law_680 ((rm_out (by omega)).trans (va_up_self _ _ _)) (p := 0) rfl (by decide) (by decide) ?_
        refine jx_iload k dL_law_681 rfl ?_
        refine jx_i2l k dL_law_683 ?_
        refine jx_lcmp k dL_law_684 ?_
        refine jx_if_eq k dL_law_685 (tgt := 690) rfl (fun _ => ?_) (fun hh => absurd (lc_eq.mpr ((if_pos rfl).trans (hr.trans (congrArg Int32.toInt64 ht.1)))) hh)
        refine jx_goto k dL_law_690 (tgt := 1289) rfl ?_
        exact K _ _ _ _ _ _ _ (lwS_of hC1 (Nat.le_refl _) (fun q hq => va_up_ne _ _ (by omega)) ht.2.1 (va_up_self _ _ _)) (by omega) (by omega)
      · refine jx_aload_n k dL_law_625 rfl ?_
        refine jx_aload_n k dL_law_626 rfl ?_
        refine jx_iload k dL_law_627 rfl ?_
        refine jx_iconst k dL_law_629 (v := 1) (by decide) ?_
        refine jx_iadd k dL_law_630 ?_
        refine jx_sld k hX hbl hab hN dL_law_631 (p := 4 * n + 1) (nI_add _ 1) (by omega) ?_
        refine jx_aload_n k dL_law_632 rfl ?_
        refine jx_iload k dL_law_633 rfl ?_
        refine jx_iconst k dL_law_635 (v := 2) (by decide) ?_
        refine jx_iadd k dL_law_636 ?_
        refine jx_sld k hX hbl hab hN dL_law_637 (p := 4 * n + 2) (nI_add _ 2) (by omega) ?_
        refine jx_aload_n k dL_law_638 rfl ?_
        refine jx_callSW k (n := 4) jn_595 jn_33 ⟨by decide +kernel, by decide +kernel⟩ (by decide +kernel) jn_593 jn_594 (h1_freeze1 _ _ _ _ _ x uw fo ca co lo lc kn on cut u f g fl h sp β ρ D P hC h1 w ho (xs (4 * n + 1)) (xs (4 * n + 2)) hr1 j hj3 hu) dL_law_639 rfl rfl rfl (Nat.le_of_ble_eq_true rfl) ⟨by omega, by omega⟩ ⟨by omega, by omega⟩ ?_
        rintro v G9 sz1 ⟨rfl, r, G1, hf, rfl, rfl, hq1⟩
        rw [if_neg hk] at hq1 hF
        obtain ⟨hr, hC1⟩ := hq1
        refine jx_istore k dL_law_642 (Nat.le_of_ble_eq_true rfl) rfl (L' := [_, _, _, _, _, _, _]) rfl ?_
        refine jx_aload_n k dL_law_644 rfl ?_
        refine jx_aload_n k dL_law_645 rfl ?_
        refine jx_iload k dL_law_646 rfl ?_
        refine jx_iconst k dL_law_648 (v := 1) (by decide) ?_
        refine jx_iadd k dL_law_649 ?_
        refine jx_sld k hX hbl hab hN dL_law_650 (p := 4 * n + 1) (nI_add _ 1) (by omega) ?_
        refine jx_aload_n k dL_law_651 rfl ?_
        refine jx_iload k dL_law_652 rfl ?_
        refine jx_iconst k dL_law_654 (v := 2) (by decide) ?_
        refine jx_iadd k dL_law_655 ?_
        refine jx_sld k hX hbl hab hN dL_law_656 (p := 4 * n + 2) (nI_add _ 2) (by omega) ?_
        rw [← MC_G (MC_o (MC_f hM hf))]
        refine jx_callV1 k mL_87 (q_freeze _ _ _ _ _ _ σ nw (xs (4 * n + 1)) (xs (4 * n + 2)) (hnw.2.2) hnw.1) rm_a0 rfl dL_law_657 rfl rfl rfl (Nat.le_of_ble_eq_true rfl) ⟨by omega, by omega⟩ ⟨by omega, by omega⟩ ?_
        refine jx_istore k dL_law_660 (Nat.le_of_ble_eq_true rfl) rfl (L' := [_, _, _, _, _, _, _]) rfl ?_
        refine jx_aload_n k dL_law_662 rfl ?_
        refine jx_callVP k mL_57 (q_thrown _ _ _ _ _ _ _) rm_a0 rfl dL_law_663 rfl rfl rfl (Nat.le_of_ble_eq_true rfl) ⟨by omega, by omega⟩ ⟨by omega, by omega⟩ ?_
        have ht := hF
        refine jx_iload k dL_law_666 rfl ?_
        refine jx_icmp_eq k dL_law_668 (tgt := 673) rfl (fun _ => ?_) (fun hh => absurd ht.2.2 hh)
        refine jx_iload k dL_law_673 rfl ?_
        refine jx_if_ne k dL_law_675 (tgt := 690) rfl (fun hh => absurd rfl hh) (fun _ => ?_)
        refine jx_aload_n k dL_law_678 rfl ?_
        refine jx_iconst k dL_law_679 (v := 0) (by decide) ?_
        refine jx_lldN k dL_law_680 ((rm_out (by omega)).trans (va_up_self _ _ _)) (p := 0) rfl (by decide) (by decide) ?_
        refine jx_iload k dL_law_681 rfl ?_
        refine jx_i2l k dL_law_683 ?_
        refine jx_lcmp k dL_law_684 ?_
        refine jx_if_eq k dL_law_685 (tgt := 690) rfl (fun _ => ?_) (fun hh => absurd (lc_eq.mpr ((if_pos rfl).trans (hr.trans (congrArg Int32.toInt64 ht.1)))) hh)
        refine jx_goto k dL_law_690 (tgt := 1289) rfl ?_
        exact K _ _ _ _ _ _ _ (lwS_of hC1 (Nat.le_refl _) (fun q hq => va_up_ne _ _ (by omega)) ht.2.1 (va_up_self _ _ _)) (by omega) (by omega)
set_option maxRecDepth 100000 in
set_option maxHeartbeats 1000000 in
theorem lc_second (k : jx_ok X l E b yL_law code 7 (some .boolean) R) (htr : ∀ e : Env, l.admits e → e.platform.stackTraces = false) (hX : va_X a N xs (jx_s X) (jx_s X).heap) (hbl : a < (jx_s X).heap.size) (hab : a < b) (hN : N < 2 ^ 31) (hn : 4 * n + 3 < N) (r1 : 11 ≤ R.frames) (r2 : 378 ≤ R.locals) (r3 : ce + 9 ≤ R.cells) (r4 : sl + 47 ≤ R.slots) (hLS : lwS E x σ G sz) (K : ∀ (σ' : rs_S) (G' : jx_H) (sz' ce' sl' : Nat) (w5 w6 : Option Value), lwS E x σ' G' sz' → ce' ≤ ce + 9 → sl' ≤ sl + 47 → jx_w X E b Q 1289 (lL a x n w5 w6) [] G' sz' ce' sl') : jx_w X E b Q 556 (lL a x n v5 v6) [] G sz ce sl := by
  obtain ⟨uw, fo, ca, co, lo, lc, kn, on, cut, u, f, g, fl, h, sp, β, ρ, D, P, w, hC, hR, hM, ho⟩ := hLS
  obtain ⟨c, hcan⟩ : ∃ c : Bool, (mp_can σ ↔ c = true) := by
    by_cases h : mp_can σ
    · exact ⟨true, by simp [h]⟩
    · exact ⟨false, by simp [h]⟩
  have hcl := g_cls hR.2.2.1 hR.2.2.2.1 (R_now hR).symm (fun z hz => (Cp_of hC).2.2.2.2.2.2.1 z ((Cp_of hC).2.2.2.1 z hz)) hcan
  have hI0 : Iv (d_sn β uw) (sc_p σ c).2 := R_Iv hR c hcl.2.2.2.1 (hcl.2.2.1 1 (by decide))
  rcases hC.1.2.2.1 with h0 | h1
  · have e2 : σ.1 2 = 0 := (R_on hR).trans h0
    refine jx_aload_n k dL_law_556 rfl ?_
    refine jx_aload_n k dL_law_557 rfl ?_
    refine jx_iload k dL_law_558 rfl ?_
    refine jx_iconst k dL_law_560 (v := 1) (by decide) ?_
    refine jx_iadd k dL_law_561 ?_
    refine jx_sld k hX hbl hab hN dL_law_562 (p := 4 * n + 1) (nI_add _ 1) (by omega) ?_
    refine jx_aload_n k dL_law_563 rfl ?_
    refine jx_callSW1 k (n := 3) jn_506 jn_33 ⟨by decide +kernel, by decide +kernel⟩ (by decide +kernel) jn_504 jn_505 (h0_second _ _ _ _ _ htr x (x + 51) uw fo ca co lo lc kn on cut u f g fl h sp β ρ D P hC h0 (xs (4 * n + 1))) dL_law_564 rfl rfl rfl (Nat.le_of_ble_eq_true rfl) ⟨by omega, by omega⟩ ⟨by omega, by omega⟩ ?_
    refine jx_istore k dL_law_567 (Nat.le_of_ble_eq_true rfl) rfl (L' := [_, _, _, _, _, _, _]) rfl ?_
    refine jx_aload_n k dL_law_569 rfl ?_
    refine jx_aload_n k dL_law_570 rfl ?_
    refine jx_iload k dL_law_571 rfl ?_
    refine jx_iconst k dL_law_573 (v := 1) (by decide) ?_
    refine jx_iadd k dL_law_574 ?_
    refine jx_sld k hX hbl hab hN dL_law_575 (p := 4 * n + 1) (nI_add _ 1) (by omega) ?_
    rw [← MC_G hM]
    refine jx_callV1 k mL_80 (q_second _ _ _ _ _ _ σ (d_sn β uw) c (xs (4 * n + 1)) (Iv (d_sn β uw)) hcan (R_sn hR).2 hI0 (fun τ h => h.2.2.1) (fun τ s pg h hs _ => Iv_2 h hs) (fun τ s pg h hs h1 _ ht => Iv_3 h hs h1 ht)) rm_a0 rfl dL_law_576 rfl rfl rfl (Nat.le_of_ble_eq_true rfl) ⟨by omega, by omega⟩ ⟨by omega, by omega⟩ ?_
    rw [show ms_second σ (d_sn β uw) c (xs (4 * n + 1)) = (0, rs_f σ 0 1) by rw [ms_second, if_pos e2]]
    refine jx_istore k dL_law_579 (Nat.le_of_ble_eq_true rfl) rfl (L' := [_, _, _, _, _, _, _]) rfl ?_
    refine jx_aload_n k dL_law_581 rfl ?_
    refine jx_callVP k mL_57 (q_thrown _ _ _ _ _ _ _) rm_a0 rfl dL_law_582 rfl rfl rfl (Nat.le_of_ble_eq_true rfl) ⟨by omega, by omega⟩ ⟨by omega, by omega⟩ ?_
    refine jx_iload k dL_law_585 rfl ?_
    refine jx_icmp_eq k dL_law_587 (tgt := 592) rfl (fun _ => ?_) (fun hh => absurd rfl hh)
    refine jx_iload k dL_law_592 rfl ?_
    refine jx_if_ne k dL_law_594 (tgt := 609) rfl (fun _ => ?_) (fun hh => absurd hh (by decide))
    refine jx_goto k dL_law_609 (tgt := 1289) rfl ?_
    exact K _ _ _ _ _ _ _ (lwS_of hC (Nat.le_succ _) (fun _ _ => rfl) (RR_0 1 hR) ho) (by omega) (by omega)
  · by_cases htt : (xs (4 * n + 1)) ≤ d_tm β uw ∨ ¬ (xs (4 * n + 1)) ≤ 9999
    · refine jx_aload_n k dL_law_556 rfl ?_
      refine jx_aload_n k dL_law_557 rfl ?_
      refine jx_iload k dL_law_558 rfl ?_
      refine jx_iconst k dL_law_560 (v := 1) (by decide) ?_
      refine jx_iadd k dL_law_561 ?_
      refine jx_sld k hX hbl hab hN dL_law_562 (p := 4 * n + 1) (nI_add _ 1) (by omega) ?_
      refine jx_aload_n k dL_law_563 rfl ?_
      refine jx_callSW1 k (n := 3) jn_506 jn_33 ⟨by decide +kernel, by decide +kernel⟩ (by decide +kernel) jn_504 jn_505 (h2_second _ _ _ _ _ htr x (x + 51) uw fo ca co lo lc kn on cut u f g fl h sp β ρ D P hC h1 (xs (4 * n + 1)) htt) dL_law_564 rfl rfl rfl (Nat.le_of_ble_eq_true rfl) ⟨by omega, by omega⟩ ⟨by omega, by omega⟩ ?_
      refine jx_istore k dL_law_567 (Nat.le_of_ble_eq_true rfl) rfl (L' := [_, _, _, _, _, _, _]) rfl ?_
      refine jx_aload_n k dL_law_569 rfl ?_
      refine jx_aload_n k dL_law_570 rfl ?_
      refine jx_iload k dL_law_571 rfl ?_
      refine jx_iconst k dL_law_573 (v := 1) (by decide) ?_
      refine jx_iadd k dL_law_574 ?_
      refine jx_sld k hX hbl hab hN dL_law_575 (p := 4 * n + 1) (nI_add _ 1) (by omega) ?_
      rw [← MC_G hM]
      refine jx_callV1 k mL_80 (q_second _ _ _ _ _ _ σ (d_sn β uw) c (xs (4 * n + 1)) (Iv (d_sn β uw)) hcan (R_sn hR).2 hI0 (fun τ h => h.2.2.1) (fun τ s pg h hs _ => Iv_2 h hs) (fun τ s pg h hs h1 _ ht => Iv_3 h hs h1 ht)) rm_a0 rfl dL_law_576 rfl rfl rfl (Nat.le_of_ble_eq_true rfl) ⟨by omega, by omega⟩ ⟨by omega, by omega⟩ ?_
      rw [show ms_second σ (d_sn β uw) c (xs (4 * n + 1)) = (0, rs_f σ 0 2) by rw [ms_second, if_neg (R_n1 hR h1), if_pos]; rw [← R_now hR]; exact htt.imp id Int32.not_le.mp]
      refine jx_istore k dL_law_579 (Nat.le_of_ble_eq_true rfl) rfl (L' := [_, _, _, _, _, _, _]) rfl ?_
      refine jx_aload_n k dL_law_581 rfl ?_
      refine jx_callVP k mL_57 (q_thrown _ _ _ _ _ _ _) rm_a0 rfl dL_law_582 rfl rfl rfl (Nat.le_of_ble_eq_true rfl) ⟨by omega, by omega⟩ ⟨by omega, by omega⟩ ?_
      refine jx_iload k dL_law_585 rfl ?_
      refine jx_icmp_eq k dL_law_587 (tgt := 592) rfl (fun _ => ?_) (fun hh => absurd rfl hh)
      refine jx_iload k dL_law_592 rfl ?_
      refine jx_if_ne k dL_law_594 (tgt := 609) rfl (fun _ => ?_) (fun hh => absurd hh (by decide))
      refine jx_goto k dL_law_609 (tgt := 1289) rfl ?_
      exact K _ _ _ _ _ _ _ (lwS_of hC (Nat.le_succ _) (fun _ _ => rfl) (RR_0 2 hR) ho) (by omega) (by omega)
    · have ht1 : ¬ (xs (4 * n + 1)) ≤ d_tm β uw := fun e => htt (.inl e)
      have ht2 : (xs (4 * n + 1)) ≤ 9999 := Classical.byContradiction (fun e => htt (.inr e))
      have hF := R_secondB (Cp_of hC) hR h1 hcan ht1 ht2
      refine jx_aload_n k dL_law_556 rfl ?_
      refine jx_aload_n k dL_law_557 rfl ?_
      refine jx_iload k dL_law_558 rfl ?_
      refine jx_iconst k dL_law_560 (v := 1) (by decide) ?_
      refine jx_iadd k dL_law_561 ?_
      refine jx_sld k hX hbl hab hN dL_law_562 (p := 4 * n + 1) (nI_add _ 1) (by omega) ?_
      refine jx_aload_n k dL_law_563 rfl ?_
      refine jx_callSW k (n := 3) jn_506 jn_33 ⟨by decide +kernel, by decide +kernel⟩ (by decide +kernel) jn_504 jn_505 (h1_second _ _ _ _ _ x uw fo ca co lo lc kn on cut u f g fl h sp β ρ D P hC h1 w ho (xs (4 * n + 1)) ht1 ht2) dL_law_564 rfl rfl rfl (Nat.le_of_ble_eq_true rfl) ⟨by omega, by omega⟩ ⟨by omega, by omega⟩ ?_
      rintro v G9 sz1 ⟨rfl, r, G1, hf, rfl, r0, hr, z0, ρ1, P1, hP1, -, hsz1, hq1⟩
      have hD9 : ∀ z, (fun z => D z ∨ z = uw) z → D z ∨ z = uw := fun _ h => h
      by_cases hk : (kw_s u f g fl (k2_b fo β ρ uw co) uw 3 0 (0, h, sp, on, cut)).2.2.2.1 = 0
      · rw [if_pos hk] at hq1
        obtain ⟨hv, ca1, hca1, hC1⟩ := hq1
        have hC2 := Cp_of hC1
        have hG := hF.2.1 hk
        have ht : r0 = (ms_second σ (d_sn β uw) c (xs (4 * n + 1))).1 ∧ _ ∧ (ms_second σ (d_sn β uw) c (xs (4 * n + 1))).2.1 0 = 0 := ⟨by rw [hG.1]; exact (Value.int.inj (Option.some.inj hv)), hG.2 z0 ρ1 ca1 (fun p hp => (hP1 p hp).2) (fun z hz => hC2.2.2.2.2.2.2.1 z hz) hC2.1 hca1, hF.1⟩
        refine jx_istore k dL_law_567 (Nat.le_of_ble_eq_true rfl) rfl (L' := [_, _, _, _, _, _, _]) rfl ?_
        refine jx_aload_n k dL_law_569 rfl ?_
        refine jx_aload_n k dL_law_570 rfl ?_
        refine jx_iload k dL_law_571 rfl ?_
        refine jx_iconst k dL_law_573 (v := 1) (by decide) ?_
        refine jx_iadd k dL_law_574 ?_
        refine jx_sld k hX hbl hab hN dL_law_575 (p := 4 * n + 1) (nI_add _ 1) (by omega) ?_
        rw [← MC_G (MC_o (MC_f hM hf))]
        refine jx_callV1 k mL_80 (q_second _ _ _ _ _ _ σ (d_sn β uw) c (xs (4 * n + 1)) (Iv (d_sn β uw)) hcan (R_sn hR).2 hI0 (fun τ h => h.2.2.1) (fun τ s pg h hs _ => Iv_2 h hs) (fun τ s pg h hs h1 _ ht => Iv_3 h hs h1 ht)) rm_a0 rfl dL_law_576 rfl rfl rfl (Nat.le_of_ble_eq_true rfl) ⟨by omega, by omega⟩ ⟨by omega, by omega⟩ ?_
        refine jx_istore k dL_law_579 (Nat.le_of_ble_eq_true rfl) rfl (L' := [_, _, _, _, _, _, _]) rfl ?_
        refine jx_aload_n k dL_law_581 rfl ?_
        refine jx_callVP k mL_57 (q_thrown _ _ _ _ _ _ _) rm_a0 rfl dL_law_582 rfl rfl rfl (Nat.le_of_ble_eq_true rfl) ⟨by omega, by omega⟩ ⟨by omega, by omega⟩ ?_
        refine jx_iload k dL_law_585 rfl ?_
        refine jx_icmp_eq k dL_law_587 (tgt := 592) rfl (fun _ => ?_) (fun hh => absurd ht.2.2 hh)
        refine jx_iload k dL_law_592 rfl ?_
        refine jx_if_ne k dL_law_594 (tgt := 609) rfl (fun hh => absurd rfl hh) (fun _ => ?_)
        refine jx_aload_n k dL_law_597 rfl ?_
        refine jx_iconst k dL_law_598 (v := 0) (by decide) ?_
        refine jx_lldN k dL_law_599 ((rm_out (by omega)).trans (va_up_self _ _ _)) (p := 0) rfl (by decide) (by decide) ?_
        refine jx_iload k dL_law_600 rfl ?_
        refine jx_i2l k dL_law_602 ?_
        refine jx_lcmp k dL_law_603 ?_
        refine jx_if_eq k dL_law_604 (tgt := 609) rfl (fun _ => ?_) (fun hh => absurd (lc_eq.mpr ((if_pos rfl).trans (hr.trans (congrArg Int32.toInt64 ht.1)))) hh)
        refine jx_goto k dL_law_609 (tgt := 1289) rfl ?_
        exact K _ _ _ _ _ _ _ (lwS_of hC1 (Nat.le_refl _) (fun q hq => va_up_ne _ _ (by omega)) ht.2.1 (va_up_self _ _ _)) (by omega) (by omega)
      · rw [if_neg hk] at hq1
        obtain ⟨hv, hC1⟩ := hq1
        have hC2 := Cp_of hC1
        have hG := hF.2.2 hk
        have ht : r0 = (ms_second σ (d_sn β uw) c (xs (4 * n + 1))).1 ∧ _ ∧ (ms_second σ (d_sn β uw) c (xs (4 * n + 1))).2.1 0 = 0 := ⟨by rw [hG.1]; exact (Value.int.inj (Option.some.inj hv)), hG.2 z0 ρ1 (fun p hp => (hP1 p hp).2) (fun z hz => hC2.2.2.2.2.2.2.1 z hz) hC2.1, hF.1⟩
        refine jx_istore k dL_law_567 (Nat.le_of_ble_eq_true rfl) rfl (L' := [_, _, _, _, _, _, _]) rfl ?_
        refine jx_aload_n k dL_law_569 rfl ?_
        refine jx_aload_n k dL_law_570 rfl ?_
        refine jx_iload k dL_law_571 rfl ?_
        refine jx_iconst k dL_law_573 (v := 1) (by decide) ?_
        refine jx_iadd k dL_law_574 ?_
        refine jx_sld k hX hbl hab hN dL_law_575 (p := 4 * n + 1) (nI_add _ 1) (by omega) ?_
        rw [← MC_G (MC_o (MC_f hM hf))]
        refine jx_callV1 k mL_80 (q_second _ _ _ _ _ _ σ (d_sn β uw) c (xs (4 * n + 1)) (Iv (d_sn β uw)) hcan (R_sn hR).2 hI0 (fun τ h => h.2.2.1) (fun τ s pg h hs _ => Iv_2 h hs) (fun τ s pg h hs h1 _ ht => Iv_3 h hs h1 ht)) rm_a0 rfl dL_law_576 rfl rfl rfl (Nat.le_of_ble_eq_true rfl) ⟨by omega, by omega⟩ ⟨by omega, by omega⟩ ?_
        refine jx_istore k dL_law_579 (Nat.le_of_ble_eq_true rfl) rfl (L' := [_, _, _, _, _, _, _]) rfl ?_
        refine jx_aload_n k dL_law_581 rfl ?_
        refine jx_callVP k mL_57 (q_thrown _ _ _ _ _ _ _) rm_a0 rfl dL_law_582 rfl rfl rfl (Nat.le_of_ble_eq_true rfl) ⟨by omega, by omega⟩ ⟨by omega, by omega⟩ ?_
        refine jx_iload k dL_law_585 rfl ?_
        refine jx_icmp_eq k dL_law_587 (tgt := 592) rfl (fun _ => ?_) (fun hh => absurd ht.2.2 hh)
        refine jx_iload k dL_law_592 rfl ?_
        refine jx_if_ne k dL_law_594 (tgt := 609) rfl (fun hh => absurd rfl hh) (fun _ => ?_)
        refine jx_aload_n k dL_law_597 rfl ?_
        refine jx_iconst k dL_law_598 (v := 0) (by decide) ?_
        refine jx_lldN k dL_law_599 ((rm_out (by omega)).trans (va_up_self _ _ _)) (p := 0) rfl (by decide) (by decide) ?_
        refine jx_iload k dL_law_600 rfl ?_
        refine jx_i2l k dL_law_602 ?_
        refine jx_lcmp k dL_law_603 ?_
        refine jx_if_eq k dL_law_604 (tgt := 609) rfl (fun _ => ?_) (fun hh => absurd (lc_eq.mpr ((if_pos rfl).trans (hr.trans (congrArg Int32.toInt64 ht.1)))) hh)
        refine jx_goto k dL_law_609 (tgt := 1289) rfl ?_
        exact K _ _ _ _ _ _ _ (lwS_of hC1 (Nat.le_refl _) (fun q hq => va_up_ne _ _ (by omega)) ht.2.1 (va_up_self _ _ _)) (by omega) (by omega)
end LawCases2
