section LC
variable {l : Launch} {g : gE} {k : KX} {ad : Nat → Nat} {b L i : Nat} {xs : Nat → Int32} {S : Sg} {u : Me}
-- pay
set_option maxHeartbeats 4000000 in
set_option maxRecDepth 100000 in
theorem law_c0 (C : Cx l g room_1 4 k cL_law wsL_law RL) (X : Lx b L xs k) (hL : L ≤ 2560) (hi : i + 5 ≤ L) (hC : RepC S u) (hM : RepM S u) (hO : Ok S) (K : LK k g ad b i) : G k 48 1418 (WW g ad u) 164 [(0, .ref b), (1, .ref (ad 0)), (2, .ref (ad 36)), (3, .int (nI (i)))] [] := by
  refine r_aload_n C 1 dL_law_164 rfl rfl ?_
  refine r_aload_n C 0 dL_law_165 rfl rfl ?_
  refine r_iload_n C 3 dL_law_166 rfl rfl ?_
  refine r_iconst C dL_law_167 (v := nI 1) (by decide) ?_
  refine r_iaddN C dL_law_168 ?_
  refine r_sld C X (by omega) hL dL_law_169 ?_
  refine r_aload_n C 0 dL_law_170 rfl rfl ?_
  refine r_iload_n C 3 dL_law_171 rfl rfl ?_
  refine r_iconst C dL_law_172 (v := nI 2) (by decide) ?_
  refine r_iaddN C dL_law_173 ?_
  refine r_sld C X (by omega) hL dL_law_174 ?_
  refine r_aload_n C 0 dL_law_175 rfl rfl ?_
  refine r_iload_n C 3 dL_law_176 rfl rfl ?_
  refine r_iconst C dL_law_177 (v := nI 3) (by decide) ?_
  refine r_iaddN C dL_law_178 ?_
  refine r_sld C X (by omega) hL dL_law_179 ?_
  refine r_callVi C (rest := []) (c_X7_pay l g ad u S hC hO (xs (i + 1)) (xs (i + 2)) (xs (i + 3))) gL_law_X7_pay pk_X7_pay k_0 dL_law_180 rfl rfl rfl rfl ⟨(Nat.le_of_ble_eq_true rfl), (Nat.le_of_ble_eq_true rfl)⟩ rfl rfl (Nat.le_of_ble_eq_true rfl) ⟨(Nat.le_of_ble_eq_true rfl), (Nat.le_of_ble_eq_true rfl)⟩ ?_
  rintro r1 u1 ⟨S1, h1, hC1, hs1⟩
  refine r_aload_n C 2 dL_law_183 rfl rfl ?_
  refine r_aload_n C 0 dL_law_184 rfl rfl ?_
  refine r_iload_n C 3 dL_law_185 rfl rfl ?_
  refine r_iconst C dL_law_186 (v := nI 1) (by decide) ?_
  refine r_iaddN C dL_law_187 ?_
  refine r_sld C X (by omega) hL dL_law_188 ?_
  refine r_aload_n C 0 dL_law_189 rfl rfl ?_
  refine r_iload_n C 3 dL_law_190 rfl rfl ?_
  refine r_iconst C dL_law_191 (v := nI 2) (by decide) ?_
  refine r_iaddN C dL_law_192 ?_
  refine r_sld C X (by omega) hL dL_law_193 ?_
  refine r_aload_n C 0 dL_law_194 rfl rfl ?_
  refine r_iload_n C 3 dL_law_195 rfl rfl ?_
  refine r_iconst C dL_law_196 (v := nI 3) (by decide) ?_
  refine r_iaddN C dL_law_197 ?_
  refine r_sld C X (by omega) hL dL_law_198 ?_
  refine r_callVi C (rest := [.int r1]) (c_X8_pay l g ad u1 S (hM.smC hs1) hO (xs (i + 1)) (xs (i + 2)) (xs (i + 3))) gL_law_X8_pay pk_X8_pay k_36 dL_law_199 rfl rfl rfl rfl ⟨(Nat.le_of_ble_eq_true rfl), (Nat.le_of_ble_eq_true rfl)⟩ rfl rfl (Nat.le_of_ble_eq_true rfl) ⟨(Nat.le_of_ble_eq_true rfl), (Nat.le_of_ble_eq_true rfl)⟩ ?_
  rintro r2 u2 ⟨S2, h2, hM2, hs2⟩
  have he := Prod.mk.inj (h1.symm.trans h2)
  exact r_icmp_eq C dL_law_202 (tgt := 1255) (by decide) (fun _ => K S1 u2 (hC1.smR hs2) (by rw [he.2]; exact hM2) (okA_pay h1 hO)) (fun h => absurd he.1 h)
-- discount
set_option maxHeartbeats 4000000 in
set_option maxRecDepth 100000 in
theorem law_c1 (C : Cx l g room_1 4 k cL_law wsL_law RL) (X : Lx b L xs k) (hL : L ≤ 2560) (hi : i + 5 ≤ L) (hC : RepC S u) (hM : RepM S u) (hO : Ok S) (K : LK k g ad b i) : G k 48 1418 (WW g ad u) 207 [(0, .ref b), (1, .ref (ad 0)), (2, .ref (ad 36)), (3, .int (nI (i)))] [] := by
  refine r_aload_n C 1 dL_law_207 rfl rfl ?_
  refine r_aload_n C 0 dL_law_208 rfl rfl ?_
  refine r_iload_n C 3 dL_law_209 rfl rfl ?_
  refine r_iconst C dL_law_210 (v := nI 1) (by decide) ?_
  refine r_iaddN C dL_law_211 ?_
  refine r_sld C X (by omega) hL dL_law_212 ?_
  refine r_aload_n C 0 dL_law_213 rfl rfl ?_
  refine r_iload_n C 3 dL_law_214 rfl rfl ?_
  refine r_iconst C dL_law_215 (v := nI 2) (by decide) ?_
  refine r_iaddN C dL_law_216 ?_
  refine r_sld C X (by omega) hL dL_law_217 ?_
  refine r_callVi C (rest := []) (c_X7_discount l g ad u S hC hO (xs (i + 1)) (xs (i + 2))) gL_law_X7_discount pk_X7_discount k_0 dL_law_218 rfl rfl rfl rfl ⟨(Nat.le_of_ble_eq_true rfl), (Nat.le_of_ble_eq_true rfl)⟩ rfl rfl (Nat.le_of_ble_eq_true rfl) ⟨(Nat.le_of_ble_eq_true rfl), (Nat.le_of_ble_eq_true rfl)⟩ ?_
  rintro r1 u1 ⟨S1, h1, hC1, hs1⟩
  refine r_aload_n C 2 dL_law_221 rfl rfl ?_
  refine r_aload_n C 0 dL_law_222 rfl rfl ?_
  refine r_iload_n C 3 dL_law_223 rfl rfl ?_
  refine r_iconst C dL_law_224 (v := nI 1) (by decide) ?_
  refine r_iaddN C dL_law_225 ?_
  refine r_sld C X (by omega) hL dL_law_226 ?_
  refine r_aload_n C 0 dL_law_227 rfl rfl ?_
  refine r_iload_n C 3 dL_law_228 rfl rfl ?_
  refine r_iconst C dL_law_229 (v := nI 2) (by decide) ?_
  refine r_iaddN C dL_law_230 ?_
  refine r_sld C X (by omega) hL dL_law_231 ?_
  refine r_callVi C (rest := [.int r1]) (c_X8_discount l g ad u1 S (hM.smC hs1) hO (xs (i + 1)) (xs (i + 2))) gL_law_X8_discount pk_X8_discount k_36 dL_law_232 rfl rfl rfl rfl ⟨(Nat.le_of_ble_eq_true rfl), (Nat.le_of_ble_eq_true rfl)⟩ rfl rfl (Nat.le_of_ble_eq_true rfl) ⟨(Nat.le_of_ble_eq_true rfl), (Nat.le_of_ble_eq_true rfl)⟩ ?_
  rintro r2 u2 ⟨S2, h2, hM2, hs2⟩
  have he := Prod.mk.inj (h1.symm.trans h2)
  exact r_icmp_eq C dL_law_235 (tgt := 1255) (by decide) (fun _ => K S1 u2 (hC1.smR hs2) (by rw [he.2]; exact hM2) (okA_disc h1 hO)) (fun h => absurd he.1 h)
-- machine
set_option maxHeartbeats 4000000 in
set_option maxRecDepth 100000 in
theorem law_c2 (C : Cx l g room_1 4 k cL_law wsL_law RL) (X : Lx b L xs k) (hL : L ≤ 2560) (hi : i + 5 ≤ L) (hC : RepC S u) (hM : RepM S u) (hO : Ok S) (K : LK k g ad b i) : G k 48 1418 (WW g ad u) 240 [(0, .ref b), (1, .ref (ad 0)), (2, .ref (ad 36)), (3, .int (nI (i)))] [] := by
  refine r_aload_n C 1 dL_law_240 rfl rfl ?_
  refine r_aload_n C 0 dL_law_241 rfl rfl ?_
  refine r_iload_n C 3 dL_law_242 rfl rfl ?_
  refine r_iconst C dL_law_243 (v := nI 1) (by decide) ?_
  refine r_iaddN C dL_law_244 ?_
  refine r_sld C X (by omega) hL dL_law_245 ?_
  refine r_callVi C (rest := []) (c_X7_machine l g ad u S hC hO (xs (i + 1))) gL_law_X7_machine pk_X7_machine k_0 dL_law_246 rfl rfl rfl rfl ⟨(Nat.le_of_ble_eq_true rfl), (Nat.le_of_ble_eq_true rfl)⟩ rfl rfl (Nat.le_of_ble_eq_true rfl) ⟨(Nat.le_of_ble_eq_true rfl), (Nat.le_of_ble_eq_true rfl)⟩ ?_
  rintro r1 u1 ⟨S1, h1, hC1, hs1⟩
  refine r_aload_n C 2 dL_law_249 rfl rfl ?_
  refine r_aload_n C 0 dL_law_250 rfl rfl ?_
  refine r_iload_n C 3 dL_law_251 rfl rfl ?_
  refine r_iconst C dL_law_252 (v := nI 1) (by decide) ?_
  refine r_iaddN C dL_law_253 ?_
  refine r_sld C X (by omega) hL dL_law_254 ?_
  refine r_callVi C (rest := [.int r1]) (c_X8_machine l g ad u1 S (hM.smC hs1) hO (xs (i + 1))) gL_law_X8_machine pk_X8_machine k_36 dL_law_255 rfl rfl rfl rfl ⟨(Nat.le_of_ble_eq_true rfl), (Nat.le_of_ble_eq_true rfl)⟩ rfl rfl (Nat.le_of_ble_eq_true rfl) ⟨(Nat.le_of_ble_eq_true rfl), (Nat.le_of_ble_eq_true rfl)⟩ ?_
  rintro r2 u2 ⟨S2, h2, hM2, hs2⟩
  have he := Prod.mk.inj (h1.symm.trans h2)
  exact r_icmp_eq C dL_law_258 (tgt := 1255) (by decide) (fun _ => K S1 u2 (hC1.smR hs2) (by rw [he.2]; exact hM2) (okA_mach h1 hO)) (fun h => absurd he.1 h)
-- does
set_option maxHeartbeats 4000000 in
set_option maxRecDepth 100000 in
theorem law_c3 (C : Cx l g room_1 4 k cL_law wsL_law RL) (X : Lx b L xs k) (hL : L ≤ 2560) (hi : i + 5 ≤ L) (hC : RepC S u) (hM : RepM S u) (hO : Ok S) (K : LK k g ad b i) : G k 48 1418 (WW g ad u) 263 [(0, .ref b), (1, .ref (ad 0)), (2, .ref (ad 36)), (3, .int (nI (i)))] [] := by
  refine r_aload_n C 1 dL_law_263 rfl rfl ?_
  refine r_aload_n C 0 dL_law_264 rfl rfl ?_
  refine r_iload_n C 3 dL_law_265 rfl rfl ?_
  refine r_iconst C dL_law_266 (v := nI 1) (by decide) ?_
  refine r_iaddN C dL_law_267 ?_
  refine r_sld C X (by omega) hL dL_law_268 ?_
  refine r_aload_n C 0 dL_law_269 rfl rfl ?_
  refine r_iload_n C 3 dL_law_270 rfl rfl ?_
  refine r_iconst C dL_law_271 (v := nI 2) (by decide) ?_
  refine r_iaddN C dL_law_272 ?_
  refine r_sld C X (by omega) hL dL_law_273 ?_
  refine r_aload_n C 0 dL_law_274 rfl rfl ?_
  refine r_iload_n C 3 dL_law_275 rfl rfl ?_
  refine r_iconst C dL_law_276 (v := nI 3) (by decide) ?_
  refine r_iaddN C dL_law_277 ?_
  refine r_sld C X (by omega) hL dL_law_278 ?_
  refine r_callVi C (rest := []) (c_X7_does l g ad u S hC hO (xs (i + 1)) (xs (i + 2)) (xs (i + 3))) gL_law_X7_does pk_X7_does k_0 dL_law_279 rfl rfl rfl rfl ⟨(Nat.le_of_ble_eq_true rfl), (Nat.le_of_ble_eq_true rfl)⟩ rfl rfl (Nat.le_of_ble_eq_true rfl) ⟨(Nat.le_of_ble_eq_true rfl), (Nat.le_of_ble_eq_true rfl)⟩ ?_
  rintro r1 u1 ⟨S1, h1, hC1, hs1⟩
  refine r_aload_n C 2 dL_law_282 rfl rfl ?_
  refine r_aload_n C 0 dL_law_283 rfl rfl ?_
  refine r_iload_n C 3 dL_law_284 rfl rfl ?_
  refine r_iconst C dL_law_285 (v := nI 1) (by decide) ?_
  refine r_iaddN C dL_law_286 ?_
  refine r_sld C X (by omega) hL dL_law_287 ?_
  refine r_aload_n C 0 dL_law_288 rfl rfl ?_
  refine r_iload_n C 3 dL_law_289 rfl rfl ?_
  refine r_iconst C dL_law_290 (v := nI 2) (by decide) ?_
  refine r_iaddN C dL_law_291 ?_
  refine r_sld C X (by omega) hL dL_law_292 ?_
  refine r_aload_n C 0 dL_law_293 rfl rfl ?_
  refine r_iload_n C 3 dL_law_294 rfl rfl ?_
  refine r_iconst C dL_law_295 (v := nI 3) (by decide) ?_
  refine r_iaddN C dL_law_296 ?_
  refine r_sld C X (by omega) hL dL_law_297 ?_
  refine r_callVi C (rest := [.int r1]) (c_X8_does l g ad u1 S (hM.smC hs1) hO (xs (i + 1)) (xs (i + 2)) (xs (i + 3))) gL_law_X8_does pk_X8_does k_36 dL_law_298 rfl rfl rfl rfl ⟨(Nat.le_of_ble_eq_true rfl), (Nat.le_of_ble_eq_true rfl)⟩ rfl rfl (Nat.le_of_ble_eq_true rfl) ⟨(Nat.le_of_ble_eq_true rfl), (Nat.le_of_ble_eq_true rfl)⟩ ?_
  rintro r2 u2 ⟨S2, h2, hM2, hs2⟩
  have he := Prod.mk.inj (h1.symm.trans h2)
  exact r_icmp_eq C dL_law_301 (tgt := 1255) (by decide) (fun _ => K S1 u2 (hC1.smR hs2) (by rw [he.2]; exact hM2) (okA_does h1 hO)) (fun h => absurd he.1 h)
-- goes
set_option maxHeartbeats 4000000 in
set_option maxRecDepth 100000 in
theorem law_c4 (C : Cx l g room_1 4 k cL_law wsL_law RL) (X : Lx b L xs k) (hL : L ≤ 2560) (hi : i + 5 ≤ L) (hC : RepC S u) (hM : RepM S u) (hO : Ok S) (K : LK k g ad b i) : G k 48 1418 (WW g ad u) 306 [(0, .ref b), (1, .ref (ad 0)), (2, .ref (ad 36)), (3, .int (nI (i)))] [] := by
  refine r_aload_n C 1 dL_law_306 rfl rfl ?_
  refine r_aload_n C 0 dL_law_307 rfl rfl ?_
  refine r_iload_n C 3 dL_law_308 rfl rfl ?_
  refine r_iconst C dL_law_309 (v := nI 1) (by decide) ?_
  refine r_iaddN C dL_law_310 ?_
  refine r_sld C X (by omega) hL dL_law_311 ?_
  refine r_aload_n C 0 dL_law_312 rfl rfl ?_
  refine r_iload_n C 3 dL_law_313 rfl rfl ?_
  refine r_iconst C dL_law_314 (v := nI 2) (by decide) ?_
  refine r_iaddN C dL_law_315 ?_
  refine r_sld C X (by omega) hL dL_law_316 ?_
  refine r_aload_n C 0 dL_law_317 rfl rfl ?_
  refine r_iload_n C 3 dL_law_318 rfl rfl ?_
  refine r_iconst C dL_law_319 (v := nI 3) (by decide) ?_
  refine r_iaddN C dL_law_320 ?_
  refine r_sld C X (by omega) hL dL_law_321 ?_
  refine r_aload_n C 0 dL_law_322 rfl rfl ?_
  refine r_iload_n C 3 dL_law_323 rfl rfl ?_
  refine r_iconst C dL_law_324 (v := nI 4) (by decide) ?_
  refine r_iaddN C dL_law_325 ?_
  refine r_sld C X (by omega) hL dL_law_326 ?_
  refine r_callVi C (rest := []) (c_X7_goes l g ad u S hC hO (xs (i + 1)) (xs (i + 2)) (xs (i + 3)) (xs (i + 4))) gL_law_X7_goes pk_X7_goes k_0 dL_law_327 rfl rfl rfl rfl ⟨(Nat.le_of_ble_eq_true rfl), (Nat.le_of_ble_eq_true rfl)⟩ rfl rfl (Nat.le_of_ble_eq_true rfl) ⟨(Nat.le_of_ble_eq_true rfl), (Nat.le_of_ble_eq_true rfl)⟩ ?_
  rintro r1 u1 ⟨S1, h1, hC1, hs1⟩
  refine r_aload_n C 2 dL_law_330 rfl rfl ?_
  refine r_aload_n C 0 dL_law_331 rfl rfl ?_
  refine r_iload_n C 3 dL_law_332 rfl rfl ?_
  refine r_iconst C dL_law_333 (v := nI 1) (by decide) ?_
  refine r_iaddN C dL_law_334 ?_
  refine r_sld C X (by omega) hL dL_law_335 ?_
  refine r_aload_n C 0 dL_law_336 rfl rfl ?_
  refine r_iload_n C 3 dL_law_337 rfl rfl ?_
  refine r_iconst C dL_law_338 (v := nI 2) (by decide) ?_
  refine r_iaddN C dL_law_339 ?_
  refine r_sld C X (by omega) hL dL_law_340 ?_
  refine r_aload_n C 0 dL_law_341 rfl rfl ?_
  refine r_iload_n C 3 dL_law_342 rfl rfl ?_
  refine r_iconst C dL_law_343 (v := nI 3) (by decide) ?_
  refine r_iaddN C dL_law_344 ?_
  refine r_sld C X (by omega) hL dL_law_345 ?_
  refine r_aload_n C 0 dL_law_346 rfl rfl ?_
  refine r_iload_n C 3 dL_law_347 rfl rfl ?_
  refine r_iconst C dL_law_348 (v := nI 4) (by decide) ?_
  refine r_iaddN C dL_law_349 ?_
  refine r_sld C X (by omega) hL dL_law_350 ?_
  refine r_callVi C (rest := [.int r1]) (c_X8_goes l g ad u1 S (hM.smC hs1) hO (xs (i + 1)) (xs (i + 2)) (xs (i + 3)) (xs (i + 4))) gL_law_X8_goes pk_X8_goes k_36 dL_law_351 rfl rfl rfl rfl ⟨(Nat.le_of_ble_eq_true rfl), (Nat.le_of_ble_eq_true rfl)⟩ rfl rfl (Nat.le_of_ble_eq_true rfl) ⟨(Nat.le_of_ble_eq_true rfl), (Nat.le_of_ble_eq_true rfl)⟩ ?_
  rintro r2 u2 ⟨S2, h2, hM2, hs2⟩
  have he := Prod.mk.inj (h1.symm.trans h2)
  exact r_icmp_eq C dL_law_354 (tgt := 1255) (by decide) (fun _ => K S1 u2 (hC1.smR hs2) (by rw [he.2]; exact hM2) (okA_goes h1 hO)) (fun h => absurd he.1 h)
-- told
set_option maxHeartbeats 4000000 in
set_option maxRecDepth 100000 in
theorem law_c5 (C : Cx l g room_1 4 k cL_law wsL_law RL) (X : Lx b L xs k) (hL : L ≤ 2560) (hi : i + 5 ≤ L) (hC : RepC S u) (hM : RepM S u) (hO : Ok S) (K : LK k g ad b i) : G k 48 1418 (WW g ad u) 359 [(0, .ref b), (1, .ref (ad 0)), (2, .ref (ad 36)), (3, .int (nI (i)))] [] := by
  refine r_aload_n C 1 dL_law_359 rfl rfl ?_
  refine r_aload_n C 0 dL_law_360 rfl rfl ?_
  refine r_iload_n C 3 dL_law_361 rfl rfl ?_
  refine r_iconst C dL_law_362 (v := nI 1) (by decide) ?_
  refine r_iaddN C dL_law_363 ?_
  refine r_sld C X (by omega) hL dL_law_364 ?_
  refine r_aload_n C 0 dL_law_365 rfl rfl ?_
  refine r_iload_n C 3 dL_law_366 rfl rfl ?_
  refine r_iconst C dL_law_367 (v := nI 2) (by decide) ?_
  refine r_iaddN C dL_law_368 ?_
  refine r_sld C X (by omega) hL dL_law_369 ?_
  refine r_aload_n C 0 dL_law_370 rfl rfl ?_
  refine r_iload_n C 3 dL_law_371 rfl rfl ?_
  refine r_iconst C dL_law_372 (v := nI 3) (by decide) ?_
  refine r_iaddN C dL_law_373 ?_
  refine r_sld C X (by omega) hL dL_law_374 ?_
  refine r_callVi C (rest := []) (c_X7_told l g ad u S hC hO (xs (i + 1)) (xs (i + 2)) (xs (i + 3))) gL_law_X7_told pk_X7_told k_0 dL_law_375 rfl rfl rfl rfl ⟨(Nat.le_of_ble_eq_true rfl), (Nat.le_of_ble_eq_true rfl)⟩ rfl rfl (Nat.le_of_ble_eq_true rfl) ⟨(Nat.le_of_ble_eq_true rfl), (Nat.le_of_ble_eq_true rfl)⟩ ?_
  rintro r1 u1 ⟨h1, hC1, hs1⟩
  refine r_aload_n C 2 dL_law_378 rfl rfl ?_
  refine r_aload_n C 0 dL_law_379 rfl rfl ?_
  refine r_iload_n C 3 dL_law_380 rfl rfl ?_
  refine r_iconst C dL_law_381 (v := nI 1) (by decide) ?_
  refine r_iaddN C dL_law_382 ?_
  refine r_sld C X (by omega) hL dL_law_383 ?_
  refine r_aload_n C 0 dL_law_384 rfl rfl ?_
  refine r_iload_n C 3 dL_law_385 rfl rfl ?_
  refine r_iconst C dL_law_386 (v := nI 2) (by decide) ?_
  refine r_iaddN C dL_law_387 ?_
  refine r_sld C X (by omega) hL dL_law_388 ?_
  refine r_aload_n C 0 dL_law_389 rfl rfl ?_
  refine r_iload_n C 3 dL_law_390 rfl rfl ?_
  refine r_iconst C dL_law_391 (v := nI 3) (by decide) ?_
  refine r_iaddN C dL_law_392 ?_
  refine r_sld C X (by omega) hL dL_law_393 ?_
  refine r_callVi C (rest := [.int r1]) (c_X8_told l g ad u1 S (hM.smC hs1) hO (xs (i + 1)) (xs (i + 2)) (xs (i + 3))) gL_law_X8_told pk_X8_told k_36 dL_law_394 rfl rfl rfl rfl ⟨(Nat.le_of_ble_eq_true rfl), (Nat.le_of_ble_eq_true rfl)⟩ rfl rfl (Nat.le_of_ble_eq_true rfl) ⟨(Nat.le_of_ble_eq_true rfl), (Nat.le_of_ble_eq_true rfl)⟩ ?_
  rintro r2 u2 ⟨h2, hM2, hs2⟩
  have he := h1.symm.trans h2
  exact r_icmp_eq C dL_law_397 (tgt := 1255) (by decide) (fun _ => K S u2 (hC1.smR hs2) hM2 hO) (fun h => absurd he h)
-- drop
set_option maxHeartbeats 4000000 in
set_option maxRecDepth 100000 in
theorem law_c6 (C : Cx l g room_1 4 k cL_law wsL_law RL) (X : Lx b L xs k) (hL : L ≤ 2560) (hi : i + 5 ≤ L) (hC : RepC S u) (hM : RepM S u) (hO : Ok S) (K : LK k g ad b i) : G k 48 1418 (WW g ad u) 402 [(0, .ref b), (1, .ref (ad 0)), (2, .ref (ad 36)), (3, .int (nI (i)))] [] := by
  refine r_aload_n C 1 dL_law_402 rfl rfl ?_
  refine r_callVi C (rest := []) (c_X7_drop l g ad u S hC hO ) gL_law_X7_drop pk_X7_drop k_0 dL_law_403 rfl rfl rfl rfl ⟨(Nat.le_of_ble_eq_true rfl), (Nat.le_of_ble_eq_true rfl)⟩ rfl rfl (Nat.le_of_ble_eq_true rfl) ⟨(Nat.le_of_ble_eq_true rfl), (Nat.le_of_ble_eq_true rfl)⟩ ?_
  rintro r1 u1 ⟨S1, h1, hC1, hs1⟩
  refine r_aload_n C 2 dL_law_406 rfl rfl ?_
  refine r_callVi C (rest := [.int r1]) (c_X8_drop l g ad u1 S (hM.smC hs1) hO ) gL_law_X8_drop pk_X8_drop k_36 dL_law_407 rfl rfl rfl rfl ⟨(Nat.le_of_ble_eq_true rfl), (Nat.le_of_ble_eq_true rfl)⟩ rfl rfl (Nat.le_of_ble_eq_true rfl) ⟨(Nat.le_of_ble_eq_true rfl), (Nat.le_of_ble_eq_true rfl)⟩ ?_
  rintro r2 u2 ⟨S2, h2, hM2, hs2⟩
  have he := Prod.mk.inj (h1.symm.trans h2)
  exact r_icmp_eq C dL_law_410 (tgt := 1255) (by decide) (fun _ => K S1 u2 (hC1.smR hs2) (by rw [he.2]; exact hM2) (okA_drop h1 hO)) (fun h => absurd he.1 h)
-- sheet
set_option maxHeartbeats 4000000 in
set_option maxRecDepth 100000 in
theorem law_c7 (C : Cx l g room_1 4 k cL_law wsL_law RL) (X : Lx b L xs k) (hL : L ≤ 2560) (hi : i + 5 ≤ L) (hC : RepC S u) (hM : RepM S u) (hO : Ok S) (K : LK k g ad b i) : G k 48 1418 (WW g ad u) 415 [(0, .ref b), (1, .ref (ad 0)), (2, .ref (ad 36)), (3, .int (nI (i)))] [] := by
  refine r_aload_n C 1 dL_law_415 rfl rfl ?_
  refine r_aload_n C 0 dL_law_416 rfl rfl ?_
  refine r_iload_n C 3 dL_law_417 rfl rfl ?_
  refine r_iconst C dL_law_418 (v := nI 1) (by decide) ?_
  refine r_iaddN C dL_law_419 ?_
  refine r_sld C X (by omega) hL dL_law_420 ?_
  refine r_aload_n C 0 dL_law_421 rfl rfl ?_
  refine r_iload_n C 3 dL_law_422 rfl rfl ?_
  refine r_iconst C dL_law_423 (v := nI 2) (by decide) ?_
  refine r_iaddN C dL_law_424 ?_
  refine r_sld C X (by omega) hL dL_law_425 ?_
  refine r_aload_n C 0 dL_law_426 rfl rfl ?_
  refine r_iload_n C 3 dL_law_427 rfl rfl ?_
  refine r_iconst C dL_law_428 (v := nI 3) (by decide) ?_
  refine r_iaddN C dL_law_429 ?_
  refine r_sld C X (by omega) hL dL_law_430 ?_
  refine r_callVi C (rest := []) (c_X7_sheet l g ad u S hC hO (xs (i + 1)) (xs (i + 2)) (xs (i + 3))) gL_law_X7_sheet pk_X7_sheet k_0 dL_law_431 rfl rfl rfl rfl ⟨(Nat.le_of_ble_eq_true rfl), (Nat.le_of_ble_eq_true rfl)⟩ rfl rfl (Nat.le_of_ble_eq_true rfl) ⟨(Nat.le_of_ble_eq_true rfl), (Nat.le_of_ble_eq_true rfl)⟩ ?_
  rintro r1 u1 ⟨S1, h1, hC1, hs1⟩
  refine r_aload_n C 2 dL_law_434 rfl rfl ?_
  refine r_aload_n C 0 dL_law_435 rfl rfl ?_
  refine r_iload_n C 3 dL_law_436 rfl rfl ?_
  refine r_iconst C dL_law_437 (v := nI 1) (by decide) ?_
  refine r_iaddN C dL_law_438 ?_
  refine r_sld C X (by omega) hL dL_law_439 ?_
  refine r_aload_n C 0 dL_law_440 rfl rfl ?_
  refine r_iload_n C 3 dL_law_441 rfl rfl ?_
  refine r_iconst C dL_law_442 (v := nI 2) (by decide) ?_
  refine r_iaddN C dL_law_443 ?_
  refine r_sld C X (by omega) hL dL_law_444 ?_
  refine r_aload_n C 0 dL_law_445 rfl rfl ?_
  refine r_iload_n C 3 dL_law_446 rfl rfl ?_
  refine r_iconst C dL_law_447 (v := nI 3) (by decide) ?_
  refine r_iaddN C dL_law_448 ?_
  refine r_sld C X (by omega) hL dL_law_449 ?_
  refine r_callVi C (rest := [.int r1]) (c_X8_sheet l g ad u1 S (hM.smC hs1) hO (xs (i + 1)) (xs (i + 2)) (xs (i + 3))) gL_law_X8_sheet pk_X8_sheet k_36 dL_law_450 rfl rfl rfl rfl ⟨(Nat.le_of_ble_eq_true rfl), (Nat.le_of_ble_eq_true rfl)⟩ rfl rfl (Nat.le_of_ble_eq_true rfl) ⟨(Nat.le_of_ble_eq_true rfl), (Nat.le_of_ble_eq_true rfl)⟩ ?_
  rintro r2 u2 ⟨S2, h2, hM2, hs2⟩
  have he := Prod.mk.inj (h1.symm.trans h2)
  exact r_icmp_eq C dL_law_453 (tgt := 1255) (by decide) (fun _ => K S1 u2 (hC1.smR hs2) (by rw [he.2]; exact hM2) (okA_shet h1 hO)) (fun h => absurd he.1 h)
-- lay
set_option maxHeartbeats 4000000 in
set_option maxRecDepth 100000 in
theorem law_c8 (C : Cx l g room_1 4 k cL_law wsL_law RL) (X : Lx b L xs k) (hL : L ≤ 2560) (hi : i + 5 ≤ L) (hC : RepC S u) (hM : RepM S u) (hO : Ok S) (K : LK k g ad b i) : G k 48 1418 (WW g ad u) 458 [(0, .ref b), (1, .ref (ad 0)), (2, .ref (ad 36)), (3, .int (nI (i)))] [] := by
  refine r_aload_n C 1 dL_law_458 rfl rfl ?_
  refine r_aload_n C 0 dL_law_459 rfl rfl ?_
  refine r_iload_n C 3 dL_law_460 rfl rfl ?_
  refine r_iconst C dL_law_461 (v := nI 1) (by decide) ?_
  refine r_iaddN C dL_law_462 ?_
  refine r_sld C X (by omega) hL dL_law_463 ?_
  refine r_aload_n C 0 dL_law_464 rfl rfl ?_
  refine r_iload_n C 3 dL_law_465 rfl rfl ?_
  refine r_iconst C dL_law_466 (v := nI 2) (by decide) ?_
  refine r_iaddN C dL_law_467 ?_
  refine r_sld C X (by omega) hL dL_law_468 ?_
  refine r_aload_n C 0 dL_law_469 rfl rfl ?_
  refine r_iload_n C 3 dL_law_470 rfl rfl ?_
  refine r_iconst C dL_law_471 (v := nI 3) (by decide) ?_
  refine r_iaddN C dL_law_472 ?_
  refine r_sld C X (by omega) hL dL_law_473 ?_
  refine r_callVi C (rest := []) (c_X7_lay l g ad u S hC hO (xs (i + 1)) (xs (i + 2)) (xs (i + 3))) gL_law_X7_lay pk_X7_lay k_0 dL_law_474 rfl rfl rfl rfl ⟨(Nat.le_of_ble_eq_true rfl), (Nat.le_of_ble_eq_true rfl)⟩ rfl rfl (Nat.le_of_ble_eq_true rfl) ⟨(Nat.le_of_ble_eq_true rfl), (Nat.le_of_ble_eq_true rfl)⟩ ?_
  rintro r1 u1 ⟨S1, h1, hC1, hs1⟩
  refine r_aload_n C 2 dL_law_477 rfl rfl ?_
  refine r_aload_n C 0 dL_law_478 rfl rfl ?_
  refine r_iload_n C 3 dL_law_479 rfl rfl ?_
  refine r_iconst C dL_law_480 (v := nI 1) (by decide) ?_
  refine r_iaddN C dL_law_481 ?_
  refine r_sld C X (by omega) hL dL_law_482 ?_
  refine r_aload_n C 0 dL_law_483 rfl rfl ?_
  refine r_iload_n C 3 dL_law_484 rfl rfl ?_
  refine r_iconst C dL_law_485 (v := nI 2) (by decide) ?_
  refine r_iaddN C dL_law_486 ?_
  refine r_sld C X (by omega) hL dL_law_487 ?_
  refine r_aload_n C 0 dL_law_488 rfl rfl ?_
  refine r_iload_n C 3 dL_law_489 rfl rfl ?_
  refine r_iconst C dL_law_490 (v := nI 3) (by decide) ?_
  refine r_iaddN C dL_law_491 ?_
  refine r_sld C X (by omega) hL dL_law_492 ?_
  refine r_callVi C (rest := [.int r1]) (c_X8_lay l g ad u1 S (hM.smC hs1) hO (xs (i + 1)) (xs (i + 2)) (xs (i + 3))) gL_law_X8_lay pk_X8_lay k_36 dL_law_493 rfl rfl rfl rfl ⟨(Nat.le_of_ble_eq_true rfl), (Nat.le_of_ble_eq_true rfl)⟩ rfl rfl (Nat.le_of_ble_eq_true rfl) ⟨(Nat.le_of_ble_eq_true rfl), (Nat.le_of_ble_eq_true rfl)⟩ ?_
  rintro r2 u2 ⟨S2, h2, hM2, hs2⟩
  have he := Prod.mk.inj (h1.symm.trans h2)
  exact r_icmp_eq C dL_law_496 (tgt := 1255) (by decide) (fun _ => K S1 u2 (hC1.smR hs2) (by rw [he.2]; exact hM2) (okA_lay h1 hO)) (fun h => absurd he.1 h)
-- draw
set_option maxHeartbeats 4000000 in
set_option maxRecDepth 100000 in
theorem law_c9 (C : Cx l g room_1 4 k cL_law wsL_law RL) (X : Lx b L xs k) (hL : L ≤ 2560) (hi : i + 5 ≤ L) (hC : RepC S u) (hM : RepM S u) (hO : Ok S) (K : LK k g ad b i) : G k 48 1418 (WW g ad u) 501 [(0, .ref b), (1, .ref (ad 0)), (2, .ref (ad 36)), (3, .int (nI (i)))] [] := by
  refine r_aload_n C 1 dL_law_501 rfl rfl ?_
  refine r_aload_n C 0 dL_law_502 rfl rfl ?_
  refine r_iload_n C 3 dL_law_503 rfl rfl ?_
  refine r_iconst C dL_law_504 (v := nI 1) (by decide) ?_
  refine r_iaddN C dL_law_505 ?_
  refine r_sld C X (by omega) hL dL_law_506 ?_
  refine r_aload_n C 0 dL_law_507 rfl rfl ?_
  refine r_iload_n C 3 dL_law_508 rfl rfl ?_
  refine r_iconst C dL_law_509 (v := nI 2) (by decide) ?_
  refine r_iaddN C dL_law_510 ?_
  refine r_sld C X (by omega) hL dL_law_511 ?_
  refine r_aload_n C 0 dL_law_512 rfl rfl ?_
  refine r_iload_n C 3 dL_law_513 rfl rfl ?_
  refine r_iconst C dL_law_514 (v := nI 3) (by decide) ?_
  refine r_iaddN C dL_law_515 ?_
  refine r_sld C X (by omega) hL dL_law_516 ?_
  refine r_aload_n C 0 dL_law_517 rfl rfl ?_
  refine r_iload_n C 3 dL_law_518 rfl rfl ?_
  refine r_iconst C dL_law_519 (v := nI 4) (by decide) ?_
  refine r_iaddN C dL_law_520 ?_
  refine r_sld C X (by omega) hL dL_law_521 ?_
  refine r_callVi C (rest := []) (c_X7_draw l g ad u S hC hO (xs (i + 1)) (xs (i + 2)) (xs (i + 3)) (xs (i + 4))) gL_law_X7_draw pk_X7_draw k_0 dL_law_522 rfl rfl rfl rfl ⟨(Nat.le_of_ble_eq_true rfl), (Nat.le_of_ble_eq_true rfl)⟩ rfl rfl (Nat.le_of_ble_eq_true rfl) ⟨(Nat.le_of_ble_eq_true rfl), (Nat.le_of_ble_eq_true rfl)⟩ ?_
  rintro r1 u1 ⟨S1, h1, hC1, hs1⟩
  refine r_aload_n C 2 dL_law_525 rfl rfl ?_
  refine r_aload_n C 0 dL_law_526 rfl rfl ?_
  refine r_iload_n C 3 dL_law_527 rfl rfl ?_
  refine r_iconst C dL_law_528 (v := nI 1) (by decide) ?_
  refine r_iaddN C dL_law_529 ?_
  refine r_sld C X (by omega) hL dL_law_530 ?_
  refine r_aload_n C 0 dL_law_531 rfl rfl ?_
  refine r_iload_n C 3 dL_law_532 rfl rfl ?_
  refine r_iconst C dL_law_533 (v := nI 2) (by decide) ?_
  refine r_iaddN C dL_law_534 ?_
  refine r_sld C X (by omega) hL dL_law_535 ?_
  refine r_aload_n C 0 dL_law_536 rfl rfl ?_
  refine r_iload_n C 3 dL_law_537 rfl rfl ?_
  refine r_iconst C dL_law_538 (v := nI 3) (by decide) ?_
  refine r_iaddN C dL_law_539 ?_
  refine r_sld C X (by omega) hL dL_law_540 ?_
  refine r_aload_n C 0 dL_law_541 rfl rfl ?_
  refine r_iload_n C 3 dL_law_542 rfl rfl ?_
  refine r_iconst C dL_law_543 (v := nI 4) (by decide) ?_
  refine r_iaddN C dL_law_544 ?_
  refine r_sld C X (by omega) hL dL_law_545 ?_
  refine r_callVi C (rest := [.int r1]) (c_X8_draw l g ad u1 S (hM.smC hs1) hO (xs (i + 1)) (xs (i + 2)) (xs (i + 3)) (xs (i + 4))) gL_law_X8_draw pk_X8_draw k_36 dL_law_546 rfl rfl rfl rfl ⟨(Nat.le_of_ble_eq_true rfl), (Nat.le_of_ble_eq_true rfl)⟩ rfl rfl (Nat.le_of_ble_eq_true rfl) ⟨(Nat.le_of_ble_eq_true rfl), (Nat.le_of_ble_eq_true rfl)⟩ ?_
  rintro r2 u2 ⟨S2, h2, hM2, hs2⟩
  have he := Prod.mk.inj (h1.symm.trans h2)
  exact r_icmp_eq C dL_law_549 (tgt := 1255) (by decide) (fun _ => K S1 u2 (hC1.smR hs2) (by rw [he.2]; exact hM2) (okA_draw h1 hO)) (fun h => absurd he.1 h)
-- action
set_option maxHeartbeats 4000000 in
set_option maxRecDepth 100000 in
theorem law_c10 (C : Cx l g room_1 4 k cL_law wsL_law RL) (X : Lx b L xs k) (hL : L ≤ 2560) (hi : i + 5 ≤ L) (hC : RepC S u) (hM : RepM S u) (hO : Ok S) (K : LK k g ad b i) : G k 48 1418 (WW g ad u) 554 [(0, .ref b), (1, .ref (ad 0)), (2, .ref (ad 36)), (3, .int (nI (i)))] [] := by
  refine r_aload_n C 1 dL_law_554 rfl rfl ?_
  refine r_aload_n C 0 dL_law_555 rfl rfl ?_
  refine r_iload_n C 3 dL_law_556 rfl rfl ?_
  refine r_iconst C dL_law_557 (v := nI 1) (by decide) ?_
  refine r_iaddN C dL_law_558 ?_
  refine r_sld C X (by omega) hL dL_law_559 ?_
  refine r_aload_n C 0 dL_law_560 rfl rfl ?_
  refine r_iload_n C 3 dL_law_561 rfl rfl ?_
  refine r_iconst C dL_law_562 (v := nI 2) (by decide) ?_
  refine r_iaddN C dL_law_563 ?_
  refine r_sld C X (by omega) hL dL_law_564 ?_
  refine r_aload_n C 0 dL_law_565 rfl rfl ?_
  refine r_iload_n C 3 dL_law_566 rfl rfl ?_
  refine r_iconst C dL_law_567 (v := nI 3) (by decide) ?_
  refine r_iaddN C dL_law_568 ?_
  refine r_sld C X (by omega) hL dL_law_569 ?_
  refine r_callVi C (rest := []) (c_X7_action l g ad u S hC hO (xs (i + 1)) (xs (i + 2)) (xs (i + 3))) gL_law_X7_action pk_X7_action k_0 dL_law_570 rfl rfl rfl rfl ⟨(Nat.le_of_ble_eq_true rfl), (Nat.le_of_ble_eq_true rfl)⟩ rfl rfl (Nat.le_of_ble_eq_true rfl) ⟨(Nat.le_of_ble_eq_true rfl), (Nat.le_of_ble_eq_true rfl)⟩ ?_
  rintro r1 u1 ⟨h1, hC1, hs1⟩
  refine r_aload_n C 2 dL_law_573 rfl rfl ?_
  refine r_aload_n C 0 dL_law_574 rfl rfl ?_
  refine r_iload_n C 3 dL_law_575 rfl rfl ?_
  refine r_iconst C dL_law_576 (v := nI 1) (by decide) ?_
  refine r_iaddN C dL_law_577 ?_
  refine r_sld C X (by omega) hL dL_law_578 ?_
  refine r_aload_n C 0 dL_law_579 rfl rfl ?_
  refine r_iload_n C 3 dL_law_580 rfl rfl ?_
  refine r_iconst C dL_law_581 (v := nI 2) (by decide) ?_
  refine r_iaddN C dL_law_582 ?_
  refine r_sld C X (by omega) hL dL_law_583 ?_
  refine r_aload_n C 0 dL_law_584 rfl rfl ?_
  refine r_iload_n C 3 dL_law_585 rfl rfl ?_
  refine r_iconst C dL_law_586 (v := nI 3) (by decide) ?_
  refine r_iaddN C dL_law_587 ?_
  refine r_sld C X (by omega) hL dL_law_588 ?_
  refine r_callVi C (rest := [.int r1]) (c_X8_action l g ad u1 S (hM.smC hs1) hO (xs (i + 1)) (xs (i + 2)) (xs (i + 3))) gL_law_X8_action pk_X8_action k_36 dL_law_589 rfl rfl rfl rfl ⟨(Nat.le_of_ble_eq_true rfl), (Nat.le_of_ble_eq_true rfl)⟩ rfl rfl (Nat.le_of_ble_eq_true rfl) ⟨(Nat.le_of_ble_eq_true rfl), (Nat.le_of_ble_eq_true rfl)⟩ ?_
  rintro r2 u2 ⟨h2, hM2, hs2⟩
  have he := h1.symm.trans h2
  exact r_icmp_eq C dL_law_592 (tgt := 1255) (by decide) (fun _ => K S u2 (hC1.smR hs2) hM2 hO) (fun h => absurd he h)
-- match
set_option maxHeartbeats 4000000 in
set_option maxRecDepth 100000 in
theorem law_c11 (C : Cx l g room_1 4 k cL_law wsL_law RL) (X : Lx b L xs k) (hL : L ≤ 2560) (hi : i + 5 ≤ L) (hC : RepC S u) (hM : RepM S u) (hO : Ok S) (K : LK k g ad b i) : G k 48 1418 (WW g ad u) 597 [(0, .ref b), (1, .ref (ad 0)), (2, .ref (ad 36)), (3, .int (nI (i)))] [] := by
  refine r_aload_n C 1 dL_law_597 rfl rfl ?_
  refine r_aload_n C 0 dL_law_598 rfl rfl ?_
  refine r_iload_n C 3 dL_law_599 rfl rfl ?_
  refine r_iconst C dL_law_600 (v := nI 1) (by decide) ?_
  refine r_iaddN C dL_law_601 ?_
  refine r_sld C X (by omega) hL dL_law_602 ?_
  refine r_aload_n C 0 dL_law_603 rfl rfl ?_
  refine r_iload_n C 3 dL_law_604 rfl rfl ?_
  refine r_iconst C dL_law_605 (v := nI 2) (by decide) ?_
  refine r_iaddN C dL_law_606 ?_
  refine r_sld C X (by omega) hL dL_law_607 ?_
  refine r_aload_n C 0 dL_law_608 rfl rfl ?_
  refine r_iload_n C 3 dL_law_609 rfl rfl ?_
  refine r_iconst C dL_law_610 (v := nI 3) (by decide) ?_
  refine r_iaddN C dL_law_611 ?_
  refine r_sld C X (by omega) hL dL_law_612 ?_
  refine r_callVi C (rest := []) (c_X7_match l g ad u S hC hO (xs (i + 1)) (xs (i + 2)) (xs (i + 3))) gL_law_X7_match pk_X7_match k_0 dL_law_613 rfl rfl rfl rfl ⟨(Nat.le_of_ble_eq_true rfl), (Nat.le_of_ble_eq_true rfl)⟩ rfl rfl (Nat.le_of_ble_eq_true rfl) ⟨(Nat.le_of_ble_eq_true rfl), (Nat.le_of_ble_eq_true rfl)⟩ ?_
  rintro r1 u1 ⟨h1, hC1, hs1⟩
  refine r_aload_n C 2 dL_law_616 rfl rfl ?_
  refine r_aload_n C 0 dL_law_617 rfl rfl ?_
  refine r_iload_n C 3 dL_law_618 rfl rfl ?_
  refine r_iconst C dL_law_619 (v := nI 1) (by decide) ?_
  refine r_iaddN C dL_law_620 ?_
  refine r_sld C X (by omega) hL dL_law_621 ?_
  refine r_aload_n C 0 dL_law_622 rfl rfl ?_
  refine r_iload_n C 3 dL_law_623 rfl rfl ?_
  refine r_iconst C dL_law_624 (v := nI 2) (by decide) ?_
  refine r_iaddN C dL_law_625 ?_
  refine r_sld C X (by omega) hL dL_law_626 ?_
  refine r_aload_n C 0 dL_law_627 rfl rfl ?_
  refine r_iload_n C 3 dL_law_628 rfl rfl ?_
  refine r_iconst C dL_law_629 (v := nI 3) (by decide) ?_
  refine r_iaddN C dL_law_630 ?_
  refine r_sld C X (by omega) hL dL_law_631 ?_
  refine r_callVi C (rest := [.int r1]) (c_X8_match l g ad u1 S (hM.smC hs1) hO (xs (i + 1)) (xs (i + 2)) (xs (i + 3))) gL_law_X8_match pk_X8_match k_36 dL_law_632 rfl rfl rfl rfl ⟨(Nat.le_of_ble_eq_true rfl), (Nat.le_of_ble_eq_true rfl)⟩ rfl rfl (Nat.le_of_ble_eq_true rfl) ⟨(Nat.le_of_ble_eq_true rfl), (Nat.le_of_ble_eq_true rfl)⟩ ?_
  rintro r2 u2 ⟨h2, hM2, hs2⟩
  have he := h1.symm.trans h2
  exact r_icmp_eq C dL_law_635 (tgt := 1255) (by decide) (fun _ => K S u2 (hC1.smR hs2) hM2 hO) (fun h => absurd he h)
-- sum
set_option maxHeartbeats 4000000 in
set_option maxRecDepth 100000 in
theorem law_c12 (C : Cx l g room_1 4 k cL_law wsL_law RL) (X : Lx b L xs k) (hL : L ≤ 2560) (hi : i + 5 ≤ L) (hC : RepC S u) (hM : RepM S u) (hO : Ok S) (K : LK k g ad b i) : G k 48 1418 (WW g ad u) 640 [(0, .ref b), (1, .ref (ad 0)), (2, .ref (ad 36)), (3, .int (nI (i)))] [] := by
  refine r_aload_n C 1 dL_law_640 rfl rfl ?_
  refine r_aload_n C 0 dL_law_641 rfl rfl ?_
  refine r_iload_n C 3 dL_law_642 rfl rfl ?_
  refine r_iconst C dL_law_643 (v := nI 1) (by decide) ?_
  refine r_iaddN C dL_law_644 ?_
  refine r_sld C X (by omega) hL dL_law_645 ?_
  refine r_aload_n C 0 dL_law_646 rfl rfl ?_
  refine r_iload_n C 3 dL_law_647 rfl rfl ?_
  refine r_iconst C dL_law_648 (v := nI 2) (by decide) ?_
  refine r_iaddN C dL_law_649 ?_
  refine r_sld C X (by omega) hL dL_law_650 ?_
  refine r_aload_n C 0 dL_law_651 rfl rfl ?_
  refine r_iload_n C 3 dL_law_652 rfl rfl ?_
  refine r_iconst C dL_law_653 (v := nI 3) (by decide) ?_
  refine r_iaddN C dL_law_654 ?_
  refine r_sld C X (by omega) hL dL_law_655 ?_
  refine r_callVi C (rest := []) (c_X7_sum l g ad u S hC hO (xs (i + 1)) (xs (i + 2)) (xs (i + 3))) gL_law_X7_sum pk_X7_sum k_0 dL_law_656 rfl rfl rfl rfl ⟨(Nat.le_of_ble_eq_true rfl), (Nat.le_of_ble_eq_true rfl)⟩ rfl rfl (Nat.le_of_ble_eq_true rfl) ⟨(Nat.le_of_ble_eq_true rfl), (Nat.le_of_ble_eq_true rfl)⟩ ?_
  rintro r1 u1 ⟨h1, hC1, hs1⟩
  refine r_aload_n C 2 dL_law_659 rfl rfl ?_
  refine r_aload_n C 0 dL_law_660 rfl rfl ?_
  refine r_iload_n C 3 dL_law_661 rfl rfl ?_
  refine r_iconst C dL_law_662 (v := nI 1) (by decide) ?_
  refine r_iaddN C dL_law_663 ?_
  refine r_sld C X (by omega) hL dL_law_664 ?_
  refine r_aload_n C 0 dL_law_665 rfl rfl ?_
  refine r_iload_n C 3 dL_law_666 rfl rfl ?_
  refine r_iconst C dL_law_667 (v := nI 2) (by decide) ?_
  refine r_iaddN C dL_law_668 ?_
  refine r_sld C X (by omega) hL dL_law_669 ?_
  refine r_aload_n C 0 dL_law_670 rfl rfl ?_
  refine r_iload_n C 3 dL_law_671 rfl rfl ?_
  refine r_iconst C dL_law_672 (v := nI 3) (by decide) ?_
  refine r_iaddN C dL_law_673 ?_
  refine r_sld C X (by omega) hL dL_law_674 ?_
  refine r_callVi C (rest := [.int r1]) (c_X8_sum l g ad u1 S (hM.smC hs1) hO (xs (i + 1)) (xs (i + 2)) (xs (i + 3))) gL_law_X8_sum pk_X8_sum k_36 dL_law_675 rfl rfl rfl rfl ⟨(Nat.le_of_ble_eq_true rfl), (Nat.le_of_ble_eq_true rfl)⟩ rfl rfl (Nat.le_of_ble_eq_true rfl) ⟨(Nat.le_of_ble_eq_true rfl), (Nat.le_of_ble_eq_true rfl)⟩ ?_
  rintro r2 u2 ⟨h2, hM2, hs2⟩
  have he := h1.symm.trans h2
  exact r_icmp_eq C dL_law_678 (tgt := 1255) (by decide) (fun _ => K S u2 (hC1.smR hs2) hM2 hO) (fun h => absurd he h)
-- mean
set_option maxHeartbeats 4000000 in
set_option maxRecDepth 100000 in
theorem law_c13 (C : Cx l g room_1 4 k cL_law wsL_law RL) (X : Lx b L xs k) (hL : L ≤ 2560) (hi : i + 5 ≤ L) (hC : RepC S u) (hM : RepM S u) (hO : Ok S) (K : LK k g ad b i) : G k 48 1418 (WW g ad u) 683 [(0, .ref b), (1, .ref (ad 0)), (2, .ref (ad 36)), (3, .int (nI (i)))] [] := by
  refine r_aload_n C 1 dL_law_683 rfl rfl ?_
  refine r_aload_n C 0 dL_law_684 rfl rfl ?_
  refine r_iload_n C 3 dL_law_685 rfl rfl ?_
  refine r_iconst C dL_law_686 (v := nI 1) (by decide) ?_
  refine r_iaddN C dL_law_687 ?_
  refine r_sld C X (by omega) hL dL_law_688 ?_
  refine r_aload_n C 0 dL_law_689 rfl rfl ?_
  refine r_iload_n C 3 dL_law_690 rfl rfl ?_
  refine r_iconst C dL_law_691 (v := nI 2) (by decide) ?_
  refine r_iaddN C dL_law_692 ?_
  refine r_sld C X (by omega) hL dL_law_693 ?_
  refine r_aload_n C 0 dL_law_694 rfl rfl ?_
  refine r_iload_n C 3 dL_law_695 rfl rfl ?_
  refine r_iconst C dL_law_696 (v := nI 3) (by decide) ?_
  refine r_iaddN C dL_law_697 ?_
  refine r_sld C X (by omega) hL dL_law_698 ?_
  refine r_callVl C (rest := []) (c_X7_mean l g ad u S hC hO (xs (i + 1)) (xs (i + 2)) (xs (i + 3))) gL_law_X7_mean pk_X7_mean k_0 dL_law_699 rfl rfl rfl rfl ⟨(Nat.le_of_ble_eq_true rfl), (Nat.le_of_ble_eq_true rfl)⟩ rfl rfl (Nat.le_of_ble_eq_true rfl) ⟨(Nat.le_of_ble_eq_true rfl), (Nat.le_of_ble_eq_true rfl)⟩ ?_
  rintro r1 u1 ⟨h1, hC1, hs1⟩
  refine r_aload_n C 2 dL_law_702 rfl rfl ?_
  refine r_aload_n C 0 dL_law_703 rfl rfl ?_
  refine r_iload_n C 3 dL_law_704 rfl rfl ?_
  refine r_iconst C dL_law_705 (v := nI 1) (by decide) ?_
  refine r_iaddN C dL_law_706 ?_
  refine r_sld C X (by omega) hL dL_law_707 ?_
  refine r_aload_n C 0 dL_law_708 rfl rfl ?_
  refine r_iload_n C 3 dL_law_709 rfl rfl ?_
  refine r_iconst C dL_law_710 (v := nI 2) (by decide) ?_
  refine r_iaddN C dL_law_711 ?_
  refine r_sld C X (by omega) hL dL_law_712 ?_
  refine r_aload_n C 0 dL_law_713 rfl rfl ?_
  refine r_iload_n C 3 dL_law_714 rfl rfl ?_
  refine r_iconst C dL_law_715 (v := nI 3) (by decide) ?_
  refine r_iaddN C dL_law_716 ?_
  refine r_sld C X (by omega) hL dL_law_717 ?_
  refine r_callVl C (rest := [.long r1]) (c_X8_mean l g ad u1 S (hM.smC hs1) hO (xs (i + 1)) (xs (i + 2)) (xs (i + 3))) gL_law_X8_mean pk_X8_mean k_36 dL_law_718 rfl rfl rfl rfl ⟨(Nat.le_of_ble_eq_true rfl), (Nat.le_of_ble_eq_true rfl)⟩ rfl rfl (Nat.le_of_ble_eq_true rfl) ⟨(Nat.le_of_ble_eq_true rfl), (Nat.le_of_ble_eq_true rfl)⟩ ?_
  rintro r2 u2 ⟨h2, hM2, hs2⟩
  have he := h1.symm.trans h2
  refine r_lcmp C dL_law_721 ?_
  exact r_if_eq C dL_law_722 (tgt := 1255) (by decide) (fun _ => K S u2 (hC1.smR hs2) hM2 hO) (fun h => absurd (by rw [he]; exact lg_cmp_rf _) h)
-- worth
set_option maxHeartbeats 4000000 in
set_option maxRecDepth 100000 in
theorem law_c14 (C : Cx l g room_1 4 k cL_law wsL_law RL) (X : Lx b L xs k) (hL : L ≤ 2560) (hi : i + 5 ≤ L) (hC : RepC S u) (hM : RepM S u) (hO : Ok S) (K : LK k g ad b i) : G k 48 1418 (WW g ad u) 727 [(0, .ref b), (1, .ref (ad 0)), (2, .ref (ad 36)), (3, .int (nI (i)))] [] := by
  refine r_aload_n C 1 dL_law_727 rfl rfl ?_
  refine r_aload_n C 0 dL_law_728 rfl rfl ?_
  refine r_iload_n C 3 dL_law_729 rfl rfl ?_
  refine r_iconst C dL_law_730 (v := nI 1) (by decide) ?_
  refine r_iaddN C dL_law_731 ?_
  refine r_sld C X (by omega) hL dL_law_732 ?_
  refine r_aload_n C 0 dL_law_733 rfl rfl ?_
  refine r_iload_n C 3 dL_law_734 rfl rfl ?_
  refine r_iconst C dL_law_735 (v := nI 2) (by decide) ?_
  refine r_iaddN C dL_law_736 ?_
  refine r_sld C X (by omega) hL dL_law_737 ?_
  refine r_aload_n C 0 dL_law_738 rfl rfl ?_
  refine r_iload_n C 3 dL_law_739 rfl rfl ?_
  refine r_iconst C dL_law_740 (v := nI 3) (by decide) ?_
  refine r_iaddN C dL_law_741 ?_
  refine r_sld C X (by omega) hL dL_law_742 ?_
  refine r_callVl C (rest := []) (c_X7_worth l g ad u S hC hO (xs (i + 1)) (xs (i + 2)) (xs (i + 3))) gL_law_X7_worth pk_X7_worth k_0 dL_law_743 rfl rfl rfl rfl ⟨(Nat.le_of_ble_eq_true rfl), (Nat.le_of_ble_eq_true rfl)⟩ rfl rfl (Nat.le_of_ble_eq_true rfl) ⟨(Nat.le_of_ble_eq_true rfl), (Nat.le_of_ble_eq_true rfl)⟩ ?_
  rintro r1 u1 ⟨h1, hC1, hs1⟩
  refine r_aload_n C 2 dL_law_746 rfl rfl ?_
  refine r_aload_n C 0 dL_law_747 rfl rfl ?_
  refine r_iload_n C 3 dL_law_748 rfl rfl ?_
  refine r_iconst C dL_law_749 (v := nI 1) (by decide) ?_
  refine r_iaddN C dL_law_750 ?_
  refine r_sld C X (by omega) hL dL_law_751 ?_
  refine r_aload_n C 0 dL_law_752 rfl rfl ?_
  refine r_iload_n C 3 dL_law_753 rfl rfl ?_
  refine r_iconst C dL_law_754 (v := nI 2) (by decide) ?_
  refine r_iaddN C dL_law_755 ?_
  refine r_sld C X (by omega) hL dL_law_756 ?_
  refine r_aload_n C 0 dL_law_757 rfl rfl ?_
  refine r_iload_n C 3 dL_law_758 rfl rfl ?_
  refine r_iconst C dL_law_759 (v := nI 3) (by decide) ?_
  refine r_iaddN C dL_law_760 ?_
  refine r_sld C X (by omega) hL dL_law_761 ?_
  refine r_callVl C (rest := [.long r1]) (c_X8_worth l g ad u1 S (hM.smC hs1) hO (xs (i + 1)) (xs (i + 2)) (xs (i + 3))) gL_law_X8_worth pk_X8_worth k_36 dL_law_762 rfl rfl rfl rfl ⟨(Nat.le_of_ble_eq_true rfl), (Nat.le_of_ble_eq_true rfl)⟩ rfl rfl (Nat.le_of_ble_eq_true rfl) ⟨(Nat.le_of_ble_eq_true rfl), (Nat.le_of_ble_eq_true rfl)⟩ ?_
  rintro r2 u2 ⟨h2, hM2, hs2⟩
  have he := h1.symm.trans h2
  refine r_lcmp C dL_law_765 ?_
  exact r_if_eq C dL_law_766 (tgt := 1255) (by decide) (fun _ => K S u2 (hC1.smR hs2) hM2 hO) (fun h => absurd (by rw [he]; exact lg_cmp_rf _) h)
-- slip
set_option maxHeartbeats 4000000 in
set_option maxRecDepth 100000 in
theorem law_c15 (C : Cx l g room_1 4 k cL_law wsL_law RL) (X : Lx b L xs k) (hL : L ≤ 2560) (hi : i + 5 ≤ L) (hC : RepC S u) (hM : RepM S u) (hO : Ok S) (K : LK k g ad b i) : G k 48 1418 (WW g ad u) 771 [(0, .ref b), (1, .ref (ad 0)), (2, .ref (ad 36)), (3, .int (nI (i)))] [] := by
  refine r_aload_n C 1 dL_law_771 rfl rfl ?_
  refine r_aload_n C 0 dL_law_772 rfl rfl ?_
  refine r_iload_n C 3 dL_law_773 rfl rfl ?_
  refine r_iconst C dL_law_774 (v := nI 1) (by decide) ?_
  refine r_iaddN C dL_law_775 ?_
  refine r_sld C X (by omega) hL dL_law_776 ?_
  refine r_aload_n C 0 dL_law_777 rfl rfl ?_
  refine r_iload_n C 3 dL_law_778 rfl rfl ?_
  refine r_iconst C dL_law_779 (v := nI 2) (by decide) ?_
  refine r_iaddN C dL_law_780 ?_
  refine r_sld C X (by omega) hL dL_law_781 ?_
  refine r_aload_n C 0 dL_law_782 rfl rfl ?_
  refine r_iload_n C 3 dL_law_783 rfl rfl ?_
  refine r_iconst C dL_law_784 (v := nI 3) (by decide) ?_
  refine r_iaddN C dL_law_785 ?_
  refine r_sld C X (by omega) hL dL_law_786 ?_
  refine r_callVi C (rest := []) (c_X7_slip l g ad u S hC hO (xs (i + 1)) (xs (i + 2)) (xs (i + 3))) gL_law_X7_slip pk_X7_slip k_0 dL_law_787 rfl rfl rfl rfl ⟨(Nat.le_of_ble_eq_true rfl), (Nat.le_of_ble_eq_true rfl)⟩ rfl rfl (Nat.le_of_ble_eq_true rfl) ⟨(Nat.le_of_ble_eq_true rfl), (Nat.le_of_ble_eq_true rfl)⟩ ?_
  rintro r1 u1 ⟨h1, hC1, hs1⟩
  refine r_aload_n C 2 dL_law_790 rfl rfl ?_
  refine r_aload_n C 0 dL_law_791 rfl rfl ?_
  refine r_iload_n C 3 dL_law_792 rfl rfl ?_
  refine r_iconst C dL_law_793 (v := nI 1) (by decide) ?_
  refine r_iaddN C dL_law_794 ?_
  refine r_sld C X (by omega) hL dL_law_795 ?_
  refine r_aload_n C 0 dL_law_796 rfl rfl ?_
  refine r_iload_n C 3 dL_law_797 rfl rfl ?_
  refine r_iconst C dL_law_798 (v := nI 2) (by decide) ?_
  refine r_iaddN C dL_law_799 ?_
  refine r_sld C X (by omega) hL dL_law_800 ?_
  refine r_aload_n C 0 dL_law_801 rfl rfl ?_
  refine r_iload_n C 3 dL_law_802 rfl rfl ?_
  refine r_iconst C dL_law_803 (v := nI 3) (by decide) ?_
  refine r_iaddN C dL_law_804 ?_
  refine r_sld C X (by omega) hL dL_law_805 ?_
  refine r_callVi C (rest := [.int r1]) (c_X8_slip l g ad u1 S (hM.smC hs1) hO (xs (i + 1)) (xs (i + 2)) (xs (i + 3))) gL_law_X8_slip pk_X8_slip k_36 dL_law_806 rfl rfl rfl rfl ⟨(Nat.le_of_ble_eq_true rfl), (Nat.le_of_ble_eq_true rfl)⟩ rfl rfl (Nat.le_of_ble_eq_true rfl) ⟨(Nat.le_of_ble_eq_true rfl), (Nat.le_of_ble_eq_true rfl)⟩ ?_
  rintro r2 u2 ⟨h2, hM2, hs2⟩
  have he := h1.symm.trans h2
  exact r_icmp_eq C dL_law_809 (tgt := 1255) (by decide) (fun _ => K S u2 (hC1.smR hs2) hM2 hO) (fun h => absurd he h)
-- like
set_option maxHeartbeats 4000000 in
set_option maxRecDepth 100000 in
theorem law_c16 (C : Cx l g room_1 4 k cL_law wsL_law RL) (X : Lx b L xs k) (hL : L ≤ 2560) (hi : i + 5 ≤ L) (hC : RepC S u) (hM : RepM S u) (hO : Ok S) (K : LK k g ad b i) : G k 48 1418 (WW g ad u) 814 [(0, .ref b), (1, .ref (ad 0)), (2, .ref (ad 36)), (3, .int (nI (i)))] [] := by
  refine r_aload_n C 1 dL_law_814 rfl rfl ?_
  refine r_aload_n C 0 dL_law_815 rfl rfl ?_
  refine r_iload_n C 3 dL_law_816 rfl rfl ?_
  refine r_iconst C dL_law_817 (v := nI 1) (by decide) ?_
  refine r_iaddN C dL_law_818 ?_
  refine r_sld C X (by omega) hL dL_law_819 ?_
  refine r_aload_n C 0 dL_law_820 rfl rfl ?_
  refine r_iload_n C 3 dL_law_821 rfl rfl ?_
  refine r_iconst C dL_law_822 (v := nI 2) (by decide) ?_
  refine r_iaddN C dL_law_823 ?_
  refine r_sld C X (by omega) hL dL_law_824 ?_
  refine r_callVi C (rest := []) (c_X7_like l g ad u S hC hO (xs (i + 1)) (xs (i + 2))) gL_law_X7_like pk_X7_like k_0 dL_law_825 rfl rfl rfl rfl ⟨(Nat.le_of_ble_eq_true rfl), (Nat.le_of_ble_eq_true rfl)⟩ rfl rfl (Nat.le_of_ble_eq_true rfl) ⟨(Nat.le_of_ble_eq_true rfl), (Nat.le_of_ble_eq_true rfl)⟩ ?_
  rintro r1 u1 ⟨h1, hC1, hs1⟩
  refine r_aload_n C 2 dL_law_828 rfl rfl ?_
  refine r_aload_n C 0 dL_law_829 rfl rfl ?_
  refine r_iload_n C 3 dL_law_830 rfl rfl ?_
  refine r_iconst C dL_law_831 (v := nI 1) (by decide) ?_
  refine r_iaddN C dL_law_832 ?_
  refine r_sld C X (by omega) hL dL_law_833 ?_
  refine r_aload_n C 0 dL_law_834 rfl rfl ?_
  refine r_iload_n C 3 dL_law_835 rfl rfl ?_
  refine r_iconst C dL_law_836 (v := nI 2) (by decide) ?_
  refine r_iaddN C dL_law_837 ?_
  refine r_sld C X (by omega) hL dL_law_838 ?_
  refine r_callVi C (rest := [.int r1]) (c_X8_like l g ad u1 S (hM.smC hs1) hO (xs (i + 1)) (xs (i + 2))) gL_law_X8_like pk_X8_like k_36 dL_law_839 rfl rfl rfl rfl ⟨(Nat.le_of_ble_eq_true rfl), (Nat.le_of_ble_eq_true rfl)⟩ rfl rfl (Nat.le_of_ble_eq_true rfl) ⟨(Nat.le_of_ble_eq_true rfl), (Nat.le_of_ble_eq_true rfl)⟩ ?_
  rintro r2 u2 ⟨h2, hM2, hs2⟩
  have he := h1.symm.trans h2
  exact r_icmp_eq C dL_law_842 (tgt := 1255) (by decide) (fun _ => K S u2 (hC1.smR hs2) hM2 hO) (fun h => absurd he h)
-- smallest
set_option maxHeartbeats 4000000 in
set_option maxRecDepth 100000 in
theorem law_c17 (C : Cx l g room_1 4 k cL_law wsL_law RL) (X : Lx b L xs k) (hL : L ≤ 2560) (hi : i + 5 ≤ L) (hC : RepC S u) (hM : RepM S u) (hO : Ok S) (K : LK k g ad b i) : G k 48 1418 (WW g ad u) 847 [(0, .ref b), (1, .ref (ad 0)), (2, .ref (ad 36)), (3, .int (nI (i)))] [] := by
  refine r_aload_n C 1 dL_law_847 rfl rfl ?_
  refine r_aload_n C 0 dL_law_848 rfl rfl ?_
  refine r_iload_n C 3 dL_law_849 rfl rfl ?_
  refine r_iconst C dL_law_850 (v := nI 1) (by decide) ?_
  refine r_iaddN C dL_law_851 ?_
  refine r_sld C X (by omega) hL dL_law_852 ?_
  refine r_callVi C (rest := []) (c_X7_smallest l g ad u S hC hO (xs (i + 1))) gL_law_X7_smallest pk_X7_smallest k_0 dL_law_853 rfl rfl rfl rfl ⟨(Nat.le_of_ble_eq_true rfl), (Nat.le_of_ble_eq_true rfl)⟩ rfl rfl (Nat.le_of_ble_eq_true rfl) ⟨(Nat.le_of_ble_eq_true rfl), (Nat.le_of_ble_eq_true rfl)⟩ ?_
  rintro r1 u1 ⟨h1, hC1, hs1⟩
  refine r_aload_n C 2 dL_law_856 rfl rfl ?_
  refine r_aload_n C 0 dL_law_857 rfl rfl ?_
  refine r_iload_n C 3 dL_law_858 rfl rfl ?_
  refine r_iconst C dL_law_859 (v := nI 1) (by decide) ?_
  refine r_iaddN C dL_law_860 ?_
  refine r_sld C X (by omega) hL dL_law_861 ?_
  refine r_callVi C (rest := [.int r1]) (c_X8_smallest l g ad u1 S (hM.smC hs1) hO (xs (i + 1))) gL_law_X8_smallest pk_X8_smallest k_36 dL_law_862 rfl rfl rfl rfl ⟨(Nat.le_of_ble_eq_true rfl), (Nat.le_of_ble_eq_true rfl)⟩ rfl rfl (Nat.le_of_ble_eq_true rfl) ⟨(Nat.le_of_ble_eq_true rfl), (Nat.le_of_ble_eq_true rfl)⟩ ?_
  rintro r2 u2 ⟨h2, hM2, hs2⟩
  have he := h1.symm.trans h2
  exact r_icmp_eq C dL_law_865 (tgt := 1255) (by decide) (fun _ => K S u2 (hC1.smR hs2) hM2 hO) (fun h => absurd he h)
-- best
set_option maxHeartbeats 4000000 in
set_option maxRecDepth 100000 in
theorem law_c18 (C : Cx l g room_1 4 k cL_law wsL_law RL) (X : Lx b L xs k) (hL : L ≤ 2560) (hi : i + 5 ≤ L) (hC : RepC S u) (hM : RepM S u) (hO : Ok S) (K : LK k g ad b i) : G k 48 1418 (WW g ad u) 870 [(0, .ref b), (1, .ref (ad 0)), (2, .ref (ad 36)), (3, .int (nI (i)))] [] := by
  refine r_aload_n C 1 dL_law_870 rfl rfl ?_
  refine r_aload_n C 0 dL_law_871 rfl rfl ?_
  refine r_iload_n C 3 dL_law_872 rfl rfl ?_
  refine r_iconst C dL_law_873 (v := nI 1) (by decide) ?_
  refine r_iaddN C dL_law_874 ?_
  refine r_sld C X (by omega) hL dL_law_875 ?_
  refine r_aload_n C 0 dL_law_876 rfl rfl ?_
  refine r_iload_n C 3 dL_law_877 rfl rfl ?_
  refine r_iconst C dL_law_878 (v := nI 2) (by decide) ?_
  refine r_iaddN C dL_law_879 ?_
  refine r_sld C X (by omega) hL dL_law_880 ?_
  refine r_callVi C (rest := []) (c_X7_best l g ad u S hC hO (xs (i + 1)) (xs (i + 2))) gL_law_X7_best pk_X7_best k_0 dL_law_881 rfl rfl rfl rfl ⟨(Nat.le_of_ble_eq_true rfl), (Nat.le_of_ble_eq_true rfl)⟩ rfl rfl (Nat.le_of_ble_eq_true rfl) ⟨(Nat.le_of_ble_eq_true rfl), (Nat.le_of_ble_eq_true rfl)⟩ ?_
  rintro r1 u1 ⟨h1, hC1, hs1⟩
  refine r_aload_n C 2 dL_law_884 rfl rfl ?_
  refine r_aload_n C 0 dL_law_885 rfl rfl ?_
  refine r_iload_n C 3 dL_law_886 rfl rfl ?_
  refine r_iconst C dL_law_887 (v := nI 1) (by decide) ?_
  refine r_iaddN C dL_law_888 ?_
  refine r_sld C X (by omega) hL dL_law_889 ?_
  refine r_aload_n C 0 dL_law_890 rfl rfl ?_
  refine r_iload_n C 3 dL_law_891 rfl rfl ?_
  refine r_iconst C dL_law_892 (v := nI 2) (by decide) ?_
  refine r_iaddN C dL_law_893 ?_
  refine r_sld C X (by omega) hL dL_law_894 ?_
  refine r_callVi C (rest := [.int r1]) (c_X8_best l g ad u1 S (hM.smC hs1) hO (xs (i + 1)) (xs (i + 2))) gL_law_X8_best pk_X8_best k_36 dL_law_895 rfl rfl rfl rfl ⟨(Nat.le_of_ble_eq_true rfl), (Nat.le_of_ble_eq_true rfl)⟩ rfl rfl (Nat.le_of_ble_eq_true rfl) ⟨(Nat.le_of_ble_eq_true rfl), (Nat.le_of_ble_eq_true rfl)⟩ ?_
  rintro r2 u2 ⟨h2, hM2, hs2⟩
  have he := h1.symm.trans h2
  exact r_icmp_eq C dL_law_898 (tgt := 1255) (by decide) (fun _ => K S u2 (hC1.smR hs2) hM2 hO) (fun h => absurd he h)
-- bestWorth
set_option maxHeartbeats 4000000 in
set_option maxRecDepth 100000 in
theorem law_c19 (C : Cx l g room_1 4 k cL_law wsL_law RL) (X : Lx b L xs k) (hL : L ≤ 2560) (hi : i + 5 ≤ L) (hC : RepC S u) (hM : RepM S u) (hO : Ok S) (K : LK k g ad b i) : G k 48 1418 (WW g ad u) 903 [(0, .ref b), (1, .ref (ad 0)), (2, .ref (ad 36)), (3, .int (nI (i)))] [] := by
  refine r_aload_n C 1 dL_law_903 rfl rfl ?_
  refine r_aload_n C 0 dL_law_904 rfl rfl ?_
  refine r_iload_n C 3 dL_law_905 rfl rfl ?_
  refine r_iconst C dL_law_906 (v := nI 1) (by decide) ?_
  refine r_iaddN C dL_law_907 ?_
  refine r_sld C X (by omega) hL dL_law_908 ?_
  refine r_aload_n C 0 dL_law_909 rfl rfl ?_
  refine r_iload_n C 3 dL_law_910 rfl rfl ?_
  refine r_iconst C dL_law_911 (v := nI 2) (by decide) ?_
  refine r_iaddN C dL_law_912 ?_
  refine r_sld C X (by omega) hL dL_law_913 ?_
  refine r_aload_n C 0 dL_law_914 rfl rfl ?_
  refine r_iload_n C 3 dL_law_915 rfl rfl ?_
  refine r_iconst C dL_law_916 (v := nI 3) (by decide) ?_
  refine r_iaddN C dL_law_917 ?_
  refine r_sld C X (by omega) hL dL_law_918 ?_
  refine r_callVl C (rest := []) (c_X7_bestWorth l g ad u S hC hO (xs (i + 1)) (xs (i + 2)) (xs (i + 3))) gL_law_X7_bestWorth pk_X7_bestWorth k_0 dL_law_919 rfl rfl rfl rfl ⟨(Nat.le_of_ble_eq_true rfl), (Nat.le_of_ble_eq_true rfl)⟩ rfl rfl (Nat.le_of_ble_eq_true rfl) ⟨(Nat.le_of_ble_eq_true rfl), (Nat.le_of_ble_eq_true rfl)⟩ ?_
  rintro r1 u1 ⟨h1, hC1, hs1⟩
  refine r_aload_n C 2 dL_law_922 rfl rfl ?_
  refine r_aload_n C 0 dL_law_923 rfl rfl ?_
  refine r_iload_n C 3 dL_law_924 rfl rfl ?_
  refine r_iconst C dL_law_925 (v := nI 1) (by decide) ?_
  refine r_iaddN C dL_law_926 ?_
  refine r_sld C X (by omega) hL dL_law_927 ?_
  refine r_aload_n C 0 dL_law_928 rfl rfl ?_
  refine r_iload_n C 3 dL_law_929 rfl rfl ?_
  refine r_iconst C dL_law_930 (v := nI 2) (by decide) ?_
  refine r_iaddN C dL_law_931 ?_
  refine r_sld C X (by omega) hL dL_law_932 ?_
  refine r_aload_n C 0 dL_law_933 rfl rfl ?_
  refine r_iload_n C 3 dL_law_934 rfl rfl ?_
  refine r_iconst C dL_law_935 (v := nI 3) (by decide) ?_
  refine r_iaddN C dL_law_936 ?_
  refine r_sld C X (by omega) hL dL_law_937 ?_
  refine r_callVl C (rest := [.long r1]) (c_X8_bestWorth l g ad u1 S (hM.smC hs1) hO (xs (i + 1)) (xs (i + 2)) (xs (i + 3))) gL_law_X8_bestWorth pk_X8_bestWorth k_36 dL_law_938 rfl rfl rfl rfl ⟨(Nat.le_of_ble_eq_true rfl), (Nat.le_of_ble_eq_true rfl)⟩ rfl rfl (Nat.le_of_ble_eq_true rfl) ⟨(Nat.le_of_ble_eq_true rfl), (Nat.le_of_ble_eq_true rfl)⟩ ?_
  rintro r2 u2 ⟨h2, hM2, hs2⟩
  have he := h1.symm.trans h2
  refine r_lcmp C dL_law_941 ?_
  exact r_if_eq C dL_law_942 (tgt := 1255) (by decide) (fun _ => K S u2 (hC1.smR hs2) hM2 hO) (fun h => absurd (by rw [he]; exact lg_cmp_rf _) h)
-- planWorth
set_option maxHeartbeats 4000000 in
set_option maxRecDepth 100000 in
theorem law_c20 (C : Cx l g room_1 4 k cL_law wsL_law RL) (X : Lx b L xs k) (hL : L ≤ 2560) (hi : i + 5 ≤ L) (hC : RepC S u) (hM : RepM S u) (hO : Ok S) (K : LK k g ad b i) : G k 48 1418 (WW g ad u) 947 [(0, .ref b), (1, .ref (ad 0)), (2, .ref (ad 36)), (3, .int (nI (i)))] [] := by
  refine r_aload_n C 1 dL_law_947 rfl rfl ?_
  refine r_aload_n C 0 dL_law_948 rfl rfl ?_
  refine r_iload_n C 3 dL_law_949 rfl rfl ?_
  refine r_iconst C dL_law_950 (v := nI 1) (by decide) ?_
  refine r_iaddN C dL_law_951 ?_
  refine r_sld C X (by omega) hL dL_law_952 ?_
  refine r_aload_n C 0 dL_law_953 rfl rfl ?_
  refine r_iload_n C 3 dL_law_954 rfl rfl ?_
  refine r_iconst C dL_law_955 (v := nI 2) (by decide) ?_
  refine r_iaddN C dL_law_956 ?_
  refine r_sld C X (by omega) hL dL_law_957 ?_
  refine r_aload_n C 0 dL_law_958 rfl rfl ?_
  refine r_iload_n C 3 dL_law_959 rfl rfl ?_
  refine r_iconst C dL_law_960 (v := nI 3) (by decide) ?_
  refine r_iaddN C dL_law_961 ?_
  refine r_sld C X (by omega) hL dL_law_962 ?_
  refine r_aload_n C 0 dL_law_963 rfl rfl ?_
  refine r_iload_n C 3 dL_law_964 rfl rfl ?_
  refine r_iconst C dL_law_965 (v := nI 4) (by decide) ?_
  refine r_iaddN C dL_law_966 ?_
  refine r_sld C X (by omega) hL dL_law_967 ?_
  refine r_callVl C (rest := []) (c_X7_planWorth l g ad u S hC hO (xs (i + 1)) (xs (i + 2)) (xs (i + 3)) (xs (i + 4))) gL_law_X7_planWorth pk_X7_planWorth k_0 dL_law_968 rfl rfl rfl rfl ⟨(Nat.le_of_ble_eq_true rfl), (Nat.le_of_ble_eq_true rfl)⟩ rfl rfl (Nat.le_of_ble_eq_true rfl) ⟨(Nat.le_of_ble_eq_true rfl), (Nat.le_of_ble_eq_true rfl)⟩ ?_
  rintro r1 u1 ⟨h1, hC1, hs1⟩
  refine r_aload_n C 2 dL_law_971 rfl rfl ?_
  refine r_aload_n C 0 dL_law_972 rfl rfl ?_
  refine r_iload_n C 3 dL_law_973 rfl rfl ?_
  refine r_iconst C dL_law_974 (v := nI 1) (by decide) ?_
  refine r_iaddN C dL_law_975 ?_
  refine r_sld C X (by omega) hL dL_law_976 ?_
  refine r_aload_n C 0 dL_law_977 rfl rfl ?_
  refine r_iload_n C 3 dL_law_978 rfl rfl ?_
  refine r_iconst C dL_law_979 (v := nI 2) (by decide) ?_
  refine r_iaddN C dL_law_980 ?_
  refine r_sld C X (by omega) hL dL_law_981 ?_
  refine r_aload_n C 0 dL_law_982 rfl rfl ?_
  refine r_iload_n C 3 dL_law_983 rfl rfl ?_
  refine r_iconst C dL_law_984 (v := nI 3) (by decide) ?_
  refine r_iaddN C dL_law_985 ?_
  refine r_sld C X (by omega) hL dL_law_986 ?_
  refine r_aload_n C 0 dL_law_987 rfl rfl ?_
  refine r_iload_n C 3 dL_law_988 rfl rfl ?_
  refine r_iconst C dL_law_989 (v := nI 4) (by decide) ?_
  refine r_iaddN C dL_law_990 ?_
  refine r_sld C X (by omega) hL dL_law_991 ?_
  refine r_callVl C (rest := [.long r1]) (c_X8_planWorth l g ad u1 S (hM.smC hs1) hO (xs (i + 1)) (xs (i + 2)) (xs (i + 3)) (xs (i + 4))) gL_law_X8_planWorth pk_X8_planWorth k_36 dL_law_992 rfl rfl rfl rfl ⟨(Nat.le_of_ble_eq_true rfl), (Nat.le_of_ble_eq_true rfl)⟩ rfl rfl (Nat.le_of_ble_eq_true rfl) ⟨(Nat.le_of_ble_eq_true rfl), (Nat.le_of_ble_eq_true rfl)⟩ ?_
  rintro r2 u2 ⟨h2, hM2, hs2⟩
  have he := h1.symm.trans h2
  refine r_lcmp C dL_law_995 ?_
  exact r_if_eq C dL_law_996 (tgt := 1255) (by decide) (fun _ => K S u2 (hC1.smR hs2) hM2 hO) (fun h => absurd (by rw [he]; exact lg_cmp_rf _) h)
-- rest
set_option maxHeartbeats 4000000 in
set_option maxRecDepth 100000 in
theorem law_c21 (C : Cx l g room_1 4 k cL_law wsL_law RL) (X : Lx b L xs k) (hL : L ≤ 2560) (hi : i + 5 ≤ L) (hC : RepC S u) (hM : RepM S u) (hO : Ok S) (K : LK k g ad b i) : G k 48 1418 (WW g ad u) 1001 [(0, .ref b), (1, .ref (ad 0)), (2, .ref (ad 36)), (3, .int (nI (i)))] [] := by
  refine r_aload_n C 1 dL_law_1001 rfl rfl ?_
  refine r_aload_n C 0 dL_law_1002 rfl rfl ?_
  refine r_iload_n C 3 dL_law_1003 rfl rfl ?_
  refine r_iconst C dL_law_1004 (v := nI 1) (by decide) ?_
  refine r_iaddN C dL_law_1005 ?_
  refine r_sld C X (by omega) hL dL_law_1006 ?_
  refine r_aload_n C 0 dL_law_1007 rfl rfl ?_
  refine r_iload_n C 3 dL_law_1008 rfl rfl ?_
  refine r_iconst C dL_law_1009 (v := nI 2) (by decide) ?_
  refine r_iaddN C dL_law_1010 ?_
  refine r_sld C X (by omega) hL dL_law_1011 ?_
  refine r_callVi C (rest := []) (c_X7_rest l g ad u S hC hO (xs (i + 1)) (xs (i + 2))) gL_law_X7_rest pk_X7_rest k_0 dL_law_1012 rfl rfl rfl rfl ⟨(Nat.le_of_ble_eq_true rfl), (Nat.le_of_ble_eq_true rfl)⟩ rfl rfl (Nat.le_of_ble_eq_true rfl) ⟨(Nat.le_of_ble_eq_true rfl), (Nat.le_of_ble_eq_true rfl)⟩ ?_
  rintro r1 u1 ⟨h1, hC1, hs1⟩
  refine r_aload_n C 2 dL_law_1015 rfl rfl ?_
  refine r_aload_n C 0 dL_law_1016 rfl rfl ?_
  refine r_iload_n C 3 dL_law_1017 rfl rfl ?_
  refine r_iconst C dL_law_1018 (v := nI 1) (by decide) ?_
  refine r_iaddN C dL_law_1019 ?_
  refine r_sld C X (by omega) hL dL_law_1020 ?_
  refine r_aload_n C 0 dL_law_1021 rfl rfl ?_
  refine r_iload_n C 3 dL_law_1022 rfl rfl ?_
  refine r_iconst C dL_law_1023 (v := nI 2) (by decide) ?_
  refine r_iaddN C dL_law_1024 ?_
  refine r_sld C X (by omega) hL dL_law_1025 ?_
  refine r_callVi C (rest := [.int r1]) (c_X8_rest l g ad u1 S (hM.smC hs1) hO (xs (i + 1)) (xs (i + 2))) gL_law_X8_rest pk_X8_rest k_36 dL_law_1026 rfl rfl rfl rfl ⟨(Nat.le_of_ble_eq_true rfl), (Nat.le_of_ble_eq_true rfl)⟩ rfl rfl (Nat.le_of_ble_eq_true rfl) ⟨(Nat.le_of_ble_eq_true rfl), (Nat.le_of_ble_eq_true rfl)⟩ ?_
  rintro r2 u2 ⟨h2, hM2, hs2⟩
  have he := h1.symm.trans h2
  exact r_icmp_eq C dL_law_1029 (tgt := 1255) (by decide) (fun _ => K S u2 (hC1.smR hs2) hM2 hO) (fun h => absurd he h)
-- everywhere
set_option maxHeartbeats 4000000 in
set_option maxRecDepth 100000 in
theorem law_c22 (C : Cx l g room_1 4 k cL_law wsL_law RL) (X : Lx b L xs k) (hL : L ≤ 2560) (hi : i + 5 ≤ L) (hC : RepC S u) (hM : RepM S u) (hO : Ok S) (K : LK k g ad b i) : G k 48 1418 (WW g ad u) 1034 [(0, .ref b), (1, .ref (ad 0)), (2, .ref (ad 36)), (3, .int (nI (i)))] [] := by
  refine r_aload_n C 1 dL_law_1034 rfl rfl ?_
  refine r_aload_n C 0 dL_law_1035 rfl rfl ?_
  refine r_iload_n C 3 dL_law_1036 rfl rfl ?_
  refine r_iconst C dL_law_1037 (v := nI 1) (by decide) ?_
  refine r_iaddN C dL_law_1038 ?_
  refine r_sld C X (by omega) hL dL_law_1039 ?_
  refine r_aload_n C 0 dL_law_1040 rfl rfl ?_
  refine r_iload_n C 3 dL_law_1041 rfl rfl ?_
  refine r_iconst C dL_law_1042 (v := nI 2) (by decide) ?_
  refine r_iaddN C dL_law_1043 ?_
  refine r_sld C X (by omega) hL dL_law_1044 ?_
  refine r_callVi C (rest := []) (c_X7_everywhere l g ad u S hC hO (xs (i + 1)) (xs (i + 2))) gL_law_X7_everywhere pk_X7_everywhere k_0 dL_law_1045 rfl rfl rfl rfl ⟨(Nat.le_of_ble_eq_true rfl), (Nat.le_of_ble_eq_true rfl)⟩ rfl rfl (Nat.le_of_ble_eq_true rfl) ⟨(Nat.le_of_ble_eq_true rfl), (Nat.le_of_ble_eq_true rfl)⟩ ?_
  rintro r1 u1 ⟨h1, hC1, hs1⟩
  refine r_aload_n C 2 dL_law_1048 rfl rfl ?_
  refine r_aload_n C 0 dL_law_1049 rfl rfl ?_
  refine r_iload_n C 3 dL_law_1050 rfl rfl ?_
  refine r_iconst C dL_law_1051 (v := nI 1) (by decide) ?_
  refine r_iaddN C dL_law_1052 ?_
  refine r_sld C X (by omega) hL dL_law_1053 ?_
  refine r_aload_n C 0 dL_law_1054 rfl rfl ?_
  refine r_iload_n C 3 dL_law_1055 rfl rfl ?_
  refine r_iconst C dL_law_1056 (v := nI 2) (by decide) ?_
  refine r_iaddN C dL_law_1057 ?_
  refine r_sld C X (by omega) hL dL_law_1058 ?_
  refine r_callVi C (rest := [.int r1]) (c_X8_everywhere l g ad u1 S (hM.smC hs1) hO (xs (i + 1)) (xs (i + 2))) gL_law_X8_everywhere pk_X8_everywhere k_36 dL_law_1059 rfl rfl rfl rfl ⟨(Nat.le_of_ble_eq_true rfl), (Nat.le_of_ble_eq_true rfl)⟩ rfl rfl (Nat.le_of_ble_eq_true rfl) ⟨(Nat.le_of_ble_eq_true rfl), (Nat.le_of_ble_eq_true rfl)⟩ ?_
  rintro r2 u2 ⟨h2, hM2, hs2⟩
  have he := h1.symm.trans h2
  exact r_icmp_eq C dL_law_1062 (tgt := 1255) (by decide) (fun _ => K S u2 (hC1.smR hs2) hM2 hO) (fun h => absurd he h)
-- deviation
set_option maxHeartbeats 4000000 in
set_option maxRecDepth 100000 in
theorem law_c23 (C : Cx l g room_1 4 k cL_law wsL_law RL) (X : Lx b L xs k) (hL : L ≤ 2560) (hi : i + 5 ≤ L) (hC : RepC S u) (hM : RepM S u) (hO : Ok S) (K : LK k g ad b i) : G k 48 1418 (WW g ad u) 1067 [(0, .ref b), (1, .ref (ad 0)), (2, .ref (ad 36)), (3, .int (nI (i)))] [] := by
  refine r_aload_n C 1 dL_law_1067 rfl rfl ?_
  refine r_aload_n C 0 dL_law_1068 rfl rfl ?_
  refine r_iload_n C 3 dL_law_1069 rfl rfl ?_
  refine r_iconst C dL_law_1070 (v := nI 1) (by decide) ?_
  refine r_iaddN C dL_law_1071 ?_
  refine r_sld C X (by omega) hL dL_law_1072 ?_
  refine r_aload_n C 0 dL_law_1073 rfl rfl ?_
  refine r_iload_n C 3 dL_law_1074 rfl rfl ?_
  refine r_iconst C dL_law_1075 (v := nI 2) (by decide) ?_
  refine r_iaddN C dL_law_1076 ?_
  refine r_sld C X (by omega) hL dL_law_1077 ?_
  refine r_aload_n C 0 dL_law_1078 rfl rfl ?_
  refine r_iload_n C 3 dL_law_1079 rfl rfl ?_
  refine r_iconst C dL_law_1080 (v := nI 3) (by decide) ?_
  refine r_iaddN C dL_law_1081 ?_
  refine r_sld C X (by omega) hL dL_law_1082 ?_
  refine r_callVi C (rest := []) (c_X7_deviation l g ad u S hC hO (xs (i + 1)) (xs (i + 2)) (xs (i + 3))) gL_law_X7_deviation pk_X7_deviation k_0 dL_law_1083 rfl rfl rfl rfl ⟨(Nat.le_of_ble_eq_true rfl), (Nat.le_of_ble_eq_true rfl)⟩ rfl rfl (Nat.le_of_ble_eq_true rfl) ⟨(Nat.le_of_ble_eq_true rfl), (Nat.le_of_ble_eq_true rfl)⟩ ?_
  rintro r1 u1 ⟨h1, hC1, hs1⟩
  refine r_aload_n C 2 dL_law_1086 rfl rfl ?_
  refine r_aload_n C 0 dL_law_1087 rfl rfl ?_
  refine r_iload_n C 3 dL_law_1088 rfl rfl ?_
  refine r_iconst C dL_law_1089 (v := nI 1) (by decide) ?_
  refine r_iaddN C dL_law_1090 ?_
  refine r_sld C X (by omega) hL dL_law_1091 ?_
  refine r_aload_n C 0 dL_law_1092 rfl rfl ?_
  refine r_iload_n C 3 dL_law_1093 rfl rfl ?_
  refine r_iconst C dL_law_1094 (v := nI 2) (by decide) ?_
  refine r_iaddN C dL_law_1095 ?_
  refine r_sld C X (by omega) hL dL_law_1096 ?_
  refine r_aload_n C 0 dL_law_1097 rfl rfl ?_
  refine r_iload_n C 3 dL_law_1098 rfl rfl ?_
  refine r_iconst C dL_law_1099 (v := nI 3) (by decide) ?_
  refine r_iaddN C dL_law_1100 ?_
  refine r_sld C X (by omega) hL dL_law_1101 ?_
  refine r_callVi C (rest := [.int r1]) (c_X8_deviation l g ad u1 S (hM.smC hs1) hO (xs (i + 1)) (xs (i + 2)) (xs (i + 3))) gL_law_X8_deviation pk_X8_deviation k_36 dL_law_1102 rfl rfl rfl rfl ⟨(Nat.le_of_ble_eq_true rfl), (Nat.le_of_ble_eq_true rfl)⟩ rfl rfl (Nat.le_of_ble_eq_true rfl) ⟨(Nat.le_of_ble_eq_true rfl), (Nat.le_of_ble_eq_true rfl)⟩ ?_
  rintro r2 u2 ⟨h2, hM2, hs2⟩
  have he := h1.symm.trans h2
  exact r_icmp_eq C dL_law_1105 (tgt := 1255) (by decide) (fun _ => K S u2 (hC1.smR hs2) hM2 hO) (fun h => absurd he h)
-- resists
set_option maxHeartbeats 4000000 in
set_option maxRecDepth 100000 in
theorem law_c24 (C : Cx l g room_1 4 k cL_law wsL_law RL) (X : Lx b L xs k) (hL : L ≤ 2560) (hi : i + 5 ≤ L) (hC : RepC S u) (hM : RepM S u) (hO : Ok S) (K : LK k g ad b i) : G k 48 1418 (WW g ad u) 1110 [(0, .ref b), (1, .ref (ad 0)), (2, .ref (ad 36)), (3, .int (nI (i)))] [] := by
  refine r_aload_n C 1 dL_law_1110 rfl rfl ?_
  refine r_aload_n C 0 dL_law_1111 rfl rfl ?_
  refine r_iload_n C 3 dL_law_1112 rfl rfl ?_
  refine r_iconst C dL_law_1113 (v := nI 1) (by decide) ?_
  refine r_iaddN C dL_law_1114 ?_
  refine r_sld C X (by omega) hL dL_law_1115 ?_
  refine r_aload_n C 0 dL_law_1116 rfl rfl ?_
  refine r_iload_n C 3 dL_law_1117 rfl rfl ?_
  refine r_iconst C dL_law_1118 (v := nI 2) (by decide) ?_
  refine r_iaddN C dL_law_1119 ?_
  refine r_sld C X (by omega) hL dL_law_1120 ?_
  refine r_callVi C (rest := []) (c_X7_resists l g ad u S hC hO (xs (i + 1)) (xs (i + 2))) gL_law_X7_resists pk_X7_resists k_0 dL_law_1121 rfl rfl rfl rfl ⟨(Nat.le_of_ble_eq_true rfl), (Nat.le_of_ble_eq_true rfl)⟩ rfl rfl (Nat.le_of_ble_eq_true rfl) ⟨(Nat.le_of_ble_eq_true rfl), (Nat.le_of_ble_eq_true rfl)⟩ ?_
  rintro r1 u1 ⟨h1, hC1, hs1⟩
  refine r_aload_n C 2 dL_law_1124 rfl rfl ?_
  refine r_aload_n C 0 dL_law_1125 rfl rfl ?_
  refine r_iload_n C 3 dL_law_1126 rfl rfl ?_
  refine r_iconst C dL_law_1127 (v := nI 1) (by decide) ?_
  refine r_iaddN C dL_law_1128 ?_
  refine r_sld C X (by omega) hL dL_law_1129 ?_
  refine r_aload_n C 0 dL_law_1130 rfl rfl ?_
  refine r_iload_n C 3 dL_law_1131 rfl rfl ?_
  refine r_iconst C dL_law_1132 (v := nI 2) (by decide) ?_
  refine r_iaddN C dL_law_1133 ?_
  refine r_sld C X (by omega) hL dL_law_1134 ?_
  refine r_callVi C (rest := [.int r1]) (c_X8_resists l g ad u1 S (hM.smC hs1) hO (xs (i + 1)) (xs (i + 2))) gL_law_X8_resists pk_X8_resists k_36 dL_law_1135 rfl rfl rfl rfl ⟨(Nat.le_of_ble_eq_true rfl), (Nat.le_of_ble_eq_true rfl)⟩ rfl rfl (Nat.le_of_ble_eq_true rfl) ⟨(Nat.le_of_ble_eq_true rfl), (Nat.le_of_ble_eq_true rfl)⟩ ?_
  rintro r2 u2 ⟨h2, hM2, hs2⟩
  have he := h1.symm.trans h2
  exact r_icmp_eq C dL_law_1138 (tgt := 1255) (by decide) (fun _ => K S u2 (hC1.smR hs2) hM2 hO) (fun h => absurd he h)
-- invaders
set_option maxHeartbeats 4000000 in
set_option maxRecDepth 100000 in
theorem law_c25 (C : Cx l g room_1 4 k cL_law wsL_law RL) (X : Lx b L xs k) (hL : L ≤ 2560) (hi : i + 5 ≤ L) (hC : RepC S u) (hM : RepM S u) (hO : Ok S) (K : LK k g ad b i) : G k 48 1418 (WW g ad u) 1143 [(0, .ref b), (1, .ref (ad 0)), (2, .ref (ad 36)), (3, .int (nI (i)))] [] := by
  refine r_aload_n C 1 dL_law_1143 rfl rfl ?_
  refine r_aload_n C 0 dL_law_1144 rfl rfl ?_
  refine r_iload_n C 3 dL_law_1145 rfl rfl ?_
  refine r_iconst C dL_law_1146 (v := nI 1) (by decide) ?_
  refine r_iaddN C dL_law_1147 ?_
  refine r_sld C X (by omega) hL dL_law_1148 ?_
  refine r_callVi C (rest := []) (c_X7_invaders l g ad u S hC hO (xs (i + 1))) gL_law_X7_invaders pk_X7_invaders k_0 dL_law_1149 rfl rfl rfl rfl ⟨(Nat.le_of_ble_eq_true rfl), (Nat.le_of_ble_eq_true rfl)⟩ rfl rfl (Nat.le_of_ble_eq_true rfl) ⟨(Nat.le_of_ble_eq_true rfl), (Nat.le_of_ble_eq_true rfl)⟩ ?_
  rintro r1 u1 ⟨h1, hC1, hs1⟩
  refine r_aload_n C 2 dL_law_1152 rfl rfl ?_
  refine r_aload_n C 0 dL_law_1153 rfl rfl ?_
  refine r_iload_n C 3 dL_law_1154 rfl rfl ?_
  refine r_iconst C dL_law_1155 (v := nI 1) (by decide) ?_
  refine r_iaddN C dL_law_1156 ?_
  refine r_sld C X (by omega) hL dL_law_1157 ?_
  refine r_callVi C (rest := [.int r1]) (c_X8_invaders l g ad u1 S (hM.smC hs1) hO (xs (i + 1))) gL_law_X8_invaders pk_X8_invaders k_36 dL_law_1158 rfl rfl rfl rfl ⟨(Nat.le_of_ble_eq_true rfl), (Nat.le_of_ble_eq_true rfl)⟩ rfl rfl (Nat.le_of_ble_eq_true rfl) ⟨(Nat.le_of_ble_eq_true rfl), (Nat.le_of_ble_eq_true rfl)⟩ ?_
  rintro r2 u2 ⟨h2, hM2, hs2⟩
  have he := h1.symm.trans h2
  exact r_icmp_eq C dL_law_1161 (tgt := 1255) (by decide) (fun _ => K S u2 (hC1.smR hs2) hM2 hO) (fun h => absurd he h)
-- score
set_option maxHeartbeats 4000000 in
set_option maxRecDepth 100000 in
theorem law_c26 (C : Cx l g room_1 4 k cL_law wsL_law RL) (X : Lx b L xs k) (hL : L ≤ 2560) (hi : i + 5 ≤ L) (hC : RepC S u) (hM : RepM S u) (hO : Ok S) (K : LK k g ad b i) : G k 48 1418 (WW g ad u) 1166 [(0, .ref b), (1, .ref (ad 0)), (2, .ref (ad 36)), (3, .int (nI (i)))] [] := by
  refine r_aload_n C 1 dL_law_1166 rfl rfl ?_
  refine r_aload_n C 0 dL_law_1167 rfl rfl ?_
  refine r_iload_n C 3 dL_law_1168 rfl rfl ?_
  refine r_iconst C dL_law_1169 (v := nI 1) (by decide) ?_
  refine r_iaddN C dL_law_1170 ?_
  refine r_sld C X (by omega) hL dL_law_1171 ?_
  refine r_aload_n C 0 dL_law_1172 rfl rfl ?_
  refine r_iload_n C 3 dL_law_1173 rfl rfl ?_
  refine r_iconst C dL_law_1174 (v := nI 2) (by decide) ?_
  refine r_iaddN C dL_law_1175 ?_
  refine r_sld C X (by omega) hL dL_law_1176 ?_
  refine r_callVi C (rest := []) (c_X7_score l g ad u S hC hO (xs (i + 1)) (xs (i + 2))) gL_law_X7_score pk_X7_score k_0 dL_law_1177 rfl rfl rfl rfl ⟨(Nat.le_of_ble_eq_true rfl), (Nat.le_of_ble_eq_true rfl)⟩ rfl rfl (Nat.le_of_ble_eq_true rfl) ⟨(Nat.le_of_ble_eq_true rfl), (Nat.le_of_ble_eq_true rfl)⟩ ?_
  rintro r1 u1 ⟨h1, hC1, hs1⟩
  refine r_aload_n C 2 dL_law_1180 rfl rfl ?_
  refine r_aload_n C 0 dL_law_1181 rfl rfl ?_
  refine r_iload_n C 3 dL_law_1182 rfl rfl ?_
  refine r_iconst C dL_law_1183 (v := nI 1) (by decide) ?_
  refine r_iaddN C dL_law_1184 ?_
  refine r_sld C X (by omega) hL dL_law_1185 ?_
  refine r_aload_n C 0 dL_law_1186 rfl rfl ?_
  refine r_iload_n C 3 dL_law_1187 rfl rfl ?_
  refine r_iconst C dL_law_1188 (v := nI 2) (by decide) ?_
  refine r_iaddN C dL_law_1189 ?_
  refine r_sld C X (by omega) hL dL_law_1190 ?_
  refine r_callVi C (rest := [.int r1]) (c_X8_score l g ad u1 S (hM.smC hs1) hO (xs (i + 1)) (xs (i + 2))) gL_law_X8_score pk_X8_score k_36 dL_law_1191 rfl rfl rfl rfl ⟨(Nat.le_of_ble_eq_true rfl), (Nat.le_of_ble_eq_true rfl)⟩ rfl rfl (Nat.le_of_ble_eq_true rfl) ⟨(Nat.le_of_ble_eq_true rfl), (Nat.le_of_ble_eq_true rfl)⟩ ?_
  rintro r2 u2 ⟨h2, hM2, hs2⟩
  have he := h1.symm.trans h2
  exact r_icmp_eq C dL_law_1194 (tgt := 1255) (by decide) (fun _ => K S u2 (hC1.smR hs2) hM2 hO) (fun h => absurd he h)
-- place
set_option maxHeartbeats 4000000 in
set_option maxRecDepth 100000 in
theorem law_c27 (C : Cx l g room_1 4 k cL_law wsL_law RL) (X : Lx b L xs k) (hL : L ≤ 2560) (hi : i + 5 ≤ L) (hC : RepC S u) (hM : RepM S u) (hO : Ok S) (K : LK k g ad b i) : G k 48 1418 (WW g ad u) 1199 [(0, .ref b), (1, .ref (ad 0)), (2, .ref (ad 36)), (3, .int (nI (i)))] [] := by
  refine r_aload_n C 1 dL_law_1199 rfl rfl ?_
  refine r_aload_n C 0 dL_law_1200 rfl rfl ?_
  refine r_iload_n C 3 dL_law_1201 rfl rfl ?_
  refine r_iconst C dL_law_1202 (v := nI 1) (by decide) ?_
  refine r_iaddN C dL_law_1203 ?_
  refine r_sld C X (by omega) hL dL_law_1204 ?_
  refine r_aload_n C 0 dL_law_1205 rfl rfl ?_
  refine r_iload_n C 3 dL_law_1206 rfl rfl ?_
  refine r_iconst C dL_law_1207 (v := nI 2) (by decide) ?_
  refine r_iaddN C dL_law_1208 ?_
  refine r_sld C X (by omega) hL dL_law_1209 ?_
  refine r_callVi C (rest := []) (c_X7_place l g ad u S hC hO (xs (i + 1)) (xs (i + 2))) gL_law_X7_place pk_X7_place k_0 dL_law_1210 rfl rfl rfl rfl ⟨(Nat.le_of_ble_eq_true rfl), (Nat.le_of_ble_eq_true rfl)⟩ rfl rfl (Nat.le_of_ble_eq_true rfl) ⟨(Nat.le_of_ble_eq_true rfl), (Nat.le_of_ble_eq_true rfl)⟩ ?_
  rintro r1 u1 ⟨h1, hC1, hs1⟩
  refine r_aload_n C 2 dL_law_1213 rfl rfl ?_
  refine r_aload_n C 0 dL_law_1214 rfl rfl ?_
  refine r_iload_n C 3 dL_law_1215 rfl rfl ?_
  refine r_iconst C dL_law_1216 (v := nI 1) (by decide) ?_
  refine r_iaddN C dL_law_1217 ?_
  refine r_sld C X (by omega) hL dL_law_1218 ?_
  refine r_aload_n C 0 dL_law_1219 rfl rfl ?_
  refine r_iload_n C 3 dL_law_1220 rfl rfl ?_
  refine r_iconst C dL_law_1221 (v := nI 2) (by decide) ?_
  refine r_iaddN C dL_law_1222 ?_
  refine r_sld C X (by omega) hL dL_law_1223 ?_
  refine r_callVi C (rest := [.int r1]) (c_X8_place l g ad u1 S (hM.smC hs1) hO (xs (i + 1)) (xs (i + 2))) gL_law_X8_place pk_X8_place k_36 dL_law_1224 rfl rfl rfl rfl ⟨(Nat.le_of_ble_eq_true rfl), (Nat.le_of_ble_eq_true rfl)⟩ rfl rfl (Nat.le_of_ble_eq_true rfl) ⟨(Nat.le_of_ble_eq_true rfl), (Nat.le_of_ble_eq_true rfl)⟩ ?_
  rintro r2 u2 ⟨h2, hM2, hs2⟩
  have he := h1.symm.trans h2
  exact r_icmp_eq C dL_law_1227 (tgt := 1255) (by decide) (fun _ => K S u2 (hC1.smR hs2) hM2 hO) (fun h => absurd he h)
-- count
set_option maxHeartbeats 4000000 in
set_option maxRecDepth 100000 in
theorem law_c28 (C : Cx l g room_1 4 k cL_law wsL_law RL) (X : Lx b L xs k) (hL : L ≤ 2560) (hi : i + 5 ≤ L) (hC : RepC S u) (hM : RepM S u) (hO : Ok S) (K : LK k g ad b i) : G k 48 1418 (WW g ad u) 1232 [(0, .ref b), (1, .ref (ad 0)), (2, .ref (ad 36)), (3, .int (nI (i)))] [] := by
  refine r_aload_n C 1 dL_law_1232 rfl rfl ?_
  refine r_aload_n C 0 dL_law_1233 rfl rfl ?_
  refine r_iload_n C 3 dL_law_1234 rfl rfl ?_
  refine r_iconst C dL_law_1235 (v := nI 1) (by decide) ?_
  refine r_iaddN C dL_law_1236 ?_
  refine r_sld C X (by omega) hL dL_law_1237 ?_
  refine r_callVi C (rest := []) (c_X7_count l g ad u S hC hO (xs (i + 1))) gL_law_X7_count pk_X7_count k_0 dL_law_1238 rfl rfl rfl rfl ⟨(Nat.le_of_ble_eq_true rfl), (Nat.le_of_ble_eq_true rfl)⟩ rfl rfl (Nat.le_of_ble_eq_true rfl) ⟨(Nat.le_of_ble_eq_true rfl), (Nat.le_of_ble_eq_true rfl)⟩ ?_
  rintro r1 u1 ⟨h1, hC1, hs1⟩
  refine r_aload_n C 2 dL_law_1241 rfl rfl ?_
  refine r_aload_n C 0 dL_law_1242 rfl rfl ?_
  refine r_iload_n C 3 dL_law_1243 rfl rfl ?_
  refine r_iconst C dL_law_1244 (v := nI 1) (by decide) ?_
  refine r_iaddN C dL_law_1245 ?_
  refine r_sld C X (by omega) hL dL_law_1246 ?_
  refine r_callVi C (rest := [.int r1]) (c_X8_count l g ad u1 S (hM.smC hs1) hO (xs (i + 1))) gL_law_X8_count pk_X8_count k_36 dL_law_1247 rfl rfl rfl rfl ⟨(Nat.le_of_ble_eq_true rfl), (Nat.le_of_ble_eq_true rfl)⟩ rfl rfl (Nat.le_of_ble_eq_true rfl) ⟨(Nat.le_of_ble_eq_true rfl), (Nat.le_of_ble_eq_true rfl)⟩ ?_
  rintro r2 u2 ⟨h2, hM2, hs2⟩
  have he := h1.symm.trans h2
  exact r_icmp_eq C dL_law_1250 (tgt := 1255) (by decide) (fun _ => K S u2 (hC1.smR hs2) hM2 hO) (fun h => absurd he h)
end LC
