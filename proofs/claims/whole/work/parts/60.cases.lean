/-! ===== the law, case by case (law.py) ===== -/
set_option maxHeartbeats 4000000 in
set_option maxRecDepth 100000 in
theorem law_c0 {b N : Nat} {xs : Nat → Int32} {l : Launch} {G : kG} {J : kJ} (hW : MachW b N xs l G J) (hN : N ≤ 3072) {I : kI} {L : kL} {X : kX} {A : kA} (hI : LI I L X A) {i : Nat} (hi : i + 6 ≤ N) (kk : ∀ (I9 : kI) (L9 : kL) (X9 : kX) (A9 : kA), LI I9 L9 X9 A9 → J 159 I9 L9 X9 1033 (lwv b G i) []) : J 159 I L X 180 (lwv b G i) [] := by
  have hM := hW.to
  obtain ⟨hC, hR, hA, hX⟩ := hI
  refine q_aload_n hM dL_law_180 rfl ?_
  refine q_arg hW hN 1 rfl rfl rfl (by omega) rfl rfl rfl rfl rfl dL_law_181 dL_law_182 dL_law_183 dL_law_184 dL_law_185 ?_
  refine q_arg hW hN 2 rfl rfl rfl (by omega) rfl rfl rfl rfl rfl dL_law_186 dL_law_187 dL_law_188 dL_law_189 dL_law_190 ?_
  refine callV_i hM mi_X6_setPressure lk_L_13 cf_X6 (by decide) (by decide) (c_X6_setPressure l G hC hA (xs (i + 1)) (xs (i + 2))) rfl rfl (by decide) (Nat.le_refl _) (by decide) (Nat.le_of_ble_eq_true rfl) dL_law_191 (fun v1 I1 L1 X1 hp1 => ?_)
  obtain ⟨hv1, hC1, hF1⟩ := hp1
  subst hv1
  have hR1 := hR.frM hF1
  refine q_aload_n hM dL_law_194 rfl ?_
  refine q_arg hW hN 1 rfl rfl rfl (by omega) rfl rfl rfl rfl rfl dL_law_195 dL_law_196 dL_law_197 dL_law_198 dL_law_199 ?_
  refine q_arg hW hN 2 rfl rfl rfl (by omega) rfl rfl rfl rfl rfl dL_law_200 dL_law_201 dL_law_202 dL_law_203 dL_law_204 ?_
  refine callV_i hM mi_X7_setPressure lk_L_17 cf_X7 (by decide) (by decide) (c_X7_setPressure l G hR1 hA (xs (i + 1)) (xs (i + 2))) rfl rfl (by decide) (Nat.le_refl _) (by decide) (Nat.le_of_ble_eq_true rfl) dL_law_205 (fun v2 I2 L2 X2 hp2 => ?_)
  obtain ⟨hv2, hR2, hF2⟩ := hp2
  subst hv2
  have hA2 := inv_setPressure hA (xs (i + 1)) (xs (i + 2))
  have hX2 := tx_setPressure (xs (i + 1)) (xs (i + 2)) hX
  refine q_icmp_eq (tgt := 1033) hM dL_law_208 (by decide) (fun _ => ?_) (fun c => absurd rfl c)
  exact kk _ _ _ _ ⟨(hC1.frC hA2 hF2), hR2, hA2, hX2⟩
set_option maxHeartbeats 4000000 in
set_option maxRecDepth 100000 in
theorem law_c1 {b N : Nat} {xs : Nat → Int32} {l : Launch} {G : kG} {J : kJ} (hW : MachW b N xs l G J) (hN : N ≤ 3072) {I : kI} {L : kL} {X : kX} {A : kA} (hI : LI I L X A) {i : Nat} (hi : i + 6 ≤ N) (kk : ∀ (I9 : kI) (L9 : kL) (X9 : kX) (A9 : kA), LI I9 L9 X9 A9 → J 159 I9 L9 X9 1033 (lwv b G i) []) : J 159 I L X 213 (lwv b G i) [] := by
  have hM := hW.to
  obtain ⟨hC, hR, hA, hX⟩ := hI
  refine q_aload_n hM dL_law_213 rfl ?_
  refine q_arg hW hN 1 rfl rfl rfl (by omega) rfl rfl rfl rfl rfl dL_law_214 dL_law_215 dL_law_216 dL_law_217 dL_law_218 ?_
  refine callV_i hM mi_X6_addLine lk_L_18 cf_X6 (by decide) (by decide) (c_X6_addLine l G hC hA (xs (i + 1))) rfl rfl (by decide) (Nat.le_refl _) (by decide) (Nat.le_of_ble_eq_true rfl) dL_law_219 (fun v1 I1 L1 X1 hp1 => ?_)
  obtain ⟨hv1, hC1, hF1⟩ := hp1
  subst hv1
  have hR1 := hR.frM hF1
  refine q_aload_n hM dL_law_222 rfl ?_
  refine q_arg hW hN 1 rfl rfl rfl (by omega) rfl rfl rfl rfl rfl dL_law_223 dL_law_224 dL_law_225 dL_law_226 dL_law_227 ?_
  refine callV_i hM mi_X7_addLine lk_L_22 cf_X7 (by decide) (by decide) (c_X7_addLine l G hR1 hA (xs (i + 1))) rfl rfl (by decide) (Nat.le_refl _) (by decide) (Nat.le_of_ble_eq_true rfl) dL_law_228 (fun v2 I2 L2 X2 hp2 => ?_)
  obtain ⟨hv2, hR2, hF2⟩ := hp2
  subst hv2
  have hA2 := inv_addLine hA (xs (i + 1))
  have hX2 := tx_addLine (xs (i + 1)) hX
  refine q_icmp_eq (tgt := 1033) hM dL_law_231 (by decide) (fun _ => ?_) (fun c => absurd rfl c)
  exact kk _ _ _ _ ⟨(hC1.frC hA2 hF2), hR2, hA2, hX2⟩
set_option maxHeartbeats 4000000 in
set_option maxRecDepth 100000 in
theorem law_c2 {b N : Nat} {xs : Nat → Int32} {l : Launch} {G : kG} {J : kJ} (hW : MachW b N xs l G J) (hN : N ≤ 3072) {I : kI} {L : kL} {X : kX} {A : kA} (hI : LI I L X A) {i : Nat} (hi : i + 6 ≤ N) (kk : ∀ (I9 : kI) (L9 : kL) (X9 : kX) (A9 : kA), LI I9 L9 X9 A9 → J 159 I9 L9 X9 1033 (lwv b G i) []) : J 159 I L X 236 (lwv b G i) [] := by
  have hM := hW.to
  obtain ⟨hC, hR, hA, hX⟩ := hI
  refine q_aload_n hM dL_law_236 rfl ?_
  refine q_arg hW hN 1 rfl rfl rfl (by omega) rfl rfl rfl rfl rfl dL_law_237 dL_law_238 dL_law_239 dL_law_240 dL_law_241 ?_
  refine q_arg hW hN 2 rfl rfl rfl (by omega) rfl rfl rfl rfl rfl dL_law_242 dL_law_243 dL_law_244 dL_law_245 dL_law_246 ?_
  refine q_arg hW hN 3 rfl rfl rfl (by omega) rfl rfl rfl rfl rfl dL_law_247 dL_law_248 dL_law_249 dL_law_250 dL_law_251 ?_
  refine q_arg hW hN 4 rfl rfl rfl (by omega) rfl rfl rfl rfl rfl dL_law_252 dL_law_253 dL_law_254 dL_law_255 dL_law_256 ?_
  refine q_arg hW hN 5 rfl rfl rfl (by omega) rfl rfl rfl rfl rfl dL_law_257 dL_law_258 dL_law_259 dL_law_260 dL_law_261 ?_
  refine callV_i hM mi_X6_addTrap lk_L_23 cf_X6 (by decide) (by decide) (c_X6_addTrap l G hC hA (xs (i + 1)) (xs (i + 2)) (xs (i + 3)) (xs (i + 4)) (xs (i + 5))) rfl rfl (by decide) (Nat.le_refl _) (by decide) (Nat.le_of_ble_eq_true rfl) dL_law_262 (fun v1 I1 L1 X1 hp1 => ?_)
  obtain ⟨hv1, hC1, hF1⟩ := hp1
  subst hv1
  have hR1 := hR.frM hF1
  refine q_aload_n hM dL_law_265 rfl ?_
  refine q_arg hW hN 1 rfl rfl rfl (by omega) rfl rfl rfl rfl rfl dL_law_266 dL_law_267 dL_law_268 dL_law_269 dL_law_270 ?_
  refine q_arg hW hN 2 rfl rfl rfl (by omega) rfl rfl rfl rfl rfl dL_law_271 dL_law_272 dL_law_273 dL_law_274 dL_law_275 ?_
  refine q_arg hW hN 3 rfl rfl rfl (by omega) rfl rfl rfl rfl rfl dL_law_276 dL_law_277 dL_law_278 dL_law_279 dL_law_280 ?_
  refine q_arg hW hN 4 rfl rfl rfl (by omega) rfl rfl rfl rfl rfl dL_law_281 dL_law_282 dL_law_283 dL_law_284 dL_law_285 ?_
  refine q_arg hW hN 5 rfl rfl rfl (by omega) rfl rfl rfl rfl rfl dL_law_286 dL_law_287 dL_law_288 dL_law_289 dL_law_290 ?_
  refine callV_i hM mi_X7_addTrap lk_L_27 cf_X7 (by decide) (by decide) (c_X7_addTrap l G hR1 hA (xs (i + 1)) (xs (i + 2)) (xs (i + 3)) (xs (i + 4)) (xs (i + 5))) rfl rfl (by decide) (Nat.le_refl _) (by decide) (Nat.le_of_ble_eq_true rfl) dL_law_291 (fun v2 I2 L2 X2 hp2 => ?_)
  obtain ⟨hv2, hR2, hF2⟩ := hp2
  subst hv2
  have hA2 := inv_addTrap hA (xs (i + 1)) (xs (i + 2)) (xs (i + 3)) (xs (i + 4)) (xs (i + 5))
  have hX2 := tx_addTrap (xs (i + 1)) (xs (i + 2)) (xs (i + 3)) (xs (i + 4)) (xs (i + 5)) hX
  refine q_icmp_eq (tgt := 1033) hM dL_law_294 (by decide) (fun _ => ?_) (fun c => absurd rfl c)
  exact kk _ _ _ _ ⟨(hC1.frC hA2 hF2), hR2, hA2, hX2⟩
set_option maxHeartbeats 4000000 in
set_option maxRecDepth 100000 in
theorem law_c3 {b N : Nat} {xs : Nat → Int32} {l : Launch} {G : kG} {J : kJ} (hW : MachW b N xs l G J) (hN : N ≤ 3072) {I : kI} {L : kL} {X : kX} {A : kA} (hI : LI I L X A) {i : Nat} (hi : i + 6 ≤ N) (kk : ∀ (I9 : kI) (L9 : kL) (X9 : kX) (A9 : kA), LI I9 L9 X9 A9 → J 159 I9 L9 X9 1033 (lwv b G i) []) : J 159 I L X 299 (lwv b G i) [] := by
  have hM := hW.to
  obtain ⟨hC, hR, hA, hX⟩ := hI
  refine q_aload_n hM dL_law_299 rfl ?_
  refine q_arg hW hN 1 rfl rfl rfl (by omega) rfl rfl rfl rfl rfl dL_law_300 dL_law_301 dL_law_302 dL_law_303 dL_law_304 ?_
  refine q_arg hW hN 2 rfl rfl rfl (by omega) rfl rfl rfl rfl rfl dL_law_305 dL_law_306 dL_law_307 dL_law_308 dL_law_309 ?_
  refine callV_i hM mi_X6_moveLine lk_L_28 cf_X6 (by decide) (by decide) (c_X6_moveLine l G hC hA (xs (i + 1)) (xs (i + 2))) rfl rfl (by decide) (Nat.le_refl _) (by decide) (Nat.le_of_ble_eq_true rfl) dL_law_310 (fun v1 I1 L1 X1 hp1 => ?_)
  obtain ⟨hv1, hC1, hF1⟩ := hp1
  subst hv1
  have hR1 := hR.frM hF1
  refine q_aload_n hM dL_law_313 rfl ?_
  refine q_arg hW hN 1 rfl rfl rfl (by omega) rfl rfl rfl rfl rfl dL_law_314 dL_law_315 dL_law_316 dL_law_317 dL_law_318 ?_
  refine q_arg hW hN 2 rfl rfl rfl (by omega) rfl rfl rfl rfl rfl dL_law_319 dL_law_320 dL_law_321 dL_law_322 dL_law_323 ?_
  refine callV_i hM mi_X7_moveLine lk_L_31 cf_X7 (by decide) (by decide) (c_X7_moveLine l G hR1 hA (xs (i + 1)) (xs (i + 2))) rfl rfl (by decide) (Nat.le_refl _) (by decide) (Nat.le_of_ble_eq_true rfl) dL_law_324 (fun v2 I2 L2 X2 hp2 => ?_)
  obtain ⟨hv2, hR2, hF2⟩ := hp2
  subst hv2
  have hA2 := inv_moveLine hA (xs (i + 1)) (xs (i + 2))
  have hX2 := tx_moveLine (xs (i + 1)) (xs (i + 2)) hX
  refine q_icmp_eq (tgt := 1033) hM dL_law_327 (by decide) (fun _ => ?_) (fun c => absurd rfl c)
  exact kk _ _ _ _ ⟨(hC1.frC hA2 hF2), hR2, hA2, hX2⟩
set_option maxHeartbeats 4000000 in
set_option maxRecDepth 100000 in
theorem law_c4 {b N : Nat} {xs : Nat → Int32} {l : Launch} {G : kG} {J : kJ} (hW : MachW b N xs l G J) (hN : N ≤ 3072) {I : kI} {L : kL} {X : kX} {A : kA} (hI : LI I L X A) {i : Nat} (hi : i + 6 ≤ N) (kk : ∀ (I9 : kI) (L9 : kL) (X9 : kX) (A9 : kA), LI I9 L9 X9 A9 → J 159 I9 L9 X9 1033 (lwv b G i) []) : J 159 I L X 332 (lwv b G i) [] := by
  have hM := hW.to
  obtain ⟨hC, hR, hA, hX⟩ := hI
  refine q_aload_n hM dL_law_332 rfl ?_
  refine q_arg hW hN 1 rfl rfl rfl (by omega) rfl rfl rfl rfl rfl dL_law_333 dL_law_334 dL_law_335 dL_law_336 dL_law_337 ?_
  refine q_arg hW hN 2 rfl rfl rfl (by omega) rfl rfl rfl rfl rfl dL_law_338 dL_law_339 dL_law_340 dL_law_341 dL_law_342 ?_
  refine q_arg hW hN 3 rfl rfl rfl (by omega) rfl rfl rfl rfl rfl dL_law_343 dL_law_344 dL_law_345 dL_law_346 dL_law_347 ?_
  refine callV_i hM mi_X6_setWork lk_L_32 cf_X6 (by decide) (by decide) (c_X6_setWork l G hC hA (xs (i + 1)) (xs (i + 2)) (xs (i + 3))) rfl rfl (by decide) (Nat.le_refl _) (by decide) (Nat.le_of_ble_eq_true rfl) dL_law_348 (fun v1 I1 L1 X1 hp1 => ?_)
  obtain ⟨hv1, hC1, hF1⟩ := hp1
  subst hv1
  have hR1 := hR.frM hF1
  refine q_aload_n hM dL_law_351 rfl ?_
  refine q_arg hW hN 1 rfl rfl rfl (by omega) rfl rfl rfl rfl rfl dL_law_352 dL_law_353 dL_law_354 dL_law_355 dL_law_356 ?_
  refine q_arg hW hN 2 rfl rfl rfl (by omega) rfl rfl rfl rfl rfl dL_law_357 dL_law_358 dL_law_359 dL_law_360 dL_law_361 ?_
  refine q_arg hW hN 3 rfl rfl rfl (by omega) rfl rfl rfl rfl rfl dL_law_362 dL_law_363 dL_law_364 dL_law_365 dL_law_366 ?_
  refine callV_i hM mi_X7_setWork lk_L_36 cf_X7 (by decide) (by decide) (c_X7_setWork l G hR1 hA (xs (i + 1)) (xs (i + 2)) (xs (i + 3))) rfl rfl (by decide) (Nat.le_refl _) (by decide) (Nat.le_of_ble_eq_true rfl) dL_law_367 (fun v2 I2 L2 X2 hp2 => ?_)
  obtain ⟨hv2, hR2, hF2⟩ := hp2
  subst hv2
  have hA2 := inv_setWork hA (xs (i + 1)) (xs (i + 2)) (xs (i + 3))
  have hX2 := tx_setWork (xs (i + 1)) (xs (i + 2)) (xs (i + 3)) hX
  refine q_icmp_eq (tgt := 1033) hM dL_law_370 (by decide) (fun _ => ?_) (fun c => absurd rfl c)
  exact kk _ _ _ _ ⟨(hC1.frC hA2 hF2), hR2, hA2, hX2⟩
set_option maxHeartbeats 4000000 in
set_option maxRecDepth 100000 in
theorem law_c5 {b N : Nat} {xs : Nat → Int32} {l : Launch} {G : kG} {J : kJ} (hW : MachW b N xs l G J) (hN : N ≤ 3072) {I : kI} {L : kL} {X : kX} {A : kA} (hI : LI I L X A) {i : Nat} (hi : i + 6 ≤ N) (kk : ∀ (I9 : kI) (L9 : kL) (X9 : kX) (A9 : kA), LI I9 L9 X9 A9 → J 159 I9 L9 X9 1033 (lwv b G i) []) : J 159 I L X 375 (lwv b G i) [] := by
  have hM := hW.to
  obtain ⟨hC, hR, hA, hX⟩ := hI
  refine q_aload_n hM dL_law_375 rfl ?_
  refine q_arg hW hN 1 rfl rfl rfl (by omega) rfl rfl rfl rfl rfl dL_law_376 dL_law_377 dL_law_378 dL_law_379 dL_law_380 ?_
  refine callVe_i hM mi_X6_count lk_L_37 cf_X6 (by decide) (by decide) (c_X6_count l G hC hA (xs (i + 1))) rfl rfl (by decide) (Nat.le_refl _) (by decide) (Nat.le_of_ble_eq_true rfl) dL_law_381 ?_
  refine q_aload_n hM dL_law_384 rfl ?_
  refine q_arg hW hN 1 rfl rfl rfl (by omega) rfl rfl rfl rfl rfl dL_law_385 dL_law_386 dL_law_387 dL_law_388 dL_law_389 ?_
  refine callVe_i hM mi_X7_count lk_L_40 cf_X7 (by decide) (by decide) (c_X7_count l G hR hA (xs (i + 1))) rfl rfl (by decide) (Nat.le_refl _) (by decide) (Nat.le_of_ble_eq_true rfl) dL_law_390 ?_
  refine q_icmp_eq (tgt := 1033) hM dL_law_393 (by decide) (fun _ => ?_) (fun c => absurd rfl c)
  exact kk _ _ _ _ ⟨hC, hR, hA, hX⟩
set_option maxHeartbeats 4000000 in
set_option maxRecDepth 100000 in
theorem law_c6 {b N : Nat} {xs : Nat → Int32} {l : Launch} {G : kG} {J : kJ} (hW : MachW b N xs l G J) (hN : N ≤ 3072) {I : kI} {L : kL} {X : kX} {A : kA} (hI : LI I L X A) {i : Nat} (hi : i + 6 ≤ N) (kk : ∀ (I9 : kI) (L9 : kL) (X9 : kX) (A9 : kA), LI I9 L9 X9 A9 → J 159 I9 L9 X9 1033 (lwv b G i) []) : J 159 I L X 398 (lwv b G i) [] := by
  have hM := hW.to
  obtain ⟨hC, hR, hA, hX⟩ := hI
  refine q_aload_n hM dL_law_398 rfl ?_
  refine q_arg hW hN 1 rfl rfl rfl (by omega) rfl rfl rfl rfl rfl dL_law_399 dL_law_400 dL_law_401 dL_law_402 dL_law_403 ?_
  refine q_arg hW hN 2 rfl rfl rfl (by omega) rfl rfl rfl rfl rfl dL_law_404 dL_law_405 dL_law_406 dL_law_407 dL_law_408 ?_
  refine callVe_i hM mi_X6_trap lk_L_41 cf_X6 (by decide) (by decide) (c_X6_trap l G hC hA (xs (i + 1)) (xs (i + 2))) rfl rfl (by decide) (Nat.le_refl _) (by decide) (Nat.le_of_ble_eq_true rfl) dL_law_409 ?_
  refine q_aload_n hM dL_law_412 rfl ?_
  refine q_arg hW hN 1 rfl rfl rfl (by omega) rfl rfl rfl rfl rfl dL_law_413 dL_law_414 dL_law_415 dL_law_416 dL_law_417 ?_
  refine q_arg hW hN 2 rfl rfl rfl (by omega) rfl rfl rfl rfl rfl dL_law_418 dL_law_419 dL_law_420 dL_law_421 dL_law_422 ?_
  refine callVe_i hM mi_X7_trap lk_L_44 cf_X7 (by decide) (by decide) (c_X7_trap l G hR hA (xs (i + 1)) (xs (i + 2))) rfl rfl (by decide) (Nat.le_refl _) (by decide) (Nat.le_of_ble_eq_true rfl) dL_law_423 ?_
  refine q_icmp_eq (tgt := 1033) hM dL_law_426 (by decide) (fun _ => ?_) (fun c => absurd rfl c)
  exact kk _ _ _ _ ⟨hC, hR, hA, hX⟩
set_option maxHeartbeats 4000000 in
set_option maxRecDepth 100000 in
theorem law_c7 {b N : Nat} {xs : Nat → Int32} {l : Launch} {G : kG} {J : kJ} (hW : MachW b N xs l G J) (hN : N ≤ 3072) {I : kI} {L : kL} {X : kX} {A : kA} (hI : LI I L X A) {i : Nat} (hi : i + 6 ≤ N) (kk : ∀ (I9 : kI) (L9 : kL) (X9 : kX) (A9 : kA), LI I9 L9 X9 A9 → J 159 I9 L9 X9 1033 (lwv b G i) []) : J 159 I L X 431 (lwv b G i) [] := by
  have hM := hW.to
  obtain ⟨hC, hR, hA, hX⟩ := hI
  refine q_aload_n hM dL_law_431 rfl ?_
  refine q_arg hW hN 1 rfl rfl rfl (by omega) rfl rfl rfl rfl rfl dL_law_432 dL_law_433 dL_law_434 dL_law_435 dL_law_436 ?_
  refine callVe_i hM mi_X6_headerOf lk_L_45 cf_X6 (by decide) (by decide) (c_X6_headerOf l G hC hA (xs (i + 1))) rfl rfl (by decide) (Nat.le_refl _) (by decide) (Nat.le_of_ble_eq_true rfl) dL_law_437 ?_
  refine q_aload_n hM dL_law_440 rfl ?_
  refine q_arg hW hN 1 rfl rfl rfl (by omega) rfl rfl rfl rfl rfl dL_law_441 dL_law_442 dL_law_443 dL_law_444 dL_law_445 ?_
  refine callVe_i hM mi_X7_headerOf lk_L_48 cf_X7 (by decide) (by decide) (c_X7_headerOf l G hR hA (xs (i + 1))) rfl rfl (by decide) (Nat.le_refl _) (by decide) (Nat.le_of_ble_eq_true rfl) dL_law_446 ?_
  refine q_icmp_eq (tgt := 1033) hM dL_law_449 (by decide) (fun _ => ?_) (fun c => absurd rfl c)
  exact kk _ _ _ _ ⟨hC, hR, hA, hX⟩
set_option maxHeartbeats 4000000 in
set_option maxRecDepth 100000 in
theorem law_c8 {b N : Nat} {xs : Nat → Int32} {l : Launch} {G : kG} {J : kJ} (hW : MachW b N xs l G J) (hN : N ≤ 3072) {I : kI} {L : kL} {X : kX} {A : kA} (hI : LI I L X A) {i : Nat} (hi : i + 6 ≤ N) (kk : ∀ (I9 : kI) (L9 : kL) (X9 : kX) (A9 : kA), LI I9 L9 X9 A9 → J 159 I9 L9 X9 1033 (lwv b G i) []) : J 159 I L X 454 (lwv b G i) [] := by
  have hM := hW.to
  obtain ⟨hC, hR, hA, hX⟩ := hI
  refine q_aload_n hM dL_law_454 rfl ?_
  refine q_arg hW hN 1 rfl rfl rfl (by omega) rfl rfl rfl rfl rfl dL_law_455 dL_law_456 dL_law_457 dL_law_458 dL_law_459 ?_
  refine callVe_i hM mi_X6_pressure lk_L_49 cf_X6 (by decide) (by decide) (c_X6_pressure l G hC hA (xs (i + 1))) rfl rfl (by decide) (Nat.le_refl _) (by decide) (Nat.le_of_ble_eq_true rfl) dL_law_460 ?_
  refine q_aload_n hM dL_law_463 rfl ?_
  refine q_arg hW hN 1 rfl rfl rfl (by omega) rfl rfl rfl rfl rfl dL_law_464 dL_law_465 dL_law_466 dL_law_467 dL_law_468 ?_
  refine callVe_i hM mi_X7_pressure lk_L_52 cf_X7 (by decide) (by decide) (c_X7_pressure l G hR hA (xs (i + 1))) rfl rfl (by decide) (Nat.le_refl _) (by decide) (Nat.le_of_ble_eq_true rfl) dL_law_469 ?_
  refine q_icmp_eq (tgt := 1033) hM dL_law_472 (by decide) (fun _ => ?_) (fun c => absurd rfl c)
  exact kk _ _ _ _ ⟨hC, hR, hA, hX⟩
set_option maxHeartbeats 4000000 in
set_option maxRecDepth 100000 in
theorem law_c9 {b N : Nat} {xs : Nat → Int32} {l : Launch} {G : kG} {J : kJ} (hW : MachW b N xs l G J) (hN : N ≤ 3072) {I : kI} {L : kL} {X : kX} {A : kA} (hI : LI I L X A) {i : Nat} (hi : i + 6 ≤ N) (kk : ∀ (I9 : kI) (L9 : kL) (X9 : kX) (A9 : kA), LI I9 L9 X9 A9 → J 159 I9 L9 X9 1033 (lwv b G i) []) : J 159 I L X 477 (lwv b G i) [] := by
  have hM := hW.to
  obtain ⟨hC, hR, hA, hX⟩ := hI
  refine q_aload_n hM dL_law_477 rfl ?_
  refine q_arg hW hN 1 rfl rfl rfl (by omega) rfl rfl rfl rfl rfl dL_law_478 dL_law_479 dL_law_480 dL_law_481 dL_law_482 ?_
  refine q_arg hW hN 2 rfl rfl rfl (by omega) rfl rfl rfl rfl rfl dL_law_483 dL_law_484 dL_law_485 dL_law_486 dL_law_487 ?_
  refine q_arg hW hN 3 rfl rfl rfl (by omega) rfl rfl rfl rfl rfl dL_law_488 dL_law_489 dL_law_490 dL_law_491 dL_law_492 ?_
  refine q_arg hW hN 4 rfl rfl rfl (by omega) rfl rfl rfl rfl rfl dL_law_493 dL_law_494 dL_law_495 dL_law_496 dL_law_497 ?_
  refine callV_i hM mi_X6_read lk_L_53 cf_X6 (by decide) (by decide) (c_X6_read l G hC hA (xs (i + 1)) (xs (i + 2)) (xs (i + 3)) (xs (i + 4))) rfl rfl (by decide) (Nat.le_refl _) (by decide) (Nat.le_of_ble_eq_true rfl) dL_law_498 (fun v1 I1 L1 X1 hp1 => ?_)
  obtain ⟨hv1, hC1, hF1⟩ := hp1
  subst hv1
  have hR1 := hR.frM hF1
  refine q_aload_n hM dL_law_501 rfl ?_
  refine q_arg hW hN 1 rfl rfl rfl (by omega) rfl rfl rfl rfl rfl dL_law_502 dL_law_503 dL_law_504 dL_law_505 dL_law_506 ?_
  refine q_arg hW hN 2 rfl rfl rfl (by omega) rfl rfl rfl rfl rfl dL_law_507 dL_law_508 dL_law_509 dL_law_510 dL_law_511 ?_
  refine q_arg hW hN 3 rfl rfl rfl (by omega) rfl rfl rfl rfl rfl dL_law_512 dL_law_513 dL_law_514 dL_law_515 dL_law_516 ?_
  refine q_arg hW hN 4 rfl rfl rfl (by omega) rfl rfl rfl rfl rfl dL_law_517 dL_law_518 dL_law_519 dL_law_520 dL_law_521 ?_
  refine callV_i hM mi_X7_read lk_L_57 cf_X7 (by decide) (by decide) (c_X7_read l G hR1 hA (xs (i + 1)) (xs (i + 2)) (xs (i + 3)) (xs (i + 4))) rfl rfl (by decide) (Nat.le_refl _) (by decide) (Nat.le_of_ble_eq_true rfl) dL_law_522 (fun v2 I2 L2 X2 hp2 => ?_)
  obtain ⟨hv2, hR2, hF2⟩ := hp2
  subst hv2
  have hA2 := inv_read hA (xs (i + 1)) (xs (i + 2)) (xs (i + 3)) (xs (i + 4))
  have hX2 := tx_read (xs (i + 1)) (xs (i + 2)) (xs (i + 3)) (xs (i + 4)) hX
  refine q_icmp_eq (tgt := 1033) hM dL_law_525 (by decide) (fun _ => ?_) (fun c => absurd rfl c)
  exact kk _ _ _ _ ⟨(hC1.frC hA2 hF2), hR2, hA2, hX2⟩
set_option maxHeartbeats 4000000 in
set_option maxRecDepth 100000 in
theorem law_c10 {b N : Nat} {xs : Nat → Int32} {l : Launch} {G : kG} {J : kJ} (hW : MachW b N xs l G J) (hN : N ≤ 3072) {I : kI} {L : kL} {X : kX} {A : kA} (hI : LI I L X A) {i : Nat} (hi : i + 6 ≤ N) (kk : ∀ (I9 : kI) (L9 : kL) (X9 : kX) (A9 : kA), LI I9 L9 X9 A9 → J 159 I9 L9 X9 1033 (lwv b G i) []) : J 159 I L X 530 (lwv b G i) [] := by
  have hM := hW.to
  obtain ⟨hC, hR, hA, hX⟩ := hI
  refine q_aload_n hM dL_law_530 rfl ?_
  refine q_arg hW hN 1 rfl rfl rfl (by omega) rfl rfl rfl rfl rfl dL_law_531 dL_law_532 dL_law_533 dL_law_534 dL_law_535 ?_
  refine q_arg hW hN 2 rfl rfl rfl (by omega) rfl rfl rfl rfl rfl dL_law_536 dL_law_537 dL_law_538 dL_law_539 dL_law_540 ?_
  refine q_arg hW hN 3 rfl rfl rfl (by omega) rfl rfl rfl rfl rfl dL_law_541 dL_law_542 dL_law_543 dL_law_544 dL_law_545 ?_
  refine q_arg hW hN 4 rfl rfl rfl (by omega) rfl rfl rfl rfl rfl dL_law_546 dL_law_547 dL_law_548 dL_law_549 dL_law_550 ?_
  refine callVe_i hM mi_X6_judge lk_L_58 cf_X6 (by decide) (by decide) (c_X6_judge l G hC hA (xs (i + 1)) (xs (i + 2)) (xs (i + 3)) (xs (i + 4))) rfl rfl (by decide) (Nat.le_refl _) (by decide) (Nat.le_of_ble_eq_true rfl) dL_law_551 ?_
  refine q_aload_n hM dL_law_554 rfl ?_
  refine q_arg hW hN 1 rfl rfl rfl (by omega) rfl rfl rfl rfl rfl dL_law_555 dL_law_556 dL_law_557 dL_law_558 dL_law_559 ?_
  refine q_arg hW hN 2 rfl rfl rfl (by omega) rfl rfl rfl rfl rfl dL_law_560 dL_law_561 dL_law_562 dL_law_563 dL_law_564 ?_
  refine q_arg hW hN 3 rfl rfl rfl (by omega) rfl rfl rfl rfl rfl dL_law_565 dL_law_566 dL_law_567 dL_law_568 dL_law_569 ?_
  refine q_arg hW hN 4 rfl rfl rfl (by omega) rfl rfl rfl rfl rfl dL_law_570 dL_law_571 dL_law_572 dL_law_573 dL_law_574 ?_
  refine callVe_i hM mi_X7_judge lk_L_61 cf_X7 (by decide) (by decide) (c_X7_judge l G hR hA (xs (i + 1)) (xs (i + 2)) (xs (i + 3)) (xs (i + 4))) rfl rfl (by decide) (Nat.le_refl _) (by decide) (Nat.le_of_ble_eq_true rfl) dL_law_575 ?_
  refine q_icmp_eq (tgt := 1033) hM dL_law_578 (by decide) (fun _ => ?_) (fun c => absurd rfl c)
  exact kk _ _ _ _ ⟨hC, hR, hA, hX⟩
set_option maxHeartbeats 4000000 in
set_option maxRecDepth 100000 in
theorem law_c11 {b N : Nat} {xs : Nat → Int32} {l : Launch} {G : kG} {J : kJ} (hW : MachW b N xs l G J) (hN : N ≤ 3072) {I : kI} {L : kL} {X : kX} {A : kA} (hI : LI I L X A) {i : Nat} (hi : i + 6 ≤ N) (kk : ∀ (I9 : kI) (L9 : kL) (X9 : kX) (A9 : kA), LI I9 L9 X9 A9 → J 159 I9 L9 X9 1033 (lwv b G i) []) : J 159 I L X 583 (lwv b G i) [] := by
  have hM := hW.to
  obtain ⟨hC, hR, hA, hX⟩ := hI
  refine q_aload_n hM dL_law_583 rfl ?_
  refine q_arg hW hN 1 rfl rfl rfl (by omega) rfl rfl rfl rfl rfl dL_law_584 dL_law_585 dL_law_586 dL_law_587 dL_law_588 ?_
  refine callV_i hM mi_X6_pass lk_L_62 cf_X6 (by decide) (by decide) (c_X6_pass l G hC hA (xs (i + 1))) rfl rfl (by decide) (Nat.le_refl _) (by decide) (Nat.le_of_ble_eq_true rfl) dL_law_589 (fun v1 I1 L1 X1 hp1 => ?_)
  obtain ⟨hv1, hC1, hF1⟩ := hp1
  subst hv1
  have hR1 := hR.frM hF1
  refine q_aload_n hM dL_law_592 rfl ?_
  refine q_arg hW hN 1 rfl rfl rfl (by omega) rfl rfl rfl rfl rfl dL_law_593 dL_law_594 dL_law_595 dL_law_596 dL_law_597 ?_
  refine callV_i hM mi_X7_pass lk_L_65 cf_X7 (by decide) (by decide) (c_X7_pass l G hR1 hA (xs (i + 1))) rfl rfl (by decide) (Nat.le_refl _) (by decide) (Nat.le_of_ble_eq_true rfl) dL_law_598 (fun v2 I2 L2 X2 hp2 => ?_)
  obtain ⟨hv2, hR2, hF2⟩ := hp2
  subst hv2
  have hA2 := inv_pass hA (xs (i + 1))
  have hX2 := tx_pass (xs (i + 1)) hX
  refine q_icmp_eq (tgt := 1033) hM dL_law_601 (by decide) (fun _ => ?_) (fun c => absurd rfl c)
  exact kk _ _ _ _ ⟨(hC1.frC hA2 hF2), hR2, hA2, hX2⟩
set_option maxHeartbeats 4000000 in
set_option maxRecDepth 100000 in
theorem law_c12 {b N : Nat} {xs : Nat → Int32} {l : Launch} {G : kG} {J : kJ} (hW : MachW b N xs l G J) (hN : N ≤ 3072) {I : kI} {L : kL} {X : kX} {A : kA} (hI : LI I L X A) {i : Nat} (hi : i + 6 ≤ N) (kk : ∀ (I9 : kI) (L9 : kL) (X9 : kX) (A9 : kA), LI I9 L9 X9 A9 → J 159 I9 L9 X9 1033 (lwv b G i) []) : J 159 I L X 606 (lwv b G i) [] := by
  have hM := hW.to
  obtain ⟨hC, hR, hA, hX⟩ := hI
  refine q_aload_n hM dL_law_606 rfl ?_
  refine q_arg hW hN 1 rfl rfl rfl (by omega) rfl rfl rfl rfl rfl dL_law_607 dL_law_608 dL_law_609 dL_law_610 dL_law_611 ?_
  refine callVe_i hM mi_X6_inState lk_L_66 cf_X6 (by decide) (by decide) (c_X6_inState l G hC hA (xs (i + 1))) rfl rfl (by decide) (Nat.le_refl _) (by decide) (Nat.le_of_ble_eq_true rfl) dL_law_612 ?_
  refine q_aload_n hM dL_law_615 rfl ?_
  refine q_arg hW hN 1 rfl rfl rfl (by omega) rfl rfl rfl rfl rfl dL_law_616 dL_law_617 dL_law_618 dL_law_619 dL_law_620 ?_
  refine callVe_i hM mi_X7_inState lk_L_69 cf_X7 (by decide) (by decide) (c_X7_inState l G hR hA (xs (i + 1))) rfl rfl (by decide) (Nat.le_refl _) (by decide) (Nat.le_of_ble_eq_true rfl) dL_law_621 ?_
  refine q_icmp_eq (tgt := 1033) hM dL_law_624 (by decide) (fun _ => ?_) (fun c => absurd rfl c)
  exact kk _ _ _ _ ⟨hC, hR, hA, hX⟩
set_option maxHeartbeats 4000000 in
set_option maxRecDepth 100000 in
theorem law_c13 {b N : Nat} {xs : Nat → Int32} {l : Launch} {G : kG} {J : kJ} (hW : MachW b N xs l G J) (hN : N ≤ 3072) {I : kI} {L : kL} {X : kX} {A : kA} (hI : LI I L X A) {i : Nat} (hi : i + 6 ≤ N) (kk : ∀ (I9 : kI) (L9 : kL) (X9 : kX) (A9 : kA), LI I9 L9 X9 A9 → J 159 I9 L9 X9 1033 (lwv b G i) []) : J 159 I L X 629 (lwv b G i) [] := by
  have hM := hW.to
  obtain ⟨hC, hR, hA, hX⟩ := hI
  refine q_aload_n hM dL_law_629 rfl ?_
  refine q_arg hW hN 1 rfl rfl rfl (by omega) rfl rfl rfl rfl rfl dL_law_630 dL_law_631 dL_law_632 dL_law_633 dL_law_634 ?_
  refine callVe_i hM mi_X6_loss lk_L_70 cf_X6 (by decide) (by decide) (c_X6_loss l G hC hA (xs (i + 1))) rfl rfl (by decide) (Nat.le_refl _) (by decide) (Nat.le_of_ble_eq_true rfl) dL_law_635 ?_
  refine q_aload_n hM dL_law_638 rfl ?_
  refine q_arg hW hN 1 rfl rfl rfl (by omega) rfl rfl rfl rfl rfl dL_law_639 dL_law_640 dL_law_641 dL_law_642 dL_law_643 ?_
  refine callVe_i hM mi_X7_loss lk_L_73 cf_X7 (by decide) (by decide) (c_X7_loss l G hR hA (xs (i + 1))) rfl rfl (by decide) (Nat.le_refl _) (by decide) (Nat.le_of_ble_eq_true rfl) dL_law_644 ?_
  refine q_icmp_eq (tgt := 1033) hM dL_law_647 (by decide) (fun _ => ?_) (fun c => absurd rfl c)
  exact kk _ _ _ _ ⟨hC, hR, hA, hX⟩
set_option maxHeartbeats 4000000 in
set_option maxRecDepth 100000 in
theorem law_c14 {b N : Nat} {xs : Nat → Int32} {l : Launch} {G : kG} {J : kJ} (hW : MachW b N xs l G J) (hN : N ≤ 3072) {I : kI} {L : kL} {X : kX} {A : kA} (hI : LI I L X A) {i : Nat} (hi : i + 6 ≤ N) (kk : ∀ (I9 : kI) (L9 : kL) (X9 : kX) (A9 : kA), LI I9 L9 X9 A9 → J 159 I9 L9 X9 1033 (lwv b G i) []) : J 159 I L X 652 (lwv b G i) [] := by
  have hM := hW.to
  obtain ⟨hC, hR, hA, hX⟩ := hI
  refine q_aload_n hM dL_law_652 rfl ?_
  refine q_arg hW hN 1 rfl rfl rfl (by omega) rfl rfl rfl rfl rfl dL_law_653 dL_law_654 dL_law_655 dL_law_656 dL_law_657 ?_
  refine callVe_i hM mi_X6_lineLoss lk_L_74 cf_X6 (by decide) (by decide) (c_X6_lineLoss l G hC hA (xs (i + 1))) rfl rfl (by decide) (Nat.le_refl _) (by decide) (Nat.le_of_ble_eq_true rfl) dL_law_658 ?_
  refine q_aload_n hM dL_law_661 rfl ?_
  refine q_arg hW hN 1 rfl rfl rfl (by omega) rfl rfl rfl rfl rfl dL_law_662 dL_law_663 dL_law_664 dL_law_665 dL_law_666 ?_
  refine callVe_i hM mi_X7_lineLoss lk_L_77 cf_X7 (by decide) (by decide) (c_X7_lineLoss l G hR hA (xs (i + 1))) rfl rfl (by decide) (Nat.le_refl _) (by decide) (Nat.le_of_ble_eq_true rfl) dL_law_667 ?_
  refine q_icmp_eq (tgt := 1033) hM dL_law_670 (by decide) (fun _ => ?_) (fun c => absurd rfl c)
  exact kk _ _ _ _ ⟨hC, hR, hA, hX⟩
set_option maxHeartbeats 4000000 in
set_option maxRecDepth 100000 in
theorem law_c15 {b N : Nat} {xs : Nat → Int32} {l : Launch} {G : kG} {J : kJ} (hW : MachW b N xs l G J) (hN : N ≤ 3072) {I : kI} {L : kL} {X : kX} {A : kA} (hI : LI I L X A) {i : Nat} (hi : i + 6 ≤ N) (kk : ∀ (I9 : kI) (L9 : kL) (X9 : kX) (A9 : kA), LI I9 L9 X9 A9 → J 159 I9 L9 X9 1033 (lwv b G i) []) : J 159 I L X 675 (lwv b G i) [] := by
  have hM := hW.to
  obtain ⟨hC, hR, hA, hX⟩ := hI
  refine q_aload_n hM dL_law_675 rfl ?_
  refine q_arg hW hN 1 rfl rfl rfl (by omega) rfl rfl rfl rfl rfl dL_law_676 dL_law_677 dL_law_678 dL_law_679 dL_law_680 ?_
  refine callVe_i hM mi_X6_headerLoss lk_L_78 cf_X6 (by decide) (by decide) (c_X6_headerLoss l G hC hA (xs (i + 1))) rfl rfl (by decide) (Nat.le_refl _) (by decide) (Nat.le_of_ble_eq_true rfl) dL_law_681 ?_
  refine q_aload_n hM dL_law_684 rfl ?_
  refine q_arg hW hN 1 rfl rfl rfl (by omega) rfl rfl rfl rfl rfl dL_law_685 dL_law_686 dL_law_687 dL_law_688 dL_law_689 ?_
  refine callVe_i hM mi_X7_headerLoss lk_L_81 cf_X7 (by decide) (by decide) (c_X7_headerLoss l G hR hA (xs (i + 1))) rfl rfl (by decide) (Nat.le_refl _) (by decide) (Nat.le_of_ble_eq_true rfl) dL_law_690 ?_
  refine q_icmp_eq (tgt := 1033) hM dL_law_693 (by decide) (fun _ => ?_) (fun c => absurd rfl c)
  exact kk _ _ _ _ ⟨hC, hR, hA, hX⟩
set_option maxHeartbeats 4000000 in
set_option maxRecDepth 100000 in
theorem law_c16 {b N : Nat} {xs : Nat → Int32} {l : Launch} {G : kG} {J : kJ} (hW : MachW b N xs l G J) (hN : N ≤ 3072) {I : kI} {L : kL} {X : kX} {A : kA} (hI : LI I L X A) {i : Nat} (hi : i + 6 ≤ N) (kk : ∀ (I9 : kI) (L9 : kL) (X9 : kX) (A9 : kA), LI I9 L9 X9 A9 → J 159 I9 L9 X9 1033 (lwv b G i) []) : J 159 I L X 698 (lwv b G i) [] := by
  have hM := hW.to
  obtain ⟨hC, hR, hA, hX⟩ := hI
  refine q_aload_n hM dL_law_698 rfl ?_
  refine q_arg hW hN 1 rfl rfl rfl (by omega) rfl rfl rfl rfl rfl dL_law_699 dL_law_700 dL_law_701 dL_law_702 dL_law_703 ?_
  refine callVe_l hM mi_X6_lost lk_L_82 cf_X6 (by decide) (by decide) (c_X6_lost l G hC hA (xs (i + 1))) rfl rfl (by decide) (Nat.le_refl _) (by decide) (Nat.le_of_ble_eq_true rfl) dL_law_704 ?_
  refine q_aload_n hM dL_law_707 rfl ?_
  refine q_arg hW hN 1 rfl rfl rfl (by omega) rfl rfl rfl rfl rfl dL_law_708 dL_law_709 dL_law_710 dL_law_711 dL_law_712 ?_
  refine callVe_l hM mi_X7_lost lk_L_86 cf_X7 (by decide) (by decide) (c_X7_lost l G hR hA (xs (i + 1))) rfl rfl (by decide) (Nat.le_refl _) (by decide) (Nat.le_of_ble_eq_true rfl) dL_law_713 ?_
  refine q_lcmp hM dL_law_716 ?_
  refine q_if_eq (tgt := 1033) hM dL_law_717 (by decide) (fun _ => ?_) (fun c => absurd (lgc_eq.mpr rfl) c)
  exact kk _ _ _ _ ⟨hC, hR, hA, hX⟩
set_option maxHeartbeats 4000000 in
set_option maxRecDepth 100000 in
theorem law_c17 {b N : Nat} {xs : Nat → Int32} {l : Launch} {G : kG} {J : kJ} (hW : MachW b N xs l G J) (hN : N ≤ 3072) {I : kI} {L : kL} {X : kX} {A : kA} (hI : LI I L X A) {i : Nat} (hi : i + 6 ≤ N) (kk : ∀ (I9 : kI) (L9 : kL) (X9 : kX) (A9 : kA), LI I9 L9 X9 A9 → J 159 I9 L9 X9 1033 (lwv b G i) []) : J 159 I L X 722 (lwv b G i) [] := by
  have hM := hW.to
  obtain ⟨hC, hR, hA, hX⟩ := hI
  refine q_aload_n hM dL_law_722 rfl ?_
  refine q_arg hW hN 1 rfl rfl rfl (by omega) rfl rfl rfl rfl rfl dL_law_723 dL_law_724 dL_law_725 dL_law_726 dL_law_727 ?_
  refine callVe_l hM mi_X6_saves lk_L_87 cf_X6 (by decide) (by decide) (c_X6_saves l G hC hA (xs (i + 1))) rfl rfl (by decide) (Nat.le_refl _) (by decide) (Nat.le_of_ble_eq_true rfl) dL_law_728 ?_
  refine q_aload_n hM dL_law_731 rfl ?_
  refine q_arg hW hN 1 rfl rfl rfl (by omega) rfl rfl rfl rfl rfl dL_law_732 dL_law_733 dL_law_734 dL_law_735 dL_law_736 ?_
  refine callVe_l hM mi_X7_saves lk_L_90 cf_X7 (by decide) (by decide) (c_X7_saves l G hR hA (xs (i + 1))) rfl rfl (by decide) (Nat.le_refl _) (by decide) (Nat.le_of_ble_eq_true rfl) dL_law_737 ?_
  refine q_lcmp hM dL_law_740 ?_
  refine q_if_eq (tgt := 1033) hM dL_law_741 (by decide) (fun _ => ?_) (fun c => absurd (lgc_eq.mpr rfl) c)
  exact kk _ _ _ _ ⟨hC, hR, hA, hX⟩
set_option maxHeartbeats 4000000 in
set_option maxRecDepth 100000 in
theorem law_c18 {b N : Nat} {xs : Nat → Int32} {l : Launch} {G : kG} {J : kJ} (hW : MachW b N xs l G J) (hN : N ≤ 3072) {I : kI} {L : kL} {X : kX} {A : kA} (hI : LI I L X A) {i : Nat} (hi : i + 6 ≤ N) (kk : ∀ (I9 : kI) (L9 : kL) (X9 : kX) (A9 : kA), LI I9 L9 X9 A9 → J 159 I9 L9 X9 1033 (lwv b G i) []) : J 159 I L X 746 (lwv b G i) [] := by
  have hM := hW.to
  obtain ⟨hC, hR, hA, hX⟩ := hI
  refine q_aload_n hM dL_law_746 rfl ?_
  refine q_arg hW hN 1 rfl rfl rfl (by omega) rfl rfl rfl rfl rfl dL_law_747 dL_law_748 dL_law_749 dL_law_750 dL_law_751 ?_
  refine callVe_i hM mi_X6_repairCost lk_L_91 cf_X6 (by decide) (by decide) (c_X6_repairCost l G hC hA (xs (i + 1))) rfl rfl (by decide) (Nat.le_refl _) (by decide) (Nat.le_of_ble_eq_true rfl) dL_law_752 ?_
  refine q_aload_n hM dL_law_755 rfl ?_
  refine q_arg hW hN 1 rfl rfl rfl (by omega) rfl rfl rfl rfl rfl dL_law_756 dL_law_757 dL_law_758 dL_law_759 dL_law_760 ?_
  refine callVe_i hM mi_X7_repairCost lk_L_94 cf_X7 (by decide) (by decide) (c_X7_repairCost l G hR hA (xs (i + 1))) rfl rfl (by decide) (Nat.le_refl _) (by decide) (Nat.le_of_ble_eq_true rfl) dL_law_761 ?_
  refine q_icmp_eq (tgt := 1033) hM dL_law_764 (by decide) (fun _ => ?_) (fun c => absurd rfl c)
  exact kk _ _ _ _ ⟨hC, hR, hA, hX⟩
set_option maxHeartbeats 4000000 in
set_option maxRecDepth 100000 in
theorem law_c19 {b N : Nat} {xs : Nat → Int32} {l : Launch} {G : kG} {J : kJ} (hW : MachW b N xs l G J) (hN : N ≤ 3072) {I : kI} {L : kL} {X : kX} {A : kA} (hI : LI I L X A) {i : Nat} (hi : i + 6 ≤ N) (kk : ∀ (I9 : kI) (L9 : kL) (X9 : kX) (A9 : kA), LI I9 L9 X9 A9 → J 159 I9 L9 X9 1033 (lwv b G i) []) : J 159 I L X 769 (lwv b G i) [] := by
  have hM := hW.to
  obtain ⟨hC, hR, hA, hX⟩ := hI
  refine q_aload_n hM dL_law_769 rfl ?_
  refine q_arg hW hN 1 rfl rfl rfl (by omega) rfl rfl rfl rfl rfl dL_law_770 dL_law_771 dL_law_772 dL_law_773 dL_law_774 ?_
  refine callVe_l hM mi_X6_payback lk_L_95 cf_X6 (by decide) (by decide) (c_X6_payback l G hC hA (xs (i + 1))) rfl rfl (by decide) (Nat.le_refl _) (by decide) (Nat.le_of_ble_eq_true rfl) dL_law_775 ?_
  refine q_aload_n hM dL_law_778 rfl ?_
  refine q_arg hW hN 1 rfl rfl rfl (by omega) rfl rfl rfl rfl rfl dL_law_779 dL_law_780 dL_law_781 dL_law_782 dL_law_783 ?_
  refine callVe_l hM mi_X7_payback lk_L_98 cf_X7 (by decide) (by decide) (c_X7_payback l G hR hA (xs (i + 1))) rfl rfl (by decide) (Nat.le_refl _) (by decide) (Nat.le_of_ble_eq_true rfl) dL_law_784 ?_
  refine q_lcmp hM dL_law_787 ?_
  refine q_if_eq (tgt := 1033) hM dL_law_788 (by decide) (fun _ => ?_) (fun c => absurd (lgc_eq.mpr rfl) c)
  exact kk _ _ _ _ ⟨hC, hR, hA, hX⟩
set_option maxHeartbeats 4000000 in
set_option maxRecDepth 100000 in
theorem law_c20 {b N : Nat} {xs : Nat → Int32} {l : Launch} {G : kG} {J : kJ} (hW : MachW b N xs l G J) (hN : N ≤ 3072) {I : kI} {L : kL} {X : kX} {A : kA} (hI : LI I L X A) {i : Nat} (hi : i + 6 ≤ N) (kk : ∀ (I9 : kI) (L9 : kL) (X9 : kX) (A9 : kA), LI I9 L9 X9 A9 → J 159 I9 L9 X9 1033 (lwv b G i) []) : J 159 I L X 793 (lwv b G i) [] := by
  have hM := hW.to
  obtain ⟨hC, hR, hA, hX⟩ := hI
  refine q_aload_n hM dL_law_793 rfl ?_
  refine q_arg hW hN 1 rfl rfl rfl (by omega) rfl rfl rfl rfl rfl dL_law_794 dL_law_795 dL_law_796 dL_law_797 dL_law_798 ?_
  refine callV_i hM mi_X6_order lk_L_99 cf_X6 (by decide) (by decide) (c_X6_order l G hC hA (xs (i + 1))) rfl rfl (by decide) (Nat.le_refl _) (by decide) (Nat.le_of_ble_eq_true rfl) dL_law_799 (fun v1 I1 L1 X1 hp1 => ?_)
  obtain ⟨hv1, hC1, hF1⟩ := hp1
  subst hv1
  have hR1 := hR.frM hF1
  refine q_aload_n hM dL_law_802 rfl ?_
  refine q_arg hW hN 1 rfl rfl rfl (by omega) rfl rfl rfl rfl rfl dL_law_803 dL_law_804 dL_law_805 dL_law_806 dL_law_807 ?_
  refine callVe_i hM mi_X7_order lk_L_102 cf_X7 (by decide) (by decide) (c_X7_order l G hR1 hA (xs (i + 1))) rfl rfl (by decide) (Nat.le_refl _) (by decide) (Nat.le_of_ble_eq_true rfl) dL_law_808 ?_
  refine q_icmp_eq (tgt := 1033) hM dL_law_811 (by decide) (fun _ => ?_) (fun c => absurd rfl c)
  exact kk _ _ _ _ ⟨hC1, hR1, hA, hX⟩
set_option maxHeartbeats 4000000 in
set_option maxRecDepth 100000 in
theorem law_c21 {b N : Nat} {xs : Nat → Int32} {l : Launch} {G : kG} {J : kJ} (hW : MachW b N xs l G J) (hN : N ≤ 3072) {I : kI} {L : kL} {X : kX} {A : kA} (hI : LI I L X A) {i : Nat} (hi : i + 6 ≤ N) (kk : ∀ (I9 : kI) (L9 : kL) (X9 : kX) (A9 : kA), LI I9 L9 X9 A9 → J 159 I9 L9 X9 1033 (lwv b G i) []) : J 159 I L X 816 (lwv b G i) [] := by
  have hM := hW.to
  obtain ⟨hC, hR, hA, hX⟩ := hI
  refine q_aload_n hM dL_law_816 rfl ?_
  refine q_arg hW hN 1 rfl rfl rfl (by omega) rfl rfl rfl rfl rfl dL_law_817 dL_law_818 dL_law_819 dL_law_820 dL_law_821 ?_
  refine callV_i hM mi_X6_repair lk_L_103 cf_X6 (by decide) (by decide) (c_X6_repair l G hC hA (xs (i + 1))) rfl rfl (by decide) (Nat.le_refl _) (by decide) (Nat.le_of_ble_eq_true rfl) dL_law_822 (fun v1 I1 L1 X1 hp1 => ?_)
  obtain ⟨hv1, hC1, hF1⟩ := hp1
  subst hv1
  have hR1 := hR.frM hF1
  refine q_aload_n hM dL_law_825 rfl ?_
  refine q_arg hW hN 1 rfl rfl rfl (by omega) rfl rfl rfl rfl rfl dL_law_826 dL_law_827 dL_law_828 dL_law_829 dL_law_830 ?_
  refine callV_i hM mi_X7_repair lk_L_106 cf_X7 (by decide) (by decide) (c_X7_repair l G hR1 hA (xs (i + 1))) rfl rfl (by decide) (Nat.le_refl _) (by decide) (Nat.le_of_ble_eq_true rfl) dL_law_831 (fun v2 I2 L2 X2 hp2 => ?_)
  obtain ⟨hv2, hR2, hF2⟩ := hp2
  subst hv2
  have hA2 := inv_repair hA (xs (i + 1))
  have hX2 := tx_repair (xs (i + 1)) hX
  refine q_icmp_eq (tgt := 1033) hM dL_law_834 (by decide) (fun _ => ?_) (fun c => absurd rfl c)
  exact kk _ _ _ _ ⟨(hC1.frC hA2 hF2), hR2, hA2, hX2⟩
set_option maxHeartbeats 4000000 in
set_option maxRecDepth 100000 in
theorem law_c22 {b N : Nat} {xs : Nat → Int32} {l : Launch} {G : kG} {J : kJ} (hW : MachW b N xs l G J) (hN : N ≤ 3072) {I : kI} {L : kL} {X : kX} {A : kA} (hI : LI I L X A) {i : Nat} (hi : i + 6 ≤ N) (kk : ∀ (I9 : kI) (L9 : kL) (X9 : kX) (A9 : kA), LI I9 L9 X9 A9 → J 159 I9 L9 X9 1033 (lwv b G i) []) : J 159 I L X 839 (lwv b G i) [] := by
  have hM := hW.to
  obtain ⟨hC, hR, hA, hX⟩ := hI
  refine q_aload_n hM dL_law_839 rfl ?_
  refine q_arg hW hN 1 rfl rfl rfl (by omega) rfl rfl rfl rfl rfl dL_law_840 dL_law_841 dL_law_842 dL_law_843 dL_law_844 ?_
  refine callV_i hM mi_X6_repairAll lk_L_107 cf_X6 (by decide) (by decide) (c_X6_repairAll l G hC hA (xs (i + 1))) rfl rfl (by decide) (Nat.le_refl _) (by decide) (Nat.le_of_ble_eq_true rfl) dL_law_845 (fun v1 I1 L1 X1 hp1 => ?_)
  obtain ⟨hv1, hC1, hF1⟩ := hp1
  subst hv1
  have hR1 := hR.frM hF1
  refine q_aload_n hM dL_law_848 rfl ?_
  refine q_arg hW hN 1 rfl rfl rfl (by omega) rfl rfl rfl rfl rfl dL_law_849 dL_law_850 dL_law_851 dL_law_852 dL_law_853 ?_
  refine callV_i hM mi_X7_repairAll lk_L_110 cf_X7 (by decide) (by decide) (c_X7_repairAll l G hR1 hA (xs (i + 1))) rfl rfl (by decide) (Nat.le_refl _) (by decide) (Nat.le_of_ble_eq_true rfl) dL_law_854 (fun v2 I2 L2 X2 hp2 => ?_)
  obtain ⟨hv2, hR2, hF2⟩ := hp2
  subst hv2
  have hA2 := inv_all hA (xs (i + 1))
  have hX2 := tx_all (xs (i + 1)) hX
  refine q_icmp_eq (tgt := 1033) hM dL_law_857 (by decide) (fun _ => ?_) (fun c => absurd rfl c)
  exact kk _ _ _ _ ⟨(hC1.frC hA2 hF2), hR2, hA2, hX2⟩
set_option maxHeartbeats 4000000 in
set_option maxRecDepth 100000 in
theorem law_c23 {b N : Nat} {xs : Nat → Int32} {l : Launch} {G : kG} {J : kJ} (hW : MachW b N xs l G J) (hN : N ≤ 3072) {I : kI} {L : kL} {X : kX} {A : kA} (hI : LI I L X A) {i : Nat} (hi : i + 6 ≤ N) (kk : ∀ (I9 : kI) (L9 : kL) (X9 : kX) (A9 : kA), LI I9 L9 X9 A9 → J 159 I9 L9 X9 1033 (lwv b G i) []) : J 159 I L X 862 (lwv b G i) [] := by
  have hM := hW.to
  obtain ⟨hC, hR, hA, hX⟩ := hI
  refine q_aload_n hM dL_law_862 rfl ?_
  refine q_arg hW hN 1 rfl rfl rfl (by omega) rfl rfl rfl rfl rfl dL_law_863 dL_law_864 dL_law_865 dL_law_866 dL_law_867 ?_
  refine callVe_i hM mi_X6_isDue lk_L_111 cf_X6 (by decide) (by decide) (c_X6_isDue l G hC hA (xs (i + 1))) rfl rfl (by decide) (Nat.le_refl _) (by decide) (Nat.le_of_ble_eq_true rfl) dL_law_868 ?_
  refine q_aload_n hM dL_law_871 rfl ?_
  refine q_arg hW hN 1 rfl rfl rfl (by omega) rfl rfl rfl rfl rfl dL_law_872 dL_law_873 dL_law_874 dL_law_875 dL_law_876 ?_
  refine callVe_i hM mi_X7_isDue lk_L_114 cf_X7 (by decide) (by decide) (c_X7_isDue l G hR hA (xs (i + 1))) rfl rfl (by decide) (Nat.le_refl _) (by decide) (Nat.le_of_ble_eq_true rfl) dL_law_877 ?_
  refine q_icmp_eq (tgt := 1033) hM dL_law_880 (by decide) (fun _ => ?_) (fun c => absurd rfl c)
  exact kk _ _ _ _ ⟨hC, hR, hA, hX⟩
set_option maxHeartbeats 4000000 in
set_option maxRecDepth 100000 in
theorem law_c24 {b N : Nat} {xs : Nat → Int32} {l : Launch} {G : kG} {J : kJ} (hW : MachW b N xs l G J) (hN : N ≤ 3072) {I : kI} {L : kL} {X : kX} {A : kA} (hI : LI I L X A) {i : Nat} (hi : i + 6 ≤ N) (kk : ∀ (I9 : kI) (L9 : kL) (X9 : kX) (A9 : kA), LI I9 L9 X9 A9 → J 159 I9 L9 X9 1033 (lwv b G i) []) : J 159 I L X 885 (lwv b G i) [] := by
  have hM := hW.to
  obtain ⟨hC, hR, hA, hX⟩ := hI
  refine q_aload_n hM dL_law_885 rfl ?_
  refine q_arg hW hN 1 rfl rfl rfl (by omega) rfl rfl rfl rfl rfl dL_law_886 dL_law_887 dL_law_888 dL_law_889 dL_law_890 ?_
  refine callV_i hM mi_X6_round lk_L_115 cf_X6 (by decide) (by decide) (c_X6_round l G hC hA (xs (i + 1))) rfl rfl (by decide) (Nat.le_refl _) (by decide) (Nat.le_of_ble_eq_true rfl) dL_law_891 (fun v1 I1 L1 X1 hp1 => ?_)
  obtain ⟨hv1, hC1, hF1⟩ := hp1
  subst hv1
  have hR1 := hR.frM hF1
  refine q_aload_n hM dL_law_894 rfl ?_
  refine q_arg hW hN 1 rfl rfl rfl (by omega) rfl rfl rfl rfl rfl dL_law_895 dL_law_896 dL_law_897 dL_law_898 dL_law_899 ?_
  refine callV_i hM mi_X7_round lk_L_118 cf_X7 (by decide) (by decide) (c_X7_round l G hR1 hA (xs (i + 1))) rfl rfl (by decide) (Nat.le_refl _) (by decide) (Nat.le_of_ble_eq_true rfl) dL_law_900 (fun v2 I2 L2 X2 hp2 => ?_)
  obtain ⟨hv2, hR2, hF2⟩ := hp2
  subst hv2
  have hA2 := hA
  have hX2 := hX
  refine q_icmp_eq (tgt := 1033) hM dL_law_903 (by decide) (fun _ => ?_) (fun c => absurd rfl c)
  exact kk _ _ _ _ ⟨(hC1.frC hA2 hF2), hR2, hA2, hX2⟩
set_option maxHeartbeats 4000000 in
set_option maxRecDepth 100000 in
theorem law_c25 {b N : Nat} {xs : Nat → Int32} {l : Launch} {G : kG} {J : kJ} (hW : MachW b N xs l G J) (hN : N ≤ 3072) {I : kI} {L : kL} {X : kX} {A : kA} (hI : LI I L X A) {i : Nat} (hi : i + 6 ≤ N) (kk : ∀ (I9 : kI) (L9 : kL) (X9 : kX) (A9 : kA), LI I9 L9 X9 A9 → J 159 I9 L9 X9 1033 (lwv b G i) []) : J 159 I L X 908 (lwv b G i) [] := by
  have hM := hW.to
  obtain ⟨hC, hR, hA, hX⟩ := hI
  refine q_aload_n hM dL_law_908 rfl ?_
  refine callV_i hM mi_X6_roundLength lk_L_119 cf_X6 (by decide) (by decide) (c_X6_roundLength l G hC hA) rfl rfl (by decide) (Nat.le_refl _) (by decide) (Nat.le_of_ble_eq_true rfl) dL_law_909 (fun v1 I1 L1 X1 hp1 => ?_)
  obtain ⟨hv1, hC1, hF1⟩ := hp1
  subst hv1
  have hR1 := hR.frM hF1
  refine q_aload_n hM dL_law_912 rfl ?_
  refine callV_i hM mi_X7_roundLength lk_L_123 cf_X7 (by decide) (by decide) (c_X7_roundLength l G hR1 hA) rfl rfl (by decide) (Nat.le_refl _) (by decide) (Nat.le_of_ble_eq_true rfl) dL_law_913 (fun v2 I2 L2 X2 hp2 => ?_)
  obtain ⟨hv2, hR2, hF2⟩ := hp2
  subst hv2
  have hA2 := hA
  have hX2 := hX
  refine q_icmp_eq (tgt := 1033) hM dL_law_916 (by decide) (fun _ => ?_) (fun c => absurd rfl c)
  exact kk _ _ _ _ ⟨(hC1.frC hA2 hF2), hR2, hA2, hX2⟩
set_option maxHeartbeats 4000000 in
set_option maxRecDepth 100000 in
theorem law_c26 {b N : Nat} {xs : Nat → Int32} {l : Launch} {G : kG} {J : kJ} (hW : MachW b N xs l G J) (hN : N ≤ 3072) {I : kI} {L : kL} {X : kX} {A : kA} (hI : LI I L X A) {i : Nat} (hi : i + 6 ≤ N) (kk : ∀ (I9 : kI) (L9 : kL) (X9 : kX) (A9 : kA), LI I9 L9 X9 A9 → J 159 I9 L9 X9 1033 (lwv b G i) []) : J 159 I L X 921 (lwv b G i) [] := by
  have hM := hW.to
  obtain ⟨hC, hR, hA, hX⟩ := hI
  refine q_aload_n hM dL_law_921 rfl ?_
  refine q_arg hW hN 1 rfl rfl rfl (by omega) rfl rfl rfl rfl rfl dL_law_922 dL_law_923 dL_law_924 dL_law_925 dL_law_926 ?_
  refine callVe_i hM mi_X6_dueOn lk_L_124 cf_X6 (by decide) (by decide) (c_X6_dueOn l G hC hA (xs (i + 1))) rfl rfl (by decide) (Nat.le_refl _) (by decide) (Nat.le_of_ble_eq_true rfl) dL_law_927 ?_
  refine q_aload_n hM dL_law_930 rfl ?_
  refine q_arg hW hN 1 rfl rfl rfl (by omega) rfl rfl rfl rfl rfl dL_law_931 dL_law_932 dL_law_933 dL_law_934 dL_law_935 ?_
  refine callVe_i hM mi_X7_dueOn lk_L_127 cf_X7 (by decide) (by decide) (c_X7_dueOn l G hR hA (xs (i + 1))) rfl rfl (by decide) (Nat.le_refl _) (by decide) (Nat.le_of_ble_eq_true rfl) dL_law_936 ?_
  refine q_icmp_eq (tgt := 1033) hM dL_law_939 (by decide) (fun _ => ?_) (fun c => absurd rfl c)
  exact kk _ _ _ _ ⟨hC, hR, hA, hX⟩
set_option maxHeartbeats 4000000 in
set_option maxRecDepth 100000 in
theorem law_c27 {b N : Nat} {xs : Nat → Int32} {l : Launch} {G : kG} {J : kJ} (hW : MachW b N xs l G J) (hN : N ≤ 3072) {I : kI} {L : kL} {X : kX} {A : kA} (hI : LI I L X A) {i : Nat} (hi : i + 6 ≤ N) (kk : ∀ (I9 : kI) (L9 : kL) (X9 : kX) (A9 : kA), LI I9 L9 X9 A9 → J 159 I9 L9 X9 1033 (lwv b G i) []) : J 159 I L X 944 (lwv b G i) [] := by
  have hM := hW.to
  obtain ⟨hC, hR, hA, hX⟩ := hI
  refine q_aload_n hM dL_law_944 rfl ?_
  refine callV_i hM mi_X6_undo lk_L_128 cf_X6 (by decide) (by decide) (c_X6_undo l G hC hA) rfl rfl (by decide) (Nat.le_refl _) (by decide) (Nat.le_of_ble_eq_true rfl) dL_law_945 (fun v1 I1 L1 X1 hp1 => ?_)
  obtain ⟨hv1, hC1, hF1⟩ := hp1
  subst hv1
  have hR1 := hR.frM hF1
  refine q_aload_n hM dL_law_948 rfl ?_
  refine callV_i hM mi_X7_undo lk_L_131 cf_X7 (by decide) (by decide) (c_X7_undo l G hR1 hA) rfl rfl (by decide) (Nat.le_refl _) (by decide) (Nat.le_of_ble_eq_true rfl) dL_law_949 (fun v2 I2 L2 X2 hp2 => ?_)
  obtain ⟨hv2, hR2, hF2⟩ := hp2
  subst hv2
  have hA2 := inv_undo hA
  have hX2 := tx_undo hX
  refine q_icmp_eq (tgt := 1033) hM dL_law_952 (by decide) (fun _ => ?_) (fun c => absurd rfl c)
  exact kk _ _ _ _ ⟨(hC1.frC hA2 hF2), hR2, hA2, hX2⟩
set_option maxHeartbeats 4000000 in
set_option maxRecDepth 100000 in
theorem law_c28 {b N : Nat} {xs : Nat → Int32} {l : Launch} {G : kG} {J : kJ} (hW : MachW b N xs l G J) (hN : N ≤ 3072) {I : kI} {L : kL} {X : kX} {A : kA} (hI : LI I L X A) {i : Nat} (hi : i + 6 ≤ N) (kk : ∀ (I9 : kI) (L9 : kL) (X9 : kX) (A9 : kA), LI I9 L9 X9 A9 → J 159 I9 L9 X9 1033 (lwv b G i) []) : J 159 I L X 957 (lwv b G i) [] := by
  have hM := hW.to
  obtain ⟨hC, hR, hA, hX⟩ := hI
  refine q_aload_n hM dL_law_957 rfl ?_
  refine q_arg hW hN 1 rfl rfl rfl (by omega) rfl rfl rfl rfl rfl dL_law_958 dL_law_959 dL_law_960 dL_law_961 dL_law_962 ?_
  refine callV_i hM mi_X6_type lk_L_132 cf_X6 (by decide) (by decide) (c_X6_type l G hC hA (xs (i + 1))) rfl rfl (by decide) (Nat.le_refl _) (by decide) (Nat.le_of_ble_eq_true rfl) dL_law_963 (fun v1 I1 L1 X1 hp1 => ?_)
  obtain ⟨hv1, hC1, hF1⟩ := hp1
  subst hv1
  have hR1 := hR.frM hF1
  refine q_aload_n hM dL_law_966 rfl ?_
  refine q_arg hW hN 1 rfl rfl rfl (by omega) rfl rfl rfl rfl rfl dL_law_967 dL_law_968 dL_law_969 dL_law_970 dL_law_971 ?_
  refine callV_i hM mi_X7_type lk_L_135 cf_X7 (by decide) (by decide) (c_X7_type l G hR1 hA (xs (i + 1))) rfl rfl (by decide) (Nat.le_refl _) (by decide) (Nat.le_of_ble_eq_true rfl) dL_law_972 (fun v2 I2 L2 X2 hp2 => ?_)
  obtain ⟨hv2, hR2, hF2⟩ := hp2
  subst hv2
  have hA2 := inv_type hA (xs (i + 1))
  have hX2 := tx_type (xs (i + 1)) hX
  refine q_icmp_eq (tgt := 1033) hM dL_law_975 (by decide) (fun _ => ?_) (fun c => absurd rfl c)
  exact kk _ _ _ _ ⟨(hC1.frC hA2 hF2), hR2, hA2, hX2⟩
set_option maxHeartbeats 4000000 in
set_option maxRecDepth 100000 in
theorem law_c29 {b N : Nat} {xs : Nat → Int32} {l : Launch} {G : kG} {J : kJ} (hW : MachW b N xs l G J) (hN : N ≤ 3072) {I : kI} {L : kL} {X : kX} {A : kA} (hI : LI I L X A) {i : Nat} (hi : i + 6 ≤ N) (kk : ∀ (I9 : kI) (L9 : kL) (X9 : kX) (A9 : kA), LI I9 L9 X9 A9 → J 159 I9 L9 X9 1033 (lwv b G i) []) : J 159 I L X 980 (lwv b G i) [] := by
  have hM := hW.to
  obtain ⟨hC, hR, hA, hX⟩ := hI
  refine q_aload_n hM dL_law_980 rfl ?_
  refine callV_i hM mi_X6_clearText lk_L_136 cf_X6 (by decide) (by decide) (c_X6_clearText l G hC hA) rfl rfl (by decide) (Nat.le_refl _) (by decide) (Nat.le_of_ble_eq_true rfl) dL_law_981 (fun v1 I1 L1 X1 hp1 => ?_)
  obtain ⟨hv1, hC1, hF1⟩ := hp1
  subst hv1
  have hR1 := hR.frM hF1
  refine q_aload_n hM dL_law_984 rfl ?_
  refine callV_i hM mi_X7_clearText lk_L_139 cf_X7 (by decide) (by decide) (c_X7_clearText l G hR1 hA) rfl rfl (by decide) (Nat.le_refl _) (by decide) (Nat.le_of_ble_eq_true rfl) dL_law_985 (fun v2 I2 L2 X2 hp2 => ?_)
  obtain ⟨hv2, hR2, hF2⟩ := hp2
  subst hv2
  have hA2 := inv_clear hA
  have hX2 := tx_clear hX
  refine q_icmp_eq (tgt := 1033) hM dL_law_988 (by decide) (fun _ => ?_) (fun c => absurd rfl c)
  exact kk _ _ _ _ ⟨(hC1.frC hA2 hF2), hR2, hA2, hX2⟩
set_option maxHeartbeats 4000000 in
set_option maxRecDepth 100000 in
theorem law_c30 {b N : Nat} {xs : Nat → Int32} {l : Launch} {G : kG} {J : kJ} (hW : MachW b N xs l G J) (hN : N ≤ 3072) {I : kI} {L : kL} {X : kX} {A : kA} (hI : LI I L X A) {i : Nat} (hi : i + 6 ≤ N) (kk : ∀ (I9 : kI) (L9 : kL) (X9 : kX) (A9 : kA), LI I9 L9 X9 A9 → J 159 I9 L9 X9 1033 (lwv b G i) []) : J 159 I L X 993 (lwv b G i) [] := by
  have hM := hW.to
  obtain ⟨hC, hR, hA, hX⟩ := hI
  refine q_aload_n hM dL_law_993 rfl ?_
  refine callV_i hM mi_X6_textFault lk_L_140 cf_X6 (by decide) (by decide) (c_X6_textFault l G hC hA) rfl rfl (by decide) (Nat.le_refl _) (by decide) (Nat.le_of_ble_eq_true rfl) dL_law_994 (fun v1 I1 L1 X1 hp1 => ?_)
  obtain ⟨hv1, hC1, hF1⟩ := hp1
  subst hv1
  have hR1 := hR.frM hF1
  refine q_aload_n hM dL_law_997 rfl ?_
  refine callV_i hM mi_X7_textFault lk_L_143 cf_X7 (by decide) (by decide) (c_X7_textFault l G hR1 hA hX) rfl rfl (by decide) (Nat.le_refl _) (by decide) (Nat.le_of_ble_eq_true rfl) dL_law_998 (fun v2 I2 L2 X2 hp2 => ?_)
  obtain ⟨hv2, hR2, hF2⟩ := hp2
  subst hv2
  have hA2 := hA
  have hX2 := hX
  refine q_icmp_eq (tgt := 1033) hM dL_law_1001 (by decide) (fun _ => ?_) (fun c => absurd rfl c)
  exact kk _ _ _ _ ⟨(hC1.frC hA2 hF2), hR2, hA2, hX2⟩
set_option maxHeartbeats 4000000 in
set_option maxRecDepth 100000 in
theorem law_c31 {b N : Nat} {xs : Nat → Int32} {l : Launch} {G : kG} {J : kJ} (hW : MachW b N xs l G J) (hN : N ≤ 3072) {I : kI} {L : kL} {X : kX} {A : kA} (hI : LI I L X A) {i : Nat} (hi : i + 6 ≤ N) (kk : ∀ (I9 : kI) (L9 : kL) (X9 : kX) (A9 : kA), LI I9 L9 X9 A9 → J 159 I9 L9 X9 1033 (lwv b G i) []) : J 159 I L X 1006 (lwv b G i) [] := by
  have hM := hW.to
  obtain ⟨hC, hR, hA, hX⟩ := hI
  refine q_aload_n hM dL_law_1006 rfl ?_
  refine callV_i hM mi_X6_readAll lk_L_144 cf_X6 (by decide) (by decide) (c_X6_readAll l G hC hA) rfl rfl (by decide) (Nat.le_refl _) (by decide) (Nat.le_of_ble_eq_true rfl) dL_law_1007 (fun v1 I1 L1 X1 hp1 => ?_)
  obtain ⟨hv1, hC1, hF1⟩ := hp1
  subst hv1
  have hR1 := hR.frM hF1
  refine q_aload_n hM dL_law_1010 rfl ?_
  refine callV_i hM mi_X7_readAll lk_L_147 cf_X7 (by decide) (by decide) (c_X7_readAll l G hR1 hA hX) rfl rfl (by decide) (Nat.le_refl _) (by decide) (Nat.le_of_ble_eq_true rfl) dL_law_1011 (fun v2 I2 L2 X2 hp2 => ?_)
  obtain ⟨hv2, hR2, hF2⟩ := hp2
  subst hv2
  have hA2 := inv_readAll hA
  have hX2 := tx_readAll hX
  refine q_icmp_eq (tgt := 1033) hM dL_law_1014 (by decide) (fun _ => ?_) (fun c => absurd rfl c)
  exact kk _ _ _ _ ⟨(hC1.frC hA2 hF2), hR2, hA2, hX2⟩
set_option maxHeartbeats 4000000 in
set_option maxRecDepth 100000 in
theorem law_c32 {b N : Nat} {xs : Nat → Int32} {l : Launch} {G : kG} {J : kJ} (hW : MachW b N xs l G J) (hN : N ≤ 3072) {I : kI} {L : kL} {X : kX} {A : kA} (hI : LI I L X A) {i : Nat} (hi : i + 6 ≤ N) (kk : ∀ (I9 : kI) (L9 : kL) (X9 : kX) (A9 : kA), LI I9 L9 X9 A9 → J 159 I9 L9 X9 1033 (lwv b G i) []) : J 159 I L X 1019 (lwv b G i) [] := by
  have hM := hW.to
  obtain ⟨hC, hR, hA, hX⟩ := hI
  refine q_aload_n hM dL_law_1019 rfl ?_
  refine callVe_l hM mi_X6_digest lk_L_148 cf_X6 (by decide) (by decide) (c_X6_digest l G hC hA) rfl rfl (by decide) (Nat.le_refl _) (by decide) (Nat.le_of_ble_eq_true rfl) dL_law_1020 ?_
  refine q_aload_n hM dL_law_1023 rfl ?_
  refine callV_l hM mi_X7_digest lk_L_152 cf_X7 (by decide) (by decide) (c_X7_digest l G hR hA) rfl rfl (by decide) (Nat.le_refl _) (by decide) (Nat.le_of_ble_eq_true rfl) dL_law_1024 (fun v2 I2 L2 X2 hp2 => ?_)
  obtain ⟨hv2, hR2, hF2⟩ := hp2
  subst hv2
  have hA2 := hA
  have hX2 := hX
  refine q_lcmp hM dL_law_1027 ?_
  refine q_if_eq (tgt := 1033) hM dL_law_1028 (by decide) (fun _ => ?_) (fun c => absurd (lgc_eq.mpr rfl) c)
  exact kk _ _ _ _ ⟨(hC.frC hA2 hF2), hR2, hA2, hX2⟩
