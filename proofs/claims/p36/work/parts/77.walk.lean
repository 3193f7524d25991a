/-! ===== the law's own walk: changes, traps, lines, the new object ===== -/
theorem chg_neg {A A' : kA} {v : Int32} (h : Sp A v A') (hv : ¬ 0 ≤ v) : A' = A := by
  rw [le_i, i0] at hv
  rcases h with ⟨-, e⟩ | ⟨e, -⟩
  · exact e
  · exact absurd e hv
theorem chg_pos {A A' : kA} {v : Int32} (h : Sp A v A') (hv : ¬ v < 0) : ∃ f' g', A' = setF (keepA A) f' g' ∧ StF (aF A) f' := by
  rw [lt_i, i0] at hv
  rcases h with ⟨e, -⟩ | ⟨-, e⟩
  · exact absurd e hv
  · exact e
theorem chg_v {v : Int32} (h : ¬ v ≤ 0) : 0 < v.toInt := by
  rw [le_i, i0] at h
  omega
def I00 : kI := fun _ _ => 0
def L00 : kL := fun _ _ => 0
def X00 : kX := fun _ _ => none
theorem zr00 (r : Nat) : Zr I00 L00 X00 r := fun _ => ⟨rfl, rfl, rfl⟩
set_option maxHeartbeats 4000000 in
set_option maxRecDepth 100000 in
theorem law_C {b N : Nat} {xs : Nat → Int32} {l : Launch} {G : kG} {J : kJ} (hW : MachW b N xs l G J) (hN : N ≤ 260) (z : Int32) : ∀ (m k : Nat) (I : kI) (L : kL) (X : kX) (A : kA) (v4 v5 v6 v7 v8 v9 v10 : Option Value), LI I L X A → 1 ≤ cI (aF A 0) → 1 ≤ cI (aF A 1) → (aF A 5).toInt ≤ 40 * (k : Int) → k ≤ 18 → 18 < k + m → J 153 I L X 209 [some (.ref b), some (.ref (ad G 0)), some (.int z), some (.int (nI k)), v4, v5, v6, v7, v8, v9, v10] [] := by
  have hS := hW.toS
  have hM := hS.to
  intro m
  induction m with
  | zero => intros; omega
  | succ m ih =>
    intro k I L X A v4 v5 v6 v7 v8 v9 v10 hI hL1 hT1 hd h1 h2
    obtain ⟨hC, hA, hQ⟩ := hI
    have hP := hA.f
    have hn := hP.nT
    refine q_iload_n hM dL_law_209 rfl ?_
    refine q_bipush (v := 18) hM dL_law_210 (by decide) ?_
    refine q_icmp_geN (tgt := 435) hM k 18 rfl rfl (by omega) (by omega) dL_law_212 (by decide) (fun c212 => ?_) (fun c212 => ?_)
    · refine q_iconst (v := 1) hM dL_law_435 (by decide) ?_
      refine q_iload_n hM dL_law_436 rfl ?_
      refine q_bipush (v := 12) hM dL_law_437 (by decide) ?_
      refine q_ishr hM dL_law_439 ?_
      refine q_bipush (v := 100) hM dL_law_440 (by decide) ?_
      refine callSe_i hM mi_L_low lk_L_75 (c_L_low l G _ 100 (by decide) (by decide)) rfl rfl (by decide) (Nat.le_refl _) (by omega) (Nat.le_of_ble_eq_true rfl) dL_law_442 ?_
      refine q_iadd hM dL_law_445 ?_
      refine q_topi _ (nI_add 1 _) ?_
      refine si_11_3 hM dL_law_446 ?_
      refine q_aload_n hM dL_law_447 rfl ?_
      refine q_iconst (v := 2) hM dL_law_448 (by decide) ?_
      refine callVe_i hM mi_X6_count lk_L_8 cf_X6 (by decide) (by decide) (u_count2 l G hC hA) rfl rfl (by decide) (Nat.le_refl _) (by omega) (Nat.le_of_ble_eq_true rfl) dL_law_449 ?_
      refine si_11_4 hM dL_law_452 ?_
      refine q_iconst (v := 0) hM dL_law_454 (by decide) ?_
      refine si_11_5 hM dL_law_455 ?_
      have hd9 := lowN_lt (z >>> (12 &&& 31)) (d := 100) (by decide)
      exact law_D hW hN z (by omega) (by omega) (by omega) hL1 hT1 (cI (aF A 1) + 1) 0 _ _ _ _ _ _ _ _ _ ⟨hC, hA, hQ⟩ rfl rfl (Nat.zero_le _) (by omega)
    · refine q_aload_n hM dL_law_215 rfl ?_
      refine q_bipush (v := 8) hM dL_law_216 (by decide) ?_
      refine q_iload_n hM dL_law_218 rfl ?_
      refine q_iadd hM dL_law_219 ?_
      refine q_topi _ (nI_add 8 k) ?_
      refine q_cell hS mi_L_cell lk_L_109 (c_L_cell l hN G (k := 8 + k) (by omega)) rfl rfl (by decide) (by omega) (Nat.le_of_ble_eq_true rfl) dL_law_220 ?_
      generalize cellV N xs (8 + k) = y
      have hl14 := lowN_lt y (d := 14) (by decide)
      refine si_11_4 hM dL_law_223 ?_
      refine q_aload_n hM dL_law_225 rfl ?_
      refine callVe_l hM mi_X6_digest lk_L_119 cf_X6 (by decide) (by decide) (c_X6_digest l G hC hA) rfl rfl (by decide) (Nat.le_refl _) (by omega) (Nat.le_of_ble_eq_true rfl) dL_law_226 ?_
      refine sl_11_5 hM dL_law_229 ?_
      refine q_aload_n hM dL_law_231 rfl ?_
      refine q_bipush (v := 6) hM dL_law_232 (by decide) ?_
      refine callVe_i hM mi_X6_count lk_L_8 cf_X6 (by decide) (by decide) (u_count6 l G hC hA) rfl rfl (by decide) (Nat.le_refl _) (by omega) (Nat.le_of_ble_eq_true rfl) dL_law_234 ?_
      refine si_11_7 hM dL_law_237 ?_
      refine q_aload_n hM dL_law_239 rfl ?_
      refine q_bipush (v := 7) hM dL_law_240 (by decide) ?_
      refine callVe_i hM mi_X6_count lk_L_8 cf_X6 (by decide) (by decide) (u_count7 l G hC hA) rfl rfl (by decide) (Nat.le_refl _) (by omega) (Nat.le_of_ble_eq_true rfl) dL_law_242 ?_
      refine si_11_8 hM dL_law_245 ?_
      refine q_iload hM dL_law_247 rfl ?_
      refine q_bipush (v := 14) hM dL_law_249 (by decide) ?_
      refine callSe_i hM mi_L_low lk_L_75 (c_L_low l G _ 14 (by decide) (by decide)) rfl rfl (by decide) (Nat.le_refl _) (by omega) (Nat.le_of_ble_eq_true rfl) dL_law_251 ?_
      refine si_11_9 hM dL_law_254 ?_
      refine q_aload_n hM dL_law_256 rfl ?_
      refine q_iload hM dL_law_257 rfl ?_
      refine callS_i hM mi_L_changes lk_L_123 (c_L_changes l G hC hA hQ y) rfl rfl (by decide) (Nat.le_refl _) (by omega) (Nat.le_of_ble_eq_true rfl) dL_law_259 (fun v9 I9 L9 X9 hp9 => ?_)
      obtain ⟨A', hC9, hA9, hS9, h69, h79⟩ := hp9
      have hQ9 := sp_Q hS9 hQ
      refine si_11_10 hM dL_law_262 ?_
      have j281 : J 153 I9 L9 X9 281 [some (.ref b), some (.ref (ad G 0)), some (.int z), some (.int (nI k)), some (.int y), some (.long (rDigest A)), none, some (.int (aF A 6)), some (.int (aF A 7)), some (.int (nI (lowN y 14))), some (.int v9)] [] := by
        have j399 : ∀ (I4 : kI) (L4 : kL) (X4 : kX) (A4 : kA), LI I4 L4 X4 A4 → 1 ≤ cI (aF A4 0) → 1 ≤ cI (aF A4 1) → (aF A4 5).toInt ≤ 40 * ((k : Int) + 1) → J 153 I4 L4 X4 399 [some (.ref b), some (.ref (ad G 0)), some (.int z), some (.int (nI k)), some (.int y), some (.long (rDigest A)), none, some (.int (aF A 6)), some (.int (aF A 7)), some (.int (nI (lowN y 14))), some (.int v9)] [] := by
          intro I4 L4 X4 A4 hI4 hL4 hT4 hd4
          obtain ⟨hC4, hA4, hQ4⟩ := hI4
          refine q_aload_n hM dL_law_399 rfl ?_
          refine callSe_z hM mi_L_areLossesSound lk_L_127 (c_L_areLossesSound l G hC4 hA4 hQ4) rfl rfl (by decide) (Nat.le_refl _) (by omega) (Nat.le_of_ble_eq_true rfl) dL_law_400 ?_
          refine q_if_eq_f (tgt := 427) hM dL_law_403 (by decide) (by decide) ?_
          refine q_iload_n hM dL_law_406 rfl ?_
          refine q_iconst (v := 3) hM dL_law_407 (by decide) ?_
          refine q_irem hM dL_law_408 (by decide) ?_
          refine q_iconst (v := 2) hM dL_law_409 (by decide) ?_
          refine q_icmp_ne (tgt := 429) hM dL_law_410 (by decide) (fun c410 => ?_) (fun c410 => ?_)
          · refine sinc_11_3 hM dL_law_429 (inc1 k) ?_
            refine q_goto (tgt := 209) hM dL_law_432 (by decide) ?_
            first | exact ih (k + 1) _ _ _ _ _ _ _ _ _ _ _ ⟨hC6, hA4, hQ4⟩ hL4 hT4 (by omega) (by omega) (by omega) | exact ih (k + 1) _ _ _ _ _ _ _ _ _ _ _ ⟨hC4, hA4, hQ4⟩ hL4 hT4 (by omega) (by omega) (by omega)
          · refine q_aload_n hM dL_law_413 rfl ?_
            refine callS_z hM mi_L_isOrderSound lk_L_131 (c_L_isOrderSound l G hC4 hA4) rfl rfl (by decide) (Nat.le_refl _) (by omega) (Nat.le_of_ble_eq_true rfl) dL_law_414 (fun z9 I9 L9 X9 hp9 => ?_)
            obtain ⟨rfl, hC5⟩ := hp9
            refine q_if_eq_f (tgt := 427) hM dL_law_417 (by decide) (by decide) ?_
            refine q_aload_n hM dL_law_420 rfl ?_
            refine callS_z hM mi_L_isRoundSound lk_L_134 (c_L_isRoundSound l G hC5 hA4) rfl rfl (by decide) (Nat.le_refl _) (by omega) (Nat.le_of_ble_eq_true rfl) dL_law_421 (fun z9 I9 L9 X9 hp9 => ?_)
            obtain ⟨rfl, hC6⟩ := hp9
            refine q_if_ne_t (tgt := 429) hM dL_law_424 (by decide) (by decide) ?_
            refine sinc_11_3 hM dL_law_429 (inc1 k) ?_
            refine q_goto (tgt := 209) hM dL_law_432 (by decide) ?_
            first | exact ih (k + 1) _ _ _ _ _ _ _ _ _ _ _ ⟨hC6, hA4, hQ4⟩ hL4 hT4 (by omega) (by omega) (by omega) | exact ih (k + 1) _ _ _ _ _ _ _ _ _ _ _ ⟨hC4, hA4, hQ4⟩ hL4 hT4 (by omega) (by omega) (by omega)
        have j365 : J 153 I9 L9 X9 365 [some (.ref b), some (.ref (ad G 0)), some (.int z), some (.int (nI k)), some (.int y), some (.long (rDigest A)), none, some (.int (aF A 6)), some (.int (aF A 7)), some (.int (nI (lowN y 14))), some (.int v9)] [] := by
          refine q_iload hM dL_law_365 rfl ?_
          refine q_if_lt (tgt := 399) hM dL_law_367 (by decide) (fun c367 => ?_) (fun c367 => ?_)
          · first | exact j399 _ _ _ _ ⟨hC8, hA8, by rw [hu.1]; exact hQ⟩ (by rw [hu.1]; exact hL1) (by rw [hu.1]; exact hT1) (by rw [hu.1]; omega) | exact j399 _ _ _ _ ⟨hC9, hA9, hQ9.1⟩ (by omega) (by omega) (by omega)
          · refine q_iload hM dL_law_370 rfl ?_
            refine q_bipush (v := 27) hM dL_law_372 (by decide) ?_
            refine q_ishr hM dL_law_374 ?_
            refine q_iconst (v := 3) hM dL_law_375 (by decide) ?_
            refine q_iand hM dL_law_376 ?_
            refine q_if_ne (tgt := 399) hM dL_law_377 (by decide) (fun c377 => ?_) (fun c377 => ?_)
            · first | exact j399 _ _ _ _ ⟨hC8, hA8, by rw [hu.1]; exact hQ⟩ (by rw [hu.1]; exact hL1) (by rw [hu.1]; exact hT1) (by rw [hu.1]; omega) | exact j399 _ _ _ _ ⟨hC9, hA9, hQ9.1⟩ (by omega) (by omega) (by omega)
            · refine q_aload_n hM dL_law_380 rfl ?_
              refine callV_i hM mi_X6_undo lk_L_113 cf_X6 (by decide) (by decide) (c_X6_undo l G hC9 hA9) rfl rfl (by decide) (Nat.le_refl _) (by omega) (Nat.le_of_ble_eq_true rfl) dL_law_381 (fun v9 I9 L9 X9 hp9 => ?_)
              obtain ⟨hv9, hC8, -⟩ := hp9
              obtain ⟨f', g', eA, -⟩ := chg_pos hS9 c367
              subst eA
              have hu := undo_rec A hA f' g'
              have hA8 := inv_undo hA9
              subst hv9
              refine q_if_lt_f (tgt := 397) hM dL_law_384 (by rw [lt_i, i0]; have := hu.2.2; omega) (by decide) ?_
              refine q_aload_n hM dL_law_387 rfl ?_
              refine callVe_l hM mi_X6_digest lk_L_119 cf_X6 (by decide) (by decide) (c_X6_digest l G hC8 hA8) rfl rfl (by decide) (Nat.le_refl _) (by omega) (Nat.le_of_ble_eq_true rfl) dL_law_388 ?_
              refine q_lload hM dL_law_391 rfl ?_
              refine q_lcmp hM dL_law_393 ?_
              refine q_if_eq_t (tgt := 399) hM dL_law_394 (lgc_eq.mpr (dig_eq hu.1 hu.2.1)) (by decide) ?_
              first | exact j399 _ _ _ _ ⟨hC8, hA8, by rw [hu.1]; exact hQ⟩ (by rw [hu.1]; exact hL1) (by rw [hu.1]; exact hT1) (by rw [hu.1]; omega) | exact j399 _ _ _ _ ⟨hC9, hA9, hQ9.1⟩ (by omega) (by omega) (by omega)
        have j320 : J 153 I9 L9 X9 320 [some (.ref b), some (.ref (ad G 0)), some (.int z), some (.int (nI k)), some (.int y), some (.long (rDigest A)), none, some (.int (aF A 6)), some (.int (aF A 7)), some (.int (nI (lowN y 14))), some (.int v9)] [] := by
          refine q_iload hM dL_law_320 rfl ?_
          refine q_bipush (v := 7) hM dL_law_322 (by decide) ?_
          refine q_icmp_neN (tgt := 365) hM (lowN y 14) 7 rfl rfl (by omega) (by omega) dL_law_324 (by decide) (fun c324 => ?_) (fun c324 => ?_)
          · exact j365
          · refine q_aload_n hM dL_law_327 rfl ?_
            refine q_bipush (v := 7) hM dL_law_328 (by decide) ?_
            refine callVe_i hM mi_X6_count lk_L_8 cf_X6 (by decide) (by decide) (u_count7 l G hC9 hA9) rfl rfl (by decide) (Nat.le_refl _) (by omega) (Nat.le_of_ble_eq_true rfl) dL_law_330 ?_
            refine q_iload hM dL_law_333 rfl ?_
            refine q_iload hM dL_law_335 rfl ?_
            refine q_iadd hM dL_law_337 ?_
            refine q_icmp_ne_f (tgt := 363) hM dL_law_338 (h79 c324).2.1 (by decide) ?_
            refine q_aload_n hM dL_law_341 rfl ?_
            refine q_bipush (v := 6) hM dL_law_342 (by decide) ?_
            refine callVe_i hM mi_X6_count lk_L_8 cf_X6 (by decide) (by decide) (u_count6 l G hC9 hA9) rfl rfl (by decide) (Nat.le_refl _) (by omega) (Nat.le_of_ble_eq_true rfl) dL_law_344 ?_
            refine q_iload hM dL_law_347 rfl ?_
            refine q_isub hM dL_law_349 ?_
            refine q_iload hM dL_law_350 rfl ?_
            refine q_iconst (v := 4) hM dL_law_352 (by decide) ?_
            refine q_ishr hM dL_law_353 ?_
            refine q_sipush (v := 700) hM dL_law_354 (by decide) ?_
            refine callSe_i hM mi_L_low lk_L_75 (c_L_low l G _ 700 (by decide) (by decide)) rfl rfl (by decide) (Nat.le_refl _) (by omega) (Nat.le_of_ble_eq_true rfl) dL_law_357 ?_
            refine q_icmp_le_t (tgt := 365) hM dL_law_360 (h79 c324).2.2 (by decide) ?_
            exact j365
        refine q_iload hM dL_law_281 rfl ?_
        refine q_bipush (v := 6) hM dL_law_283 (by decide) ?_
        refine q_icmp_neN (tgt := 320) hM (lowN y 14) 6 rfl rfl (by omega) (by omega) dL_law_285 (by decide) (fun c285 => ?_) (fun c285 => ?_)
        · exact j320
        · refine q_iload hM dL_law_288 rfl ?_
          refine q_if_le (tgt := 320) hM dL_law_290 (by decide) (fun c290 => ?_) (fun c290 => ?_)
          · exact j320
          · refine q_aload_n hM dL_law_293 rfl ?_
            refine q_bipush (v := 6) hM dL_law_294 (by decide) ?_
            refine callVe_i hM mi_X6_count lk_L_8 cf_X6 (by decide) (by decide) (u_count6 l G hC9 hA9) rfl rfl (by decide) (Nat.le_refl _) (by omega) (Nat.le_of_ble_eq_true rfl) dL_law_296 ?_
            refine q_iload hM dL_law_299 rfl ?_
            refine q_iload hM dL_law_301 rfl ?_
            refine q_iadd hM dL_law_303 ?_
            refine q_icmp_ne_f (tgt := 363) hM dL_law_304 (h69 c285 (chg_v c290)).1 (by decide) ?_
            refine q_aload_n hM dL_law_307 rfl ?_
            refine q_bipush (v := 7) hM dL_law_308 (by decide) ?_
            refine callVe_i hM mi_X6_count lk_L_8 cf_X6 (by decide) (by decide) (u_count7 l G hC9 hA9) rfl rfl (by decide) (Nat.le_refl _) (by omega) (Nat.le_of_ble_eq_true rfl) dL_law_310 ?_
            refine q_iload hM dL_law_313 rfl ?_
            refine q_iconst (v := 1) hM dL_law_315 (by decide) ?_
            refine q_iadd hM dL_law_316 ?_
            refine q_icmp_ne_f (tgt := 363) hM dL_law_317 (h69 c285 (chg_v c290)).2 (by decide) ?_
            exact j320
      refine q_iload hM dL_law_264 rfl ?_
      refine q_if_ge (tgt := 281) hM dL_law_266 (by decide) (fun c266 => ?_) (fun c266 => ?_)
      · exact j281
      · refine q_aload_n hM dL_law_269 rfl ?_
        refine callVe_l hM mi_X6_digest lk_L_119 cf_X6 (by decide) (by decide) (c_X6_digest l G hC9 hA9) rfl rfl (by decide) (Nat.le_refl _) (by omega) (Nat.le_of_ble_eq_true rfl) dL_law_270 ?_
        refine q_lload hM dL_law_273 rfl ?_
        refine q_lcmp hM dL_law_275 ?_
        refine q_if_eq_t (tgt := 281) hM dL_law_276 (lgc_eq.mpr (by rw [chg_neg hS9 c266])) (by decide) ?_
        exact j281
set_option maxHeartbeats 4000000 in
set_option maxRecDepth 100000 in
theorem law_B {b N : Nat} {xs : Nat → Int32} {l : Launch} {G : kG} {J : kJ} (hW : MachW b N xs l G J) (hN : N ≤ 260) (z : Int32) : ∀ (m t : Nat) (I : kI) (L : kL) (X : kX) (A : kA) (v4 v5 v6 v7 v8 v9 v10 : Option Value), LI I L X A → 1 ≤ cI (aF A 0) → cI (aF A 1) = t → aF A 5 = 0 → t ≤ 1 + lowN (z >>> (8 &&& 31)) 7 → 1 + lowN (z >>> (8 &&& 31)) 7 < t + m → J 153 I L X 118 [some (.ref b), some (.ref (ad G 0)), some (.int z), some (.int (nI t)), v4, v5, v6, v7, v8, v9, v10] [] := by
  have hS := hW.toS
  have hM := hS.to
  have hz7 := lowN_lt (z >>> (8 &&& 31)) (d := 7) (by decide)
  intro m
  induction m with
  | zero => intros; omega
  | succ m ih =>
    intro t I L X A v4 v5 v6 v7 v8 v9 v10 hI hL1 hT h5 h1 h2
    obtain ⟨hC, hA, hQ⟩ := hI
    have hP := hA.f
    have hn := hP.nT
    have hn8 := hP.nL
    refine q_iload_n hM dL_law_118 rfl ?_
    refine q_iconst (v := 1) hM dL_law_119 (by decide) ?_
    refine q_iload_n hM dL_law_120 rfl ?_
    refine q_bipush (v := 8) hM dL_law_121 (by decide) ?_
    refine q_ishr hM dL_law_123 ?_
    refine q_bipush (v := 7) hM dL_law_124 (by decide) ?_
    refine callSe_i hM mi_L_low lk_L_75 (c_L_low l G _ 7 (by decide) (by decide)) rfl rfl (by decide) (Nat.le_refl _) (by omega) (Nat.le_of_ble_eq_true rfl) dL_law_126 ?_
    refine q_iadd hM dL_law_129 ?_
    refine q_topi _ (nI_add 1 _) ?_
    refine q_icmp_geN (tgt := 207) hM t (1 + lowN (z >>> (8 &&& 31)) 7) rfl rfl (by omega) (by omega) dL_law_130 (by decide) (fun c130 => ?_) (fun c130 => ?_)
    · refine q_iconst (v := 0) hM dL_law_207 (by decide) ?_
      refine si_11_3 hM dL_law_208 ?_
      exact law_C hW hN z 19 0 _ _ _ _ _ _ _ _ _ _ _ ⟨hC, hA, hQ⟩ hL1 (by omega) (by rw [h5]; decide) (by omega) (by omega)
    · refine q_aload_n hM dL_law_133 rfl ?_
      refine q_iconst (v := 1) hM dL_law_134 (by decide) ?_
      refine q_iload_n hM dL_law_135 rfl ?_
      refine q_iadd hM dL_law_136 ?_
      refine q_topi _ (nI_add 1 t) ?_
      refine q_cell hS mi_L_cell lk_L_109 (c_L_cell l hN G (k := 1 + t) (by omega)) rfl rfl (by decide) (by omega) (Nat.le_of_ble_eq_true rfl) dL_law_137 ?_
      generalize cellV N xs (1 + t) = y
      refine si_11_4 hM dL_law_140 ?_
      refine q_aload_n hM dL_law_142 rfl ?_
      refine q_iload hM dL_law_143 rfl ?_
      refine q_aload_n hM dL_law_145 rfl ?_
      refine q_iconst (v := 0) hM dL_law_146 (by decide) ?_
      refine callVe_i hM mi_X6_count lk_L_8 cf_X6 (by decide) (by decide) (u_count0 l G hC hA) rfl rfl (by decide) (Nat.le_refl _) (by omega) (Nat.le_of_ble_eq_true rfl) dL_law_147 ?_
      refine q_topi _ hP.e0 ?_
      refine callSe_i hM mi_L_low lk_L_75 (c_L_low l G y (cI (aF A 0)) (by omega) (by omega)) rfl rfl (by decide) (Nat.le_refl _) (by omega) (Nat.le_of_ble_eq_true rfl) dL_law_150 ?_
      refine q_iload hM dL_law_153 rfl ?_
      refine q_iconst (v := 3) hM dL_law_155 (by decide) ?_
      refine q_ishr hM dL_law_156 ?_
      refine q_iconst (v := 3) hM dL_law_157 (by decide) ?_
      refine callSe_i hM mi_L_low lk_L_75 (c_L_low l G _ 3 (by decide) (by decide)) rfl rfl (by decide) (Nat.le_refl _) (by omega) (Nat.le_of_ble_eq_true rfl) dL_law_158 ?_
      refine q_iconst (v := 1) hM dL_law_161 (by decide) ?_
      refine q_iload hM dL_law_162 rfl ?_
      refine q_iconst (v := 5) hM dL_law_164 (by decide) ?_
      refine q_ishr hM dL_law_165 ?_
      refine q_bipush (v := 9) hM dL_law_166 (by decide) ?_
      refine callSe_i hM mi_L_low lk_L_75 (c_L_low l G _ 9 (by decide) (by decide)) rfl rfl (by decide) (Nat.le_refl _) (by omega) (Nat.le_of_ble_eq_true rfl) dL_law_168 ?_
      refine q_iadd hM dL_law_171 ?_
      refine q_iload hM dL_law_172 rfl ?_
      refine q_bipush (v := 9) hM dL_law_174 (by decide) ?_
      refine q_ishr hM dL_law_176 ?_
      refine q_bipush (v := 51) hM dL_law_177 (by decide) ?_
      refine callSe_i hM mi_L_low lk_L_75 (c_L_low l G _ 51 (by decide) (by decide)) rfl rfl (by decide) (Nat.le_refl _) (by omega) (Nat.le_of_ble_eq_true rfl) dL_law_179 ?_
      refine q_iload hM dL_law_182 rfl ?_
      refine q_bipush (v := 15) hM dL_law_184 (by decide) ?_
      refine q_ishr hM dL_law_186 ?_
      refine q_bipush (v := 51) hM dL_law_187 (by decide) ?_
      refine callSe_i hM mi_L_low lk_L_75 (c_L_low l G _ 51 (by decide) (by decide)) rfl rfl (by decide) (Nat.le_refl _) (by omega) (Nat.le_of_ble_eq_true rfl) dL_law_189 ?_
      refine callV_i hM mi_X6_addTrap lk_L_84 cf_X6 (by decide) (by decide) (c_X6_addTrap l G hC hA (nI (lowN y (cI (aF A 0)))) (nI (lowN (y >>> (3 &&& 31)) 3)) ((1 : Int32) + nI (lowN (y >>> (5 &&& 31)) 9)) (nI (lowN (y >>> (9 &&& 31)) 51)) (nI (lowN (y >>> (15 &&& 31)) 51))) rfl rfl (by decide) (Nat.le_refl _) (by omega) (Nat.le_of_ble_eq_true rfl) dL_law_192 (fun v9 I9 L9 X9 hp9 => ?_)
      obtain ⟨hv9, hC9, -⟩ := hp9
      subst hv9
      have hA9 := inv_addTrap hA (nI (lowN y (cI (aF A 0)))) (nI (lowN (y >>> (3 &&& 31)) 3)) ((1 : Int32) + nI (lowN (y >>> (5 &&& 31)) 9)) (nI (lowN (y >>> (9 &&& 31)) 51)) (nI (lowN (y >>> (15 &&& 31)) 51))
      have hS9 := sp_Q (sp_addTrap hA hQ (nI (lowN y (cI (aF A 0)))) (nI (lowN (y >>> (3 &&& 31)) 3)) ((1 : Int32) + nI (lowN (y >>> (5 &&& 31)) 9)) (nI (lowN (y >>> (9 &&& 31)) 51)) (nI (lowN (y >>> (15 &&& 31)) 51))) hQ
      have hr := addT_facts hA (lowN_lt y (d := cI (aF A 0)) (by omega)) (lowN_lt (y >>> (3 &&& 31)) (d := 3) (by decide)) (lowN_lt (y >>> (5 &&& 31)) (d := 9) (by decide)) (lowN_lt (y >>> (9 &&& 31)) (d := 51) (by decide)) (lowN_lt (y >>> (15 &&& 31)) (d := 51) (by decide)) (by omega)
      refine q_iload_n hM dL_law_195 rfl ?_
      refine q_icmp_eq_t (tgt := 201) hM dL_law_196 (by rw [hr.1, hP.e1, hT]) (by decide) ?_
      refine sinc_11_3 hM dL_law_201 (inc1 t) ?_
      refine q_goto (tgt := 118) hM dL_law_204 (by decide) ?_
      exact ih (t + 1) _ _ _ _ _ _ _ _ _ _ _ ⟨hC9, hA9, hS9.1⟩ (by rw [hr.2.2.1]; exact hL1) (by rw [hr.2.1, hT]) (by rw [hr.2.2.2]; exact h5) (by omega) (by omega)
set_option maxHeartbeats 4000000 in
set_option maxRecDepth 100000 in
theorem law_A {b N : Nat} {xs : Nat → Int32} {l : Launch} {G : kG} {J : kJ} (hW : MachW b N xs l G J) (hN : N ≤ 260) (z : Int32) : ∀ (m i : Nat) (I : kI) (L : kL) (X : kX) (A : kA) (v4 v5 v6 v7 v8 v9 v10 : Option Value), LI I L X A → cI (aF A 0) = i → cI (aF A 1) = 0 → aF A 5 = 0 → i ≤ 1 + lowN z 3 → 1 + lowN z 3 < i + m → J 153 I L X 85 [some (.ref b), some (.ref (ad G 0)), some (.int z), some (.int (nI i)), v4, v5, v6, v7, v8, v9, v10] [] := by
  have hS := hW.toS
  have hM := hS.to
  have hz3 := lowN_lt z (d := 3) (by decide)
  have hz7 := lowN_lt (z >>> (8 &&& 31)) (d := 7) (by decide)
  intro m
  induction m with
  | zero => intros; omega
  | succ m ih =>
    intro i I L X A v4 v5 v6 v7 v8 v9 v10 hI hL hT h5 h1 h2
    obtain ⟨hC, hA, hQ⟩ := hI
    have hP := hA.f
    have hn := hP.nT
    have hn8 := hP.nL
    refine q_iload_n hM dL_law_85 rfl ?_
    refine q_iconst (v := 1) hM dL_law_86 (by decide) ?_
    refine q_iload_n hM dL_law_87 rfl ?_
    refine q_iconst (v := 3) hM dL_law_88 (by decide) ?_
    refine callSe_i hM mi_L_low lk_L_75 (c_L_low l G _ 3 (by decide) (by decide)) rfl rfl (by decide) (Nat.le_refl _) (by omega) (Nat.le_of_ble_eq_true rfl) dL_law_89 ?_
    refine q_iadd hM dL_law_92 ?_
    refine q_topi _ (nI_add 1 _) ?_
    refine q_icmp_geN (tgt := 116) hM i (1 + lowN z 3) rfl rfl (by omega) (by omega) dL_law_93 (by decide) (fun c93 => ?_) (fun c93 => ?_)
    · refine q_iconst (v := 0) hM dL_law_116 (by decide) ?_
      refine si_11_3 hM dL_law_117 ?_
      exact law_B hW hN z 9 0 _ _ _ _ _ _ _ _ _ _ _ ⟨hC, hA, hQ⟩ (by omega) hT h5 (by omega) (by omega)
    · refine q_aload_n hM dL_law_96 rfl ?_
      refine q_iload_n hM dL_law_97 rfl ?_
      refine q_iconst (v := 2) hM dL_law_98 (by decide) ?_
      refine q_iload_n hM dL_law_99 rfl ?_
      refine q_iadd hM dL_law_100 ?_
      refine q_ishr hM dL_law_101 ?_
      refine q_iconst (v := 3) hM dL_law_102 (by decide) ?_
      refine callSe_i hM mi_L_low lk_L_75 (c_L_low l G _ 3 (by decide) (by decide)) rfl rfl (by decide) (Nat.le_refl _) (by omega) (Nat.le_of_ble_eq_true rfl) dL_law_103 ?_
      refine callV_i hM mi_X6_addLine lk_L_81 cf_X6 (by decide) (by decide) (c_X6_addLine l G hC hA (nI (lowN (z >>> ((2 + nI i) &&& 31)) 3))) rfl rfl (by decide) (Nat.le_refl _) (by omega) (Nat.le_of_ble_eq_true rfl) dL_law_106 (fun v9 I9 L9 X9 hp9 => ?_)
      obtain ⟨hv9, hC9, -⟩ := hp9
      subst hv9
      have hA9 := inv_addLine hA (nI (lowN (z >>> ((2 + nI i) &&& 31)) 3))
      have hS9 := sp_Q (sp_addLine hA hQ (nI (lowN (z >>> ((2 + nI i) &&& 31)) 3))) hQ
      have hr := addL_facts hA (lowN_lt (z >>> ((2 + nI i) &&& 31)) (d := 3) (by decide)) (by omega)
      refine q_pop hM dL_law_109 rfl ?_
      refine sinc_11_3 hM dL_law_110 (inc1 i) ?_
      refine q_goto (tgt := 85) hM dL_law_113 (by decide) ?_
      exact ih (i + 1) _ _ _ _ _ _ _ _ _ _ _ ⟨hC9, hA9, hS9.1⟩ (by rw [hr.1, hL]) (by rw [hr.2.1]; exact hT) (by rw [hr.2.2]; exact h5) (by omega) (by omega)
set_option maxHeartbeats 4000000 in
set_option maxRecDepth 100000 in
theorem law_start {b N : Nat} {xs : Nat → Int32} {l : Launch} {G : kG} {J : kJ} (hW : MachW b N xs l G J) (hN : N ≤ 260) : J 0 I00 L00 X00 0 [some (.ref b), none, none, none, none, none, none, none, none, none, none] [] := by
  have hS := hW.toS
  have hM := hS.to
  refine q_new hM cf_X6 kl_L_9 in_X6 (by decide) def_X6 (by decide) (zr00 0) (by decide) dL_law_0 ?_
  refine q_dup hM dL_law_3 rfl ?_
  refine callI_v hM mi_X6_init lk_L_108 (c_X6_init l G (fun r hr => zr00 r)) rfl rfl (by decide) (by decide) (by decide) (Nat.le_of_ble_eq_true rfl) dL_law_4 (fun I9 L9 X9 hp9 => ?_)
  obtain ⟨hC, -⟩ := hp9
  refine sa_11_1 hM dL_law_7 ?_
  refine q_aload_n hM dL_law_8 rfl ?_
  refine q_iconst (v := 0) hM dL_law_9 (by decide) ?_
  refine q_cell (k := 0) hS mi_L_cell lk_L_109 (c_L_cell l hN G (k := 0) (by omega)) rfl rfl (by decide) (by omega) (Nat.le_of_ble_eq_true rfl) dL_law_10 ?_
  generalize cellV N xs 0 = z
  refine si_11_2 hM dL_law_13 ?_
  refine q_aload_n hM dL_law_14 rfl ?_
  refine callV_i hM mi_X6_undo lk_L_113 cf_X6 (by decide) (by decide) (c_X6_undo l G hC A00_inv) rfl rfl (by decide) (Nat.le_refl _) (by omega) (Nat.le_of_ble_eq_true rfl) dL_law_15 (fun v9 I9 L9 X9 hp9 => ?_)
  obtain ⟨hv9, hC, -⟩ := hp9
  rw [nw_undo.1] at hv9
  rw [nw_undo.2] at hC
  subst hv9
  refine q_bipush (v := -4) hM dL_law_18 (by decide) ?_
  refine q_icmp_ne_f (tgt := 81) hM dL_law_20 rfl (by decide) ?_
  refine q_aload_n hM dL_law_23 rfl ?_
  refine callV_i hM mi_X6_readAll lk_L_116 cf_X6 (by decide) (by decide) (c_X6_readAll l G hC A00_inv) rfl rfl (by decide) (Nat.le_refl _) (by omega) (Nat.le_of_ble_eq_true rfl) dL_law_24 (fun v9 I9 L9 X9 hp9 => ?_)
  obtain ⟨hv9, hC, -⟩ := hp9
  rw [nw_read.1] at hv9
  rw [nw_read.2] at hC
  subst hv9
  refine q_bipush (v := -4) hM dL_law_27 (by decide) ?_
  refine q_icmp_ne_f (tgt := 81) hM dL_law_29 rfl (by decide) ?_
  refine q_aload_n hM dL_law_32 rfl ?_
  refine callV_i hM mi_X6_roundLength lk_L_71 cf_X6 (by decide) (by decide) (c_X6_roundLength l G hC A00_inv) rfl rfl (by decide) (Nat.le_refl _) (by omega) (Nat.le_of_ble_eq_true rfl) dL_law_33 (fun v9 I9 L9 X9 hp9 => ?_)
  obtain ⟨hv9, hC, -⟩ := hp9
  rw [nw_len] at hv9
  subst hv9
  refine q_if_ne_f (tgt := 81) hM dL_law_36 rfl (by decide) ?_
  refine q_aload_n hM dL_law_39 rfl ?_
  refine q_iconst (v := 0) hM dL_law_40 (by decide) ?_
  refine callV_i hM mi_X6_round lk_L_56 cf_X6 (by decide) (by decide) (c_X6_round l G hC A00_inv 0) rfl rfl (by decide) (Nat.le_refl _) (by omega) (Nat.le_of_ble_eq_true rfl) dL_law_41 (fun v9 I9 L9 X9 hp9 => ?_)
  obtain ⟨hv9, hC, -⟩ := hp9
  rw [nw_round] at hv9
  subst hv9
  refine q_iconst (v := -1) hM dL_law_44 (by decide) ?_
  refine q_icmp_ne_f (tgt := 81) hM dL_law_45 rfl (by decide) ?_
  refine q_aload_n hM dL_law_48 rfl ?_
  refine q_iconst (v := 0) hM dL_law_49 (by decide) ?_
  refine callV_i hM mi_X6_order lk_L_40 cf_X6 (by decide) (by decide) (c_X6_order l G hC A00_inv 0) rfl rfl (by decide) (Nat.le_refl _) (by omega) (Nat.le_of_ble_eq_true rfl) dL_law_50 (fun v9 I9 L9 X9 hp9 => ?_)
  obtain ⟨hv9, hC, -⟩ := hp9
  rw [nw_order] at hv9
  subst hv9
  refine q_iconst (v := -1) hM dL_law_53 (by decide) ?_
  refine q_icmp_ne_f (tgt := 81) hM dL_law_54 rfl (by decide) ?_
  refine q_aload_n hM dL_law_57 rfl ?_
  refine q_iconst (v := -1) hM dL_law_58 (by decide) ?_
  refine callVe_l hM mi_X6_lost lk_L_27 cf_X6 (by decide) (by decide) (c_X6_lost l G hC A00_inv (-1)) rfl rfl (by decide) (Nat.le_refl _) (by omega) (Nat.le_of_ble_eq_true rfl) dL_law_59 ?_
  refine q_lconst (v := 0) hM dL_law_62 (by decide) ?_
  refine q_lcmp hM dL_law_63 ?_
  refine q_if_ne_f (tgt := 81) hM dL_law_64 (lgc_eq.mpr nw_lost) (by decide) ?_
  refine q_aload_n hM dL_law_67 rfl ?_
  refine q_iconst (v := 0) hM dL_law_68 (by decide) ?_
  refine q_iconst (v := 0) hM dL_law_69 (by decide) ?_
  refine q_iconst (v := 1) hM dL_law_70 (by decide) ?_
  refine q_iconst (v := 0) hM dL_law_71 (by decide) ?_
  refine q_iconst (v := 0) hM dL_law_72 (by decide) ?_
  refine callV_i hM mi_X6_addTrap lk_L_84 cf_X6 (by decide) (by decide) (c_X6_addTrap l G hC A00_inv 0 0 1 0 0) rfl rfl (by decide) (Nat.le_refl _) (by omega) (Nat.le_of_ble_eq_true rfl) dL_law_73 (fun v9 I9 L9 X9 hp9 => ?_)
  obtain ⟨hv9, hC, -⟩ := hp9
  rw [nw_trap.1] at hv9
  rw [nw_trap.2] at hC
  subst hv9
  refine q_bipush (v := -2) hM dL_law_76 (by decide) ?_
  refine q_icmp_eq_t (tgt := 83) hM dL_law_78 rfl (by decide) ?_
  refine q_iconst (v := 0) hM dL_law_83 (by decide) ?_
  refine si_11_3 hM dL_law_84 ?_
  exact law_A hW hN z 5 0 _ _ _ _ _ _ _ _ _ _ _ ⟨hC, A00_inv, nw_Q⟩ nw_01.1 nw_01.2.1 nw_01.2.2 (by omega) (by have := lowN_lt z (d := 3) (by decide); omega)
