/-! ===== the law's check of losses ===== -/
theorem rLineL_at {A : kA} (hA : AInv A) {j : Nat} (hj : j < cI (aF A 0)) : rLineLoss A (nI j) = sSum (fun t => if sOf (aF A) t 0 = nI j then sLoss (aF A) t else 0) (cI (aF A 1)) := by
  have hn := hA.f.nL
  unfold rLineLoss
  rw [if_pos ⟨nI_pos' (by omega), by rw [hA.f.e0]; exact nI_lt hj (by omega)⟩]

set_option maxHeartbeats 4000000 in
set_option maxRecDepth 100000 in
theorem c_L_areLossesSound (l : Launch) (G : kG) {I : kI} {L : kL} {X : kX} {A : kA} (hC : RC I L X A) (hA : AInv A) (hQ : QI (aF A))  : Kz l yL_areLossesSound cL_areLossesSound 11 6 G [.ref (ad G 0)] 153 153 I L X (pE true I L X) := by
  refine Kz_intro (own := RL) (lv0 := [some (.ref (ad G 0)), none, none, none, none, none, none, none, none, none, none]) 10 (by decide +kernel) rfl rfl (Nat.le_of_ble_eq_true rfl) (Nat.le_refl _) (fun J hM hret => ?_)
  have hP := hA.f
  have hn := hP.nT
  have hn8 := hP.nL
  refine q_iconst (v := 0) hM dL_areLossesSound_0 (by decide) ?_
  refine si_11_1 hM dL_areLossesSound_1 ?_
  refine q_iconst (v := 0) hM dL_areLossesSound_2 (by decide) ?_
  refine si_11_2 hM dL_areLossesSound_3 ?_
  refine q_iconst (v := 0) hM dL_areLossesSound_4 (by decide) ?_
  refine si_11_3 hM dL_areLossesSound_5 ?_
  refine q_iconst (v := 0) hM dL_areLossesSound_6 (by decide) ?_
  refine si_11_4 hM dL_areLossesSound_7 ?_
  refine q_lconst (v := 0) hM dL_areLossesSound_9 (by decide) ?_
  refine sl_11_5 hM dL_areLossesSound_10 ?_
  refine q_iconst (v := 0) hM dL_areLossesSound_12 (by decide) ?_
  refine si_11_7 hM dL_areLossesSound_13 ?_
  have loop1 : ∀ (k i : Nat) (v8 v9 v10 : Option Value), i ≤ (cI (aF A 1)) → (cI (aF A 1)) < i + k → J 153 I L X 15 [some (.ref (ad G 0)), some (.int (sSum (sLoss (aF A)) i)), some (.int (0)), some (.int (0)), some (.int (0)), some (.long (sSumL (aG A) i)), none, some (.int (nI i)), v8, v9, v10] [] := by
    intro k
    induction k with
    | zero => intro i; intros; omega
    | succ k ihk =>
      intro i v8 v9 v10 hk1 hk2
      refine q_iload hM dL_areLossesSound_15 rfl ?_
      refine q_aload_n hM dL_areLossesSound_17 rfl ?_
      refine q_iconst (v := 1) hM dL_areLossesSound_18 (by decide) ?_
      refine callVe_i hM mi_X6_count lk_L_8 cf_X6 (by decide) (by decide) (u_count1 l G hC hA) rfl rfl (by decide) (Nat.le_refl _) (by omega) (Nat.le_of_ble_eq_true rfl) dL_areLossesSound_19 ?_
      refine q_icmp_geN (tgt := 199) hM i (cI (aF A 1)) rfl hP.e1 (by omega) (by omega) dL_areLossesSound_22 (by decide) (fun c22 => ?_) (fun c22 => ?_)
      · obtain rfl : i = cI (aF A 1) := by omega
        refine q_iconst (v := 0) hM dL_areLossesSound_199 (by decide) ?_
        refine si_11_7 hM dL_areLossesSound_200 ?_
        have loop2 : ∀ (k2 j : Nat) (v8 v9 v10 : Option Value), j ≤ (cI (aF A 0)) → (cI (aF A 0)) < j + k2 → J 153 I L X 202 [some (.ref (ad G 0)), some (.int (sSum (sLoss (aF A)) (cI (aF A 1)))), some (.int (0)), some (.int (sSum (fun k => rLineLoss A (nI k)) j)), some (.int (0)), some (.long (sSumL (aG A) (cI (aF A 1)))), none, some (.int (nI j)), v8, v9, v10] [] := by
          intro k2
          induction k2 with
          | zero => intro j; intros; omega
          | succ k2 ihk2 =>
            intro j v8 v9 v10 hk21 hk22
            refine q_iload hM dL_areLossesSound_202 rfl ?_
            refine q_aload_n hM dL_areLossesSound_204 rfl ?_
            refine q_iconst (v := 0) hM dL_areLossesSound_205 (by decide) ?_
            refine callVe_i hM mi_X6_count lk_L_8 cf_X6 (by decide) (by decide) (u_count0 l G hC hA) rfl rfl (by decide) (Nat.le_refl _) (by omega) (Nat.le_of_ble_eq_true rfl) dL_areLossesSound_206 ?_
            refine q_icmp_geN (tgt := 285) hM j (cI (aF A 0)) rfl hP.e0 (by omega) (by omega) dL_areLossesSound_209 (by decide) (fun c209 => ?_) (fun c209 => ?_)
            · obtain rfl : j = cI (aF A 0) := by omega
              refine q_iconst (v := 0) hM dL_areLossesSound_285 (by decide) ?_
              refine si_11_7 hM dL_areLossesSound_286 ?_
              have loop4 : ∀ (k4 h : Nat) (v8 v9 v10 : Option Value), h ≤ 3 → 3 < h + k4 → J 153 I L X 288 [some (.ref (ad G 0)), some (.int (sSum (sLoss (aF A)) (cI (aF A 1)))), some (.int (sSum (fun k => rHeaderLoss A (nI k)) h)), some (.int (sSum (fun k => rLineLoss A (nI k)) (cI (aF A 0)))), some (.int (0)), some (.long (sSumL (aG A) (cI (aF A 1)))), none, some (.int (nI h)), v8, v9, v10] [] := by
                intro k4
                induction k4 with
                | zero => intro h; intros; omega
                | succ k4 ihk4 =>
                  intro h v8 v9 v10 hk41 hk42
                  refine q_iload hM dL_areLossesSound_288 rfl ?_
                  refine q_iconst (v := 3) hM dL_areLossesSound_290 (by decide) ?_
                  refine q_icmp_geN (tgt := 309) hM h 3 rfl rfl (by omega) (by omega) dL_areLossesSound_291 (by decide) (fun c291 => ?_) (fun c291 => ?_)
                  · obtain rfl : h = 3 := by omega
                    refine q_iconst (v := 0) hM dL_areLossesSound_309 (by decide) ?_
                    refine si_11_7 hM dL_areLossesSound_310 ?_
                    have loop5 : ∀ (k5 z : Nat) (v8 v9 v10 : Option Value), z ≤ 6 → 6 < z + k5 → J 153 I L X 312 [some (.ref (ad G 0)), some (.int (sSum (sLoss (aF A)) (cI (aF A 1)))), some (.int (sSum (fun k => rHeaderLoss A (nI k)) 3)), some (.int (sSum (fun k => rLineLoss A (nI k)) (cI (aF A 0)))), some (.int (sSum (fun k => rInState A (nI k)) z)), some (.long (sSumL (aG A) (cI (aF A 1)))), none, some (.int (nI z)), v8, v9, v10] [] := by
                      intro k5
                      induction k5 with
                      | zero => intro z; intros; omega
                      | succ k5 ihk5 =>
                        intro z v8 v9 v10 hk51 hk52
                        refine q_iload hM dL_areLossesSound_312 rfl ?_
                        refine q_bipush (v := 6) hM dL_areLossesSound_314 (by decide) ?_
                        refine q_icmp_geN (tgt := 336) hM z 6 rfl rfl (by omega) (by omega) dL_areLossesSound_316 (by decide) (fun c316 => ?_) (fun c316 => ?_)
                        · obtain rfl : z = 6 := by omega
                          refine q_iload_n hM dL_areLossesSound_336 rfl ?_
                          refine q_iload_n hM dL_areLossesSound_337 rfl ?_
                          refine q_icmp_ne_f (tgt := 371) hM dL_areLossesSound_338 (sum_lines hA) (by decide) ?_
                          refine q_iload_n hM dL_areLossesSound_341 rfl ?_
                          refine q_iload_n hM dL_areLossesSound_342 rfl ?_
                          refine q_icmp_ne_f (tgt := 371) hM dL_areLossesSound_343 (sum_headers hA) (by decide) ?_
                          refine q_iload hM dL_areLossesSound_346 rfl ?_
                          refine q_aload_n hM dL_areLossesSound_348 rfl ?_
                          refine q_iconst (v := 1) hM dL_areLossesSound_349 (by decide) ?_
                          refine callVe_i hM mi_X6_count lk_L_8 cf_X6 (by decide) (by decide) (u_count1 l G hC hA) rfl rfl (by decide) (Nat.le_refl _) (by omega) (Nat.le_of_ble_eq_true rfl) dL_areLossesSound_350 ?_
                          refine q_icmp_ne_f (tgt := 371) hM dL_areLossesSound_353 (sum_states hA) (by decide) ?_
                          refine q_aload_n hM dL_areLossesSound_356 rfl ?_
                          refine q_iconst (v := -1) hM dL_areLossesSound_357 (by decide) ?_
                          refine callVe_l hM mi_X6_lost lk_L_27 cf_X6 (by decide) (by decide) (u_lostAll l G hC hA) rfl rfl (by decide) (Nat.le_refl _) (by omega) (Nat.le_of_ble_eq_true rfl) dL_areLossesSound_358 ?_
                          refine q_lload hM dL_areLossesSound_361 rfl ?_
                          refine q_lcmp hM dL_areLossesSound_363 ?_
                          refine q_if_ne_f (tgt := 371) hM dL_areLossesSound_364 (lgc_eq.mpr rfl) (by decide) ?_
                          refine q_iconst (v := 1) hM dL_areLossesSound_367 (by decide) ?_
                          refine q_goto (tgt := 372) hM dL_areLossesSound_368 (by decide) ?_
                          exact hret true _ _ _ _ _ _ rfl ⟨rfl, rfl, rfl, rfl⟩ dL_areLossesSound_372
                        · refine q_iload hM dL_areLossesSound_319 rfl ?_
                          refine q_aload_n hM dL_areLossesSound_321 rfl ?_
                          refine q_iload hM dL_areLossesSound_322 rfl ?_
                          refine callVe_i hM mi_X6_inState lk_L_37 cf_X6 (by decide) (by decide) (c_X6_inState l G hC hA (nI z)) rfl rfl (by decide) (Nat.le_refl _) (by omega) (Nat.le_of_ble_eq_true rfl) dL_areLossesSound_324 ?_
                          refine q_iadd hM dL_areLossesSound_327 ?_
                          refine si_11_4 hM dL_areLossesSound_328 ?_
                          refine sinc_11_7 hM dL_areLossesSound_330 (inc1 z) ?_
                          refine q_goto (tgt := 312) hM dL_areLossesSound_333 (by decide) ?_
                          exact ihk5 (z + 1) _ _ _ (by omega) (by omega)
                    exact loop5 7 0 _ _ _ (Nat.zero_le _) (by omega)
                  · refine q_iload_n hM dL_areLossesSound_294 rfl ?_
                    refine q_aload_n hM dL_areLossesSound_295 rfl ?_
                    refine q_iload hM dL_areLossesSound_296 rfl ?_
                    refine callVe_i hM mi_X6_headerLoss lk_L_34 cf_X6 (by decide) (by decide) (c_X6_headerLoss l G hC hA (nI h)) rfl rfl (by decide) (Nat.le_refl _) (by omega) (Nat.le_of_ble_eq_true rfl) dL_areLossesSound_298 ?_
                    refine q_iadd hM dL_areLossesSound_301 ?_
                    refine si_11_2 hM dL_areLossesSound_302 ?_
                    refine sinc_11_7 hM dL_areLossesSound_303 (inc1 h) ?_
                    refine q_goto (tgt := 288) hM dL_areLossesSound_306 (by decide) ?_
                    exact ihk4 (h + 1) _ _ _ (by omega) (by omega)
              exact loop4 4 0 _ _ _ (Nat.zero_le _) (by omega)
            · refine q_iconst (v := 0) hM dL_areLossesSound_212 (by decide) ?_
              refine si_11_8 hM dL_areLossesSound_213 ?_
              refine q_iconst (v := 0) hM dL_areLossesSound_215 (by decide) ?_
              refine si_11_9 hM dL_areLossesSound_216 ?_
              have loop3 : ∀ (k3 t : Nat) (v10 : Option Value), t ≤ (cI (aF A 1)) → (cI (aF A 1)) < t + k3 → J 153 I L X 218 [some (.ref (ad G 0)), some (.int (sSum (sLoss (aF A)) (cI (aF A 1)))), some (.int (0)), some (.int (sSum (fun k => rLineLoss A (nI k)) j)), some (.int (0)), some (.long (sSumL (aG A) (cI (aF A 1)))), none, some (.int (nI j)), some (.int (sSum (fun t => if sOf (aF A) t 0 = nI j then sLoss (aF A) t else 0) t)), some (.int (nI t)), v10] [] := by
                intro k3
                induction k3 with
                | zero => intro t; intros; omega
                | succ k3 ihk3 =>
                  intro t v10 hk31 hk32
                  refine q_iload hM dL_areLossesSound_218 rfl ?_
                  refine q_aload_n hM dL_areLossesSound_220 rfl ?_
                  refine q_iconst (v := 1) hM dL_areLossesSound_221 (by decide) ?_
                  refine callVe_i hM mi_X6_count lk_L_8 cf_X6 (by decide) (by decide) (u_count1 l G hC hA) rfl rfl (by decide) (Nat.le_refl _) (by omega) (Nat.le_of_ble_eq_true rfl) dL_areLossesSound_222 ?_
                  refine q_icmp_geN (tgt := 261) hM t (cI (aF A 1)) rfl hP.e1 (by omega) (by omega) dL_areLossesSound_225 (by decide) (fun c225 => ?_) (fun c225 => ?_)
                  · obtain rfl : t = cI (aF A 1) := by omega
                    refine q_aload_n hM dL_areLossesSound_261 rfl ?_
                    refine q_iload hM dL_areLossesSound_262 rfl ?_
                    refine callVe_i hM mi_X6_lineLoss lk_L_31 cf_X6 (by decide) (by decide) (c_X6_lineLoss l G hC hA (nI j)) rfl rfl (by decide) (Nat.le_refl _) (by omega) (Nat.le_of_ble_eq_true rfl) dL_areLossesSound_264 ?_
                    refine q_iload hM dL_areLossesSound_267 rfl ?_
                    refine q_icmp_eq_t (tgt := 274) hM dL_areLossesSound_269 (rLineL_at hA c209) (by decide) ?_
                    refine q_iload_n hM dL_areLossesSound_274 rfl ?_
                    refine q_iload hM dL_areLossesSound_275 rfl ?_
                    refine q_topi _ (rLineL_at hA c209).symm ?_
                    refine q_iadd hM dL_areLossesSound_277 ?_
                    refine si_11_3 hM dL_areLossesSound_278 ?_
                    refine sinc_11_7 hM dL_areLossesSound_279 (inc1 j) ?_
                    refine q_goto (tgt := 202) hM dL_areLossesSound_282 (by decide) ?_
                    exact ihk2 (j + 1) _ _ _ (by omega) (by omega)
                  · refine q_iload hM dL_areLossesSound_228 rfl ?_
                    refine q_aload_n hM dL_areLossesSound_230 rfl ?_
                    refine q_iload hM dL_areLossesSound_231 rfl ?_
                    refine q_iconst (v := 0) hM dL_areLossesSound_233 (by decide) ?_
                    refine callVe_i hM mi_X6_trap lk_L_14 cf_X6 (by decide) (by decide) (u_trap0 l G hC hA c225) rfl rfl (by decide) (Nat.le_refl _) (by omega) (Nat.le_of_ble_eq_true rfl) dL_areLossesSound_234 ?_
                    refine q_iload hM dL_areLossesSound_237 rfl ?_
                    refine q_icmp_ne (tgt := 251) hM dL_areLossesSound_239 (by decide) (fun c239 => ?_) (fun c239 => ?_)
                    · refine q_iconst (v := 0) hM dL_areLossesSound_251 (by decide) ?_
                      refine q_topi (if sOf (aF A) t 0 = nI j then sLoss (aF A) t else 0) (by first | rw [if_pos c239] | rw [if_neg c239]) ?_
                      refine q_iadd hM dL_areLossesSound_252 ?_
                      refine si_11_8 hM dL_areLossesSound_253 ?_
                      refine sinc_11_9 hM dL_areLossesSound_255 (inc1 t) ?_
                      refine q_goto (tgt := 218) hM dL_areLossesSound_258 (by decide) ?_
                      exact ihk3 (t + 1) _ (by omega) (by omega)
                    · refine q_aload_n hM dL_areLossesSound_242 rfl ?_
                      refine q_iload hM dL_areLossesSound_243 rfl ?_
                      refine callVe_i hM mi_X6_loss lk_L_18 cf_X6 (by decide) (by decide) (u_loss l G hC hA c225) rfl rfl (by decide) (Nat.le_refl _) (by omega) (Nat.le_of_ble_eq_true rfl) dL_areLossesSound_245 ?_
                      refine q_goto (tgt := 252) hM dL_areLossesSound_248 (by decide) ?_
                      refine q_topi (if sOf (aF A) t 0 = nI j then sLoss (aF A) t else 0) (by first | rw [if_pos c239] | rw [if_neg c239]) ?_
                      refine q_iadd hM dL_areLossesSound_252 ?_
                      refine si_11_8 hM dL_areLossesSound_253 ?_
                      refine sinc_11_9 hM dL_areLossesSound_255 (inc1 t) ?_
                      refine q_goto (tgt := 218) hM dL_areLossesSound_258 (by decide) ?_
                      exact ihk3 (t + 1) _ (by omega) (by omega)
              exact loop3 (cI (aF A 1) + 1) 0 _ (Nat.zero_le _) (by omega)
        exact loop2 (cI (aF A 0) + 1) 0 _ _ _ (Nat.zero_le _) (by omega)
      · refine q_aload_n hM dL_areLossesSound_25 rfl ?_
        refine q_iload hM dL_areLossesSound_26 rfl ?_
        refine q_iconst (v := 5) hM dL_areLossesSound_28 (by decide) ?_
        refine callVe_i hM mi_X6_trap lk_L_14 cf_X6 (by decide) (by decide) (u_trap5 l G hC hA c22) rfl rfl (by decide) (Nat.le_refl _) (by omega) (Nat.le_of_ble_eq_true rfl) dL_areLossesSound_29 ?_
        refine si_11_8 hM dL_areLossesSound_32 ?_
        refine q_aload_n hM dL_areLossesSound_34 rfl ?_
        refine q_iload hM dL_areLossesSound_35 rfl ?_
        refine callVe_i hM mi_X6_loss lk_L_18 cf_X6 (by decide) (by decide) (u_loss l G hC hA c22) rfl rfl (by decide) (Nat.le_refl _) (by omega) (Nat.le_of_ble_eq_true rfl) dL_areLossesSound_37 ?_
        refine si_11_9 hM dL_areLossesSound_40 ?_
        refine q_aload_n hM dL_areLossesSound_42 rfl ?_
        refine q_iload hM dL_areLossesSound_43 rfl ?_
        refine q_iconst (v := 2) hM dL_areLossesSound_45 (by decide) ?_
        refine callVe_i hM mi_X6_trap lk_L_14 cf_X6 (by decide) (by decide) (u_trap2 l G hC hA c22) rfl rfl (by decide) (Nat.le_refl _) (by omega) (Nat.le_of_ble_eq_true rfl) dL_areLossesSound_46 ?_
        refine q_aload_n hM dL_areLossesSound_49 rfl ?_
        refine q_iload hM dL_areLossesSound_50 rfl ?_
        refine q_iconst (v := 2) hM dL_areLossesSound_52 (by decide) ?_
        refine callVe_i hM mi_X6_trap lk_L_14 cf_X6 (by decide) (by decide) (u_trap2 l G hC hA c22) rfl rfl (by decide) (Nat.le_refl _) (by omega) (Nat.le_of_ble_eq_true rfl) dL_areLossesSound_53 ?_
        refine q_imul hM dL_areLossesSound_56 ?_
        refine q_aload_n hM dL_areLossesSound_57 rfl ?_
        refine q_aload_n hM dL_areLossesSound_58 rfl ?_
        refine q_iload hM dL_areLossesSound_59 rfl ?_
        refine q_bipush (v := 7) hM dL_areLossesSound_61 (by decide) ?_
        refine callVe_i hM mi_X6_trap lk_L_14 cf_X6 (by decide) (by decide) (u_trap7 l G hC hA c22) rfl rfl (by decide) (Nat.le_refl _) (by omega) (Nat.le_of_ble_eq_true rfl) dL_areLossesSound_63 ?_
        refine callVe_i hM mi_X6_pressure lk_L_21 cf_X6 (by decide) (by decide) (u_pres l G hC hA c22) rfl rfl (by decide) (Nat.le_refl _) (by omega) (Nat.le_of_ble_eq_true rfl) dL_areLossesSound_66 ?_
        refine q_iconst (v := 1) hM dL_areLossesSound_69 (by decide) ?_
        refine q_iadd hM dL_areLossesSound_70 ?_
        refine q_imul hM dL_areLossesSound_71 ?_
        refine q_bipush (v := 10) hM dL_areLossesSound_72 (by decide) ?_
        refine q_imul hM dL_areLossesSound_74 ?_
        refine si_11_10 hM dL_areLossesSound_75 ?_
        have j107 : J 153 I L X 107 [some (.ref (ad G 0)), some (.int (sSum (sLoss (aF A)) i)), some (.int (0)), some (.int (0)), some (.int (0)), some (.long (sSumL (aG A) i)), none, some (.int (nI i)), some (.int (sOf (aF A) i 5)), some (.int (sLoss (aF A) i)), some (.int (sOf (aF A) i 2 * sOf (aF A) i 2 * (sP (aF A) i + 1) * 10))] [] := by
          refine q_aload_n hM dL_areLossesSound_107 rfl ?_
          refine q_iload hM dL_areLossesSound_108 rfl ?_
          refine q_bipush (v := 7) hM dL_areLossesSound_110 (by decide) ?_
          refine callVe_i hM mi_X6_trap lk_L_14 cf_X6 (by decide) (by decide) (u_trap7 l G hC hA c22) rfl rfl (by decide) (Nat.le_refl _) (by omega) (Nat.le_of_ble_eq_true rfl) dL_areLossesSound_112 ?_
          refine q_aload_n hM dL_areLossesSound_115 rfl ?_
          refine q_aload_n hM dL_areLossesSound_116 rfl ?_
          refine q_iload hM dL_areLossesSound_117 rfl ?_
          refine q_iconst (v := 0) hM dL_areLossesSound_119 (by decide) ?_
          refine callVe_i hM mi_X6_trap lk_L_14 cf_X6 (by decide) (by decide) (u_trap0 l G hC hA c22) rfl rfl (by decide) (Nat.le_refl _) (by omega) (Nat.le_of_ble_eq_true rfl) dL_areLossesSound_120 ?_
          refine callVe_i hM mi_X6_headerOf lk_L_24 cf_X6 (by decide) (by decide) (u_head l G hC hA c22) rfl rfl (by decide) (Nat.le_refl _) (by omega) (Nat.le_of_ble_eq_true rfl) dL_areLossesSound_123 ?_
          refine q_icmp_ne_f (tgt := 175) hM dL_areLossesSound_126 rfl (by decide) ?_
          have j159 : J 153 I L X 159 [some (.ref (ad G 0)), some (.int (sSum (sLoss (aF A)) i)), some (.int (0)), some (.int (0)), some (.int (0)), some (.long (sSumL (aG A) i)), none, some (.int (nI i)), some (.int (sOf (aF A) i 5)), some (.int (sLoss (aF A) i)), some (.int (sOf (aF A) i 2 * sOf (aF A) i 2 * (sP (aF A) i + 1) * 10))] [] := by
            refine q_aload_n hM dL_areLossesSound_159 rfl ?_
            refine q_iload hM dL_areLossesSound_160 rfl ?_
            refine q_bipush (v := 6) hM dL_areLossesSound_162 (by decide) ?_
            refine callVe_i hM mi_X6_trap lk_L_14 cf_X6 (by decide) (by decide) (u_trap6 l G hC hA c22) rfl rfl (by decide) (Nat.le_refl _) (by omega) (Nat.le_of_ble_eq_true rfl) dL_areLossesSound_164 ?_
            refine q_aload_n hM dL_areLossesSound_167 rfl ?_
            refine q_iconst (v := 5) hM dL_areLossesSound_168 (by decide) ?_
            refine callVe_i hM mi_X6_count lk_L_8 cf_X6 (by decide) (by decide) (u_count5 l G hC hA) rfl rfl (by decide) (Nat.le_refl _) (by omega) (Nat.le_of_ble_eq_true rfl) dL_areLossesSound_169 ?_
            refine q_icmp_le_t (tgt := 177) hM dL_areLossesSound_172 (by rw [le_i]; exact (hQ i c22).2) (by decide) ?_
            refine q_iload_n hM dL_areLossesSound_177 rfl ?_
            refine q_iload hM dL_areLossesSound_178 rfl ?_
            refine q_iadd hM dL_areLossesSound_180 ?_
            refine si_11_1 hM dL_areLossesSound_181 ?_
            refine q_lload hM dL_areLossesSound_182 rfl ?_
            refine q_aload_n hM dL_areLossesSound_184 rfl ?_
            refine q_iload hM dL_areLossesSound_185 rfl ?_
            refine callVe_l hM mi_X6_lost lk_L_27 cf_X6 (by decide) (by decide) (u_lost l G hC hA c22) rfl rfl (by decide) (Nat.le_refl _) (by omega) (Nat.le_of_ble_eq_true rfl) dL_areLossesSound_187 ?_
            refine q_ladd hM dL_areLossesSound_190 ?_
            refine sl_11_5 hM dL_areLossesSound_191 ?_
            refine sinc_11_7 hM dL_areLossesSound_193 (inc1 i) ?_
            refine q_goto (tgt := 15) hM dL_areLossesSound_196 (by decide) ?_
            exact ihk (i + 1) _ _ _ (by omega) (by omega)
          refine q_iload hM dL_areLossesSound_129 rfl ?_
          refine q_if_ne (tgt := 138) hM dL_areLossesSound_131 (by decide) (fun c131 => ?_) (fun c131 => ?_)
          · refine q_iconst (v := 0) hM dL_areLossesSound_138 (by decide) ?_
            refine q_aload_n hM dL_areLossesSound_139 rfl ?_
            refine q_iload hM dL_areLossesSound_140 rfl ?_
            refine q_bipush (v := 6) hM dL_areLossesSound_142 (by decide) ?_
            refine callVe_i hM mi_X6_trap lk_L_14 cf_X6 (by decide) (by decide) (u_trap6 l G hC hA c22) rfl rfl (by decide) (Nat.le_refl _) (by omega) (Nat.le_of_ble_eq_true rfl) dL_areLossesSound_144 ?_
            refine q_iconst (v := -1) hM dL_areLossesSound_147 (by decide) ?_
            refine q_icmp_ne (tgt := 155) hM dL_areLossesSound_148 (by decide) (fun c148 => ?_) (fun c148 => ?_)
            · refine q_iconst (v := 0) hM dL_areLossesSound_155 (by decide) ?_
              refine q_icmp_ne_f (tgt := 175) hM dL_areLossesSound_156 (by decide) (by decide) ?_
              exact j159
            · refine q_iconst (v := 1) hM dL_areLossesSound_151 (by decide) ?_
              refine q_goto (tgt := 156) hM dL_areLossesSound_152 (by decide) ?_
              refine q_icmp_ne_t (tgt := 175) hM dL_areLossesSound_156 (by decide) (by decide) ?_
              first | exact absurd ((hQ i c22).1.mp c131) c148 | exact absurd ((hQ i c22).1.mpr c148) c131
          · refine q_iconst (v := 1) hM dL_areLossesSound_134 (by decide) ?_
            refine q_goto (tgt := 139) hM dL_areLossesSound_135 (by decide) ?_
            refine q_aload_n hM dL_areLossesSound_139 rfl ?_
            refine q_iload hM dL_areLossesSound_140 rfl ?_
            refine q_bipush (v := 6) hM dL_areLossesSound_142 (by decide) ?_
            refine callVe_i hM mi_X6_trap lk_L_14 cf_X6 (by decide) (by decide) (u_trap6 l G hC hA c22) rfl rfl (by decide) (Nat.le_refl _) (by omega) (Nat.le_of_ble_eq_true rfl) dL_areLossesSound_144 ?_
            refine q_iconst (v := -1) hM dL_areLossesSound_147 (by decide) ?_
            refine q_icmp_ne (tgt := 155) hM dL_areLossesSound_148 (by decide) (fun c148 => ?_) (fun c148 => ?_)
            · refine q_iconst (v := 0) hM dL_areLossesSound_155 (by decide) ?_
              refine q_icmp_ne_t (tgt := 175) hM dL_areLossesSound_156 (by decide) (by decide) ?_
              first | exact absurd ((hQ i c22).1.mp c131) c148 | exact absurd ((hQ i c22).1.mpr c148) c131
            · refine q_iconst (v := 1) hM dL_areLossesSound_151 (by decide) ?_
              refine q_goto (tgt := 156) hM dL_areLossesSound_152 (by decide) ?_
              refine q_icmp_ne_f (tgt := 175) hM dL_areLossesSound_156 (by decide) (by decide) ?_
              exact j159
        refine q_iload hM dL_areLossesSound_77 rfl ?_
        refine q_iload hM dL_areLossesSound_79 rfl ?_
        refine q_iconst (v := 3) hM dL_areLossesSound_81 (by decide) ?_
        refine q_icmp_ne (tgt := 90) hM dL_areLossesSound_82 (by decide) (fun c82 => ?_) (fun c82 => ?_)
        · refine q_iload hM dL_areLossesSound_90 rfl ?_
          refine q_iconst (v := 2) hM dL_areLossesSound_92 (by decide) ?_
          refine q_icmp_ne (tgt := 103) hM dL_areLossesSound_93 (by decide) (fun c93 => ?_) (fun c93 => ?_)
          · refine q_iconst (v := 0) hM dL_areLossesSound_103 (by decide) ?_
            refine q_icmp_ne_f (tgt := 175) hM dL_areLossesSound_104 (by first | exact sLoss_3 c82 | exact sLoss_2 c82 c93 | exact sLoss_0 c82 c93) (by decide) ?_
            exact j107
          · refine q_iload hM dL_areLossesSound_96 rfl ?_
            refine q_iconst (v := 4) hM dL_areLossesSound_98 (by decide) ?_
            refine q_idiv hM dL_areLossesSound_99 (by decide) ?_
            refine q_goto (tgt := 104) hM dL_areLossesSound_100 (by decide) ?_
            refine q_icmp_ne_f (tgt := 175) hM dL_areLossesSound_104 (by first | exact sLoss_3 c82 | exact sLoss_2 c82 c93 | exact sLoss_0 c82 c93) (by decide) ?_
            exact j107
        · refine q_iload hM dL_areLossesSound_85 rfl ?_
          refine q_goto (tgt := 104) hM dL_areLossesSound_87 (by decide) ?_
          refine q_icmp_ne_f (tgt := 175) hM dL_areLossesSound_104 (by first | exact sLoss_3 c82 | exact sLoss_2 c82 c93 | exact sLoss_0 c82 c93) (by decide) ?_
          exact j107
  exact loop1 (cI (aF A 1) + 1) 0 _ _ _ (Nat.zero_le _) (by omega)
