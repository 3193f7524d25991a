/-! ===== the law's check of the round ===== -/
theorem rnd_upd {f : Fr} {w S : Nat → Bool} (h : ∀ t, t < cI (f 1) → (w t = true ↔ sDue f t ∧ ¬ S t = true)) (t : Nat) : ∀ k, k < cI (f 1) → (va_up w t false k = true ↔ sDue f k ∧ ¬ va_up S t true k = true) := by
  intro k hk
  by_cases e : k = t
  · subst e
    rw [va_up_self, va_up_self]
    exact ⟨fun q => absurd q (by decide), fun q => absurd rfl q.2⟩
  · rw [va_up_ne _ _ e, va_up_ne _ _ e]
    exact h k hk
theorem rnd_not {f : Fr} {t : Nat} (h : (if sDue f t then (1 : Int32) else 0) = 0) : ¬ sDue f t := fun q => by
  rw [if_pos q] at h
  exact absurd h (by decide)
theorem rnd_open {f : Fr} {m : Int32} {S : Nat → Bool} (hm : MkOK m S) {t : Nat} (ht : t < 16) (h1 : (if sDue f t then (1 : Int32) else 0) = 1) (h2 : (m >>> (nI t &&& 31)) &&& 1 = 0) : sDue f t ∧ ¬ S t = true := by
  rw [mk_bit hm ht, mk_is0] at h2
  refine ⟨Classical.byContradiction fun q => ?_, by rw [h2]; decide⟩
  rw [if_neg q] at h1
  exact absurd h1 (by decide)
theorem due_sum (f : Fr) (n : Nat) : sSum (fun t => if sDue f t then 1 else 0) n = nI (cnt (fun t => decide (sDue f t)) n) := by
  rw [← cnt_sum]
  refine sSum_cong (fun t _ => ?_)
  by_cases h : sDue f t
  · rw [if_pos h, if_pos (decide_eq_true h)]
  · rw [if_neg h, if_neg (by rw [decide_eq_false h]; decide)]

set_option maxHeartbeats 4000000 in
set_option maxRecDepth 100000 in
theorem c_L_isRoundSound (l : Launch) (G : kG) {I : kI} {L : kL} {X : kX} {A : kA} (hC : RC I L X A) (hA : AInv A)  : Kz l yL_isRoundSound cL_isRoundSound 10 5 G [.ref (ad G 0)] 153 153 I L X (fun z I' L' X' => z = true ∧ RC I' L' X' A) := by
  refine Kz_intro (own := RL) (lv0 := [some (.ref (ad G 0)), none, none, none, none, none, none, none, none, none]) 9 (by decide +kernel) rfl rfl (Nat.le_of_ble_eq_true rfl) (Nat.le_refl _) (fun J hM hret => ?_)
  have hP := hA.f
  have hn := hP.nT
  have hK := wkF_le hP
  refine q_iconst (v := 0) hM dL_isRoundSound_0 (by decide) ?_
  refine si_10_1 hM dL_isRoundSound_1 ?_
  refine q_iconst (v := 0) hM dL_isRoundSound_2 (by decide) ?_
  refine si_10_2 hM dL_isRoundSound_3 ?_
  refine q_iconst (v := 0) hM dL_isRoundSound_4 (by decide) ?_
  refine si_10_3 hM dL_isRoundSound_5 ?_
  refine q_iconst (v := 0) hM dL_isRoundSound_6 (by decide) ?_
  refine si_10_4 hM dL_isRoundSound_7 ?_
  refine q_iconst (v := 0) hM dL_isRoundSound_9 (by decide) ?_
  refine si_10_5 hM dL_isRoundSound_10 ?_
  have loop1 : ∀ (k n : Nat) (I : kI) (L : kL) (X : kX) (set x y len : Int32) (w S : Nat → Bool) (v6 v7 v8 v9 : Option Value), 16 < n + k → RC I L X A → MkOK set S → (∀ t, t < cI (aF A 1) → (w t = true ↔ sDue (aF A) t ∧ ¬ S t = true)) → RdI (aF A) n w x y len → J 153 I L X 12 [some (.ref (ad G 0)), some (.int set), some (.int (nI n)), some (.int x), some (.int y), some (.int len), v6, v7, v8, v9] [] := by
    intro k
    induction k with
    | zero => intro n I L X set x y len w S v6 v7 v8 v9 h1 hC hm hw hR; obtain ⟨M, st, z⟩ := hR; omega
    | succ k ih =>
      intro n I L X set x y len w S v6 v7 v8 v9 h1 hC hm hw hR
      have hn16 : n ≤ 16 := by obtain ⟨M, st, z⟩ := hR; exact z.2.2.2.2.2.2
      refine q_aload_n hM dL_isRoundSound_12 rfl ?_
      refine q_iload_n hM dL_isRoundSound_13 rfl ?_
      refine callV_i hM mi_X6_round lk_L_56 cf_X6 (by decide) (by decide) (c_X6_round l G hC hA (nI n)) rfl rfl (by decide) (Nat.le_refl _) (by omega) (Nat.le_of_ble_eq_true rfl) dL_isRoundSound_14 (fun v9 I9 L9 X9 hp9 => ?_)
      obtain ⟨hv9, hC9, -⟩ := hp9
      rw [round_at (by omega) (by omega)] at hv9
      rcases hR.step hP with ⟨e1, e2, e3, e4⟩ | ⟨t, t1, t2, t3, t4, t5, t6⟩
      · rw [if_neg (by omega)] at hv9
        subst hv9
        refine q_iconst (v := -1) hM dL_isRoundSound_17 (by decide) ?_
        refine q_icmp_eq_t (tgt := 204) hM dL_isRoundSound_18 (by decide) (by decide) ?_
        refine q_iconst (v := 0) hM dL_isRoundSound_204 (by decide) ?_
        refine si_10_6 hM dL_isRoundSound_205 ?_
        refine q_iconst (v := 0) hM dL_isRoundSound_207 (by decide) ?_
        refine si_10_7 hM dL_isRoundSound_208 ?_
        have loop3 : ∀ (k3 j : Nat), j ≤ cI (aF A 1) → cI (aF A 1) < j + k3 → J 153 I9 L9 X9 210 [some (.ref (ad G 0)), some (.int set), some (.int (nI n)), some (.int x), some (.int y), some (.int len), some (.int (sSum (fun t => if sDue (aF A) t then 1 else 0) j)), some (.int (nI j)), v8, v9] [] := by
          intro k3
          induction k3 with
          | zero => intro j; intros; omega
          | succ k3 ih3 =>
            intro j h31 h32
            refine q_iload hM dL_isRoundSound_210 rfl ?_
            refine q_aload_n hM dL_isRoundSound_212 rfl ?_
            refine q_iconst (v := 1) hM dL_isRoundSound_213 (by decide) ?_
            refine callVe_i hM mi_X6_count lk_L_8 cf_X6 (by decide) (by decide) (u_count1 l G hC9 hA) rfl rfl (by decide) (Nat.le_refl _) (by omega) (Nat.le_of_ble_eq_true rfl) dL_isRoundSound_214 ?_
            refine q_icmp_geN (tgt := 296) hM j (cI (aF A 1)) rfl hP.e1 (by omega) (by omega) dL_isRoundSound_217 (by decide) (fun c217 => ?_) (fun c217 => ?_)
            · obtain rfl : j = cI (aF A 1) := by omega
              refine q_iload hM dL_isRoundSound_296 rfl ?_
              refine q_iload_n hM dL_isRoundSound_298 rfl ?_
              refine q_icmp_ne_f (tgt := 320) hM dL_isRoundSound_299 (by rw [due_sum, e4]) (by decide) ?_
              refine q_aload_n hM dL_isRoundSound_302 rfl ?_
              refine callV_i hM mi_X6_roundLength lk_L_71 cf_X6 (by decide) (by decide) (c_X6_roundLength l G hC9 hA) rfl rfl (by decide) (Nat.le_refl _) (by omega) (Nat.le_of_ble_eq_true rfl) dL_isRoundSound_303 (fun v9 I9 L9 X9 hp9 => ?_)
              obtain ⟨hv9, hC7, -⟩ := hp9
              subst hv9
              refine q_iload hM dL_isRoundSound_306 rfl ?_
              refine q_iload_n hM dL_isRoundSound_308 rfl ?_
              refine q_iadd hM dL_isRoundSound_309 ?_
              refine q_iload hM dL_isRoundSound_310 rfl ?_
              refine q_iadd hM dL_isRoundSound_312 ?_
              refine q_icmp_ne_f (tgt := 320) hM dL_isRoundSound_313 (by show (wkF (aF A)).2.2 = _; rw [e2, Int32.add_assoc]) (by decide) ?_
              refine q_iconst (v := 1) hM dL_isRoundSound_316 (by decide) ?_
              refine q_goto (tgt := 321) hM dL_isRoundSound_317 (by decide) ?_
              exact hret true _ _ _ _ _ _ rfl ⟨rfl, hC7⟩ dL_isRoundSound_321
            · refine q_iload hM dL_isRoundSound_220 rfl ?_
              refine q_aload_n hM dL_isRoundSound_222 rfl ?_
              refine q_iload hM dL_isRoundSound_223 rfl ?_
              refine callVe_i hM mi_X6_isDue lk_L_59 cf_X6 (by decide) (by decide) (u_due l G hC9 hA c217) rfl rfl (by decide) (Nat.le_refl _) (by omega) (Nat.le_of_ble_eq_true rfl) dL_isRoundSound_225 ?_
              refine q_iadd hM dL_isRoundSound_228 ?_
              refine si_10_6 hM dL_isRoundSound_229 ?_
              refine q_aload_n hM dL_isRoundSound_231 rfl ?_
              refine q_iload hM dL_isRoundSound_232 rfl ?_
              refine callVe_i hM mi_X6_isDue lk_L_59 cf_X6 (by decide) (by decide) (u_due l G hC9 hA c217) rfl rfl (by decide) (Nat.le_refl _) (by omega) (Nat.le_of_ble_eq_true rfl) dL_isRoundSound_234 ?_
              refine q_if_ne (tgt := 290) hM dL_isRoundSound_237 (by decide) (fun c237 => ?_) (fun c237 => ?_)
              · refine sinc_10_7 hM dL_isRoundSound_290 (inc1 j) ?_
                refine q_goto (tgt := 210) hM dL_isRoundSound_293 (by decide) ?_
                exact ih3 (j + 1) (by omega) (by omega)
              · have hnd := rnd_not c237
                have hdn := due_not hP c217 hnd
                refine q_aload_n hM dL_isRoundSound_240 rfl ?_
                refine q_iload hM dL_isRoundSound_241 rfl ?_
                refine callVe_i hM mi_X6_dueOn lk_L_62 cf_X6 (by decide) (by decide) (u_dueOn l G hC9 hA c217) rfl rfl (by decide) (Nat.le_refl _) (by omega) (Nat.le_of_ble_eq_true rfl) dL_isRoundSound_243 ?_
                refine q_topi _ (if_neg hnd) ?_
                refine q_aload_n hM dL_isRoundSound_246 rfl ?_
                refine q_iconst (v := 5) hM dL_isRoundSound_247 (by decide) ?_
                refine callVe_i hM mi_X6_count lk_L_8 cf_X6 (by decide) (by decide) (u_count5 l G hC9 hA) rfl rfl (by decide) (Nat.le_refl _) (by omega) (Nat.le_of_ble_eq_true rfl) dL_isRoundSound_248 ?_
                refine q_icmp_le_f (tgt := 288) hM dL_isRoundSound_251 hdn.2 (by decide) ?_
                refine q_aload_n hM dL_isRoundSound_254 rfl ?_
                refine q_iload hM dL_isRoundSound_255 rfl ?_
                refine q_iconst (v := 5) hM dL_isRoundSound_257 (by decide) ?_
                refine callVe_i hM mi_X6_trap lk_L_14 cf_X6 (by decide) (by decide) (u_trap5 l G hC9 hA c217) rfl rfl (by decide) (Nat.le_refl _) (by omega) (Nat.le_of_ble_eq_true rfl) dL_isRoundSound_258 ?_
                refine q_iconst (v := 1) hM dL_isRoundSound_261 (by decide) ?_
                refine q_icmp_ne_f (tgt := 288) hM dL_isRoundSound_262 hdn.1 (by decide) ?_
                refine q_aload_n hM dL_isRoundSound_265 rfl ?_
                refine q_iload hM dL_isRoundSound_266 rfl ?_
                refine callVe_i hM mi_X6_dueOn lk_L_62 cf_X6 (by decide) (by decide) (u_dueOn l G hC9 hA c217) rfl rfl (by decide) (Nat.le_refl _) (by omega) (Nat.le_of_ble_eq_true rfl) dL_isRoundSound_268 ?_
                refine q_topi _ (if_neg hnd) ?_
                refine q_aload_n hM dL_isRoundSound_271 rfl ?_
                refine q_iload hM dL_isRoundSound_272 rfl ?_
                refine q_bipush (v := 6) hM dL_isRoundSound_274 (by decide) ?_
                refine callVe_i hM mi_X6_trap lk_L_14 cf_X6 (by decide) (by decide) (u_trap6 l G hC9 hA c217) rfl rfl (by decide) (Nat.le_refl _) (by omega) (Nat.le_of_ble_eq_true rfl) dL_isRoundSound_276 ?_
                refine q_aload_n hM dL_isRoundSound_279 rfl ?_
                refine q_iconst (v := 4) hM dL_isRoundSound_280 (by decide) ?_
                refine callVe_i hM mi_X6_count lk_L_8 cf_X6 (by decide) (by decide) (u_count4 l G hC9 hA) rfl rfl (by decide) (Nat.le_refl _) (by omega) (Nat.le_of_ble_eq_true rfl) dL_isRoundSound_281 ?_
                refine q_iadd hM dL_isRoundSound_284 ?_
                refine q_icmp_eq_t (tgt := 290) hM dL_isRoundSound_285 rfl (by decide) ?_
                refine sinc_10_7 hM dL_isRoundSound_290 (inc1 j) ?_
                refine q_goto (tgt := 210) hM dL_isRoundSound_293 (by decide) ?_
                exact ih3 (j + 1) (by omega) (by omega)
        exact loop3 (cI (aF A 1) + 1) 0 (Nat.zero_le _) (by omega)
      · rw [if_pos t3, t4] at hv9
        subst hv9
        refine q_iconst (v := -1) hM dL_isRoundSound_17 (by decide) ?_
        refine q_icmp_eq_f (tgt := 204) hM dL_isRoundSound_18 (nI_neg1 (by omega)) (by decide) ?_
        refine q_aload_n hM dL_isRoundSound_21 rfl ?_
        refine q_iload_n hM dL_isRoundSound_22 rfl ?_
        refine callV_i hM mi_X6_round lk_L_56 cf_X6 (by decide) (by decide) (c_X6_round l G hC9 hA (nI n)) rfl rfl (by decide) (Nat.le_refl _) (by omega) (Nat.le_of_ble_eq_true rfl) dL_isRoundSound_23 (fun v9 I9 L9 X9 hp9 => ?_)
        obtain ⟨hv9, hC8, -⟩ := hp9
        rw [round_at (by omega) (by omega), if_pos t3, t4] at hv9
        subst hv9
        have hdu := (hw t t1).mp t2
        refine si_10_6 hM dL_isRoundSound_26 ?_
        refine q_iload hM dL_isRoundSound_28 rfl ?_
        refine q_if_lt_f (tgt := 67) hM dL_isRoundSound_30 (nI_pos (by omega)) (by decide) ?_
        refine q_iload_n hM dL_isRoundSound_33 rfl ?_
        refine q_iload hM dL_isRoundSound_34 rfl ?_
        refine q_ishr hM dL_isRoundSound_36 ?_
        refine q_iconst (v := 1) hM dL_isRoundSound_37 (by decide) ?_
        refine q_iand hM dL_isRoundSound_38 ?_
        refine q_iconst (v := 1) hM dL_isRoundSound_39 (by decide) ?_
        refine q_icmp_eq_f (tgt := 67) hM dL_isRoundSound_40 (by rw [mk_bit hm (by omega)]; exact fun q => hdu.2 (mk_is.mp q)) (by decide) ?_
        refine q_aload_n hM dL_isRoundSound_43 rfl ?_
        refine q_iload hM dL_isRoundSound_44 rfl ?_
        refine callVe_i hM mi_X6_isDue lk_L_59 cf_X6 (by decide) (by decide) (u_due l G hC8 hA t1) rfl rfl (by decide) (Nat.le_refl _) (by omega) (Nat.le_of_ble_eq_true rfl) dL_isRoundSound_46 ?_
        refine q_iconst (v := 1) hM dL_isRoundSound_49 (by decide) ?_
        refine q_icmp_ne_f (tgt := 67) hM dL_isRoundSound_50 (if_pos hdu.1) (by decide) ?_
        refine q_aload_n hM dL_isRoundSound_53 rfl ?_
        refine q_iload hM dL_isRoundSound_54 rfl ?_
        refine callVe_i hM mi_X6_dueOn lk_L_62 cf_X6 (by decide) (by decide) (u_dueOn l G hC8 hA t1) rfl rfl (by decide) (Nat.le_refl _) (by omega) (Nat.le_of_ble_eq_true rfl) dL_isRoundSound_56 ?_
        refine q_aload_n hM dL_isRoundSound_59 rfl ?_
        refine q_iconst (v := 5) hM dL_isRoundSound_60 (by decide) ?_
        refine callVe_i hM mi_X6_count lk_L_8 cf_X6 (by decide) (by decide) (u_count5 l G hC8 hA) rfl rfl (by decide) (Nat.le_refl _) (by omega) (Nat.le_of_ble_eq_true rfl) dL_isRoundSound_61 ?_
        refine q_icmp_eq_t (tgt := 69) hM dL_isRoundSound_64 (if_pos hdu.1) (by decide) ?_
        refine q_aload_n hM dL_isRoundSound_69 rfl ?_
        refine q_iload hM dL_isRoundSound_70 rfl ?_
        refine q_iload_n hM dL_isRoundSound_72 rfl ?_
        refine q_iload hM dL_isRoundSound_73 rfl ?_
        refine callSe_i hM mi_L_way lk_L_65 (c_L_way l G hC8 hA t1 x y) rfl rfl (by decide) (Nat.le_refl _) (by omega) (Nat.le_of_ble_eq_true rfl) dL_isRoundSound_75 ?_
        refine si_10_7 hM dL_isRoundSound_78 ?_
        refine q_iconst (v := 0) hM dL_isRoundSound_80 (by decide) ?_
        refine si_10_8 hM dL_isRoundSound_81 ?_
        have loop2 : ∀ (k2 j : Nat) (v9 : Option Value), j ≤ cI (aF A 1) → cI (aF A 1) < j + k2 → J 153 I9 L9 X9 83 [some (.ref (ad G 0)), some (.int set), some (.int (nI n)), some (.int x), some (.int y), some (.int len), some (.int (nI t)), some (.int (wayF (aF A) t x y)), some (.int (nI j)), v9] [] := by
          intro k2
          induction k2 with
          | zero => intro j; intros; omega
          | succ k2 ih2 =>
            intro j v9 h21 h22
            refine q_iload hM dL_isRoundSound_83 rfl ?_
            refine q_aload_n hM dL_isRoundSound_85 rfl ?_
            refine q_iconst (v := 1) hM dL_isRoundSound_86 (by decide) ?_
            refine callVe_i hM mi_X6_count lk_L_8 cf_X6 (by decide) (by decide) (u_count1 l G hC8 hA) rfl rfl (by decide) (Nat.le_refl _) (by omega) (Nat.le_of_ble_eq_true rfl) dL_isRoundSound_87 ?_
            refine q_icmp_geN (tgt := 167) hM j (cI (aF A 1)) rfl hP.e1 (by omega) (by omega) dL_isRoundSound_90 (by decide) (fun c90 => ?_) (fun c90 => ?_)
            · obtain rfl : j = cI (aF A 1) := by omega
              refine q_iload hM dL_isRoundSound_167 rfl ?_
              refine q_iload hM dL_isRoundSound_169 rfl ?_
              refine q_iadd hM dL_isRoundSound_171 ?_
              refine si_10_5 hM dL_isRoundSound_172 ?_
              refine q_aload_n hM dL_isRoundSound_174 rfl ?_
              refine q_iload hM dL_isRoundSound_175 rfl ?_
              refine q_iconst (v := 3) hM dL_isRoundSound_177 (by decide) ?_
              refine callVe_i hM mi_X6_trap lk_L_14 cf_X6 (by decide) (by decide) (u_trap3 l G hC8 hA t1) rfl rfl (by decide) (Nat.le_refl _) (by omega) (Nat.le_of_ble_eq_true rfl) dL_isRoundSound_178 ?_
              refine si_10_3 hM dL_isRoundSound_181 ?_
              refine q_aload_n hM dL_isRoundSound_182 rfl ?_
              refine q_iload hM dL_isRoundSound_183 rfl ?_
              refine q_iconst (v := 4) hM dL_isRoundSound_185 (by decide) ?_
              refine callVe_i hM mi_X6_trap lk_L_14 cf_X6 (by decide) (by decide) (u_trap4 l G hC8 hA t1) rfl rfl (by decide) (Nat.le_refl _) (by omega) (Nat.le_of_ble_eq_true rfl) dL_isRoundSound_186 ?_
              refine si_10_4 hM dL_isRoundSound_189 ?_
              refine q_iload_n hM dL_isRoundSound_191 rfl ?_
              refine q_iconst (v := 1) hM dL_isRoundSound_192 (by decide) ?_
              refine q_iload hM dL_isRoundSound_193 rfl ?_
              refine q_ishl hM dL_isRoundSound_195 ?_
              refine q_ior hM dL_isRoundSound_196 ?_
              refine si_10_1 hM dL_isRoundSound_197 ?_
              refine sinc_10_2 hM dL_isRoundSound_198 (inc1 n) ?_
              refine q_goto (tgt := 12) hM dL_isRoundSound_201 (by decide) ?_
              exact ih (n + 1) _ _ _ _ _ _ _ (va_up w t false) (va_up S t true) _ _ _ _ (by omega) hC8 (mk_add hm (by omega)) (rnd_upd hw t) t6
            · refine q_aload_n hM dL_isRoundSound_93 rfl ?_
              refine q_iload hM dL_isRoundSound_94 rfl ?_
              refine callVe_i hM mi_X6_isDue lk_L_59 cf_X6 (by decide) (by decide) (u_due l G hC8 hA c90) rfl rfl (by decide) (Nat.le_refl _) (by omega) (Nat.le_of_ble_eq_true rfl) dL_isRoundSound_96 ?_
              refine q_iconst (v := 1) hM dL_isRoundSound_99 (by decide) ?_
              refine q_icmp_ne (tgt := 116) hM dL_isRoundSound_100 (by decide) (fun c100 => ?_) (fun c100 => ?_)
              · refine q_iconst (v := 0) hM dL_isRoundSound_116 (by decide) ?_
                refine si_10_9 hM dL_isRoundSound_117 ?_
                refine q_iload hM dL_isRoundSound_119 rfl ?_
                refine q_if_eq_t (tgt := 161) hM dL_isRoundSound_121 (by decide) (by decide) ?_
                refine sinc_10_8 hM dL_isRoundSound_161 (inc1 j) ?_
                refine q_goto (tgt := 83) hM dL_isRoundSound_164 (by decide) ?_
                exact ih2 (j + 1) _ (by omega) (by omega)
              · refine q_iload_n hM dL_isRoundSound_103 rfl ?_
                refine q_iload hM dL_isRoundSound_104 rfl ?_
                refine q_ishr hM dL_isRoundSound_106 ?_
                refine q_iconst (v := 1) hM dL_isRoundSound_107 (by decide) ?_
                refine q_iand hM dL_isRoundSound_108 ?_
                refine q_if_ne (tgt := 116) hM dL_isRoundSound_109 (by decide) (fun c109 => ?_) (fun c109 => ?_)
                · refine q_iconst (v := 0) hM dL_isRoundSound_116 (by decide) ?_
                  refine si_10_9 hM dL_isRoundSound_117 ?_
                  refine q_iload hM dL_isRoundSound_119 rfl ?_
                  refine q_if_eq_t (tgt := 161) hM dL_isRoundSound_121 (by decide) (by decide) ?_
                  refine sinc_10_8 hM dL_isRoundSound_161 (inc1 j) ?_
                  refine q_goto (tgt := 83) hM dL_isRoundSound_164 (by decide) ?_
                  exact ih2 (j + 1) _ (by omega) (by omega)
                · refine q_iconst (v := 1) hM dL_isRoundSound_112 (by decide) ?_
                  refine q_goto (tgt := 117) hM dL_isRoundSound_113 (by decide) ?_
                  refine si_10_9 hM dL_isRoundSound_117 ?_
                  refine q_iload hM dL_isRoundSound_119 rfl ?_
                  refine q_if_eq_f (tgt := 161) hM dL_isRoundSound_121 (by decide) (by decide) ?_
                  have hnr := t5 j c90 ((hw j c90).mpr (rnd_open hm (by omega) c100 c109))
                  refine q_aload_n hM dL_isRoundSound_124 rfl ?_
                  refine q_iload hM dL_isRoundSound_125 rfl ?_
                  refine q_iload_n hM dL_isRoundSound_127 rfl ?_
                  refine q_iload hM dL_isRoundSound_128 rfl ?_
                  refine callSe_i hM mi_L_way lk_L_65 (c_L_way l G hC8 hA c90 x y) rfl rfl (by decide) (Nat.le_refl _) (by omega) (Nat.le_of_ble_eq_true rfl) dL_isRoundSound_130 ?_
                  refine q_iload hM dL_isRoundSound_133 rfl ?_
                  refine q_icmp_lt_f (tgt := 159) hM dL_isRoundSound_135 hnr.1 (by decide) ?_
                  refine q_aload_n hM dL_isRoundSound_138 rfl ?_
                  refine q_iload hM dL_isRoundSound_139 rfl ?_
                  refine q_iload_n hM dL_isRoundSound_141 rfl ?_
                  refine q_iload hM dL_isRoundSound_142 rfl ?_
                  refine callSe_i hM mi_L_way lk_L_65 (c_L_way l G hC8 hA c90 x y) rfl rfl (by decide) (Nat.le_refl _) (by omega) (Nat.le_of_ble_eq_true rfl) dL_isRoundSound_144 ?_
                  refine q_iload hM dL_isRoundSound_147 rfl ?_
                  refine q_icmp_ne (tgt := 161) hM dL_isRoundSound_149 (by decide) (fun c149 => ?_) (fun c149 => ?_)
                  · refine sinc_10_8 hM dL_isRoundSound_161 (inc1 j) ?_
                    refine q_goto (tgt := 83) hM dL_isRoundSound_164 (by decide) ?_
                    exact ih2 (j + 1) _ (by omega) (by omega)
                  · refine q_iload hM dL_isRoundSound_152 rfl ?_
                    refine q_iload hM dL_isRoundSound_154 rfl ?_
                    refine q_icmp_ge_t (tgt := 161) hM dL_isRoundSound_156 (nI_le (hnr.2 c149) (by omega)) (by decide) ?_
                    refine sinc_10_8 hM dL_isRoundSound_161 (inc1 j) ?_
                    refine q_goto (tgt := 83) hM dL_isRoundSound_164 (by decide) ?_
                    exact ih2 (j + 1) _ (by omega) (by omega)
        exact loop2 (cI (aF A 1) + 1) 0 _ (Nat.zero_le _) (by omega)
  exact loop1 17 0 _ _ _ _ _ _ _ (fun t => decide (sDue (aF A) t)) (fun _ => false) _ _ _ _ (by omega) hC (mk_0 (fun _ _ => rfl)) (fun t _ => ⟨fun q => ⟨of_decide_eq_true q, by decide⟩, fun q => decide_eq_true q.1⟩) (RdI.start hP)
