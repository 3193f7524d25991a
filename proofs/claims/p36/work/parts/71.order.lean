/-! ===== the law's check of the repair order ===== -/
theorem pos_ne {f : Fr} {t : Nat} (hp : pos f t = true) : ¬ sLoss f t = 0 := fun q => by
  unfold pos at hp
  rw [q] at hp
  exact absurd hp (by decide)
theorem pos_le {f : Fr} {t : Nat} (h : sLoss f t ≤ 0) : pos f t = false := decide_eq_false (Int32.not_lt.mpr h)
theorem pay_law {f : Fr} (hP : PInv f) {t : Nat} (ht : t < cI (f 1)) (hp : pos f t = true) : ¬ lg_cmp (sPay f t) 1 < 0 ∧ ¬ lg_cmp (sWorth f t * sPay f t) (1000000 * (sCost f t).toInt64) < 0 ∧ (¬ lg_cmp (sPay f t) 1 ≤ 0 → ¬ 0 ≤ lg_cmp (sWorth f t * (sPay f t - 1)) (1000000 * (sCost f t).toInt64)) := by
  obtain ⟨w, M, d, e1, w0, w1, e2, m0, m1, e3, d0, d1, h1, h2, h3⟩ := pay_nat hP ht hp
  rw [e1, e2, e3, show (1 : Int64) = lN 1 from rfl, lN_mul, lN_sub d0, lN_mul]
  refine ⟨?_, ?_, fun q => ?_⟩
  · rw [lgc_neg, Int64.lt_iff_toInt_lt, pk_lT (by omega), pk_lT (by omega)]
    omega
  · rw [lgc_neg, Int64.lt_iff_toInt_lt, pk_lT (by omega), pk_lT (by omega)]
    omega
  · have q1 : 1 < d := by
      rcases Nat.lt_or_ge 1 d with z | z
      · exact z
      · obtain rfl : d = 1 := by omega
        exact absurd (by rw [lgc_eq.mpr rfl]; decide) q
    have h4 := h2 q1
    have h5 : w * (d - 1) ≤ w * d := Nat.mul_le_mul (Nat.le_refl w) (Nat.sub_le d 1)
    rw [Int32.not_le, lgc_neg, Int64.lt_iff_toInt_lt, pk_lT (by omega), pk_lT (by omega)]
    omega
theorem ahd_law {f : Fr} {a b : Nat} (h : ahd f a b = true) (h1 : ¬ lg_cmp (sPay f a) (sPay f b) < 0) : lg_cmp (sPay f a) (sPay f b) = 0 ∧ (¬ sLoss f b < sLoss f a → sLoss f a = sLoss f b ∧ a < b) := by
  rw [ahd_iff] at h
  rw [lgc_neg, Int64.lt_iff_toInt_lt] at h1
  rw [lgc_eq, ← Int64.toInt_inj, lt_i, eq_i]
  refine ⟨by omega, fun q => by omega⟩
theorem ord_set {n : Nat} {S : Nat → Bool} {rL : Nat → Nat} (hS : ∀ t, S t = true ↔ ∃ p, p < n ∧ rL p = t) (t : Nat) : va_up S (rL n) true t = true ↔ ∃ p, p < n + 1 ∧ rL p = t := by
  by_cases e : t = rL n
  · subst e
    rw [va_up_self]
    exact ⟨fun _ => ⟨n, by omega, rfl⟩, fun _ => rfl⟩
  · rw [va_up_ne _ _ e, hS t]
    refine ⟨fun ⟨p, q1, q2⟩ => ⟨p, by omega, q2⟩, fun ⟨p, q1, q2⟩ => ⟨p, ?_, q2⟩⟩
    have : p ≠ n := fun z => e (by rw [← q2, z])
    omega
theorem ord_bit {f : Fr} (hP : PInv f) {c n : Nat} {rL : Nat → Nat} (hr : Rkd f (cI (f 1)) rL c) {m : Int32} {S : Nat → Bool} (hm : MkOK m S) (hS : ∀ t, S t = true ↔ ∃ p, p < n ∧ rL p = t) (hn : n = c) {t : Nat} (ht : t < cI (f 1)) : (m >>> (nI t &&& 31)) &&& 1 = 1 ↔ ¬ sLoss f t ≤ 0 := by
  have h16 := hP.nT
  subst hn
  rw [mk_bit hm (by omega), mk_is, hS t, Int32.not_le]
  constructor
  · rintro ⟨p, q1, rfl⟩
    have := (hr.2.2.1 p q1).2
    exact of_decide_eq_true this
  · intro q
    exact hr.has ht (decide_eq_true q)

set_option maxHeartbeats 4000000 in
set_option maxRecDepth 100000 in
theorem c_L_isOrderSound (l : Launch) (G : kG) {I : kI} {L : kL} {X : kX} {A : kA} (hC : RC I L X A) (hA : AInv A)  : Kz l yL_isOrderSound cL_isOrderSound 12 7 G [.ref (ad G 0)] 153 153 I L X (fun z I' L' X' => z = true ∧ RC I' L' X' A) := by
  refine Kz_intro (own := RL) (lv0 := [some (.ref (ad G 0)), none, none, none, none, none, none, none, none, none, none, none]) 11 (by decide +kernel) rfl rfl (Nat.le_of_ble_eq_true rfl) (Nat.le_refl _) (fun J hM hret => ?_)
  have hP := hA.f
  have hn := hP.nT
  obtain ⟨rL, c, hr⟩ := rkd_ex (aF A) (cI (aF A 1))
  have hc := hr.2.2.2
  refine q_iconst (v := 0) hM dL_isOrderSound_0 (by decide) ?_
  refine si_12_1 hM dL_isOrderSound_1 ?_
  refine q_iconst (v := 0) hM dL_isOrderSound_2 (by decide) ?_
  refine si_12_2 hM dL_isOrderSound_3 ?_
  refine q_iconst (v := -1) hM dL_isOrderSound_4 (by decide) ?_
  refine si_12_3 hM dL_isOrderSound_5 ?_
  have loop1 : ∀ (k n : Nat) (I : kI) (L : kL) (X : kX) (set bef : Int32) (S : Nat → Bool) (v4 v5 v6 v7 v8 v9 v10 v11 : Option Value), n ≤ c → c < n + k → RC I L X A → MkOK set S → (∀ t, S t = true ↔ ∃ p, p < n ∧ rL p = t) → (n = 0 ∧ bef = -1 ∨ 0 < n ∧ bef = nI (rL (n - 1))) → J 153 I L X 6 [some (.ref (ad G 0)), some (.int set), some (.int (nI n)), some (.int bef), v4, v5, v6, v7, v8, v9, v10, v11] [] := by
    intro k
    induction k with
    | zero => intro n; intros; omega
    | succ k ih =>
      intro n I L X set bef S v4 v5 v6 v7 v8 v9 v10 v11 h1 h2 hC hm hS hbf
      refine q_aload_n hM dL_isOrderSound_6 rfl ?_
      refine q_iload_n hM dL_isOrderSound_7 rfl ?_
      refine callV_i hM mi_X6_order lk_L_40 cf_X6 (by decide) (by decide) (c_X6_order l G hC hA (nI n)) rfl rfl (by decide) (Nat.le_refl _) (by omega) (Nat.le_of_ble_eq_true rfl) dL_isOrderSound_8 (fun v9 I9 L9 X9 hp9 => ?_)
      obtain ⟨hv9, hC9, -⟩ := hp9
      rw [ord_at hA hr (by omega)] at hv9
      by_cases hnc : n < c
      · rw [if_pos hnc] at hv9
        subst hv9
        refine q_iconst (v := -1) hM dL_isOrderSound_11 (by decide) ?_
        refine q_icmp_eq_f (tgt := 254) hM dL_isOrderSound_12 (nI_neg1 (by have := (hr.2.2.1 n hnc).1; omega)) (by decide) ?_
        refine q_aload_n hM dL_isOrderSound_15 rfl ?_
        refine q_iload_n hM dL_isOrderSound_16 rfl ?_
        refine callV_i hM mi_X6_order lk_L_40 cf_X6 (by decide) (by decide) (c_X6_order l G hC9 hA (nI n)) rfl rfl (by decide) (Nat.le_refl _) (by omega) (Nat.le_of_ble_eq_true rfl) dL_isOrderSound_17 (fun v9 I9 L9 X9 hp9 => ?_)
        obtain ⟨hv9, hC8, -⟩ := hp9
        rw [ord_at hA hr (by omega), if_pos hnc] at hv9
        subst hv9
        have hb := (hr.2.2.1 n hnc).1
        have hp := (hr.2.2.1 n hnc).2
        have hpl := pay_law hP hb hp
        have hns : ¬ S (rL n) = true := fun q => by obtain ⟨p, q1, q2⟩ := (hS _).mp q; have := hr.inj (p := p) (q := n) (by omega) hnc q2; omega
        refine si_12_4 hM dL_isOrderSound_20 ?_
        refine q_iload hM dL_isOrderSound_22 rfl ?_
        refine q_if_lt_f (tgt := 56) hM dL_isOrderSound_24 (nI_pos (by omega)) (by decide) ?_
        refine q_iload hM dL_isOrderSound_27 rfl ?_
        refine q_aload_n hM dL_isOrderSound_29 rfl ?_
        refine q_iconst (v := 1) hM dL_isOrderSound_30 (by decide) ?_
        refine callVe_i hM mi_X6_count lk_L_8 cf_X6 (by decide) (by decide) (u_count1 l G hC8 hA) rfl rfl (by decide) (Nat.le_refl _) (by omega) (Nat.le_of_ble_eq_true rfl) dL_isOrderSound_31 ?_
        refine q_icmp_ge_f (tgt := 56) hM dL_isOrderSound_34 (by rw [hP.e1]; exact nI_ge hb (by omega)) (by decide) ?_
        refine q_iload_n hM dL_isOrderSound_37 rfl ?_
        refine q_iload hM dL_isOrderSound_38 rfl ?_
        refine q_ishr hM dL_isOrderSound_40 ?_
        refine q_iconst (v := 1) hM dL_isOrderSound_41 (by decide) ?_
        refine q_iand hM dL_isOrderSound_42 ?_
        refine q_iconst (v := 1) hM dL_isOrderSound_43 (by decide) ?_
        refine q_icmp_eq_f (tgt := 56) hM dL_isOrderSound_44 (by rw [mk_bit hm (by omega)]; exact fun q => hns (mk_is.mp q)) (by decide) ?_
        refine q_aload_n hM dL_isOrderSound_47 rfl ?_
        refine q_iload hM dL_isOrderSound_48 rfl ?_
        refine callVe_i hM mi_X6_loss lk_L_18 cf_X6 (by decide) (by decide) (u_loss l G hC8 hA hb) rfl rfl (by decide) (Nat.le_refl _) (by omega) (Nat.le_of_ble_eq_true rfl) dL_isOrderSound_50 ?_
        refine q_if_ne_t (tgt := 58) hM dL_isOrderSound_53 (pos_ne hp) (by decide) ?_
        refine q_aload_n hM dL_isOrderSound_58 rfl ?_
        refine q_iload hM dL_isOrderSound_59 rfl ?_
        refine callVe_l hM mi_X6_payback lk_L_43 cf_X6 (by decide) (by decide) (u_pay l G hC8 hA hb) rfl rfl (by decide) (Nat.le_refl _) (by omega) (Nat.le_of_ble_eq_true rfl) dL_isOrderSound_61 ?_
        refine sl_12_5 hM dL_isOrderSound_64 ?_
        refine q_aload_n hM dL_isOrderSound_66 rfl ?_
        refine q_iload hM dL_isOrderSound_67 rfl ?_
        refine callVe_i hM mi_X6_loss lk_L_18 cf_X6 (by decide) (by decide) (u_loss l G hC8 hA hb) rfl rfl (by decide) (Nat.le_refl _) (by omega) (Nat.le_of_ble_eq_true rfl) dL_isOrderSound_69 ?_
        refine q_i2l hM dL_isOrderSound_72 ?_
        refine q_aload_n hM dL_isOrderSound_73 rfl ?_
        refine q_iconst (v := 2) hM dL_isOrderSound_74 (by decide) ?_
        refine callVe_i hM mi_X6_count lk_L_8 cf_X6 (by decide) (by decide) (u_count2 l G hC8 hA) rfl rfl (by decide) (Nat.le_refl _) (by omega) (Nat.le_of_ble_eq_true rfl) dL_isOrderSound_75 ?_
        refine q_i2l hM dL_isOrderSound_78 ?_
        refine q_lmul hM dL_isOrderSound_79 ?_
        refine q_aload_n hM dL_isOrderSound_80 rfl ?_
        refine q_iconst (v := 3) hM dL_isOrderSound_81 (by decide) ?_
        refine callVe_i hM mi_X6_count lk_L_8 cf_X6 (by decide) (by decide) (u_count3 l G hC8 hA) rfl rfl (by decide) (Nat.le_refl _) (by omega) (Nat.le_of_ble_eq_true rfl) dL_isOrderSound_82 ?_
        refine q_i2l hM dL_isOrderSound_85 ?_
        refine q_lmul hM dL_isOrderSound_86 ?_
        refine q_topl (sWorth (aF A) (rL n)) rfl ?_
        refine sl_12_7 hM dL_isOrderSound_87 ?_
        refine q_lload hM dL_isOrderSound_89 rfl ?_
        refine q_lconst (v := 1) hM dL_isOrderSound_91 (by decide) ?_
        refine q_lcmp hM dL_isOrderSound_92 ?_
        refine q_if_lt_f (tgt := 161) hM dL_isOrderSound_93 hpl.1 (by decide) ?_
        refine q_lload hM dL_isOrderSound_96 rfl ?_
        refine q_lload hM dL_isOrderSound_98 rfl ?_
        refine q_lmul hM dL_isOrderSound_100 ?_
        refine q_ldc2 hM cw_L_46 dL_isOrderSound_101 ?_
        refine q_aload_n hM dL_isOrderSound_104 rfl ?_
        refine q_iload hM dL_isOrderSound_105 rfl ?_
        refine callVe_i hM mi_X6_repairCost lk_L_48 cf_X6 (by decide) (by decide) (u_cost l G hC8 hA hb) rfl rfl (by decide) (Nat.le_refl _) (by omega) (Nat.le_of_ble_eq_true rfl) dL_isOrderSound_107 ?_
        refine q_i2l hM dL_isOrderSound_110 ?_
        refine q_lmul hM dL_isOrderSound_111 ?_
        refine q_lcmp hM dL_isOrderSound_112 ?_
        refine q_if_lt_f (tgt := 161) hM dL_isOrderSound_113 hpl.2.1 (by decide) ?_
        have j145 : J 153 I9 L9 X9 145 [some (.ref (ad G 0)), some (.int set), some (.int (nI n)), some (.int bef), some (.int (nI (rL n))), some (.long (sPay (aF A) (rL n))), none, some (.long (sWorth (aF A) (rL n))), none, v9, v10, v11] [] := by
          refine q_aload_n hM dL_isOrderSound_145 rfl ?_
          refine q_iload hM dL_isOrderSound_146 rfl ?_
          refine callVe_l hM mi_X6_saves lk_L_51 cf_X6 (by decide) (by decide) (u_saves l G hC8 hA hb) rfl rfl (by decide) (Nat.le_refl _) (by omega) (Nat.le_of_ble_eq_true rfl) dL_isOrderSound_148 ?_
          refine q_lload hM dL_isOrderSound_151 rfl ?_
          refine q_ldc2 hM cw_L_46 dL_isOrderSound_153 ?_
          refine q_ldiv hM dL_isOrderSound_156 (by decide) ?_
          refine q_lcmp hM dL_isOrderSound_157 ?_
          refine q_if_eq_t (tgt := 163) hM dL_isOrderSound_158 (lgc_eq.mpr rfl) (by decide) ?_
          have j238 : ∀ (v9 v10 v11 : Option Value), J 153 I9 L9 X9 238 [some (.ref (ad G 0)), some (.int set), some (.int (nI n)), some (.int bef), some (.int (nI (rL n))), some (.long (sPay (aF A) (rL n))), none, some (.long (sWorth (aF A) (rL n))), none, v9, v10, v11] [] := by
            intro v9 v10 v11
            refine q_iload_n hM dL_isOrderSound_238 rfl ?_
            refine q_iconst (v := 1) hM dL_isOrderSound_239 (by decide) ?_
            refine q_iload hM dL_isOrderSound_240 rfl ?_
            refine q_ishl hM dL_isOrderSound_242 ?_
            refine q_ior hM dL_isOrderSound_243 ?_
            refine si_12_1 hM dL_isOrderSound_244 ?_
            refine q_iload hM dL_isOrderSound_245 rfl ?_
            refine si_12_3 hM dL_isOrderSound_247 ?_
            refine sinc_12_2 hM dL_isOrderSound_248 (inc1 n) ?_
            refine q_goto (tgt := 6) hM dL_isOrderSound_251 (by decide) ?_
            refine ih (n + 1) _ _ _ _ _ (va_up S (rL n) true) _ _ _ _ _ _ _ _ (by omega) (by omega) hC8 (mk_add hm (by omega)) (fun t => ?_) (Or.inr ⟨Nat.succ_pos n, rfl⟩)
            exact ord_set hS t
          refine q_iload_n hM dL_isOrderSound_163 rfl ?_
          refine q_if_lt (tgt := 238) hM dL_isOrderSound_164 (by decide) (fun c164 => ?_) (fun c164 => ?_)
          · exact j238 _ _ _
          · obtain ⟨h0, rfl⟩ : 0 < n ∧ bef = nI (rL (n - 1)) := by
              rcases hbf with q | q
              · exact absurd (by rw [q.2]; decide) c164
              · exact q
            have hb1 := (hr.2.2.1 (n - 1) (by omega)).1
            have ha := ahd_law (hr.2.1 (n - 1) n (by omega) hnc)
            refine q_aload_n hM dL_isOrderSound_167 rfl ?_
            refine q_iload_n hM dL_isOrderSound_168 rfl ?_
            refine callVe_l hM mi_X6_payback lk_L_43 cf_X6 (by decide) (by decide) (u_pay l G hC8 hA hb1) rfl rfl (by decide) (Nat.le_refl _) (by omega) (Nat.le_of_ble_eq_true rfl) dL_isOrderSound_169 ?_
            refine sl_12_9 hM dL_isOrderSound_172 ?_
            refine q_lload hM dL_isOrderSound_174 rfl ?_
            refine q_lload hM dL_isOrderSound_176 rfl ?_
            refine q_lcmp hM dL_isOrderSound_178 ?_
            refine q_if_lt (tgt := 224) hM dL_isOrderSound_179 (by decide) (fun c179 => ?_) (fun c179 => ?_)
            · refine q_iconst (v := 1) hM dL_isOrderSound_224 (by decide) ?_
              refine q_goto (tgt := 229) hM dL_isOrderSound_225 (by decide) ?_
              refine si_12_11 hM dL_isOrderSound_229 ?_
              refine q_iload hM dL_isOrderSound_231 rfl ?_
              refine q_if_ne_t (tgt := 238) hM dL_isOrderSound_233 (by decide) (by decide) ?_
              exact j238 _ _ _
            · refine q_lload hM dL_isOrderSound_182 rfl ?_
              refine q_lload hM dL_isOrderSound_184 rfl ?_
              refine q_lcmp hM dL_isOrderSound_186 ?_
              refine q_if_ne_f (tgt := 228) hM dL_isOrderSound_187 (ha c179).1 (by decide) ?_
              refine q_aload_n hM dL_isOrderSound_190 rfl ?_
              refine q_iload_n hM dL_isOrderSound_191 rfl ?_
              refine callVe_i hM mi_X6_loss lk_L_18 cf_X6 (by decide) (by decide) (u_loss l G hC8 hA hb1) rfl rfl (by decide) (Nat.le_refl _) (by omega) (Nat.le_of_ble_eq_true rfl) dL_isOrderSound_192 ?_
              refine q_aload_n hM dL_isOrderSound_195 rfl ?_
              refine q_iload hM dL_isOrderSound_196 rfl ?_
              refine callVe_i hM mi_X6_loss lk_L_18 cf_X6 (by decide) (by decide) (u_loss l G hC8 hA hb) rfl rfl (by decide) (Nat.le_refl _) (by omega) (Nat.le_of_ble_eq_true rfl) dL_isOrderSound_198 ?_
              refine q_icmp_gt (tgt := 224) hM dL_isOrderSound_201 (by decide) (fun c201 => ?_) (fun c201 => ?_)
              · refine q_iconst (v := 1) hM dL_isOrderSound_224 (by decide) ?_
                refine q_goto (tgt := 229) hM dL_isOrderSound_225 (by decide) ?_
                refine si_12_11 hM dL_isOrderSound_229 ?_
                refine q_iload hM dL_isOrderSound_231 rfl ?_
                refine q_if_ne_t (tgt := 238) hM dL_isOrderSound_233 (by decide) (by decide) ?_
                exact j238 _ _ _
              · refine q_aload_n hM dL_isOrderSound_204 rfl ?_
                refine q_iload_n hM dL_isOrderSound_205 rfl ?_
                refine callVe_i hM mi_X6_loss lk_L_18 cf_X6 (by decide) (by decide) (u_loss l G hC8 hA hb1) rfl rfl (by decide) (Nat.le_refl _) (by omega) (Nat.le_of_ble_eq_true rfl) dL_isOrderSound_206 ?_
                refine q_aload_n hM dL_isOrderSound_209 rfl ?_
                refine q_iload hM dL_isOrderSound_210 rfl ?_
                refine callVe_i hM mi_X6_loss lk_L_18 cf_X6 (by decide) (by decide) (u_loss l G hC8 hA hb) rfl rfl (by decide) (Nat.le_refl _) (by omega) (Nat.le_of_ble_eq_true rfl) dL_isOrderSound_212 ?_
                refine q_icmp_ne_f (tgt := 228) hM dL_isOrderSound_215 ((ha c179).2 c201).1 (by decide) ?_
                refine q_iload_n hM dL_isOrderSound_218 rfl ?_
                refine q_iload hM dL_isOrderSound_219 rfl ?_
                refine q_icmp_ge_f (tgt := 228) hM dL_isOrderSound_221 (nI_ge ((ha c179).2 c201).2 (by omega)) (by decide) ?_
                refine q_iconst (v := 1) hM dL_isOrderSound_224 (by decide) ?_
                refine q_goto (tgt := 229) hM dL_isOrderSound_225 (by decide) ?_
                refine si_12_11 hM dL_isOrderSound_229 ?_
                refine q_iload hM dL_isOrderSound_231 rfl ?_
                refine q_if_ne_t (tgt := 238) hM dL_isOrderSound_233 (by decide) (by decide) ?_
                exact j238 _ _ _
        refine q_lload hM dL_isOrderSound_116 rfl ?_
        refine q_lconst (v := 1) hM dL_isOrderSound_118 (by decide) ?_
        refine q_lcmp hM dL_isOrderSound_119 ?_
        refine q_if_le (tgt := 145) hM dL_isOrderSound_120 (by decide) (fun c120 => ?_) (fun c120 => ?_)
        · exact j145
        · refine q_lload hM dL_isOrderSound_123 rfl ?_
          refine q_lload hM dL_isOrderSound_125 rfl ?_
          refine q_lconst (v := 1) hM dL_isOrderSound_127 (by decide) ?_
          refine q_lsub hM dL_isOrderSound_128 ?_
          refine q_lmul hM dL_isOrderSound_129 ?_
          refine q_ldc2 hM cw_L_46 dL_isOrderSound_130 ?_
          refine q_aload_n hM dL_isOrderSound_133 rfl ?_
          refine q_iload hM dL_isOrderSound_134 rfl ?_
          refine callVe_i hM mi_X6_repairCost lk_L_48 cf_X6 (by decide) (by decide) (u_cost l G hC8 hA hb) rfl rfl (by decide) (Nat.le_refl _) (by omega) (Nat.le_of_ble_eq_true rfl) dL_isOrderSound_136 ?_
          refine q_i2l hM dL_isOrderSound_139 ?_
          refine q_lmul hM dL_isOrderSound_140 ?_
          refine q_lcmp hM dL_isOrderSound_141 ?_
          refine q_if_ge_f (tgt := 161) hM dL_isOrderSound_142 (hpl.2.2 c120) (by decide) ?_
          exact j145
      · rw [if_neg hnc] at hv9
        subst hv9
        refine q_iconst (v := -1) hM dL_isOrderSound_11 (by decide) ?_
        refine q_icmp_eq_t (tgt := 254) hM dL_isOrderSound_12 (by decide) (by decide) ?_
        refine q_iconst (v := 0) hM dL_isOrderSound_254 (by decide) ?_
        refine si_12_4 hM dL_isOrderSound_255 ?_
        have loop2 : ∀ (k2 t : Nat) (v5 : Option Value), t ≤ cI (aF A 1) → cI (aF A 1) < t + k2 → J 153 I9 L9 X9 257 [some (.ref (ad G 0)), some (.int set), some (.int (nI n)), some (.int bef), some (.int (nI t)), v5, v6, v7, v8, v9, v10, v11] [] := by
          intro k2
          induction k2 with
          | zero => intro t; intros; omega
          | succ k2 ih2 =>
            intro t v5 h21 h22
            refine q_iload hM dL_isOrderSound_257 rfl ?_
            refine q_aload_n hM dL_isOrderSound_259 rfl ?_
            refine q_iconst (v := 1) hM dL_isOrderSound_260 (by decide) ?_
            refine callVe_i hM mi_X6_count lk_L_8 cf_X6 (by decide) (by decide) (u_count1 l G hC9 hA) rfl rfl (by decide) (Nat.le_refl _) (by omega) (Nat.le_of_ble_eq_true rfl) dL_isOrderSound_261 ?_
            refine q_icmp_geN (tgt := 340) hM t (cI (aF A 1)) rfl hP.e1 (by omega) (by omega) dL_isOrderSound_264 (by decide) (fun c264 => ?_) (fun c264 => ?_)
            · refine q_aload_n hM dL_isOrderSound_340 rfl ?_
              refine q_iload_n hM dL_isOrderSound_341 rfl ?_
              refine q_iconst (v := 1) hM dL_isOrderSound_342 (by decide) ?_
              refine q_iadd hM dL_isOrderSound_343 ?_
              refine q_topi _ (nI_1 n) ?_
              refine callV_i hM mi_X6_order lk_L_40 cf_X6 (by decide) (by decide) (c_X6_order l G hC9 hA (nI (n + 1))) rfl rfl (by decide) (Nat.le_refl _) (by omega) (Nat.le_of_ble_eq_true rfl) dL_isOrderSound_344 (fun v9 I9 L9 X9 hp9 => ?_)
              obtain ⟨hv9, hC7, -⟩ := hp9
              rw [ord_at hA hr (by omega), if_neg (by omega)] at hv9
              subst hv9
              refine q_iconst (v := -1) hM dL_isOrderSound_347 (by decide) ?_
              refine q_icmp_ne_f (tgt := 355) hM dL_isOrderSound_348 rfl (by decide) ?_
              refine q_iconst (v := 1) hM dL_isOrderSound_351 (by decide) ?_
              refine q_goto (tgt := 356) hM dL_isOrderSound_352 (by decide) ?_
              exact hret true _ _ _ _ _ _ rfl ⟨rfl, hC7⟩ dL_isOrderSound_356
            · have hk := ord_bit hP hr hm hS (by omega) c264
              refine q_iload_n hM dL_isOrderSound_267 rfl ?_
              refine q_iload hM dL_isOrderSound_268 rfl ?_
              refine q_ishr hM dL_isOrderSound_270 ?_
              refine q_iconst (v := 1) hM dL_isOrderSound_271 (by decide) ?_
              refine q_iand hM dL_isOrderSound_272 ?_
              refine q_iconst (v := 1) hM dL_isOrderSound_273 (by decide) ?_
              refine q_icmp_ne (tgt := 281) hM dL_isOrderSound_274 (by decide) (fun c274 => ?_) (fun c274 => ?_)
              · refine q_iconst (v := 0) hM dL_isOrderSound_281 (by decide) ?_
                refine si_12_5 hM dL_isOrderSound_282 ?_
                refine q_iload hM dL_isOrderSound_284 rfl ?_
                refine q_aload_n hM dL_isOrderSound_286 rfl ?_
                refine q_iload hM dL_isOrderSound_287 rfl ?_
                refine callVe_i hM mi_X6_loss lk_L_18 cf_X6 (by decide) (by decide) (u_loss l G hC9 hA c264) rfl rfl (by decide) (Nat.le_refl _) (by omega) (Nat.le_of_ble_eq_true rfl) dL_isOrderSound_289 ?_
                refine q_if_le (tgt := 299) hM dL_isOrderSound_292 (by decide) (fun c292 => ?_) (fun c292 => ?_)
                · refine q_iconst (v := 0) hM dL_isOrderSound_299 (by decide) ?_
                  refine q_icmp_ne_f (tgt := 332) hM dL_isOrderSound_300 (by decide) (by decide) ?_
                  refine q_iload hM dL_isOrderSound_303 rfl ?_
                  refine q_if_ne_f (tgt := 334) hM dL_isOrderSound_305 (by decide) (by decide) ?_
                  have hq := npos_facts hP c264 (pos_le c292)
                  refine q_aload_n hM dL_isOrderSound_308 rfl ?_
                  refine q_iload hM dL_isOrderSound_309 rfl ?_
                  refine callVe_l hM mi_X6_payback lk_L_43 cf_X6 (by decide) (by decide) (u_pay l G hC9 hA c264) rfl rfl (by decide) (Nat.le_refl _) (by omega) (Nat.le_of_ble_eq_true rfl) dL_isOrderSound_311 ?_
                  refine q_ldc2 hM cw_L_54 dL_isOrderSound_314 ?_
                  refine q_lcmp hM dL_isOrderSound_317 ?_
                  refine q_if_ne_f (tgt := 332) hM dL_isOrderSound_318 (lgc_eq.mpr hq.2.1) (by decide) ?_
                  refine q_aload_n hM dL_isOrderSound_321 rfl ?_
                  refine q_iload hM dL_isOrderSound_322 rfl ?_
                  refine callVe_l hM mi_X6_saves lk_L_51 cf_X6 (by decide) (by decide) (u_saves l G hC9 hA c264) rfl rfl (by decide) (Nat.le_refl _) (by omega) (Nat.le_of_ble_eq_true rfl) dL_isOrderSound_324 ?_
                  refine q_lconst (v := 0) hM dL_isOrderSound_327 (by decide) ?_
                  refine q_lcmp hM dL_isOrderSound_328 ?_
                  refine q_if_eq_t (tgt := 334) hM dL_isOrderSound_329 (lgc_eq.mpr hq.2.2) (by decide) ?_
                  refine sinc_12_4 hM dL_isOrderSound_334 (inc1 t) ?_
                  refine q_goto (tgt := 257) hM dL_isOrderSound_337 (by decide) ?_
                  exact ih2 (t + 1) _ (by omega) (by omega)
                · refine q_iconst (v := 1) hM dL_isOrderSound_295 (by decide) ?_
                  refine q_goto (tgt := 300) hM dL_isOrderSound_296 (by decide) ?_
                  refine q_icmp_ne_t (tgt := 332) hM dL_isOrderSound_300 (by decide) (by decide) ?_
                  first | exact absurd c292 (hk.mp c274) | exact absurd (hk.mpr c292) c274
              · refine q_iconst (v := 1) hM dL_isOrderSound_277 (by decide) ?_
                refine q_goto (tgt := 282) hM dL_isOrderSound_278 (by decide) ?_
                refine si_12_5 hM dL_isOrderSound_282 ?_
                refine q_iload hM dL_isOrderSound_284 rfl ?_
                refine q_aload_n hM dL_isOrderSound_286 rfl ?_
                refine q_iload hM dL_isOrderSound_287 rfl ?_
                refine callVe_i hM mi_X6_loss lk_L_18 cf_X6 (by decide) (by decide) (u_loss l G hC9 hA c264) rfl rfl (by decide) (Nat.le_refl _) (by omega) (Nat.le_of_ble_eq_true rfl) dL_isOrderSound_289 ?_
                refine q_if_le (tgt := 299) hM dL_isOrderSound_292 (by decide) (fun c292 => ?_) (fun c292 => ?_)
                · refine q_iconst (v := 0) hM dL_isOrderSound_299 (by decide) ?_
                  refine q_icmp_ne_t (tgt := 332) hM dL_isOrderSound_300 (by decide) (by decide) ?_
                  first | exact absurd c292 (hk.mp c274) | exact absurd (hk.mpr c292) c274
                · refine q_iconst (v := 1) hM dL_isOrderSound_295 (by decide) ?_
                  refine q_goto (tgt := 300) hM dL_isOrderSound_296 (by decide) ?_
                  refine q_icmp_ne_f (tgt := 332) hM dL_isOrderSound_300 (by decide) (by decide) ?_
                  refine q_iload hM dL_isOrderSound_303 rfl ?_
                  refine q_if_ne_t (tgt := 334) hM dL_isOrderSound_305 (by decide) (by decide) ?_
                  refine sinc_12_4 hM dL_isOrderSound_334 (inc1 t) ?_
                  refine q_goto (tgt := 257) hM dL_isOrderSound_337 (by decide) ?_
                  exact ih2 (t + 1) _ (by omega) (by omega)
        exact loop2 (cI (aF A 1) + 1) 0 _ (Nat.zero_le _) (by omega)
  exact loop1 (c + 1) 0 _ _ _ _ _ (fun _ => false) _ _ _ _ _ _ _ _ (Nat.zero_le _) (by omega) hC (mk_0 (fun _ _ => rfl)) (fun t => ⟨fun q => absurd q (by decide), fun ⟨p, q, _⟩ => absurd q (Nat.not_lt_zero p)⟩) (Or.inl ⟨rfl, rfl⟩)
