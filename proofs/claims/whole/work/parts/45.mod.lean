/-! ===== the reference: the digest ===== -/
set_option maxHeartbeats 4000000 in
set_option maxRecDepth 100000 in
theorem c_X7_note (l : Launch) (G : kG) {I : kI} {L : kL} {X : kX} (x : Int64)  : Kv l yX7_note cX7_note 3 0 G [.ref (ad G 153), .long x] 159 159 I L X (fun I' L' X' => L' = up2 L 153 12 (31 * L 153 12 + x) ∧ I = I' ∧ X = X') := by
  refine Kv_intro (own := RX7) (lv0 := [some (.ref (ad G 153)), some (.long x), none]) 0 (by decide +kernel) rfl rfl (Nat.le_of_ble_eq_true rfl) (Nat.le_refl _) (fun J hM hret => ?_)
  refine q_aload_n hM dX7_note_0 rfl ?_
  refine q_ldc2 hM cw_X7_145 dX7_note_1 ?_
  refine q_aload_n hM dX7_note_4 rfl ?_
  refine g_X7_147 hM (by decide) (by decide) dX7_note_5 ?_
  refine q_lmul hM dX7_note_8 ?_
  refine q_lload_n hM dX7_note_9 rfl ?_
  refine q_ladd hM dX7_note_10 ?_
  refine p_X7_147 hM (by decide) (by decide) dX7_note_11 ?_
  exact hret _ _ _ _ _ ⟨rfl, rfl, rfl⟩ dX7_note_14
set_option maxHeartbeats 4000000 in
set_option maxRecDepth 100000 in
theorem c_X7_digest (l : Launch) (G : kG) {I : kI} {L : kL} {X : kX} {A : kA} (hr : RM I L X A) (hA : AInv A)  : Kl l yX7_digest cX7_digest 3 1 G [.ref (ad G 153)] 159 159 I L X (fun v I' L' X' => v = rDigest A ∧ RM I' L' X' (A) ∧ FrC I I' L L' X X') := by
  refine Kl_intro (own := RX7) (lv0 := [some (.ref (ad G 153)), none, none]) 2 (by decide +kernel) rfl rfl (Nat.le_of_ble_eq_true rfl) (Nat.le_refl _) (fun J hM hret => ?_)
  have hR := hr.1
  have hm := hr.m
  have hP := hA.f
  have hn := hP.nT
  have hn8 := hP.nL
  refine q_aload_n hM dX7_digest_0 rfl ?_
  refine q_ldc2 hM cw_X7_151 dX7_digest_1 ?_
  refine p_X7_147 hM (by decide) (by decide) dX7_digest_4 ?_
  refine q_iconst (v := 0) hM dX7_digest_7 (by decide) ?_
  refine si_3_1 hM dX7_digest_8 ?_
  have loop : ∀ (k i : Nat) (L1 : kL), i ≤ 11 + cI (aF A 0) → 11 + cI (aF A 0) < i + k → (∀ r, r ≠ 153 → L1 r = L r) → L1 153 12 = dgf (fun i => (aF A i).toInt64) i 17 → J 159 I L1 X 9 [some (.ref (ad G 153)), some (.int (nI i)), none] [] := by
    intro k
    induction k with
    | zero => intros; omega
    | succ k ih =>
      intro i L1 h1 h2 hF1 h12
      have hm1 := (⟨hm.1, fun t ht => by rw [hF1 155 (by decide)]; exact hm.2 t ht⟩ : Mm I L1 (aF A) (aG A))
      refine q_iload_n hM dX7_digest_9 rfl ?_
      refine q_bipush (v := 11) hM dX7_digest_10 (by decide) ?_
      refine q_aload_n hM dX7_digest_12 rfl ?_
      refine g_X7_7 hM (by decide) (by decide) hR.m0 dX7_digest_13 ?_
      refine q_iconst (v := 0) hM dX7_digest_16 (by decide) ?_
      refine q_row hM hm1 (0) (rfl) (by decide) (by decide) dX7_digest_17 ?_
      refine q_iadd hM dX7_digest_18 ?_
      refine q_topi (nI (11 + cI (aF A 0))) (addN (a := 11) hP.e0) ?_
      refine q_icmp_geN (tgt := 39) hM i (11 + cI (aF A 0)) rfl rfl (by omega) (by omega) dX7_digest_19 (by decide) (fun c19 => ?_) (fun c19 => ?_)
      · obtain rfl : i = 11 + cI (aF A 0) := by omega
        refine q_iconst (v := 0) hM dX7_digest_39 (by decide) ?_
        refine si_3_1 hM dX7_digest_40 ?_
        have loop2 : ∀ (k i : Nat) (v2 : Option Value) (L1 : kL), i ≤ cI (aF A 1) → cI (aF A 1) < i + k → (∀ r, r ≠ 153 → L1 r = L r) → L1 153 12 = dgT (aF A) (aG A) (dgf (fun i => (aF A i).toInt64) (11 + cI (aF A 0)) 17) i → J 159 I L1 X 41 [some (.ref (ad G 153)), some (.int (nI i)), v2] [] := by
          intro k
          induction k with
          | zero => intros; omega
          | succ k ih =>
            intro i v2 L1 h1 h2 hF1 h12
            have hm1 := (⟨hm.1, fun t ht => by rw [hF1 155 (by decide)]; exact hm.2 t ht⟩ : Mm I L1 (aF A) (aG A))
            refine q_iload_n hM dX7_digest_41 rfl ?_
            refine q_aload_n hM dX7_digest_42 rfl ?_
            refine g_X7_7 hM (by decide) (by decide) hR.m0 dX7_digest_43 ?_
            refine q_iconst (v := 1) hM dX7_digest_46 (by decide) ?_
            refine q_row hM hm1 (1) (rfl) (by decide) (by decide) dX7_digest_47 ?_
            refine q_icmp_geN (tgt := 92) hM i (cI (aF A 1)) rfl hP.e1 (by omega) (by omega) dX7_digest_48 (by decide) (fun c48 => ?_) (fun c48 => ?_)
            · obtain rfl : i = cI (aF A 1) := by omega
              refine q_aload_n hM dX7_digest_92 rfl ?_
              refine g_X7_147 hM (by decide) (by decide) dX7_digest_93 ?_
              exact hret _ _ _ _ _ _ ⟨h12, ⟨hr.1, ⟨hr.2.1.1, fun k hk t ht => by rw [hF1 155 (by decide)]; exact hr.2.1.2 k hk t ht⟩, hr.2.2⟩, fun r hx => ⟨rfl, hF1 r (by omega), rfl⟩⟩ dX7_digest_96
            · refine q_iconst (v := 0) hM dX7_digest_51 (by decide) ?_
              refine si_3_2 hM dX7_digest_52 ?_
              have loop3 : ∀ (k3 j : Nat) (L1 : kL), j ≤ 7 → 7 < j + k3 → (∀ r, r ≠ 153 → L1 r = L r) → L1 153 12 = dgf (fun w => (sOf (aF A) i w).toInt64) j (dgT (aF A) (aG A) (dgf (fun i => (aF A i).toInt64) (11 + cI (aF A 0)) 17) i) → J 159 I L1 X 53 [some (.ref (ad G 153)), some (.int (nI i)), some (.int (nI j))] [] := by
                intro k3
                induction k3 with
                | zero => intros; omega
                | succ k3 ih3 =>
                  intro j L1 h3 h4 hF1 h12
                  have hm1 := (⟨hm.1, fun t ht => by rw [hF1 155 (by decide)]; exact hm.2 t ht⟩ : Mm I L1 (aF A) (aG A))
                  refine q_iload_n hM dX7_digest_53 rfl ?_
                  refine q_bipush (v := 7) hM dX7_digest_54 (by decide) ?_
                  refine q_icmp_geN (tgt := 76) hM j 7 rfl rfl (by omega) (by omega) dX7_digest_56 (by decide) (fun c56 => ?_) (fun c56 => ?_)
                  · obtain rfl : j = 7 := by omega
                    refine q_aload_n hM dX7_digest_76 rfl ?_
                    refine q_aload_n hM dX7_digest_77 rfl ?_
                    refine g_X7_13 hM (by decide) (by decide) hR.m1 dX7_digest_78 ?_
                    refine q_iload_n hM dX7_digest_81 rfl ?_
                    refine q_lo hM hm1 i rfl (by omega) (by decide) dX7_digest_82 ?_
                    refine callV_v hM mi_X7_note lk_X7_153 cf_X7 (by decide) (by decide) (c_X7_note l G _) rfl rfl (by decide) (Nat.le_refl _) (by omega) (Nat.le_of_ble_eq_true rfl) dX7_digest_83 (fun I9 L9 X9 hp9 => ?_)
                    obtain ⟨rfl, rfl, rfl⟩ := hp9
                    refine sinc_3_1 hM dX7_digest_86 (inc1 i) ?_
                    refine q_goto (tgt := 41) hM dX7_digest_89 (by decide) ?_
                    exact ih (i + 1) _ _ (by omega) (by omega) (fun r hr => (up2_row hr).trans (hF1 r hr)) ((up2_self _ _ _ _).trans (by rw [h12]; rfl))
                  · refine q_aload_n hM dX7_digest_59 rfl ?_
                    refine q_aload_n hM dX7_digest_60 rfl ?_
                    refine q_iload_n hM dX7_digest_61 rfl ?_
                    refine q_iload_n hM dX7_digest_62 rfl ?_
                    refine callVe_i hM mi_X7_of lk_X7_39 cf_X7 (by decide) (by decide) (c_X7_of l G hR hm1 i j (by omega) (by omega)) rfl rfl (by decide) (Nat.le_refl _) (by omega) (Nat.le_of_ble_eq_true rfl) dX7_digest_63 ?_
                    refine q_i2l hM dX7_digest_66 ?_
                    refine callV_v hM mi_X7_note lk_X7_153 cf_X7 (by decide) (by decide) (c_X7_note l G _) rfl rfl (by decide) (Nat.le_refl _) (by omega) (Nat.le_of_ble_eq_true rfl) dX7_digest_67 (fun I9 L9 X9 hp9 => ?_)
                    obtain ⟨rfl, rfl, rfl⟩ := hp9
                    refine sinc_3_2 hM dX7_digest_70 (inc1 j) ?_
                    refine q_goto (tgt := 53) hM dX7_digest_73 (by decide) ?_
                    exact ih3 (j + 1) _ (by omega) (by omega) (fun r hr => (up2_row hr).trans (hF1 r hr)) ((up2_self _ _ _ _).trans (by rw [h12]; rfl))
              exact loop3 8 0 L1 (Nat.zero_le _) (by omega) hF1 h12
        exact loop2 (cI (aF A 1) + 1) 0 _ L1 (Nat.zero_le _) (by omega) hF1 h12
      · refine q_aload_n hM dX7_digest_22 rfl ?_
        refine q_aload_n hM dX7_digest_23 rfl ?_
        refine g_X7_7 hM (by decide) (by decide) hR.m0 dX7_digest_24 ?_
        refine q_iload_n hM dX7_digest_27 rfl ?_
        refine q_row hM hm1 (i) (rfl) (by omega) (by decide) dX7_digest_28 ?_
        refine q_i2l hM dX7_digest_29 ?_
        refine callV_v hM mi_X7_note lk_X7_153 cf_X7 (by decide) (by decide) (c_X7_note l G _) rfl rfl (by decide) (Nat.le_refl _) (by omega) (Nat.le_of_ble_eq_true rfl) dX7_digest_30 (fun I9 L9 X9 hp9 => ?_)
        obtain ⟨rfl, rfl, rfl⟩ := hp9
        refine sinc_3_1 hM dX7_digest_33 (inc1 i) ?_
        refine q_goto (tgt := 9) hM dX7_digest_36 (by decide) ?_
        exact ih (i + 1) _ (by omega) (by omega) (fun r hr => (up2_row hr).trans (hF1 r hr)) ((up2_self _ _ _ _).trans (by rw [h12]; rfl))
  exact loop (11 + cI (aF A 0) + 1) 0 _ (Nat.zero_le _) (by omega) (fun r hr => up2_row hr) (up2_self _ _ _ _)
