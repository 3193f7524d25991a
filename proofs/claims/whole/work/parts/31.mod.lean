/-! ===== the reference: losses, copies ===== -/
set_option maxHeartbeats 4000000 in
set_option maxRecDepth 100000 in
theorem c_X7_reads (l : Launch) (G : kG) {I : kI} {L : kL} {X : kX} {f : Fr} {g : Gr} (hR : RefM X) (hm : Mm I L f g) (hP : PInv f) (t : Nat) (ht : t < cI (f 1)) (i o c : Int32) (hi : 0 ≤ i ∧ i ≤ 300) (ho : 0 ≤ o ∧ o ≤ 300)  : Kv l yX7_reads cX7_reads 5 3 G [.ref (ad G 153), .int (nI t), .int i, .int o, .int c] 159 159 I L X (fun I' L' X' => I' = up2 (up2 I 154 (19 + 7 * t + 5) (sJud f t i o c)) 154 (19 + 7 * t + 6) (f 5) ∧ L = L' ∧ X = X') := by
  refine Kv_intro (own := RX7) (lv0 := [some (.ref (ad G 153)), some (.int (nI t)), some (.int i), some (.int o), some (.int c)]) 0 (by decide +kernel) rfl rfl (Nat.le_of_ble_eq_true rfl) (Nat.le_refl _) (fun J hM hret => ?_)
  have hn := hP.nT
  have hn8 := hP.nL
  refine q_aload_n hM dX7_reads_0 rfl ?_
  refine g_X7_7 hM (by decide) (by decide) hR.m0 dX7_reads_1 ?_
  refine q_bipush (v := 19) hM dX7_reads_4 (by decide) ?_
  refine q_bipush (v := 7) hM dX7_reads_6 (by decide) ?_
  refine q_iload_n hM dX7_reads_8 rfl ?_
  refine q_imul hM dX7_reads_9 ?_
  refine q_iadd hM dX7_reads_10 ?_
  refine q_iconst (v := 5) hM dX7_reads_11 (by decide) ?_
  refine q_iadd hM dX7_reads_12 ?_
  refine q_aload_n hM dX7_reads_13 rfl ?_
  refine q_iload_n hM dX7_reads_14 rfl ?_
  refine q_iload_n hM dX7_reads_15 rfl ?_
  refine q_iload_n hM dX7_reads_16 rfl ?_
  refine q_iload hM dX7_reads_17 rfl ?_
  refine callVe_i hM mi_X7_judges lk_X7_60 cf_X7 (by decide) (by decide) (c_X7_judges l G hR hm hP t ht i o c hi ho) rfl rfl (by decide) (Nat.le_refl _) (by omega) (Nat.le_of_ble_eq_true rfl) dX7_reads_19 ?_
  refine q_rowst hM (19 + 7 * t + 5) (ix7 t 5) (by omega) (by decide) dX7_reads_22 ?_
  have hm1 := hm.setI (i := 19 + 7 * t + 5) (by omega) (sJud f t i o c)
  refine q_aload_n hM dX7_reads_23 rfl ?_
  refine g_X7_7 hM (by decide) (by decide) hR.m0 dX7_reads_24 ?_
  refine q_bipush (v := 19) hM dX7_reads_27 (by decide) ?_
  refine q_bipush (v := 7) hM dX7_reads_29 (by decide) ?_
  refine q_iload_n hM dX7_reads_31 rfl ?_
  refine q_imul hM dX7_reads_32 ?_
  refine q_iadd hM dX7_reads_33 ?_
  refine q_bipush (v := 6) hM dX7_reads_34 (by decide) ?_
  refine q_iadd hM dX7_reads_36 ?_
  refine q_aload_n hM dX7_reads_37 rfl ?_
  refine g_X7_7 hM (by decide) (by decide) hR.m0 dX7_reads_38 ?_
  refine q_iconst (v := 5) hM dX7_reads_41 (by decide) ?_
  refine q_row hM hm1 5 rfl (by decide) (by decide) dX7_reads_42 ?_
  refine q_topi (f 5) (va_up_ne _ _ (by omega)) ?_
  refine q_rowst hM (19 + 7 * t + 6) (ix7 t 6) (by omega) (by decide) dX7_reads_43 ?_
  exact hret _ _ _ _ _ ⟨rfl, rfl, rfl⟩ dX7_reads_44
set_option maxHeartbeats 4000000 in
set_option maxRecDepth 100000 in
theorem c_X7_lossOf (l : Launch) (G : kG) {I : kI} {L : kL} {X : kX} {f : Fr} {g : Gr} (hR : RefM X) (hm : Mm I L f g) (hP : PInv f) (t : Nat) (ht : t < cI (f 1))  : Ki l yX7_lossOf cX7_lossOf 3 2 G [.ref (ad G 153), .int (nI t)] 159 159 I L X (pE (sLoss f t) I L X) := by
  refine Ki_intro (own := RX7) (lv0 := [some (.ref (ad G 153)), some (.int (nI t)), none]) 1 (by decide +kernel) rfl rfl (Nat.le_of_ble_eq_true rfl) (Nat.le_refl _) (fun J hM hret => ?_)
  have hn := hP.nT
  have hn8 := hP.nL
  have hh := hP.hd ht
  refine q_aload_n hM dX7_lossOf_0 rfl ?_
  refine q_iload_n hM dX7_lossOf_1 rfl ?_
  refine q_iconst (v := 2) hM dX7_lossOf_2 (by decide) ?_
  refine callVe_i hM mi_X7_of lk_X7_39 cf_X7 (by decide) (by decide) (c_X7_of l G hR hm t 2 (by omega) (by decide)) rfl rfl (by decide) (Nat.le_refl _) (by omega) (Nat.le_of_ble_eq_true rfl) dX7_lossOf_3 ?_
  refine q_aload_n hM dX7_lossOf_6 rfl ?_
  refine q_iload_n hM dX7_lossOf_7 rfl ?_
  refine q_iconst (v := 2) hM dX7_lossOf_8 (by decide) ?_
  refine callVe_i hM mi_X7_of lk_X7_39 cf_X7 (by decide) (by decide) (c_X7_of l G hR hm t 2 (by omega) (by decide)) rfl rfl (by decide) (Nat.le_refl _) (by omega) (Nat.le_of_ble_eq_true rfl) dX7_lossOf_9 ?_
  refine q_imul hM dX7_lossOf_12 ?_
  refine q_aload_n hM dX7_lossOf_13 rfl ?_
  refine g_X7_7 hM (by decide) (by decide) hR.m0 dX7_lossOf_14 ?_
  refine q_bipush (v := 8) hM dX7_lossOf_17 (by decide) ?_
  refine q_aload_n hM dX7_lossOf_19 rfl ?_
  refine q_iload_n hM dX7_lossOf_20 rfl ?_
  refine callVe_i hM mi_X7_header lk_X7_56 cf_X7 (by decide) (by decide) (c_X7_header l G hR hm hP t ht) rfl rfl (by decide) (Nat.le_refl _) (by omega) (Nat.le_of_ble_eq_true rfl) dX7_lossOf_21 ?_
  refine q_iadd hM dX7_lossOf_24 ?_
  refine q_row hM hm (8 + sH f t) (nI_add 8 _) (by omega) (by decide) dX7_lossOf_25 ?_
  refine q_iconst (v := 1) hM dX7_lossOf_26 (by decide) ?_
  refine q_iadd hM dX7_lossOf_27 ?_
  refine q_imul hM dX7_lossOf_28 ?_
  refine q_bipush (v := 10) hM dX7_lossOf_29 (by decide) ?_
  refine q_imul hM dX7_lossOf_31 ?_
  refine si_3_2 hM dX7_lossOf_32 ?_
  refine q_aload_n hM dX7_lossOf_33 rfl ?_
  refine q_iload_n hM dX7_lossOf_34 rfl ?_
  refine q_iconst (v := 5) hM dX7_lossOf_35 (by decide) ?_
  refine callVe_i hM mi_X7_of lk_X7_39 cf_X7 (by decide) (by decide) (c_X7_of l G hR hm t 5 (by omega) (by decide)) rfl rfl (by decide) (Nat.le_refl _) (by omega) (Nat.le_of_ble_eq_true rfl) dX7_lossOf_36 ?_
  refine q_iconst (v := 3) hM dX7_lossOf_39 (by decide) ?_
  refine q_icmp_ne (tgt := 47) hM dX7_lossOf_40 (by decide) (fun c40 => ?_) (fun c40 => ?_)
  · refine q_aload_n hM dX7_lossOf_47 rfl ?_
    refine q_iload_n hM dX7_lossOf_48 rfl ?_
    refine q_iconst (v := 5) hM dX7_lossOf_49 (by decide) ?_
    refine callVe_i hM mi_X7_of lk_X7_39 cf_X7 (by decide) (by decide) (c_X7_of l G hR hm t 5 (by omega) (by decide)) rfl rfl (by decide) (Nat.le_refl _) (by omega) (Nat.le_of_ble_eq_true rfl) dX7_lossOf_50 ?_
    refine q_iconst (v := 2) hM dX7_lossOf_53 (by decide) ?_
    refine q_icmp_ne (tgt := 63) hM dX7_lossOf_54 (by decide) (fun c54 => ?_) (fun c54 => ?_)
    · refine q_iconst (v := 0) hM dX7_lossOf_63 (by decide) ?_
      exact hret _ _ _ _ _ _ ⟨(by unfold sLoss lossQ; skip; (try (first | rw [if_pos c40] | rw [if_neg c40])); (try (first | rw [if_pos c54] | rw [if_neg c54])); try rfl), rfl, rfl, rfl⟩ dX7_lossOf_64
    · refine q_iload_n hM dX7_lossOf_57 rfl ?_
      refine q_iconst (v := 4) hM dX7_lossOf_58 (by decide) ?_
      refine q_idiv hM dX7_lossOf_59 (by decide) ?_
      refine q_goto (tgt := 64) hM dX7_lossOf_60 (by decide) ?_
      exact hret _ _ _ _ _ _ ⟨(by unfold sLoss lossQ; skip; (try (first | rw [if_pos c40] | rw [if_neg c40])); (try (first | rw [if_pos c54] | rw [if_neg c54])); try rfl), rfl, rfl, rfl⟩ dX7_lossOf_64
  · refine q_iload_n hM dX7_lossOf_43 rfl ?_
    refine q_goto (tgt := 64) hM dX7_lossOf_44 (by decide) ?_
    exact hret _ _ _ _ _ _ ⟨(by unfold sLoss lossQ; skip; (try (first | rw [if_pos c40] | rw [if_neg c40])); try rfl), rfl, rfl, rfl⟩ dX7_lossOf_64
set_option maxHeartbeats 4000000 in
set_option maxRecDepth 100000 in
theorem c_X7_worth (l : Launch) (G : kG) {I : kI} {L : kL} {X : kX} {f : Fr} {g : Gr} (hR : RefM X) (hm : Mm I L f g) (hP : PInv f) (t : Nat) (ht : t < cI (f 1))  : Kl l yX7_worth cX7_worth 2 3 G [.ref (ad G 153), .int (nI t)] 159 159 I L X (pE (sWorth f t) I L X) := by
  refine Kl_intro (own := RX7) (lv0 := [some (.ref (ad G 153)), some (.int (nI t))]) 0 (by decide +kernel) rfl rfl (Nat.le_of_ble_eq_true rfl) (Nat.le_refl _) (fun J hM hret => ?_)
  have hn := hP.nT
  have hn8 := hP.nL
  refine q_aload_n hM dX7_worth_0 rfl ?_
  refine q_iload_n hM dX7_worth_1 rfl ?_
  refine callVe_i hM mi_X7_lossOf lk_X7_71 cf_X7 (by decide) (by decide) (c_X7_lossOf l G hR hm hP t ht) rfl rfl (by decide) (Nat.le_refl _) (by omega) (Nat.le_of_ble_eq_true rfl) dX7_worth_2 ?_
  refine q_i2l hM dX7_worth_5 ?_
  refine q_aload_n hM dX7_worth_6 rfl ?_
  refine g_X7_7 hM (by decide) (by decide) hR.m0 dX7_worth_7 ?_
  refine q_iconst (v := 2) hM dX7_worth_10 (by decide) ?_
  refine q_row hM hm 2 rfl (by decide) (by decide) dX7_worth_11 ?_
  refine q_i2l hM dX7_worth_12 ?_
  refine q_lmul hM dX7_worth_13 ?_
  refine q_aload_n hM dX7_worth_14 rfl ?_
  refine g_X7_7 hM (by decide) (by decide) hR.m0 dX7_worth_15 ?_
  refine q_iconst (v := 3) hM dX7_worth_18 (by decide) ?_
  refine q_row hM hm 3 rfl (by decide) (by decide) dX7_worth_19 ?_
  refine q_i2l hM dX7_worth_20 ?_
  refine q_lmul hM dX7_worth_21 ?_
  exact hret _ _ _ _ _ _ ⟨rfl, rfl, rfl, rfl⟩ dX7_worth_22
set_option maxHeartbeats 4000000 in
set_option maxRecDepth 100000 in
theorem c_X7_costOf (l : Launch) (G : kG) {I : kI} {L : kL} {X : kX} {f : Fr} {g : Gr} (hR : RefM X) (hm : Mm I L f g) (hP : PInv f) (t : Nat) (ht : t < cI (f 1))  : Ki l yX7_costOf cX7_costOf 2 1 G [.ref (ad G 153), .int (nI t)] 159 159 I L X (pE (sCost f t) I L X) := by
  refine Ki_intro (own := RX7) (lv0 := [some (.ref (ad G 153)), some (.int (nI t))]) 0 (by decide +kernel) rfl rfl (Nat.le_of_ble_eq_true rfl) (Nat.le_refl _) (fun J hM hret => ?_)
  have hn := hP.nT
  have hn8 := hP.nL
  refine q_aload_n hM dX7_costOf_0 rfl ?_
  refine q_iload_n hM dX7_costOf_1 rfl ?_
  refine q_iconst (v := 1) hM dX7_costOf_2 (by decide) ?_
  refine callVe_i hM mi_X7_of lk_X7_39 cf_X7 (by decide) (by decide) (c_X7_of l G hR hm t 1 (by omega) (by decide)) rfl rfl (by decide) (Nat.le_refl _) (by omega) (Nat.le_of_ble_eq_true rfl) dX7_costOf_3 ?_
  refine q_iconst (v := 2) hM dX7_costOf_6 (by decide) ?_
  refine q_icmp_ne (tgt := 25) hM dX7_costOf_7 (by decide) (fun c7 => ?_) (fun c7 => ?_)
  · refine q_bipush (v := 50) hM dX7_costOf_25 (by decide) ?_
    refine q_bipush (v := 20) hM dX7_costOf_27 (by decide) ?_
    refine q_aload_n hM dX7_costOf_29 rfl ?_
    refine q_iload_n hM dX7_costOf_30 rfl ?_
    refine q_iconst (v := 2) hM dX7_costOf_31 (by decide) ?_
    refine callVe_i hM mi_X7_of lk_X7_39 cf_X7 (by decide) (by decide) (c_X7_of l G hR hm t 2 (by omega) (by decide)) rfl rfl (by decide) (Nat.le_refl _) (by omega) (Nat.le_of_ble_eq_true rfl) dX7_costOf_32 ?_
    refine q_imul hM dX7_costOf_35 ?_
    refine q_iadd hM dX7_costOf_36 ?_
    exact hret _ _ _ _ _ _ ⟨(by unfold sCost costQ; skip; (try (first | rw [if_pos c7] | rw [if_neg c7])); try rfl), rfl, rfl, rfl⟩ dX7_costOf_37
  · refine q_bipush (v := 30) hM dX7_costOf_10 (by decide) ?_
    refine q_bipush (v := 10) hM dX7_costOf_12 (by decide) ?_
    refine q_aload_n hM dX7_costOf_14 rfl ?_
    refine q_iload_n hM dX7_costOf_15 rfl ?_
    refine q_iconst (v := 2) hM dX7_costOf_16 (by decide) ?_
    refine callVe_i hM mi_X7_of lk_X7_39 cf_X7 (by decide) (by decide) (c_X7_of l G hR hm t 2 (by omega) (by decide)) rfl rfl (by decide) (Nat.le_refl _) (by omega) (Nat.le_of_ble_eq_true rfl) dX7_costOf_17 ?_
    refine q_imul hM dX7_costOf_20 ?_
    refine q_iadd hM dX7_costOf_21 ?_
    refine q_goto (tgt := 37) hM dX7_costOf_22 (by decide) ?_
    exact hret _ _ _ _ _ _ ⟨(by unfold sCost costQ; skip; (try (first | rw [if_pos c7] | rw [if_neg c7])); try rfl), rfl, rfl, rfl⟩ dX7_costOf_37
set_option maxHeartbeats 4000000 in
set_option maxRecDepth 100000 in
theorem c_X7_paysBack (l : Launch) (G : kG) {I : kI} {L : kL} {X : kX} {f : Fr} {g : Gr} (hR : RefM X) (hm : Mm I L f g) (hP : PInv f) (t : Nat) (ht : t < cI (f 1))  : Kl l yX7_paysBack cX7_paysBack 4 4 G [.ref (ad G 153), .int (nI t)] 159 159 I L X (pE (sPay f t) I L X) := by
  refine Kl_intro (own := RX7) (lv0 := [some (.ref (ad G 153)), some (.int (nI t)), none, none]) 2 (by decide +kernel) rfl rfl (Nat.le_of_ble_eq_true rfl) (Nat.le_refl _) (fun J hM hret => ?_)
  have hn := hP.nT
  have hn8 := hP.nL
  refine q_aload_n hM dX7_paysBack_0 rfl ?_
  refine q_iload_n hM dX7_paysBack_1 rfl ?_
  refine callVe_l hM mi_X7_worth lk_X7_76 cf_X7 (by decide) (by decide) (c_X7_worth l G hR hm hP t ht) rfl rfl (by decide) (Nat.le_refl _) (by omega) (Nat.le_of_ble_eq_true rfl) dX7_paysBack_2 ?_
  refine sl_4_2 hM dX7_paysBack_5 ?_
  refine q_lload_n hM dX7_paysBack_6 rfl ?_
  refine q_lconst (v := 0) hM dX7_paysBack_7 (by decide) ?_
  refine q_lcmp hM dX7_paysBack_8 ?_
  refine q_if_ne (tgt := 18) hM dX7_paysBack_9 (by decide) (fun c9 => ?_) (fun c9 => ?_)
  · have hw0 : ¬ sWorth f t = 0 := fun q => c9 (lgc_eq.mpr q)
    refine q_ldc2 hM cw_X7_80 dX7_paysBack_18 ?_
    refine q_aload_n hM dX7_paysBack_21 rfl ?_
    refine q_iload_n hM dX7_paysBack_22 rfl ?_
    refine callVe_i hM mi_X7_costOf lk_X7_82 cf_X7 (by decide) (by decide) (c_X7_costOf l G hR hm hP t ht) rfl rfl (by decide) (Nat.le_refl _) (by omega) (Nat.le_of_ble_eq_true rfl) dX7_paysBack_23 ?_
    refine q_i2l hM dX7_paysBack_26 ?_
    refine q_lmul hM dX7_paysBack_27 ?_
    refine q_lload_n hM dX7_paysBack_28 rfl ?_
    refine q_ladd hM dX7_paysBack_29 ?_
    refine q_lconst (v := 1) hM dX7_paysBack_30 (by decide) ?_
    refine q_lsub hM dX7_paysBack_31 ?_
    refine q_lload_n hM dX7_paysBack_32 rfl ?_
    refine q_ldiv hM dX7_paysBack_33 hw0 ?_
    exact hret _ _ _ _ _ _ ⟨by unfold sPay; first | rw [if_pos hw0] | (rw [if_neg hw0]), rfl, rfl, rfl⟩ dX7_paysBack_34
  · have hw0 : sWorth f t = 0 := lgc_eq.mp c9
    refine q_ldc2 hM cw_X7_85 dX7_paysBack_12 ?_
    refine q_goto (tgt := 34) hM dX7_paysBack_15 (by decide) ?_
    exact hret _ _ _ _ _ _ ⟨by unfold sPay; first | rw [if_pos hw0] | (rw [if_neg hw0]), rfl, rfl, rfl⟩ dX7_paysBack_34
set_option maxHeartbeats 4000000 in
set_option maxRecDepth 100000 in
theorem c_X7_due (l : Launch) (G : kG) {I : kI} {L : kL} {X : kX} {f : Fr} {g : Gr} (hR : RefM X) (hm : Mm I L f g) (hP : PInv f) (t : Nat) (ht : t < cI (f 1))  : Kz l yX7_due cX7_due 2 1 G [.ref (ad G 153), .int (nI t)] 159 159 I L X (pE (decide (sDue f t)) I L X) := by
  refine Kz_intro (own := RX7) (lv0 := [some (.ref (ad G 153)), some (.int (nI t))]) 0 (by decide +kernel) rfl rfl (Nat.le_of_ble_eq_true rfl) (Nat.le_refl _) (fun J hM hret => ?_)
  have hn := hP.nT
  have hn8 := hP.nL
  refine q_aload_n hM dX7_due_0 rfl ?_
  refine q_iload_n hM dX7_due_1 rfl ?_
  refine q_bipush (v := 6) hM dX7_due_2 (by decide) ?_
  refine callVe_i hM mi_X7_of lk_X7_39 cf_X7 (by decide) (by decide) (c_X7_of l G hR hm t 6 (by omega) (by decide)) rfl rfl (by decide) (Nat.le_refl _) (by omega) (Nat.le_of_ble_eq_true rfl) dX7_due_4 ?_
  refine q_iconst (v := -1) hM dX7_due_7 (by decide) ?_
  refine q_icmp_eq (tgt := 44) hM dX7_due_8 (by decide) (fun c8 => ?_) (fun c8 => ?_)
  · refine q_iconst (v := 1) hM dX7_due_44 (by decide) ?_
    refine q_goto (tgt := 49) hM dX7_due_45 (by decide) ?_
    exact hret true _ _ _ _ _ _ rfl ⟨(by simp only [lt_i, le_i, Int.not_lt, Int.not_le, sDue, eq_i] at c8 ⊢; first | (apply Eq.symm; apply decide_eq_true; omega) | (apply Eq.symm; apply decide_eq_false; omega)), rfl, rfl, rfl⟩ dX7_due_49
  · refine q_aload_n hM dX7_due_11 rfl ?_
    refine q_iload_n hM dX7_due_12 rfl ?_
    refine q_iconst (v := 5) hM dX7_due_13 (by decide) ?_
    refine callVe_i hM mi_X7_of lk_X7_39 cf_X7 (by decide) (by decide) (c_X7_of l G hR hm t 5 (by omega) (by decide)) rfl rfl (by decide) (Nat.le_refl _) (by omega) (Nat.le_of_ble_eq_true rfl) dX7_due_14 ?_
    refine q_iconst (v := 1) hM dX7_due_17 (by decide) ?_
    refine q_icmp_ne (tgt := 44) hM dX7_due_18 (by decide) (fun c18 => ?_) (fun c18 => ?_)
    · refine q_iconst (v := 1) hM dX7_due_44 (by decide) ?_
      refine q_goto (tgt := 49) hM dX7_due_45 (by decide) ?_
      exact hret true _ _ _ _ _ _ rfl ⟨(by simp only [lt_i, le_i, Int.not_lt, Int.not_le, sDue, eq_i] at c8 c18 ⊢; first | (apply Eq.symm; apply decide_eq_true; omega) | (apply Eq.symm; apply decide_eq_false; omega)), rfl, rfl, rfl⟩ dX7_due_49
    · refine q_aload_n hM dX7_due_21 rfl ?_
      refine g_X7_7 hM (by decide) (by decide) hR.m0 dX7_due_22 ?_
      refine q_iconst (v := 5) hM dX7_due_25 (by decide) ?_
      refine q_row hM hm 5 rfl (by decide) (by decide) dX7_due_26 ?_
      refine q_aload_n hM dX7_due_27 rfl ?_
      refine q_iload_n hM dX7_due_28 rfl ?_
      refine q_bipush (v := 6) hM dX7_due_29 (by decide) ?_
      refine callVe_i hM mi_X7_of lk_X7_39 cf_X7 (by decide) (by decide) (c_X7_of l G hR hm t 6 (by omega) (by decide)) rfl rfl (by decide) (Nat.le_refl _) (by omega) (Nat.le_of_ble_eq_true rfl) dX7_due_31 ?_
      refine q_isub hM dX7_due_34 ?_
      refine q_aload_n hM dX7_due_35 rfl ?_
      refine g_X7_7 hM (by decide) (by decide) hR.m0 dX7_due_36 ?_
      refine q_iconst (v := 4) hM dX7_due_39 (by decide) ?_
      refine q_row hM hm 4 rfl (by decide) (by decide) dX7_due_40 ?_
      refine q_icmp_lt (tgt := 48) hM dX7_due_41 (by decide) (fun c41 => ?_) (fun c41 => ?_)
      · refine q_iconst (v := 0) hM dX7_due_48 (by decide) ?_
        exact hret false _ _ _ _ _ _ rfl ⟨(by simp only [lt_i, le_i, Int.not_lt, Int.not_le, sDue, eq_i] at c8 c18 c41 ⊢; first | (apply Eq.symm; apply decide_eq_true; omega) | (apply Eq.symm; apply decide_eq_false; omega)), rfl, rfl, rfl⟩ dX7_due_49
      · refine q_iconst (v := 1) hM dX7_due_44 (by decide) ?_
        refine q_goto (tgt := 49) hM dX7_due_45 (by decide) ?_
        exact hret true _ _ _ _ _ _ rfl ⟨(by simp only [lt_i, le_i, Int.not_lt, Int.not_le, sDue, eq_i] at c8 c18 c41 ⊢; first | (apply Eq.symm; apply decide_eq_true; omega) | (apply Eq.symm; apply decide_eq_false; omega)), rfl, rfl, rfl⟩ dX7_due_49
set_option maxHeartbeats 4000000 in
set_option maxRecDepth 100000 in
theorem c_X7_repairs (l : Launch) (G : kG) {I : kI} {L : kL} {X : kX} {A : kA} {f : Fr} {g : Gr} (hr : RM I L X (setF A f g)) (hP : PInv f) (t : Nat) (ht : t < cI (f 1))  : Kv l yX7_repairs cX7_repairs 2 2 G [.ref (ad G 153), .int (nI t)] 159 159 I L X (fun I' L' X' => RM I' L' X' (setF A (mendF f t) g) ∧ (∀ r, r ≠ 154 → I' r = I r) ∧ L = L' ∧ X = X') := by
  refine Kv_intro (own := RX7) (lv0 := [some (.ref (ad G 153)), some (.int (nI t))]) 0 (by decide +kernel) rfl rfl (Nat.le_of_ble_eq_true rfl) (Nat.le_refl _) (fun J hM hret => ?_)
  have hn := hP.nT
  have hn8 := hP.nL
  have hR := hr.1
  have hm := hr.mf
  refine q_aload_n hM dX7_repairs_0 rfl ?_
  refine g_X7_7 hM (by decide) (by decide) hR.m0 dX7_repairs_1 ?_
  refine q_bipush (v := 19) hM dX7_repairs_4 (by decide) ?_
  refine q_bipush (v := 7) hM dX7_repairs_6 (by decide) ?_
  refine q_iload_n hM dX7_repairs_8 rfl ?_
  refine q_imul hM dX7_repairs_9 ?_
  refine q_iadd hM dX7_repairs_10 ?_
  refine q_iconst (v := 5) hM dX7_repairs_11 (by decide) ?_
  refine q_iadd hM dX7_repairs_12 ?_
  refine q_iconst (v := 1) hM dX7_repairs_13 (by decide) ?_
  refine q_rowst hM (19 + 7 * t + 5) (ix7 t 5) (by omega) (by decide) dX7_repairs_14 ?_
  have hr1 := hr.setI (i := 19 + 7 * t + 5) (by omega) 1
  have hm1 := hr1.mf
  refine q_aload_n hM dX7_repairs_15 rfl ?_
  refine g_X7_7 hM (by decide) (by decide) hR.m0 dX7_repairs_16 ?_
  refine q_bipush (v := 6) hM dX7_repairs_19 (by decide) ?_
  refine q_dup2 hM dX7_repairs_21 rfl rfl ?_
  refine q_row hM hm1 6 rfl (by decide) (by decide) dX7_repairs_22 ?_
  refine q_topi (f 6) (va_up_ne _ _ (by omega)) ?_
  refine q_aload_n hM dX7_repairs_23 rfl ?_
  refine q_iload_n hM dX7_repairs_24 rfl ?_
  refine callVe_i hM mi_X7_costOf lk_X7_82 cf_X7 (by decide) (by decide) (c_X7_costOf l G hR hm1 (PInv.st1 hP ht) t (by rw [va_up_ne _ _ (by omega)]; exact ht)) rfl rfl (by decide) (Nat.le_refl _) (by omega) (Nat.le_of_ble_eq_true rfl) dX7_repairs_25 ?_
  refine q_topi (sCost f t) (by unfold sCost sOf; rw [va_up_ne _ _ (by omega), va_up_ne _ _ (by omega)]) ?_
  refine q_iadd hM dX7_repairs_28 ?_
  refine q_rowst hM 6 rfl (by decide) (by decide) dX7_repairs_29 ?_
  have hr2 := hr1.setI (i := 6) (by decide) (f 6 + sCost f t)
  have hm2 := hr2.mf
  refine q_aload_n hM dX7_repairs_30 rfl ?_
  refine g_X7_7 hM (by decide) (by decide) hR.m0 dX7_repairs_31 ?_
  refine q_bipush (v := 7) hM dX7_repairs_34 (by decide) ?_
  refine q_dup2 hM dX7_repairs_36 rfl rfl ?_
  refine q_row hM hm2 7 rfl (by decide) (by decide) dX7_repairs_37 ?_
  refine q_topi (f 7) ((va_up_ne _ _ (by decide)).trans (va_up_ne _ _ (by omega))) ?_
  refine q_iconst (v := 1) hM dX7_repairs_38 (by decide) ?_
  refine q_iadd hM dX7_repairs_39 ?_
  refine q_rowst hM 7 rfl (by decide) (by decide) dX7_repairs_40 ?_
  have hr3 := hr2.setI (i := 7) (by decide) (f 7 + 1)
  exact hret _ _ _ _ _ ⟨hr3, fun r hx => by rw [up2_row hx, up2_row hx, up2_row hx], rfl, rfl⟩ dX7_repairs_41
set_option maxHeartbeats 4000000 in
set_option maxRecDepth 100000 in
theorem c_X7_copies (l : Launch) (G : kG) {I : kI} {L : kL} {X : kX} (hR : RefM X) (a b : Nat) (ha : a < 6) (hb : b < 6) (hab : a ≠ b)  : Kv l yX7_copies cX7_copies 4 0 G [.ref (ad G 153), .int (nI a), .int (nI b)] 159 159 I L X (fun I' L' X' => I' = cp131 I a b 131 ∧ L' = cp16 L a b 16 ∧ X = X') := by
  refine Kv_intro (own := RX7) (lv0 := [some (.ref (ad G 153)), some (.int (nI a)), some (.int (nI b)), none]) 1 (by decide +kernel) rfl rfl (Nat.le_of_ble_eq_true rfl) (Nat.le_refl _) (fun J hM hret => ?_)
  refine q_iconst (v := 0) hM dX7_copies_0 (by decide) ?_
  refine si_4_3 hM dX7_copies_1 ?_
  have loop : ∀ (k i : Nat), i ≤ 131 → 131 < i + k → J 159 (cp131 I a b i) L X 2 [some (.ref (ad G 153)), some (.int (nI a)), some (.int (nI b)), some (.int (nI i))] [] := by
    intro k
    induction k with
    | zero => intros; omega
    | succ k ih =>
      intro i h1 h2
      refine q_iload_n hM dX7_copies_2 rfl ?_
      refine q_sipush (v := 131) hM dX7_copies_3 (by decide) ?_
      refine q_icmp_geN (tgt := 39) hM i 131 rfl rfl (by omega) (by omega) dX7_copies_6 (by decide) (fun c6 => ?_) (fun c6 => ?_)
      · obtain rfl : i = 131 := by omega
        refine q_iconst (v := 0) hM dX7_copies_39 (by decide) ?_
        refine si_4_3 hM dX7_copies_40 ?_
        have loop2 : ∀ (k i : Nat), i ≤ 16 → 16 < i + k → J 159 (cp131 I a b 131) (cp16 L a b i) X 41 [some (.ref (ad G 153)), some (.int (nI a)), some (.int (nI b)), some (.int (nI i))] [] := by
          intro k2
          induction k2 with
          | zero => intros; omega
          | succ k2 ih2 =>
            intro i h1 h2
            refine q_iload_n hM dX7_copies_41 rfl ?_
            refine q_bipush (v := 16) hM dX7_copies_42 (by decide) ?_
            refine q_icmp_geN (tgt := 75) hM i 16 rfl rfl (by omega) (by omega) dX7_copies_44 (by decide) (fun c44 => ?_) (fun c44 => ?_)
            · obtain rfl : i = 16 := by omega
              exact hret _ _ _ _ _ ⟨rfl, rfl, rfl⟩ dX7_copies_75
            · refine q_aload_n hM dX7_copies_47 rfl ?_
              refine g_X7_13 hM (by decide) (by decide) hR.m1 dX7_copies_48 ?_
              refine q_bipush (v := 16) hM dX7_copies_51 (by decide) ?_
              refine q_iload_n hM dX7_copies_53 rfl ?_
              refine q_imul hM dX7_copies_54 ?_
              refine q_iload_n hM dX7_copies_55 rfl ?_
              refine q_iadd hM dX7_copies_56 ?_
              refine q_aload_n hM dX7_copies_57 rfl ?_
              refine g_X7_13 hM (by decide) (by decide) hR.m1 dX7_copies_58 ?_
              refine q_bipush (v := 16) hM dX7_copies_61 (by decide) ?_
              refine q_iload_n hM dX7_copies_63 rfl ?_
              refine q_imul hM dX7_copies_64 ?_
              refine q_iload_n hM dX7_copies_65 rfl ?_
              refine q_iadd hM dX7_copies_66 ?_
              refine q_lald (r := 155) hM (by decide) (by decide) (16 * a + i) (ixw 16 a i) (show 16 * a + i < 96 by omega) dX7_copies_67 ?_
              refine q_topl (L 155 (16 * a + i)) (cp16_r L hab c44) ?_
              refine q_last (r := 155) hM (by decide) (by decide) (16 * b + i) (ixw 16 b i) (show 16 * b + i < 96 by omega) dX7_copies_68 ?_
              rw [cp16_s]
              refine sinc_4_3 hM dX7_copies_69 (inc1 i) ?_
              refine q_goto (tgt := 41) hM dX7_copies_72 (by decide) ?_
              exact ih2 (i + 1) (by omega) (by omega)
        have h0 := loop2 17 0 (by omega) (by omega)
        rw [cp16_0] at h0
        exact h0
      · refine q_aload_n hM dX7_copies_9 rfl ?_
        refine g_X7_7 hM (by decide) (by decide) hR.m0 dX7_copies_10 ?_
        refine q_sipush (v := 131) hM dX7_copies_13 (by decide) ?_
        refine q_iload_n hM dX7_copies_16 rfl ?_
        refine q_imul hM dX7_copies_17 ?_
        refine q_iload_n hM dX7_copies_18 rfl ?_
        refine q_iadd hM dX7_copies_19 ?_
        refine q_aload_n hM dX7_copies_20 rfl ?_
        refine g_X7_7 hM (by decide) (by decide) hR.m0 dX7_copies_21 ?_
        refine q_sipush (v := 131) hM dX7_copies_24 (by decide) ?_
        refine q_iload_n hM dX7_copies_27 rfl ?_
        refine q_imul hM dX7_copies_28 ?_
        refine q_iload_n hM dX7_copies_29 rfl ?_
        refine q_iadd hM dX7_copies_30 ?_
        refine q_iald (r := 154) hM (by decide) (by decide) (131 * a + i) (ixw 131 a i) (show 131 * a + i < 786 by omega) dX7_copies_31 ?_
        refine q_topi (I 154 (131 * a + i)) (cp131_r I hab c6) ?_
        refine q_iast (r := 154) hM (by decide) (by decide) (131 * b + i) (ixw 131 b i) (show 131 * b + i < 786 by omega) dX7_copies_32 ?_
        rw [cp131_s]
        refine sinc_4_3 hM dX7_copies_33 (inc1 i) ?_
        refine q_goto (tgt := 2) hM dX7_copies_36 (by decide) ?_
        exact ih (i + 1) (by omega) (by omega)
  have h0 := loop 132 0 (by omega) (by omega)
  rw [cp131_0] at h0
  exact h0
set_option maxHeartbeats 4000000 in
set_option maxRecDepth 100000 in
theorem c_X7_keeps (l : Launch) (G : kG) {I : kI} {L : kL} {X : kX} {A : kA} (hr : RM I L X A) (hA : AInv A)  : Kv l yX7_keeps cX7_keeps 2 1 G [.ref (ad G 153)] 159 159 I L X (fun I' L' X' => RM I' L' X' (keepA A) ∧ FrC I I' L L' X X' ∧ X = X') := by
  refine Kv_intro (own := RX7) (lv0 := [some (.ref (ad G 153)), none]) 1 (by decide +kernel) rfl rfl (Nat.le_of_ble_eq_true rfl) (Nat.le_refl _) (fun J hM hret => ?_)
  obtain ⟨hR, hB, hn, hk, ht⟩ := id hr
  have hn5 := hA.1
  have tail : ∀ (m : Nat) (x : Int32) (I1 : kI) (L1 : kL) (B : Nat → Fr) (C : Nat → Gr), m < 5 → RB I1 L1 B C → (∀ r, r ≠ 154 → r ≠ 153 → I1 r = I r) → (∀ j, j ≠ 2 → I1 153 j = I 153 j) → (∀ r, r ≠ 155 → L1 r = L r) → I1 153 2 = nI m → m + 1 = aN (keepA A) → (∀ k, k < 6 → va_up B (m + 1) (B 0) k = (keepA A).1 k) → (∀ k, k < 6 → va_up C (m + 1) (C 0) k = (keepA A).2.1 k) → J 159 I1 L1 X 51 [some (.ref (ad G 153)), some (.int x)] [] := by
    intro m x I1 L1 B C hm hB1 hI1 hI2 hL1 hn1 hmn hBk hCk
    refine q_aload_n hM dX7_keeps_51 rfl ?_
    refine q_dup hM dX7_keeps_52 rfl ?_
    refine g_X7_27 hM (by decide) (by decide) dX7_keeps_53 ?_
    refine q_topi (nI m) hn1 ?_
    refine q_iconst (v := 1) hM dX7_keeps_56 (by decide) ?_
    refine q_iadd hM dX7_keeps_57 ?_
    refine q_topi (nI (m + 1)) (nI_1 m) ?_
    refine p_X7_27 hM (by decide) (by decide) dX7_keeps_58 ?_
    refine q_aload_n hM dX7_keeps_61 rfl ?_
    refine q_iconst (v := 0) hM dX7_keeps_62 (by decide) ?_
    refine q_aload_n hM dX7_keeps_63 rfl ?_
    refine g_X7_27 hM (by decide) (by decide) dX7_keeps_64 ?_
    refine q_topi (nI (m + 1)) (up2_self _ _ _ _) ?_
    refine callV_v hM mi_X7_copies lk_X7_31 cf_X7 (by decide) (by decide) (c_X7_copies l G hR 0 (m + 1) (by decide) (by omega) (by omega)) rfl rfl (by decide) (Nat.le_refl _) (by omega) (Nat.le_of_ble_eq_true rfl) dX7_keeps_67 (fun I9 L9 X9 hp9 => ?_)
    obtain ⟨rfl, rfl, rfl⟩ := hp9
    have hB2 : RB (up2 I1 153 2 (nI (m + 1))) L1 B C := ⟨fun k hk i hi => by rw [up2_ne (by omega)]; exact hB1.1 k hk i hi, hB1.2⟩
    have hB3 := (hB2.copy (a := 0) (b := m + 1) (by decide) (by omega)).congr hBk hCk
    have far : ∀ r j, r ≠ 154 → cp131 (up2 I1 153 2 (nI (m + 1))) 0 (m + 1) 131 r j = up2 I1 153 2 (nI (m + 1)) r j := fun r j hr => by unfold cp131; rw [if_neg (by omega)]
    have farL : ∀ r j, r ≠ 155 → cp16 L1 0 (m + 1) 16 r j = L1 r j := fun r j hr => by unfold cp16; rw [if_neg (by omega)]
    refine hret _ _ _ _ _ ⟨⟨hR, hB3, ?_, ?_, fun j hj => ?_⟩, fun r hr => ⟨?_, ?_, rfl⟩, rfl⟩ dX7_keeps_70
    · rw [far _ _ (by decide), up2_self, hmn]
    · rw [far _ _ (by decide), up2_ne (by decide), hI2 8 (by decide)]; exact hk
    · rw [far _ _ (by decide), up2_ne (Or.inl (by decide)), hI1 158 (by decide) (by decide)]; exact ht j hj
    · funext j; rw [far _ _ (by omega), up2_ne (by omega), hI1 r (by omega) (by omega)]
    · funext j; rw [farL _ _ (by omega), hL1 r (by omega)]
  refine q_iconst (v := 1) hM dX7_keeps_0 (by decide) ?_
  refine si_2_1 hM dX7_keeps_1 ?_
  have loop : ∀ (k i : Nat) (I1 : kI) (L1 : kL), 1 ≤ i → i ≤ 5 → 5 < i + k → RB I1 L1 (fun k : Nat => if 1 ≤ k ∧ k < i then A.1 (k + 1) else A.1 k) (fun k : Nat => if 1 ≤ k ∧ k < i then A.2.1 (k + 1) else A.2.1 k) → (∀ r, r ≠ 154 → I1 r = I r) → (∀ r, r ≠ 155 → L1 r = L r) → (aN A ≠ 5 → i = 1) → J 159 I1 L1 X 2 [some (.ref (ad G 153)), some (.int (nI i))] [] := by
    intro k
    induction k with
    | zero => intros; omega
    | succ k ih =>
      intro i I1 L1 h0 h1 h2 hB1 hI1 hL1 h5
      refine q_iload_n hM dX7_keeps_2 rfl ?_
      refine q_iconst (v := 5) hM dX7_keeps_3 (by decide) ?_
      refine q_icmp_geN (tgt := 29) hM i 5 rfl rfl (by omega) (by omega) dX7_keeps_4 (by decide) (fun c4 => ?_) (fun c4 => ?_)
      · have hs : aN A = 5 → i = 5 := fun _ => by omega
        refine q_aload_n hM dX7_keeps_29 rfl ?_
        refine q_dup hM dX7_keeps_30 rfl ?_
        refine g_X7_27 hM (by decide) (by decide) dX7_keeps_31 ?_
        refine q_topi (nI (aN A)) (by rw [hI1 153 (by decide)]; exact hn) ?_
        refine q_aload_n hM dX7_keeps_34 rfl ?_
        refine g_X7_27 hM (by decide) (by decide) dX7_keeps_35 ?_
        refine q_topi (nI (aN A)) (by rw [hI1 153 (by decide)]; exact hn) ?_
        refine q_iconst (v := 5) hM dX7_keeps_38 (by decide) ?_
        refine q_icmp_neN (tgt := 46) hM (aN A) 5 rfl rfl (by omega) (by omega) dX7_keeps_39 (by decide) (fun c39 => ?_) (fun c39 => ?_)
        · have h5n : aN A ≠ 5 := c39
          refine q_iconst (v := 0) hM dX7_keeps_46 (by decide) ?_
          refine q_isub hM dX7_keeps_47 ?_
          refine q_topi (nI (aN A)) (by rw [show (0 : Int32) = nI 0 from rfl, pk_sub (Nat.zero_le _)]; rfl) ?_
          refine p_X7_27 hM (by decide) (by decide) dX7_keeps_48 ?_
          obtain rfl : i = 1 := h5 h5n
          refine tail (aN A) _ _ L1 (fun k : Nat => if 1 ≤ k ∧ k < 1 then A.1 (k + 1) else A.1 k) (fun k : Nat => if 1 ≤ k ∧ k < 1 then A.2.1 (k + 1) else A.2.1 k) (by omega) ⟨fun k hk i hi => by rw [up2_ne (by omega)]; exact hB1.1 k hk i hi, hB1.2⟩ (fun r r1 r2 => by rw [up2_row r2]; exact hI1 r r1) (fun j hj => by rw [up2_ne (Or.inr hj), hI1 153 (by decide)]) hL1 (up2_self _ _ _ _) ?_ (fun k hk => ?_) (fun k hk => ?_)
          · show aN A + 1 = (if aN A = 5 then 5 else aN A + 1)
            rw [if_neg h5n]
          · show va_up _ (aN A + 1) _ k = kpS A.1 (aN A) k
            unfold kpS
            rw [if_neg h5n]
            by_cases h1 : k = aN A + 1
            · rw [if_pos h1, h1, va_up_self]; simp
            · rw [va_up_ne _ _ h1, if_neg h1]
              simp only [if_neg (show ¬ (1 ≤ k ∧ k < 1) by omega)]
          · show va_up _ (aN A + 1) _ k = kpS A.2.1 (aN A) k
            unfold kpS
            rw [if_neg h5n]
            by_cases h1 : k = aN A + 1
            · rw [if_pos h1, h1, va_up_self]; simp
            · rw [va_up_ne _ _ h1, if_neg h1]
              simp only [if_neg (show ¬ (1 ≤ k ∧ k < 1) by omega)]
        · have h5y : aN A = 5 := c39
          refine q_iconst (v := 1) hM dX7_keeps_42 (by decide) ?_
          refine q_goto (tgt := 47) hM dX7_keeps_43 (by decide) ?_
          refine q_isub hM dX7_keeps_47 ?_
          refine q_topi (nI 4) (by rw [h5y]; rfl) ?_
          refine p_X7_27 hM (by decide) (by decide) dX7_keeps_48 ?_
          obtain rfl : i = 5 := hs h5y
          refine tail 4 _ _ L1 (fun k : Nat => if 1 ≤ k ∧ k < 5 then A.1 (k + 1) else A.1 k) (fun k : Nat => if 1 ≤ k ∧ k < 5 then A.2.1 (k + 1) else A.2.1 k) (by decide) ⟨fun k hk i hi => by rw [up2_ne (by omega)]; exact hB1.1 k hk i hi, hB1.2⟩ (fun r r1 r2 => by rw [up2_row r2]; exact hI1 r r1) (fun j hj => by rw [up2_ne (Or.inr hj), hI1 153 (by decide)]) hL1 (up2_self _ _ _ _) ?_ (fun k hk => ?_) (fun k hk => ?_)
          · show 5 = (if aN A = 5 then 5 else aN A + 1)
            rw [if_pos h5y]
          · show va_up _ 5 _ k = kpS A.1 (aN A) k
            unfold kpS
            rw [if_pos h5y]
            by_cases h1 : k = 5
            · subst h1; rw [va_up_self]; simp
            · rw [va_up_ne _ _ h1]
              simp only [if_neg h1]
              by_cases h2 : k = 0
              · subst h2; simp
              · simp only [if_neg h2, if_pos (show 1 ≤ k ∧ k < 5 by omega)]
          · show va_up _ 5 _ k = kpS A.2.1 (aN A) k
            unfold kpS
            rw [if_pos h5y]
            by_cases h1 : k = 5
            · subst h1; rw [va_up_self]; simp
            · rw [va_up_ne _ _ h1]
              simp only [if_neg h1]
              by_cases h2 : k = 0
              · subst h2; simp
              · simp only [if_neg h2, if_pos (show 1 ≤ k ∧ k < 5 by omega)]
      · refine q_aload_n hM dX7_keeps_7 rfl ?_
        refine g_X7_27 hM (by decide) (by decide) dX7_keeps_8 ?_
        refine q_topi (nI (aN A)) (by rw [hI1 153 (by decide)]; exact hn) ?_
        refine q_iconst (v := 5) hM dX7_keeps_11 (by decide) ?_
        refine q_icmp_neN (tgt := 29) hM (aN A) 5 rfl rfl (by omega) (by omega) dX7_keeps_12 (by decide) (fun c12 => ?_) (fun c12 => ?_)
        · have hs : aN A = 5 → i = 5 := fun q => absurd q c12
          refine q_aload_n hM dX7_keeps_29 rfl ?_
          refine q_dup hM dX7_keeps_30 rfl ?_
          refine g_X7_27 hM (by decide) (by decide) dX7_keeps_31 ?_
          refine q_topi (nI (aN A)) (by rw [hI1 153 (by decide)]; exact hn) ?_
          refine q_aload_n hM dX7_keeps_34 rfl ?_
          refine g_X7_27 hM (by decide) (by decide) dX7_keeps_35 ?_
          refine q_topi (nI (aN A)) (by rw [hI1 153 (by decide)]; exact hn) ?_
          refine q_iconst (v := 5) hM dX7_keeps_38 (by decide) ?_
          refine q_icmp_neN (tgt := 46) hM (aN A) 5 rfl rfl (by omega) (by omega) dX7_keeps_39 (by decide) (fun c39 => ?_) (fun c39 => ?_)
          · have h5n : aN A ≠ 5 := c39
            refine q_iconst (v := 0) hM dX7_keeps_46 (by decide) ?_
            refine q_isub hM dX7_keeps_47 ?_
            refine q_topi (nI (aN A)) (by rw [show (0 : Int32) = nI 0 from rfl, pk_sub (Nat.zero_le _)]; rfl) ?_
            refine p_X7_27 hM (by decide) (by decide) dX7_keeps_48 ?_
            obtain rfl : i = 1 := h5 h5n
            refine tail (aN A) _ _ L1 (fun k : Nat => if 1 ≤ k ∧ k < 1 then A.1 (k + 1) else A.1 k) (fun k : Nat => if 1 ≤ k ∧ k < 1 then A.2.1 (k + 1) else A.2.1 k) (by omega) ⟨fun k hk i hi => by rw [up2_ne (by omega)]; exact hB1.1 k hk i hi, hB1.2⟩ (fun r r1 r2 => by rw [up2_row r2]; exact hI1 r r1) (fun j hj => by rw [up2_ne (Or.inr hj), hI1 153 (by decide)]) hL1 (up2_self _ _ _ _) ?_ (fun k hk => ?_) (fun k hk => ?_)
            · show aN A + 1 = (if aN A = 5 then 5 else aN A + 1)
              rw [if_neg h5n]
            · show va_up _ (aN A + 1) _ k = kpS A.1 (aN A) k
              unfold kpS
              rw [if_neg h5n]
              by_cases h1 : k = aN A + 1
              · rw [if_pos h1, h1, va_up_self]; simp
              · rw [va_up_ne _ _ h1, if_neg h1]
                simp only [if_neg (show ¬ (1 ≤ k ∧ k < 1) by omega)]
            · show va_up _ (aN A + 1) _ k = kpS A.2.1 (aN A) k
              unfold kpS
              rw [if_neg h5n]
              by_cases h1 : k = aN A + 1
              · rw [if_pos h1, h1, va_up_self]; simp
              · rw [va_up_ne _ _ h1, if_neg h1]
                simp only [if_neg (show ¬ (1 ≤ k ∧ k < 1) by omega)]
          · have h5y : aN A = 5 := c39
            refine q_iconst (v := 1) hM dX7_keeps_42 (by decide) ?_
            refine q_goto (tgt := 47) hM dX7_keeps_43 (by decide) ?_
            refine q_isub hM dX7_keeps_47 ?_
            refine q_topi (nI 4) (by rw [h5y]; rfl) ?_
            refine p_X7_27 hM (by decide) (by decide) dX7_keeps_48 ?_
            obtain rfl : i = 5 := hs h5y
            refine tail 4 _ _ L1 (fun k : Nat => if 1 ≤ k ∧ k < 5 then A.1 (k + 1) else A.1 k) (fun k : Nat => if 1 ≤ k ∧ k < 5 then A.2.1 (k + 1) else A.2.1 k) (by decide) ⟨fun k hk i hi => by rw [up2_ne (by omega)]; exact hB1.1 k hk i hi, hB1.2⟩ (fun r r1 r2 => by rw [up2_row r2]; exact hI1 r r1) (fun j hj => by rw [up2_ne (Or.inr hj), hI1 153 (by decide)]) hL1 (up2_self _ _ _ _) ?_ (fun k hk => ?_) (fun k hk => ?_)
            · show 5 = (if aN A = 5 then 5 else aN A + 1)
              rw [if_pos h5y]
            · show va_up _ 5 _ k = kpS A.1 (aN A) k
              unfold kpS
              rw [if_pos h5y]
              by_cases h1 : k = 5
              · subst h1; rw [va_up_self]; simp
              · rw [va_up_ne _ _ h1]
                simp only [if_neg h1]
                by_cases h2 : k = 0
                · subst h2; simp
                · simp only [if_neg h2, if_pos (show 1 ≤ k ∧ k < 5 by omega)]
            · show va_up _ 5 _ k = kpS A.2.1 (aN A) k
              unfold kpS
              rw [if_pos h5y]
              by_cases h1 : k = 5
              · subst h1; rw [va_up_self]; simp
              · rw [va_up_ne _ _ h1]
                simp only [if_neg h1]
                by_cases h2 : k = 0
                · subst h2; simp
                · simp only [if_neg h2, if_pos (show 1 ≤ k ∧ k < 5 by omega)]
        · have hn' : aN A = 5 := c12
          refine q_aload_n hM dX7_keeps_15 rfl ?_
          refine q_iload_n hM dX7_keeps_16 rfl ?_
          refine q_iconst (v := 1) hM dX7_keeps_17 (by decide) ?_
          refine q_iadd hM dX7_keeps_18 ?_
          refine q_topi (nI (i + 1)) (nI_1 i) ?_
          refine q_iload_n hM dX7_keeps_19 rfl ?_
          refine callV_v hM mi_X7_copies lk_X7_31 cf_X7 (by decide) (by decide) (c_X7_copies l G hR (i + 1) i (by omega) (by omega) (by omega)) rfl rfl (by decide) (Nat.le_refl _) (by omega) (Nat.le_of_ble_eq_true rfl) dX7_keeps_20 (fun I9 L9 X9 hp9 => ?_)
          obtain ⟨rfl, rfl, rfl⟩ := hp9
          refine sinc_2_1 hM dX7_keeps_23 (inc1 i) ?_
          refine q_goto (tgt := 2) hM dX7_keeps_26 (by decide) ?_
          refine ih (i + 1) _ _ (by omega) (by omega) (by omega) ((hB1.copy (a := i + 1) (b := i) (by omega) (by omega)).congr (fun k _ => ?_) (fun k _ => ?_)) (fun r hr => ?_) (fun r hr => ?_) (fun q => absurd hn' q)
          · by_cases hk : k = i
            · subst hk; rw [va_up_self, if_neg (by omega), if_pos (by omega)]
            · rw [va_up_ne _ _ hk]
              by_cases h3 : 1 ≤ k ∧ k < i
              · rw [if_pos h3, if_pos (by omega)]
              · rw [if_neg h3, if_neg (by omega)]
          · by_cases hk : k = i
            · subst hk; rw [va_up_self, if_neg (by omega), if_pos (by omega)]
            · rw [va_up_ne _ _ hk]
              by_cases h3 : 1 ≤ k ∧ k < i
              · rw [if_pos h3, if_pos (by omega)]
              · rw [if_neg h3, if_neg (by omega)]
          · funext j; unfold cp131; rw [if_neg (by omega), hI1 r hr]
          · funext j; unfold cp16; rw [if_neg (by omega), hL1 r hr]
  exact loop 5 1 I L (by omega) (by omega) (by omega) (hB.congr (fun k _ => by rw [if_neg (by omega)]) (fun k _ => by rw [if_neg (by omega)])) (fun _ _ => rfl) (fun _ _ => rfl) (fun _ => rfl)
