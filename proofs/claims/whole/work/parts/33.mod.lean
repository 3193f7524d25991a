/-! ===== the reference: more calls ===== -/
set_option maxHeartbeats 4000000 in
set_option maxRecDepth 100000 in
theorem c_X7_loss (l : Launch) (G : kG) {I : kI} {L : kL} {X : kX} {A : kA} (hr : RM I L X A) (hA : AInv A) (t : Int32)  : Ki l yX7_loss cX7_loss 2 3 G [.ref (ad G 153), .int t] 159 159 I L X (pE (rLoss A t) I L X) := by
  refine Ki_intro (own := RX7) (lv0 := [some (.ref (ad G 153)), some (.int t)]) 0 (by decide +kernel) rfl rfl (Nat.le_of_ble_eq_true rfl) (Nat.le_refl _) (fun J hM hret => ?_)
  have hR := hr.1
  have hm := hr.m
  have hP := hA.f
  have hn := hP.nT
  have hn8 := hP.nL
  refine q_aload_n hM dX7_loss_0 rfl ?_
  refine q_iload_n hM dX7_loss_1 rfl ?_
  refine callVe_z hM mi_X7_isTrap lk_X7_53 cf_X7 (by decide) (by decide) (c_X7_isTrap l G hR hm hP _) rfl rfl (by decide) (Nat.le_refl _) (by omega) (Nat.le_of_ble_eq_true rfl) dX7_loss_2 ?_
  refine q_ifd_eq (tgt := 16) hM dX7_loss_5 (by decide) (fun c5 => ?_) (fun c5 => ?_)
  · refine q_bipush (v := -2) hM dX7_loss_16 (by decide) ?_
    exact hret _ _ _ _ _ _ ⟨(by unfold rLoss; skip; (try (first | rw [if_pos c5] | rw [if_neg c5])); (first | rfl | (rw [hcj]; done) | (rw [hcj]; rfl) | skip)), rfl, rfl, rfl⟩ dX7_loss_18
  · obtain ⟨j, hj, rfl⟩ := trapEx hP c5
    have hcj : cI (nI j) = j := cI_nI (by omega)
    refine q_aload_n hM dX7_loss_8 rfl ?_
    refine q_iload_n hM dX7_loss_9 rfl ?_
    refine callVe_i hM mi_X7_lossOf lk_X7_71 cf_X7 (by decide) (by decide) (c_X7_lossOf l G hR hm hP j hj) rfl rfl (by decide) (Nat.le_refl _) (by omega) (Nat.le_of_ble_eq_true rfl) dX7_loss_10 ?_
    refine q_goto (tgt := 18) hM dX7_loss_13 (by decide) ?_
    exact hret _ _ _ _ _ _ ⟨(by unfold rLoss; skip; (try (first | rw [if_pos c5] | rw [if_neg c5])); (first | rfl | (rw [hcj]; done) | (rw [hcj]; rfl) | skip)), rfl, rfl, rfl⟩ dX7_loss_18
set_option maxHeartbeats 4000000 in
set_option maxRecDepth 100000 in
theorem c_X7_lineLoss (l : Launch) (G : kG) {I : kI} {L : kL} {X : kX} {A : kA} (hr : RM I L X A) (hA : AInv A) (z : Int32)  : Ki l yX7_lineLoss cX7_lineLoss 4 3 G [.ref (ad G 153), .int z] 159 159 I L X (pE (rLineLoss A z) I L X) := by
  refine Ki_intro (own := RX7) (lv0 := [some (.ref (ad G 153)), some (.int z), none, none]) 2 (by decide +kernel) rfl rfl (Nat.le_of_ble_eq_true rfl) (Nat.le_refl _) (fun J hM hret => ?_)
  have hR := hr.1
  have hm := hr.m
  have hP := hA.f
  have hn := hP.nT
  have hn8 := hP.nL
  generalize hh : (fun t => if sOf (aF A) t 0 = z then sLoss (aF A) t else 0) = h
  refine q_aload_n hM dX7_lineLoss_0 rfl ?_
  refine q_iload_n hM dX7_lineLoss_1 rfl ?_
  refine callVe_z hM mi_X7_isLine lk_X7_50 cf_X7 (by decide) (by decide) (c_X7_isLine l G hR hm hP _) rfl rfl (by decide) (Nat.le_refl _) (by omega) (Nat.le_of_ble_eq_true rfl) dX7_lineLoss_2 ?_
  refine q_ifd_ne (tgt := 11) hM dX7_lineLoss_5 (by decide) (fun c5 => ?_) (fun c5 => ?_)
  · refine q_iconst (v := 0) hM dX7_lineLoss_11 (by decide) ?_
    refine si_4_2 hM dX7_lineLoss_12 ?_
    refine q_iconst (v := 0) hM dX7_lineLoss_13 (by decide) ?_
    refine si_4_3 hM dX7_lineLoss_14 ?_
    have loop : ∀ (k i : Nat), i ≤ cI (aF A 1) → cI (aF A 1) < i + k → J 159 I L X 15 [some (.ref (ad G 153)), some (.int z), some (.int (sSum h i)), some (.int (nI i))] [] := by
      intro k
      induction k with
      | zero => intro i; intros; omega
      | succ k ih =>
        intro i h1 h2
        refine q_iload_n hM dX7_lineLoss_15 rfl ?_
        refine q_aload_n hM dX7_lineLoss_16 rfl ?_
        refine g_X7_7 hM (by decide) (by decide) hR.m0 dX7_lineLoss_17 ?_
        refine q_iconst (v := 1) hM dX7_lineLoss_20 (by decide) ?_
        refine q_row hM hm 1 rfl (by decide) (by decide) dX7_lineLoss_21 ?_
        refine q_icmp_geN (tgt := 53) hM i (cI (aF A 1)) rfl hP.e1 (by omega) (by omega) dX7_lineLoss_22 (by decide) (fun c22 => ?_) (fun c22 => ?_)
        · obtain rfl : i = cI (aF A 1) := by omega
          refine q_iload_n hM dX7_lineLoss_53 rfl ?_
          exact hret _ _ _ _ _ _ ⟨by unfold rLineLoss; rw [if_pos c5, hh], rfl, rfl, rfl⟩ dX7_lineLoss_54
        · refine q_iload_n hM dX7_lineLoss_25 rfl ?_
          refine q_aload_n hM dX7_lineLoss_26 rfl ?_
          refine q_iload_n hM dX7_lineLoss_27 rfl ?_
          refine q_iconst (v := 0) hM dX7_lineLoss_28 (by decide) ?_
          refine callVe_i hM mi_X7_of lk_X7_39 cf_X7 (by decide) (by decide) (c_X7_of l G hR hm i 0 (by omega) (by decide)) rfl rfl (by decide) (Nat.le_refl _) (by omega) (Nat.le_of_ble_eq_true rfl) dX7_lineLoss_29 ?_
          refine q_iload_n hM dX7_lineLoss_32 rfl ?_
          refine q_icmp_ne (tgt := 44) hM dX7_lineLoss_33 (by decide) (fun c33 => ?_) (fun c33 => ?_)
          · have hs : sSum h (i + 1) = sSum h i + 0 := by rw [sSum, ← hh]; simp only; rw [if_neg c33]
            refine q_iconst (v := 0) hM dX7_lineLoss_44 (by decide) ?_
            refine q_iadd hM dX7_lineLoss_45 ?_
            rw [← hs]
            refine si_4_2 hM dX7_lineLoss_46 ?_
            refine sinc_4_3 hM dX7_lineLoss_47 (inc1 i) ?_
            refine q_goto (tgt := 15) hM dX7_lineLoss_50 (by decide) ?_
            exact ih (i + 1) (by omega) (by omega)
          · have hs : sSum h (i + 1) = sSum h i + (sLoss (aF A) i) := by rw [sSum, ← hh]; simp only; rw [if_pos c33]
            refine q_aload_n hM dX7_lineLoss_36 rfl ?_
            refine q_iload_n hM dX7_lineLoss_37 rfl ?_
            refine callVe_i hM mi_X7_lossOf lk_X7_71 cf_X7 (by decide) (by decide) (c_X7_lossOf l G hR hm hP i c22) rfl rfl (by decide) (Nat.le_refl _) (by omega) (Nat.le_of_ble_eq_true rfl) dX7_lineLoss_38 ?_
            refine q_goto (tgt := 45) hM dX7_lineLoss_41 (by decide) ?_
            refine q_iadd hM dX7_lineLoss_45 ?_
            rw [← hs]
            refine si_4_2 hM dX7_lineLoss_46 ?_
            refine sinc_4_3 hM dX7_lineLoss_47 (inc1 i) ?_
            refine q_goto (tgt := 15) hM dX7_lineLoss_50 (by decide) ?_
            exact ih (i + 1) (by omega) (by omega)
    exact loop (cI (aF A 1) + 1) 0 (Nat.zero_le _) (by omega)
  · refine q_bipush (v := -2) hM dX7_lineLoss_8 (by decide) ?_
    exact hret _ _ _ _ _ _ ⟨(by unfold rLineLoss; skip; (try (first | rw [if_pos c5] | rw [if_neg c5])); (first | rfl | (rw [hcj]; done) | (rw [hcj]; rfl) | skip)), rfl, rfl, rfl⟩ dX7_lineLoss_10
set_option maxHeartbeats 4000000 in
set_option maxRecDepth 100000 in
theorem c_X7_headerLoss (l : Launch) (G : kG) {I : kI} {L : kL} {X : kX} {A : kA} (hr : RM I L X A) (hA : AInv A) (z : Int32)  : Ki l yX7_headerLoss cX7_headerLoss 4 3 G [.ref (ad G 153), .int z] 159 159 I L X (pE (rHeaderLoss A z) I L X) := by
  refine Ki_intro (own := RX7) (lv0 := [some (.ref (ad G 153)), some (.int z), none, none]) 2 (by decide +kernel) rfl rfl (Nat.le_of_ble_eq_true rfl) (Nat.le_refl _) (fun J hM hret => ?_)
  have hR := hr.1
  have hm := hr.m
  have hP := hA.f
  have hn := hP.nT
  have hn8 := hP.nL
  generalize hh : (fun t => if nI (sH (aF A) t) = z then sLoss (aF A) t else 0) = h
  refine q_iload_n hM dX7_headerLoss_0 rfl ?_
  refine callSe_z hM mi_X7_isHeader lk_X7_43 (c_X7_isHeader l G _) rfl rfl (by decide) (Nat.le_refl _) (by omega) (Nat.le_of_ble_eq_true rfl) dX7_headerLoss_1 ?_
  refine q_ifd_ne (tgt := 10) hM dX7_headerLoss_4 (by decide) (fun c4 => ?_) (fun c4 => ?_)
  · refine q_iconst (v := 0) hM dX7_headerLoss_10 (by decide) ?_
    refine si_4_2 hM dX7_headerLoss_11 ?_
    refine q_iconst (v := 0) hM dX7_headerLoss_12 (by decide) ?_
    refine si_4_3 hM dX7_headerLoss_13 ?_
    have loop : ∀ (k i : Nat), i ≤ cI (aF A 1) → cI (aF A 1) < i + k → J 159 I L X 14 [some (.ref (ad G 153)), some (.int z), some (.int (sSum h i)), some (.int (nI i))] [] := by
      intro k
      induction k with
      | zero => intro i; intros; omega
      | succ k ih =>
        intro i h1 h2
        refine q_iload_n hM dX7_headerLoss_14 rfl ?_
        refine q_aload_n hM dX7_headerLoss_15 rfl ?_
        refine g_X7_7 hM (by decide) (by decide) hR.m0 dX7_headerLoss_16 ?_
        refine q_iconst (v := 1) hM dX7_headerLoss_19 (by decide) ?_
        refine q_row hM hm 1 rfl (by decide) (by decide) dX7_headerLoss_20 ?_
        refine q_icmp_geN (tgt := 51) hM i (cI (aF A 1)) rfl hP.e1 (by omega) (by omega) dX7_headerLoss_21 (by decide) (fun c21 => ?_) (fun c21 => ?_)
        · obtain rfl : i = cI (aF A 1) := by omega
          refine q_iload_n hM dX7_headerLoss_51 rfl ?_
          exact hret _ _ _ _ _ _ ⟨by unfold rHeaderLoss; rw [if_pos c4, hh], rfl, rfl, rfl⟩ dX7_headerLoss_52
        · refine q_iload_n hM dX7_headerLoss_24 rfl ?_
          refine q_aload_n hM dX7_headerLoss_25 rfl ?_
          refine q_iload_n hM dX7_headerLoss_26 rfl ?_
          refine callVe_i hM mi_X7_header lk_X7_56 cf_X7 (by decide) (by decide) (c_X7_header l G hR hm hP i c21) rfl rfl (by decide) (Nat.le_refl _) (by omega) (Nat.le_of_ble_eq_true rfl) dX7_headerLoss_27 ?_
          refine q_iload_n hM dX7_headerLoss_30 rfl ?_
          refine q_icmp_ne (tgt := 42) hM dX7_headerLoss_31 (by decide) (fun c31 => ?_) (fun c31 => ?_)
          · have hs : sSum h (i + 1) = sSum h i + 0 := by rw [sSum, ← hh]; simp only; rw [if_neg c31]
            refine q_iconst (v := 0) hM dX7_headerLoss_42 (by decide) ?_
            refine q_iadd hM dX7_headerLoss_43 ?_
            rw [← hs]
            refine si_4_2 hM dX7_headerLoss_44 ?_
            refine sinc_4_3 hM dX7_headerLoss_45 (inc1 i) ?_
            refine q_goto (tgt := 14) hM dX7_headerLoss_48 (by decide) ?_
            exact ih (i + 1) (by omega) (by omega)
          · have hs : sSum h (i + 1) = sSum h i + (sLoss (aF A) i) := by rw [sSum, ← hh]; simp only; rw [if_pos c31]
            refine q_aload_n hM dX7_headerLoss_34 rfl ?_
            refine q_iload_n hM dX7_headerLoss_35 rfl ?_
            refine callVe_i hM mi_X7_lossOf lk_X7_71 cf_X7 (by decide) (by decide) (c_X7_lossOf l G hR hm hP i c21) rfl rfl (by decide) (Nat.le_refl _) (by omega) (Nat.le_of_ble_eq_true rfl) dX7_headerLoss_36 ?_
            refine q_goto (tgt := 43) hM dX7_headerLoss_39 (by decide) ?_
            refine q_iadd hM dX7_headerLoss_43 ?_
            rw [← hs]
            refine si_4_2 hM dX7_headerLoss_44 ?_
            refine sinc_4_3 hM dX7_headerLoss_45 (inc1 i) ?_
            refine q_goto (tgt := 14) hM dX7_headerLoss_48 (by decide) ?_
            exact ih (i + 1) (by omega) (by omega)
    exact loop (cI (aF A 1) + 1) 0 (Nat.zero_le _) (by omega)
  · refine q_bipush (v := -2) hM dX7_headerLoss_7 (by decide) ?_
    exact hret _ _ _ _ _ _ ⟨(by unfold rHeaderLoss; skip; (try (first | rw [if_pos c4] | rw [if_neg c4])); (first | rfl | (rw [hcj]; done) | (rw [hcj]; rfl) | skip)), rfl, rfl, rfl⟩ dX7_headerLoss_9
set_option maxHeartbeats 4000000 in
set_option maxRecDepth 100000 in
theorem c_X7_lost (l : Launch) (G : kG) {I : kI} {L : kL} {X : kX} {A : kA} (hr : RM I L X A) (hA : AInv A) (t : Int32)  : Kl l yX7_lost cX7_lost 5 2 G [.ref (ad G 153), .int t] 159 159 I L X (pE (rLost A t) I L X) := by
  refine Kl_intro (own := RX7) (lv0 := [some (.ref (ad G 153)), some (.int t), none, none, none]) 3 (by decide +kernel) rfl rfl (Nat.le_of_ble_eq_true rfl) (Nat.le_refl _) (fun J hM hret => ?_)
  have hR := hr.1
  have hm := hr.m
  have hP := hA.f
  have hn := hP.nT
  have hn8 := hP.nL
  refine q_iload_n hM dX7_lost_0 rfl ?_
  refine q_iconst (v := -1) hM dX7_lost_1 (by decide) ?_
  refine q_icmp_eq (tgt := 26) hM dX7_lost_2 (by decide) (fun c2 => ?_) (fun c2 => ?_)
  · refine q_lconst (v := 0) hM dX7_lost_26 (by decide) ?_
    refine sl_5_2 hM dX7_lost_27 ?_
    refine q_iconst (v := 0) hM dX7_lost_28 (by decide) ?_
    refine si_5_4 hM dX7_lost_29 ?_
    have loop : ∀ (k i : Nat), i ≤ cI (aF A 1) → cI (aF A 1) < i + k → J 159 I L X 31 [some (.ref (ad G 153)), some (.int t), some (.long (sSumL (aG A) i)), none, some (.int (nI i))] [] := by
      intro k
      induction k with
      | zero => intro i; intros; omega
      | succ k ih =>
        intro i h1 h2
        refine q_iload hM dX7_lost_31 rfl ?_
        refine q_aload_n hM dX7_lost_33 rfl ?_
        refine g_X7_7 hM (by decide) (by decide) hR.m0 dX7_lost_34 ?_
        refine q_iconst (v := 1) hM dX7_lost_37 (by decide) ?_
        refine q_row hM hm 1 rfl (by decide) (by decide) dX7_lost_38 ?_
        refine q_icmp_geN (tgt := 58) hM i (cI (aF A 1)) rfl hP.e1 (by omega) (by omega) dX7_lost_39 (by decide) (fun c39 => ?_) (fun c39 => ?_)
        · obtain rfl : i = cI (aF A 1) := by omega
          refine q_lload_n hM dX7_lost_58 rfl ?_
          exact hret _ _ _ _ _ _ ⟨by unfold rLost; rw [if_pos c2], rfl, rfl, rfl⟩ dX7_lost_59
        · refine q_lload_n hM dX7_lost_42 rfl ?_
          refine q_aload_n hM dX7_lost_43 rfl ?_
          refine g_X7_13 hM (by decide) (by decide) hR.m1 dX7_lost_44 ?_
          refine q_iload hM dX7_lost_47 rfl ?_
          refine q_lo hM hm i rfl (by omega) (by decide) dX7_lost_49 ?_
          refine q_ladd hM dX7_lost_50 ?_
          refine sl_5_2 hM dX7_lost_51 ?_
          refine sinc_5_4 hM dX7_lost_52 (inc1 i) ?_
          refine q_goto (tgt := 31) hM dX7_lost_55 (by decide) ?_
          exact ih (i + 1) (by omega) (by omega)
    exact loop (cI (aF A 1) + 1) 0 (Nat.zero_le _) (by omega)
  · refine q_aload_n hM dX7_lost_5 rfl ?_
    refine q_iload_n hM dX7_lost_6 rfl ?_
    refine callVe_z hM mi_X7_isTrap lk_X7_53 cf_X7 (by decide) (by decide) (c_X7_isTrap l G hR hm hP _) rfl rfl (by decide) (Nat.le_refl _) (by omega) (Nat.le_of_ble_eq_true rfl) dX7_lost_7 ?_
    refine q_ifd_eq (tgt := 22) hM dX7_lost_10 (by decide) (fun c10 => ?_) (fun c10 => ?_)
    · refine q_ldc2 hM cw_X7_74 dX7_lost_22 ?_
      exact hret _ _ _ _ _ _ ⟨(by unfold rLost; skip; (try (first | rw [if_pos c2] | rw [if_neg c2])); (try (first | rw [if_pos c10] | rw [if_neg c10])); (first | rfl | (rw [hcj]; done) | skip)), rfl, rfl, rfl⟩ dX7_lost_25
    · obtain ⟨j, hj, rfl⟩ := trapEx hP c10
      have hcj : cI (nI j) = j := cI_nI (by omega)
      refine q_aload_n hM dX7_lost_13 rfl ?_
      refine g_X7_13 hM (by decide) (by decide) hR.m1 dX7_lost_14 ?_
      refine q_iload_n hM dX7_lost_17 rfl ?_
      refine q_lo hM hm j rfl (by omega) (by decide) dX7_lost_18 ?_
      refine q_goto (tgt := 25) hM dX7_lost_19 (by decide) ?_
      exact hret _ _ _ _ _ _ ⟨(by unfold rLost; skip; (try (first | rw [if_pos c2] | rw [if_neg c2])); (try (first | rw [if_pos c10] | rw [if_neg c10])); (first | rfl | (rw [hcj]; done) | skip)), rfl, rfl, rfl⟩ dX7_lost_25
set_option maxHeartbeats 4000000 in
set_option maxRecDepth 100000 in
theorem c_X7_saves (l : Launch) (G : kG) {I : kI} {L : kL} {X : kX} {A : kA} (hr : RM I L X A) (hA : AInv A) (t : Int32)  : Kl l yX7_saves cX7_saves 2 4 G [.ref (ad G 153), .int t] 159 159 I L X (pE (rSaves A t) I L X) := by
  refine Kl_intro (own := RX7) (lv0 := [some (.ref (ad G 153)), some (.int t)]) 0 (by decide +kernel) rfl rfl (Nat.le_of_ble_eq_true rfl) (Nat.le_refl _) (fun J hM hret => ?_)
  have hR := hr.1
  have hm := hr.m
  have hP := hA.f
  have hn := hP.nT
  have hn8 := hP.nL
  refine q_aload_n hM dX7_saves_0 rfl ?_
  refine q_iload_n hM dX7_saves_1 rfl ?_
  refine callVe_z hM mi_X7_isTrap lk_X7_53 cf_X7 (by decide) (by decide) (c_X7_isTrap l G hR hm hP _) rfl rfl (by decide) (Nat.le_refl _) (by omega) (Nat.le_of_ble_eq_true rfl) dX7_saves_2 ?_
  refine q_ifd_eq (tgt := 20) hM dX7_saves_5 (by decide) (fun c5 => ?_) (fun c5 => ?_)
  · refine q_ldc2 hM cw_X7_74 dX7_saves_20 ?_
    exact hret _ _ _ _ _ _ ⟨(by unfold rSaves; skip; (try (first | rw [if_pos c5] | rw [if_neg c5])); (first | rfl | (rw [hcj]; done) | (rw [hcj]; rfl) | skip)), rfl, rfl, rfl⟩ dX7_saves_23
  · obtain ⟨j, hj, rfl⟩ := trapEx hP c5
    have hcj : cI (nI j) = j := cI_nI (by omega)
    refine q_aload_n hM dX7_saves_8 rfl ?_
    refine q_iload_n hM dX7_saves_9 rfl ?_
    refine callVe_l hM mi_X7_worth lk_X7_76 cf_X7 (by decide) (by decide) (c_X7_worth l G hR hm hP j hj) rfl rfl (by decide) (Nat.le_refl _) (by omega) (Nat.le_of_ble_eq_true rfl) dX7_saves_10 ?_
    refine q_ldc2 hM cw_X7_80 dX7_saves_13 ?_
    refine q_ldiv hM dX7_saves_16 (by decide) ?_
    refine q_goto (tgt := 23) hM dX7_saves_17 (by decide) ?_
    exact hret _ _ _ _ _ _ ⟨(by unfold rSaves; skip; (try (first | rw [if_pos c5] | rw [if_neg c5])); (first | rfl | (rw [hcj]; done) | (rw [hcj]; rfl) | skip)), rfl, rfl, rfl⟩ dX7_saves_23
set_option maxHeartbeats 4000000 in
set_option maxRecDepth 100000 in
theorem c_X7_repairCost (l : Launch) (G : kG) {I : kI} {L : kL} {X : kX} {A : kA} (hr : RM I L X A) (hA : AInv A) (t : Int32)  : Ki l yX7_repairCost cX7_repairCost 2 2 G [.ref (ad G 153), .int t] 159 159 I L X (pE (rRepairCost A t) I L X) := by
  refine Ki_intro (own := RX7) (lv0 := [some (.ref (ad G 153)), some (.int t)]) 0 (by decide +kernel) rfl rfl (Nat.le_of_ble_eq_true rfl) (Nat.le_refl _) (fun J hM hret => ?_)
  have hR := hr.1
  have hm := hr.m
  have hP := hA.f
  have hn := hP.nT
  have hn8 := hP.nL
  refine q_aload_n hM dX7_repairCost_0 rfl ?_
  refine q_iload_n hM dX7_repairCost_1 rfl ?_
  refine callVe_z hM mi_X7_isTrap lk_X7_53 cf_X7 (by decide) (by decide) (c_X7_isTrap l G hR hm hP _) rfl rfl (by decide) (Nat.le_refl _) (by omega) (Nat.le_of_ble_eq_true rfl) dX7_repairCost_2 ?_
  refine q_ifd_eq (tgt := 16) hM dX7_repairCost_5 (by decide) (fun c5 => ?_) (fun c5 => ?_)
  · refine q_bipush (v := -2) hM dX7_repairCost_16 (by decide) ?_
    exact hret _ _ _ _ _ _ ⟨(by unfold rRepairCost; skip; (try (first | rw [if_pos c5] | rw [if_neg c5])); (first | rfl | (rw [hcj]; done) | (rw [hcj]; rfl) | skip)), rfl, rfl, rfl⟩ dX7_repairCost_18
  · obtain ⟨j, hj, rfl⟩ := trapEx hP c5
    have hcj : cI (nI j) = j := cI_nI (by omega)
    refine q_aload_n hM dX7_repairCost_8 rfl ?_
    refine q_iload_n hM dX7_repairCost_9 rfl ?_
    refine callVe_i hM mi_X7_costOf lk_X7_82 cf_X7 (by decide) (by decide) (c_X7_costOf l G hR hm hP j hj) rfl rfl (by decide) (Nat.le_refl _) (by omega) (Nat.le_of_ble_eq_true rfl) dX7_repairCost_10 ?_
    refine q_goto (tgt := 18) hM dX7_repairCost_13 (by decide) ?_
    exact hret _ _ _ _ _ _ ⟨(by unfold rRepairCost; skip; (try (first | rw [if_pos c5] | rw [if_neg c5])); (first | rfl | (rw [hcj]; done) | (rw [hcj]; rfl) | skip)), rfl, rfl, rfl⟩ dX7_repairCost_18
set_option maxHeartbeats 4000000 in
set_option maxRecDepth 100000 in
theorem c_X7_payback (l : Launch) (G : kG) {I : kI} {L : kL} {X : kX} {A : kA} (hr : RM I L X A) (hA : AInv A) (t : Int32)  : Kl l yX7_payback cX7_payback 2 5 G [.ref (ad G 153), .int t] 159 159 I L X (pE (rPayback A t) I L X) := by
  refine Kl_intro (own := RX7) (lv0 := [some (.ref (ad G 153)), some (.int t)]) 0 (by decide +kernel) rfl rfl (Nat.le_of_ble_eq_true rfl) (Nat.le_refl _) (fun J hM hret => ?_)
  have hR := hr.1
  have hm := hr.m
  have hP := hA.f
  have hn := hP.nT
  have hn8 := hP.nL
  refine q_aload_n hM dX7_payback_0 rfl ?_
  refine q_iload_n hM dX7_payback_1 rfl ?_
  refine callVe_z hM mi_X7_isTrap lk_X7_53 cf_X7 (by decide) (by decide) (c_X7_isTrap l G hR hm hP _) rfl rfl (by decide) (Nat.le_refl _) (by omega) (Nat.le_of_ble_eq_true rfl) dX7_payback_2 ?_
  refine q_ifd_eq (tgt := 16) hM dX7_payback_5 (by decide) (fun c5 => ?_) (fun c5 => ?_)
  · refine q_ldc2 hM cw_X7_74 dX7_payback_16 ?_
    exact hret _ _ _ _ _ _ ⟨(by unfold rPayback; skip; (try (first | rw [if_pos c5] | rw [if_neg c5])); (first | rfl | (rw [hcj]; done) | (rw [hcj]; rfl) | skip)), rfl, rfl, rfl⟩ dX7_payback_19
  · obtain ⟨j, hj, rfl⟩ := trapEx hP c5
    have hcj : cI (nI j) = j := cI_nI (by omega)
    refine q_aload_n hM dX7_payback_8 rfl ?_
    refine q_iload_n hM dX7_payback_9 rfl ?_
    refine callVe_l hM mi_X7_paysBack lk_X7_87 cf_X7 (by decide) (by decide) (c_X7_paysBack l G hR hm hP j hj) rfl rfl (by decide) (Nat.le_refl _) (by omega) (Nat.le_of_ble_eq_true rfl) dX7_payback_10 ?_
    refine q_goto (tgt := 19) hM dX7_payback_13 (by decide) ?_
    exact hret _ _ _ _ _ _ ⟨(by unfold rPayback; skip; (try (first | rw [if_pos c5] | rw [if_neg c5])); (first | rfl | (rw [hcj]; done) | (rw [hcj]; rfl) | skip)), rfl, rfl, rfl⟩ dX7_payback_19
set_option maxHeartbeats 4000000 in
set_option maxRecDepth 100000 in
theorem c_X7_isDue (l : Launch) (G : kG) {I : kI} {L : kL} {X : kX} {A : kA} (hr : RM I L X A) (hA : AInv A) (t : Int32)  : Ki l yX7_isDue cX7_isDue 2 2 G [.ref (ad G 153), .int t] 159 159 I L X (pE (rIsDue A t) I L X) := by
  refine Ki_intro (own := RX7) (lv0 := [some (.ref (ad G 153)), some (.int t)]) 0 (by decide +kernel) rfl rfl (Nat.le_of_ble_eq_true rfl) (Nat.le_refl _) (fun J hM hret => ?_)
  have hR := hr.1
  have hm := hr.m
  have hP := hA.f
  have hn := hP.nT
  have hn8 := hP.nL
  refine q_aload_n hM dX7_isDue_0 rfl ?_
  refine q_iload_n hM dX7_isDue_1 rfl ?_
  refine callVe_z hM mi_X7_isTrap lk_X7_53 cf_X7 (by decide) (by decide) (c_X7_isTrap l G hR hm hP _) rfl rfl (by decide) (Nat.le_refl _) (by omega) (Nat.le_of_ble_eq_true rfl) dX7_isDue_2 ?_
  refine q_ifd_ne (tgt := 13) hM dX7_isDue_5 (by decide) (fun c5 => ?_) (fun c5 => ?_)
  · obtain ⟨j, hj, rfl⟩ := trapEx hP c5
    have hcj : cI (nI j) = j := cI_nI (by omega)
    refine q_aload_n hM dX7_isDue_13 rfl ?_
    refine q_iload_n hM dX7_isDue_14 rfl ?_
    refine callVe_z hM mi_X7_due lk_X7_101 cf_X7 (by decide) (by decide) (c_X7_due l G hR hm hP j hj) rfl rfl (by decide) (Nat.le_refl _) (by omega) (Nat.le_of_ble_eq_true rfl) dX7_isDue_15 ?_
    refine q_ifd_eq (tgt := 25) hM dX7_isDue_18 (by decide) (fun c18 => ?_) (fun c18 => ?_)
    · refine q_iconst (v := 0) hM dX7_isDue_25 (by decide) ?_
      exact hret _ _ _ _ _ _ ⟨by unfold rIsDue; rw [if_pos c5, hcj]; skip; (try (first | rw [if_pos c5] | rw [if_neg c5])); (try (first | rw [if_pos c18] | rw [if_neg c18])); try rfl, rfl, rfl, rfl⟩ dX7_isDue_26
    · refine q_iconst (v := 1) hM dX7_isDue_21 (by decide) ?_
      refine q_goto (tgt := 26) hM dX7_isDue_22 (by decide) ?_
      exact hret _ _ _ _ _ _ ⟨by unfold rIsDue; rw [if_pos c5, hcj]; skip; (try (first | rw [if_pos c5] | rw [if_neg c5])); (try (first | rw [if_pos c18] | rw [if_neg c18])); try rfl, rfl, rfl, rfl⟩ dX7_isDue_26
  · refine q_bipush (v := -2) hM dX7_isDue_8 (by decide) ?_
    refine q_goto (tgt := 26) hM dX7_isDue_10 (by decide) ?_
    exact hret _ _ _ _ _ _ ⟨by unfold rIsDue; rw [if_neg c5], rfl, rfl, rfl⟩ dX7_isDue_26
set_option maxHeartbeats 4000000 in
set_option maxRecDepth 100000 in
theorem c_X7_dueOn (l : Launch) (G : kG) {I : kI} {L : kL} {X : kX} {A : kA} (hr : RM I L X A) (hA : AInv A) (t : Int32)  : Ki l yX7_dueOn cX7_dueOn 2 2 G [.ref (ad G 153), .int t] 159 159 I L X (pE (rDueOn A t) I L X) := by
  refine Ki_intro (own := RX7) (lv0 := [some (.ref (ad G 153)), some (.int t)]) 0 (by decide +kernel) rfl rfl (Nat.le_of_ble_eq_true rfl) (Nat.le_refl _) (fun J hM hret => ?_)
  have hR := hr.1
  have hm := hr.m
  have hP := hA.f
  have hn := hP.nT
  have hn8 := hP.nL
  refine q_aload_n hM dX7_dueOn_0 rfl ?_
  refine q_iload_n hM dX7_dueOn_1 rfl ?_
  refine callVe_z hM mi_X7_isTrap lk_X7_53 cf_X7 (by decide) (by decide) (c_X7_isTrap l G hR hm hP _) rfl rfl (by decide) (Nat.le_refl _) (by omega) (Nat.le_of_ble_eq_true rfl) dX7_dueOn_2 ?_
  refine q_ifd_ne (tgt := 11) hM dX7_dueOn_5 (by decide) (fun c5 => ?_) (fun c5 => ?_)
  · obtain ⟨j, hj, rfl⟩ := trapEx hP c5
    have hcj : cI (nI j) = j := cI_nI (by omega)
    refine q_aload_n hM dX7_dueOn_11 rfl ?_
    refine q_iload_n hM dX7_dueOn_12 rfl ?_
    refine callVe_z hM mi_X7_due lk_X7_101 cf_X7 (by decide) (by decide) (c_X7_due l G hR hm hP j hj) rfl rfl (by decide) (Nat.le_refl _) (by omega) (Nat.le_of_ble_eq_true rfl) dX7_dueOn_13 ?_
    refine q_ifd_eq (tgt := 28) hM dX7_dueOn_16 (by decide) (fun c16 => ?_) (fun c16 => ?_)
    · refine q_aload_n hM dX7_dueOn_28 rfl ?_
      refine q_iload_n hM dX7_dueOn_29 rfl ?_
      refine q_bipush (v := 6) hM dX7_dueOn_30 (by decide) ?_
      refine callVe_i hM mi_X7_of lk_X7_39 cf_X7 (by decide) (by decide) (c_X7_of l G hR hm j 6 (by omega) (by decide)) rfl rfl (by decide) (Nat.le_refl _) (by omega) (Nat.le_of_ble_eq_true rfl) dX7_dueOn_32 ?_
      refine q_aload_n hM dX7_dueOn_35 rfl ?_
      refine g_X7_7 hM (by decide) (by decide) hR.m0 dX7_dueOn_36 ?_
      refine q_iconst (v := 4) hM dX7_dueOn_39 (by decide) ?_
      refine q_row hM hm 4 rfl (by decide) (by decide) dX7_dueOn_40 ?_
      refine q_iadd hM dX7_dueOn_41 ?_
      exact hret _ _ _ _ _ _ ⟨by unfold rDueOn; rw [if_pos c5, hcj]; skip; (try (first | rw [if_pos c5] | rw [if_neg c5])); (try (first | rw [if_pos c16] | rw [if_neg c16])); try rfl, rfl, rfl, rfl⟩ dX7_dueOn_42
    · refine q_aload_n hM dX7_dueOn_19 rfl ?_
      refine g_X7_7 hM (by decide) (by decide) hR.m0 dX7_dueOn_20 ?_
      refine q_iconst (v := 5) hM dX7_dueOn_23 (by decide) ?_
      refine q_row hM hm 5 rfl (by decide) (by decide) dX7_dueOn_24 ?_
      refine q_goto (tgt := 42) hM dX7_dueOn_25 (by decide) ?_
      exact hret _ _ _ _ _ _ ⟨by unfold rDueOn; rw [if_pos c5, hcj]; skip; (try (first | rw [if_pos c5] | rw [if_neg c5])); (try (first | rw [if_pos c16] | rw [if_neg c16])); try rfl, rfl, rfl, rfl⟩ dX7_dueOn_42
  · refine q_bipush (v := -2) hM dX7_dueOn_8 (by decide) ?_
    exact hret _ _ _ _ _ _ ⟨(by unfold rDueOn; skip; (try (first | rw [if_pos c5] | rw [if_neg c5])); (first | rfl | (rw [hcj]; done) | (rw [hcj]; rfl) | skip)), rfl, rfl, rfl⟩ dX7_dueOn_10
set_option maxHeartbeats 4000000 in
set_option maxRecDepth 100000 in
theorem c_X7_repair (l : Launch) (G : kG) {I : kI} {L : kL} {X : kX} {A : kA} (hr : RM I L X A) (hA : AInv A) (t : Int32)  : Ki l yX7_repair cX7_repair 2 3 G [.ref (ad G 153), .int t] 159 159 I L X (fun v I' L' X' => v = rRepair A t ∧ RM I' L' X' (sRepair A t) ∧ FrC I I' L L' X X') := by
  refine Ki_intro (own := RX7) (lv0 := [some (.ref (ad G 153)), some (.int t)]) 0 (by decide +kernel) rfl rfl (Nat.le_of_ble_eq_true rfl) (Nat.le_refl _) (fun J hM hret => ?_)
  have hR := hr.1
  have hm := hr.m
  have hP := hA.f
  have hn := hP.nT
  have hn8 := hP.nL
  refine q_aload_n hM dX7_repair_0 rfl ?_
  refine q_iload_n hM dX7_repair_1 rfl ?_
  refine callVe_z hM mi_X7_isTrap lk_X7_53 cf_X7 (by decide) (by decide) (c_X7_isTrap l G hR hm hP _) rfl rfl (by decide) (Nat.le_refl _) (by omega) (Nat.le_of_ble_eq_true rfl) dX7_repair_2 ?_
  refine q_ifd_ne (tgt := 11) hM dX7_repair_5 (by decide) (fun c5 => ?_) (fun c5 => ?_)
  · obtain ⟨j, hj, rfl⟩ := trapEx hP c5
    have hcj : cI (nI j) = j := cI_nI (by omega)
    refine q_aload_n hM dX7_repair_11 rfl ?_
    refine q_iload_n hM dX7_repair_12 rfl ?_
    refine q_iconst (v := 5) hM dX7_repair_13 (by decide) ?_
    refine callVe_i hM mi_X7_of lk_X7_39 cf_X7 (by decide) (by decide) (c_X7_of l G hR hm j 5 (by omega) (by decide)) rfl rfl (by decide) (Nat.le_refl _) (by omega) (Nat.le_of_ble_eq_true rfl) dX7_repair_14 ?_
    refine q_iconst (v := 2) hM dX7_repair_17 (by decide) ?_
    refine q_icmp_ge (tgt := 24) hM dX7_repair_18 (by decide) (fun c18 => ?_) (fun c18 => ?_)
    · have h2 : ¬ sOf (aF A) j 5 < 2 := Int32.not_lt.mpr c18
      refine q_aload_n hM dX7_repair_24 rfl ?_
      refine callV_v hM mi_X7_keeps lk_X7_47 cf_X7 (by decide) (by decide) (c_X7_keeps l G hr hA) rfl rfl (by decide) (Nat.le_refl _) (by omega) (Nat.le_of_ble_eq_true rfl) dX7_repair_25 (fun I9 L9 X9 hp9 => ?_)
      obtain ⟨hr9, hF9, rfl⟩ := hp9
      have hk := RM.kept hr9
      have hm9 := hk.mf
      refine q_aload_n hM dX7_repair_28 rfl ?_
      refine q_iload_n hM dX7_repair_29 rfl ?_
      refine callV_v hM mi_X7_repairs lk_X7_97 cf_X7 (by decide) (by decide) (c_X7_repairs l G hk hP j hj) rfl rfl (by decide) (Nat.le_refl _) (by omega) (Nat.le_of_ble_eq_true rfl) dX7_repair_30 (fun I9 L9 X9 hp9 => ?_)
      obtain ⟨hk1, hI1, rfl, rfl⟩ := hp9
      have hm1 := hk1.mf
      refine q_aload_n hM dX7_repair_33 rfl ?_
      refine q_iload_n hM dX7_repair_34 rfl ?_
      refine callVe_i hM mi_X7_costOf lk_X7_82 cf_X7 (by decide) (by decide) (c_X7_costOf l G hR hm1 (hP.mend hj) j (by rw [mend1]; exact hj)) rfl rfl (by decide) (Nat.le_refl _) (by omega) (Nat.le_of_ble_eq_true rfl) dX7_repair_35 ?_
      exact hret _ _ _ _ _ _ ⟨by unfold rRepair; rw [if_pos c5, hcj, if_neg h2, mendC], by unfold sRepair; rw [if_pos c5, hcj, if_neg h2]; exact hk1, fun r hx => ⟨by rw [hI1 r (by omega)]; exact (hF9 r hx).1, (hF9 r hx).2⟩⟩ dX7_repair_38
    · have h2 : sOf (aF A) j 5 < 2 := Int32.not_le.mp c18
      refine q_bipush (v := -4) hM dX7_repair_21 (by decide) ?_
      exact hret _ _ _ _ _ _ ⟨by unfold rRepair; rw [if_pos c5, hcj, if_pos h2], by unfold sRepair; rw [if_pos c5, hcj, if_pos h2]; exact hr, FrC.rf⟩ dX7_repair_23
  · refine q_bipush (v := -2) hM dX7_repair_8 (by decide) ?_
    exact hret _ _ _ _ _ _ ⟨by unfold rRepair; skip; (try (first | rw [if_pos c5] | rw [if_neg c5])); try rfl, by unfold sRepair; skip; (try (first | rw [if_pos c5] | rw [if_neg c5])); exact hr, FrC.rf⟩ dX7_repair_10
set_option maxHeartbeats 4000000 in
set_option maxRecDepth 100000 in
theorem c_X7_undo (l : Launch) (G : kG) {I : kI} {L : kL} {X : kX} {A : kA} (hr : RM I L X A) (hA : AInv A)  : Ki l yX7_undo cX7_undo 1 1 G [.ref (ad G 153)] 159 159 I L X (fun v I' L' X' => v = rUndo A ∧ RM I' L' X' (sUndo A) ∧ FrC I I' L L' X X') := by
  refine Ki_intro (own := RX7) (lv0 := [some (.ref (ad G 153))]) 0 (by decide +kernel) rfl rfl (Nat.le_of_ble_eq_true rfl) (Nat.le_refl _) (fun J hM hret => ?_)
  have hR := hr.1
  have hm := hr.m
  have hP := hA.f
  have hn := hP.nT
  have hn8 := hP.nL
  refine q_aload_n hM dX7_undo_0 rfl ?_
  refine g_X7_27 hM (by decide) (by decide) dX7_undo_1 ?_
  refine q_topi (nI (aN A)) hr.2.2.1 ?_
  refine q_if_ne (tgt := 10) hM dX7_undo_4 (by decide) (fun c4 => ?_) (fun c4 => ?_)
  · have hz0 : ¬ aN A = 0 := fun q => c4 (by rw [q]; rfl)
    refine q_aload_n hM dX7_undo_10 rfl ?_
    refine q_aload_n hM dX7_undo_11 rfl ?_
    refine g_X7_27 hM (by decide) (by decide) dX7_undo_12 ?_
    refine q_topi (nI (aN A)) hr.2.2.1 ?_
    refine q_iconst (v := 0) hM dX7_undo_15 (by decide) ?_
    refine callV_v hM mi_X7_copies lk_X7_31 cf_X7 (by decide) (by decide) (c_X7_copies l G hR (aN A) 0 (by have := hA.1; omega) (by decide) hz0) rfl rfl (by decide) (Nat.le_refl _) (by omega) (Nat.le_of_ble_eq_true rfl) dX7_undo_16 (fun I9 L9 X9 hp9 => ?_)
    have hn5 := hA.1
    have hcp := hr.2.1.copy (a := aN A) (b := 0) (by omega) hz0
    obtain ⟨rfl, rfl, rfl⟩ := hp9
    have far : ∀ r j, r ≠ 154 → cp131 I (aN A) 0 131 r j = I r j := fun r j hx => by unfold cp131; rw [if_neg (by omega)]
    have farL : ∀ r j, r ≠ 155 → cp16 L (aN A) 0 16 r j = L r j := fun r j hx => by unfold cp16; rw [if_neg (by omega)]
    refine q_aload_n hM dX7_undo_19 rfl ?_
    refine q_dup hM dX7_undo_20 rfl ?_
    refine g_X7_27 hM (by decide) (by decide) dX7_undo_21 ?_
    refine q_topi (nI (aN A)) ((far _ _ (by decide)).trans hr.2.2.1) ?_
    refine q_iconst (v := 1) hM dX7_undo_24 (by decide) ?_
    refine q_isub hM dX7_undo_25 ?_
    refine q_topi (nI (aN A - 1)) (pk_sub (show 1 ≤ aN A by omega)) ?_
    refine p_X7_27 hM (by decide) (by decide) dX7_undo_26 ?_
    refine q_aload_n hM dX7_undo_29 rfl ?_
    refine g_X7_27 hM (by decide) (by decide) dX7_undo_30 ?_
    refine q_topi (nI (aN A - 1)) (up2_self _ _ _ _) ?_
    refine hret _ _ _ _ _ _ ⟨by unfold rUndo; rw [if_neg hz0], ?_, fun r hx => ⟨?_, ?_, rfl⟩⟩ dX7_undo_33
    · unfold sUndo; rw [if_neg hz0]
      refine ⟨hR, ⟨fun k hk i hi => ?_, hcp.2⟩, up2_self _ _ _ _, ?_, fun j hj => ?_⟩
      · rw [up2_ne (by omega)]; exact hcp.1 k hk i hi
      · rw [up2_ne (by decide), far _ _ (by decide)]; exact hr.2.2.2.1
      · rw [up2_ne (by omega), far _ _ (by decide)]; exact hr.2.2.2.2 j hj
    · funext j; rw [up2_ne (by omega), far _ _ (by omega)]
    · funext j; rw [farL _ _ (by omega)]
  · have hz0 : aN A = 0 := (nI_eq (by have := hA.1; omega) (by decide)).mp c4
    refine q_bipush (v := -4) hM dX7_undo_7 (by decide) ?_
    exact hret _ _ _ _ _ _ ⟨by unfold rUndo; rw [if_pos hz0], by unfold sUndo; rw [if_pos hz0]; exact hr, FrC.rf⟩ dX7_undo_9
set_option maxHeartbeats 4000000 in
set_option maxRecDepth 100000 in
theorem c_X7_type (l : Launch) (G : kG) {I : kI} {L : kL} {X : kX} {A : kA} (hr : RM I L X A) (hA : AInv A) (c : Int32)  : Ki l yX7_type cX7_type 2 1 G [.ref (ad G 153), .int c] 159 159 I L X (fun v I' L' X' => v = rType A c ∧ RM I' L' X' (sType A c) ∧ FrC I I' L L' X X') := by
  refine Ki_intro (own := RX7) (lv0 := [some (.ref (ad G 153)), some (.int c)]) 0 (by decide +kernel) rfl rfl (Nat.le_of_ble_eq_true rfl) (Nat.le_refl _) (fun J hM hret => ?_)
  have hR := hr.1
  have hm := hr.m
  have hP := hA.f
  have hn := hP.nT
  have hn8 := hP.nL
  have hk1 := hA.2.1
  refine q_iload_n hM dX7_type_0 rfl ?_
  refine q_iconst (v := 0) hM dX7_type_1 (by decide) ?_
  refine q_sipush (v := 255) hM dX7_type_2 (by decide) ?_
  refine callSe_z hM mi_X7_in lk_X7_35 (c_X7_in l G _ _ _) rfl rfl (by decide) (Nat.le_refl _) (by omega) (Nat.le_of_ble_eq_true rfl) dX7_type_5 ?_
  refine q_ifd_ne (tgt := 14) hM dX7_type_8 (by decide) (fun c8 => ?_) (fun c8 => ?_)
  · refine q_aload_n hM dX7_type_14 rfl ?_
    refine g_X7_116 hM (by decide) (by decide) dX7_type_15 ?_
    refine q_topi (nI (aK A)) hr.2.2.2.1 ?_
    refine q_bipush (v := 100) hM dX7_type_18 (by decide) ?_
    refine q_icmp_neN (tgt := 26) hM (aK A) 100 rfl rfl (by omega) (by omega) dX7_type_20 (by decide) (fun c20 => ?_) (fun c20 => ?_)
    · have hk100 : ¬ aK A = 100 := c20
      refine q_aload_n hM dX7_type_26 rfl ?_
      refine g_X7_24 hM (by decide) (by decide) hR.m7 dX7_type_27 ?_
      refine q_aload_n hM dX7_type_30 rfl ?_
      refine g_X7_116 hM (by decide) (by decide) dX7_type_31 ?_
      refine q_topi (nI (aK A)) hr.2.2.2.1 ?_
      refine q_iload_n hM dX7_type_34 rfl ?_
      refine q_iast (r := 158) hM (by decide) (by decide) (aK A) rfl (show aK A < 100 by have := hA.2.1; omega) dX7_type_35 ?_
      refine q_aload_n hM dX7_type_36 rfl ?_
      refine q_dup hM dX7_type_37 rfl ?_
      refine g_X7_116 hM (by decide) (by decide) dX7_type_38 ?_
      refine q_topi (nI (aK A)) ((up2_ne (Or.inl (by decide))).trans hr.2.2.2.1) ?_
      refine q_iconst (v := 1) hM dX7_type_41 (by decide) ?_
      refine q_iadd hM dX7_type_42 ?_
      refine q_topi (nI (aK A + 1)) (nI_1 _) ?_
      refine p_X7_116 hM (by decide) (by decide) dX7_type_43 ?_
      refine q_aload_n hM dX7_type_46 rfl ?_
      refine g_X7_116 hM (by decide) (by decide) dX7_type_47 ?_
      refine q_topi (nI (aK A + 1)) (up2_self _ _ _ _) ?_
      refine hret _ _ _ _ _ _ ⟨by unfold rType; rw [if_pos c8, if_neg hk100], ?_, (FrC.rf.put (by decide)).put (by decide)⟩ dX7_type_50
      unfold sType; rw [if_pos c8, if_neg hk100]
      refine ⟨hR, ⟨fun k hk i hi => ?_, hr.2.1.2⟩, ?_, up2_self _ _ _ _, fun j hj => ?_⟩
      · rw [up2_ne (by omega), up2_ne (by omega)]; exact hr.2.1.1 k hk i hi
      · rw [up2_ne (Or.inr (by decide)), up2_ne (Or.inl (by decide))]; exact hr.2.2.1
      · show up2 (up2 I 158 (aK A) c) 153 8 (nI (aK A + 1)) 158 j = va_up (aT A) (aK A) c j
        have hj' : j < aK A + 1 := hj
        rw [up2_ne (by omega)]
        by_cases hjk : j = aK A
        · subst hjk; rw [up2_self, va_up_self]
        · rw [up2_ne (by omega), va_up_ne _ _ hjk]; exact hr.2.2.2.2 j (by omega)
    · have hk100 : aK A = 100 := c20
      refine q_bipush (v := -5) hM dX7_type_23 (by decide) ?_
      exact hret _ _ _ _ _ _ ⟨by unfold rType; skip; (try (first | rw [if_pos c8] | rw [if_neg c8])); (try (first | rw [if_pos c20] | rw [if_neg c20])); try rfl, by unfold sType; skip; (try (first | rw [if_pos c8] | rw [if_neg c8])); (try (first | rw [if_pos c20] | rw [if_neg c20])); exact hr, FrC.rf⟩ dX7_type_25
  · refine q_bipush (v := -3) hM dX7_type_11 (by decide) ?_
    exact hret _ _ _ _ _ _ ⟨by unfold rType; skip; (try (first | rw [if_pos c8] | rw [if_neg c8])); try rfl, by unfold sType; skip; (try (first | rw [if_pos c8] | rw [if_neg c8])); exact hr, FrC.rf⟩ dX7_type_13
set_option maxHeartbeats 4000000 in
set_option maxRecDepth 100000 in
theorem c_X7_clearText (l : Launch) (G : kG) {I : kI} {L : kL} {X : kX} {A : kA} (hr : RM I L X A) (hA : AInv A)  : Ki l yX7_clearText cX7_clearText 2 0 G [.ref (ad G 153)] 159 159 I L X (fun v I' L' X' => v = rClear A ∧ RM I' L' X' (sClear A) ∧ FrC I I' L L' X X') := by
  refine Ki_intro (own := RX7) (lv0 := [some (.ref (ad G 153)), none]) 1 (by decide +kernel) rfl rfl (Nat.le_of_ble_eq_true rfl) (Nat.le_refl _) (fun J hM hret => ?_)
  have hR := hr.1
  have hm := hr.m
  have hP := hA.f
  have hn := hP.nT
  have hn8 := hP.nL
  refine q_aload_n hM dX7_clearText_0 rfl ?_
  refine g_X7_116 hM (by decide) (by decide) dX7_clearText_1 ?_
  refine q_topi (nI (aK A)) hr.2.2.2.1 ?_
  refine si_2_1 hM dX7_clearText_4 ?_
  refine q_aload_n hM dX7_clearText_5 rfl ?_
  refine q_iconst (v := 0) hM dX7_clearText_6 (by decide) ?_
  refine p_X7_116 hM (by decide) (by decide) dX7_clearText_7 ?_
  refine q_iload_n hM dX7_clearText_10 rfl ?_
  refine hret _ _ _ _ _ _ ⟨rfl, ⟨hR, ⟨fun k hk i hi => ?_, hr.2.1.2⟩, ?_, up2_self _ _ _ _, fun j hj => absurd hj (Nat.not_lt_zero j)⟩, FrC.rf.put (by decide)⟩ dX7_clearText_11
  · rw [up2_ne (by omega)]; exact hr.2.1.1 k hk i hi
  · rw [up2_ne (by decide)]; exact hr.2.2.1
