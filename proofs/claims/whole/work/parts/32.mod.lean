/-! ===== the reference's calls ===== -/
theorem ix19 {x : Int32} {b : Nat} (h : x = nI b) : 19 + 7 * x = nI (19 + 7 * b) := by subst h; rw [show (19 : Int32) = nI 19 from rfl, show (7 : Int32) = nI 7 from rfl, pk_mul, nI_add]
theorem w8 {w : Int32} (h : 0 ≤ w ∧ w ≤ 7) : w = nI (cI w) ∧ cI w < 8 := by
  rcases tsw8 h with rfl | rfl | rfl | rfl | rfl | rfl | rfl | rfl <;> exact ⟨by decide, by decide⟩
theorem jud_bad {A : kA} {t i o c : Int32} (h1 : 0 ≤ t ∧ t < aF A 1) (h2 : ¬ ((0 ≤ i ∧ i ≤ 300) ∧ (0 ≤ o ∧ o ≤ 300) ∧ (0 ≤ c ∧ c ≤ 60))) : rJudge A t i o c = -3 ∧ sRead A t i o c = A := by
  unfold rJudge sRead
  rw [if_pos h1, if_pos h1]
  by_cases a : 0 ≤ i ∧ i ≤ 300
  · rw [if_pos a, if_pos a]
    by_cases b : 0 ≤ o ∧ o ≤ 300
    · rw [if_pos b, if_pos b, if_neg (fun q => h2 ⟨a, b, q⟩), if_neg (fun q => h2 ⟨a, b, q⟩)]
      exact ⟨rfl, rfl⟩
    · rw [if_neg b, if_neg b]
      exact ⟨rfl, rfl⟩
  · rw [if_neg a, if_neg a]
    exact ⟨rfl, rfl⟩
theorem mend1 {f : Fr} {t : Nat} : mendF f t 1 = f 1 := by
  unfold mendF
  rw [va_up_ne _ _ (by omega), va_up_ne _ _ (by omega), va_up_ne _ _ (by omega)]
theorem mendC {f : Fr} {t : Nat} : sCost (mendF f t) t = sCost f t := by
  unfold sCost sOf mendF
  rw [va_up_ne _ _ (by omega), va_up_ne _ _ (by omega), va_up_ne _ _ (by omega), va_up_ne _ _ (by omega), va_up_ne _ _ (by omega), va_up_ne _ _ (by omega)]

set_option maxHeartbeats 4000000 in
set_option maxRecDepth 100000 in
theorem c_X7_setPressure (l : Launch) (G : kG) {I : kI} {L : kL} {X : kX} {A : kA} (hr : RM I L X A) (hA : AInv A) (h p : Int32)  : Ki l yX7_setPressure cX7_setPressure 4 2 G [.ref (ad G 153), .int h, .int p] 159 159 I L X (fun v I' L' X' => v = rSetPressure A h p ∧ RM I' L' X' (sSetPressure A h p) ∧ FrC I I' L L' X X') := by
  refine Ki_intro (own := RX7) (lv0 := [some (.ref (ad G 153)), some (.int h), some (.int p), none]) 1 (by decide +kernel) rfl rfl (Nat.le_of_ble_eq_true rfl) (Nat.le_refl _) (fun J hM hret => ?_)
  have hR := hr.1
  have hm := hr.m
  have hP := hA.f
  have hn := hP.nT
  have hn8 := hP.nL
  refine q_iload_n hM dX7_setPressure_0 rfl ?_
  refine callSe_z hM mi_X7_isHeader lk_X7_43 (c_X7_isHeader l G _) rfl rfl (by decide) (Nat.le_refl _) (by omega) (Nat.le_of_ble_eq_true rfl) dX7_setPressure_1 ?_
  refine q_ifd_ne (tgt := 10) hM dX7_setPressure_4 (by decide) (fun c4 => ?_) (fun c4 => ?_)
  · obtain ⟨j, hj, rfl⟩ := hdrEx c4
    have hcj : cI (nI j) = j := cI_nI (by omega)
    refine q_iload_n hM dX7_setPressure_10 rfl ?_
    refine q_iconst (v := 1) hM dX7_setPressure_11 (by decide) ?_
    refine q_bipush (v := 20) hM dX7_setPressure_12 (by decide) ?_
    refine callSe_z hM mi_X7_in lk_X7_35 (c_X7_in l G _ _ _) rfl rfl (by decide) (Nat.le_refl _) (by omega) (Nat.le_of_ble_eq_true rfl) dX7_setPressure_14 ?_
    refine q_ifd_ne (tgt := 23) hM dX7_setPressure_17 (by decide) (fun c17 => ?_) (fun c17 => ?_)
    · refine q_aload_n hM dX7_setPressure_23 rfl ?_
      refine callV_v hM mi_X7_keeps lk_X7_47 cf_X7 (by decide) (by decide) (c_X7_keeps l G hr hA) rfl rfl (by decide) (Nat.le_refl _) (by omega) (Nat.le_of_ble_eq_true rfl) dX7_setPressure_24 (fun I9 L9 X9 hp9 => ?_)
      obtain ⟨hr9, hF9, rfl⟩ := hp9
      have hk := RM.kept hr9
      have hm9 := hk.mf
      refine q_aload_n hM dX7_setPressure_27 rfl ?_
      refine g_X7_7 hM (by decide) (by decide) hR.m0 dX7_setPressure_28 ?_
      refine q_bipush (v := 8) hM dX7_setPressure_31 (by decide) ?_
      refine q_iload_n hM dX7_setPressure_33 rfl ?_
      refine q_iadd hM dX7_setPressure_34 ?_
      refine q_row hM hm9 (8 + j) (nI_add 8 _) (by omega) (by decide) dX7_setPressure_35 ?_
      refine si_4_3 hM dX7_setPressure_36 ?_
      refine q_aload_n hM dX7_setPressure_37 rfl ?_
      refine g_X7_7 hM (by decide) (by decide) hR.m0 dX7_setPressure_38 ?_
      refine q_bipush (v := 8) hM dX7_setPressure_41 (by decide) ?_
      refine q_iload_n hM dX7_setPressure_43 rfl ?_
      refine q_iadd hM dX7_setPressure_44 ?_
      refine q_iload_n hM dX7_setPressure_45 rfl ?_
      refine q_rowst hM (8 + j) (nI_add 8 _) (by omega) (by decide) dX7_setPressure_46 ?_
      have hk1 := hk.setI (i := 8 + j) (by omega) (p)
      have hm1 := hk1.mf
      refine q_iload_n hM dX7_setPressure_47 rfl ?_
      exact hret _ _ _ _ _ _ ⟨by unfold rSetPressure; skip; (try (first | rw [if_pos c4] | rw [if_neg c4])); (try (first | rw [if_pos c17] | rw [if_neg c17])); (try rw [hcj]); try rfl, by unfold sSetPressure; skip; (try (first | rw [if_pos c4] | rw [if_neg c4])); (try (first | rw [if_pos c17] | rw [if_neg c17])); (try rw [hcj]); exact hk1, (hF9).put (by decide)⟩ dX7_setPressure_48
    · refine q_bipush (v := -3) hM dX7_setPressure_20 (by decide) ?_
      exact hret _ _ _ _ _ _ ⟨by unfold rSetPressure; skip; (try (first | rw [if_pos c4] | rw [if_neg c4])); (try (first | rw [if_pos c17] | rw [if_neg c17])); try rfl, by unfold sSetPressure; skip; (try (first | rw [if_pos c4] | rw [if_neg c4])); (try (first | rw [if_pos c17] | rw [if_neg c17])); exact hr, FrC.rf⟩ dX7_setPressure_22
  · refine q_bipush (v := -2) hM dX7_setPressure_7 (by decide) ?_
    exact hret _ _ _ _ _ _ ⟨by unfold rSetPressure; skip; (try (first | rw [if_pos c4] | rw [if_neg c4])); try rfl, by unfold sSetPressure; skip; (try (first | rw [if_pos c4] | rw [if_neg c4])); exact hr, FrC.rf⟩ dX7_setPressure_9
set_option maxHeartbeats 4000000 in
set_option maxRecDepth 100000 in
theorem c_X7_addLine (l : Launch) (G : kG) {I : kI} {L : kL} {X : kX} {A : kA} (hr : RM I L X A) (hA : AInv A) (h : Int32)  : Ki l yX7_addLine cX7_addLine 2 2 G [.ref (ad G 153), .int h] 159 159 I L X (fun v I' L' X' => v = rAddLine A h ∧ RM I' L' X' (sAddLine A h) ∧ FrC I I' L L' X X') := by
  refine Ki_intro (own := RX7) (lv0 := [some (.ref (ad G 153)), some (.int h)]) 0 (by decide +kernel) rfl rfl (Nat.le_of_ble_eq_true rfl) (Nat.le_refl _) (fun J hM hret => ?_)
  have hR := hr.1
  have hm := hr.m
  have hP := hA.f
  have hn := hP.nT
  have hn8 := hP.nL
  refine q_iload_n hM dX7_addLine_0 rfl ?_
  refine callSe_z hM mi_X7_isHeader lk_X7_43 (c_X7_isHeader l G _) rfl rfl (by decide) (Nat.le_refl _) (by omega) (Nat.le_of_ble_eq_true rfl) dX7_addLine_1 ?_
  refine q_ifd_ne (tgt := 10) hM dX7_addLine_4 (by decide) (fun c4 => ?_) (fun c4 => ?_)
  · refine q_aload_n hM dX7_addLine_10 rfl ?_
    refine g_X7_7 hM (by decide) (by decide) hR.m0 dX7_addLine_11 ?_
    refine q_iconst (v := 0) hM dX7_addLine_14 (by decide) ?_
    refine q_row hM hm 0 rfl (by decide) (by decide) dX7_addLine_15 ?_
    refine q_bipush (v := 8) hM dX7_addLine_16 (by decide) ?_
    refine q_icmp_ne (tgt := 24) hM dX7_addLine_18 (by decide) (fun c18 => ?_) (fun c18 => ?_)
    · have hlt : cI (aF A 0) < 8 := Nat.lt_of_le_of_ne hn8 (fun q => c18 (by rw [hP.e0, q]; rfl))
      refine q_aload_n hM dX7_addLine_24 rfl ?_
      refine callV_v hM mi_X7_keeps lk_X7_47 cf_X7 (by decide) (by decide) (c_X7_keeps l G hr hA) rfl rfl (by decide) (Nat.le_refl _) (by omega) (Nat.le_of_ble_eq_true rfl) dX7_addLine_25 (fun I9 L9 X9 hp9 => ?_)
      obtain ⟨hr9, hF9, rfl⟩ := hp9
      have hk := RM.kept hr9
      have hm9 := hk.mf
      refine q_aload_n hM dX7_addLine_28 rfl ?_
      refine g_X7_7 hM (by decide) (by decide) hR.m0 dX7_addLine_29 ?_
      refine q_bipush (v := 11) hM dX7_addLine_32 (by decide) ?_
      refine q_aload_n hM dX7_addLine_34 rfl ?_
      refine g_X7_7 hM (by decide) (by decide) hR.m0 dX7_addLine_35 ?_
      refine q_iconst (v := 0) hM dX7_addLine_38 (by decide) ?_
      refine q_row hM hm9 0 rfl (by decide) (by decide) dX7_addLine_39 ?_
      refine q_iadd hM dX7_addLine_40 ?_
      refine q_iload_n hM dX7_addLine_41 rfl ?_
      refine q_rowst hM (11 + cI (aF A 0)) (addN (a := 11) hP.e0) (by omega) (by decide) dX7_addLine_42 ?_
      have hk1 := hk.setI (i := 11 + cI (aF A 0)) (by omega) (h)
      have hm1 := hk1.mf
      refine q_aload_n hM dX7_addLine_43 rfl ?_
      refine g_X7_7 hM (by decide) (by decide) hR.m0 dX7_addLine_44 ?_
      refine q_iconst (v := 0) hM dX7_addLine_47 (by decide) ?_
      refine q_dup2 hM dX7_addLine_48 rfl rfl ?_
      refine q_row hM hm1 (0) (rfl) (by decide) (by decide) dX7_addLine_49 ?_
      refine q_topi (aF A 0) (va_up_ne _ _ (by omega)) ?_
      refine q_iconst (v := 1) hM dX7_addLine_50 (by decide) ?_
      refine q_iadd hM dX7_addLine_51 ?_
      refine q_rowst hM (0) (rfl) (by decide) (by decide) dX7_addLine_52 ?_
      have hk2 := hk1.setI (i := 0) (by decide) (aF A 0 + 1)
      have hm2 := hk2.mf
      refine q_aload_n hM dX7_addLine_53 rfl ?_
      refine g_X7_7 hM (by decide) (by decide) hR.m0 dX7_addLine_54 ?_
      refine q_iconst (v := 0) hM dX7_addLine_57 (by decide) ?_
      refine q_row hM hk2.mf (0) (rfl) (by decide) (by decide) dX7_addLine_58 ?_
      refine q_topi (aF A 0 + 1) (va_up_self _ _ _) ?_
      refine q_iconst (v := 1) hM dX7_addLine_59 (by decide) ?_
      refine q_isub hM dX7_addLine_60 ?_
      exact hret _ _ _ _ _ _ ⟨by unfold rAddLine; skip; (try (first | rw [if_pos c4] | rw [if_neg c4])); (try (first | rw [if_pos c18] | rw [if_neg c18])); exact Int32.add_sub_cancel _ _, by unfold sAddLine; skip; (try (first | rw [if_pos c4] | rw [if_neg c4])); (try (first | rw [if_pos c18] | rw [if_neg c18])); (try rw [hcj]); exact hk2, ((hF9).put (by decide)).put (by decide)⟩ dX7_addLine_61
    · refine q_bipush (v := -5) hM dX7_addLine_21 (by decide) ?_
      exact hret _ _ _ _ _ _ ⟨by unfold rAddLine; skip; (try (first | rw [if_pos c4] | rw [if_neg c4])); (try (first | rw [if_pos c18] | rw [if_neg c18])); try rfl, by unfold sAddLine; skip; (try (first | rw [if_pos c4] | rw [if_neg c4])); (try (first | rw [if_pos c18] | rw [if_neg c18])); exact hr, FrC.rf⟩ dX7_addLine_23
  · refine q_bipush (v := -2) hM dX7_addLine_7 (by decide) ?_
    exact hret _ _ _ _ _ _ ⟨by unfold rAddLine; skip; (try (first | rw [if_pos c4] | rw [if_neg c4])); try rfl, by unfold sAddLine; skip; (try (first | rw [if_pos c4] | rw [if_neg c4])); exact hr, FrC.rf⟩ dX7_addLine_9
set_option maxHeartbeats 4000000 in
set_option maxRecDepth 100000 in
theorem c_X7_addTrap (l : Launch) (G : kG) {I : kI} {L : kL} {X : kX} {A : kA} (hr : RM I L X A) (hA : AInv A) (a k z x y : Int32)  : Ki l yX7_addTrap cX7_addTrap 7 2 G [.ref (ad G 153), .int a, .int k, .int z, .int x, .int y] 159 159 I L X (fun v I' L' X' => v = rAddTrap A a k z x y ∧ RM I' L' X' (sAddTrap A a k z x y) ∧ FrC I I' L L' X X') := by
  refine Ki_intro (own := RX7) (lv0 := [some (.ref (ad G 153)), some (.int a), some (.int k), some (.int z), some (.int x), some (.int y), none]) 1 (by decide +kernel) rfl rfl (Nat.le_of_ble_eq_true rfl) (Nat.le_refl _) (fun J hM hret => ?_)
  have hR := hr.1
  have hm := hr.m
  have hP := hA.f
  have hn := hP.nT
  have hn8 := hP.nL
  refine q_aload_n hM dX7_addTrap_0 rfl ?_
  refine q_iload_n hM dX7_addTrap_1 rfl ?_
  refine callVe_z hM mi_X7_isLine lk_X7_50 cf_X7 (by decide) (by decide) (c_X7_isLine l G hR hm hP _) rfl rfl (by decide) (Nat.le_refl _) (by omega) (Nat.le_of_ble_eq_true rfl) dX7_addTrap_2 ?_
  refine q_ifd_ne (tgt := 11) hM dX7_addTrap_5 (by decide) (fun c5 => ?_) (fun c5 => ?_)
  · refine q_iload_n hM dX7_addTrap_11 rfl ?_
    refine q_iconst (v := 0) hM dX7_addTrap_12 (by decide) ?_
    refine q_iconst (v := 2) hM dX7_addTrap_13 (by decide) ?_
    refine callSe_z hM mi_X7_in lk_X7_35 (c_X7_in l G _ _ _) rfl rfl (by decide) (Nat.le_refl _) (by omega) (Nat.le_of_ble_eq_true rfl) dX7_addTrap_14 ?_
    refine q_ifd_eq (tgt := 52) hM dX7_addTrap_17 (by decide) (fun c17 => ?_) (fun c17 => ?_)
    · refine q_bipush (v := -3) hM dX7_addTrap_52 (by decide) ?_
      exact hret _ _ _ _ _ _ ⟨by unfold rAddTrap; skip; (try (first | rw [if_pos c5] | rw [if_neg c5])); (try (first | rw [if_pos c17] | rw [if_neg c17])); try rfl, by unfold sAddTrap; skip; (try (first | rw [if_pos c5] | rw [if_neg c5])); (try (first | rw [if_pos c17] | rw [if_neg c17])); exact hr, FrC.rf⟩ dX7_addTrap_54
    · refine q_iload_n hM dX7_addTrap_20 rfl ?_
      refine q_iconst (v := 1) hM dX7_addTrap_21 (by decide) ?_
      refine q_bipush (v := 9) hM dX7_addTrap_22 (by decide) ?_
      refine callSe_z hM mi_X7_in lk_X7_35 (c_X7_in l G _ _ _) rfl rfl (by decide) (Nat.le_refl _) (by omega) (Nat.le_of_ble_eq_true rfl) dX7_addTrap_24 ?_
      refine q_ifd_eq (tgt := 52) hM dX7_addTrap_27 (by decide) (fun c27 => ?_) (fun c27 => ?_)
      · refine q_bipush (v := -3) hM dX7_addTrap_52 (by decide) ?_
        exact hret _ _ _ _ _ _ ⟨by unfold rAddTrap; skip; (try (first | rw [if_pos c5] | rw [if_neg c5])); (try (first | rw [if_pos c17] | rw [if_neg c17])); (try (first | rw [if_pos c27] | rw [if_neg c27])); try rfl, by unfold sAddTrap; skip; (try (first | rw [if_pos c5] | rw [if_neg c5])); (try (first | rw [if_pos c17] | rw [if_neg c17])); (try (first | rw [if_pos c27] | rw [if_neg c27])); exact hr, FrC.rf⟩ dX7_addTrap_54
      · refine q_iload hM dX7_addTrap_30 rfl ?_
        refine q_iconst (v := 0) hM dX7_addTrap_32 (by decide) ?_
        refine q_bipush (v := 50) hM dX7_addTrap_33 (by decide) ?_
        refine callSe_z hM mi_X7_in lk_X7_35 (c_X7_in l G _ _ _) rfl rfl (by decide) (Nat.le_refl _) (by omega) (Nat.le_of_ble_eq_true rfl) dX7_addTrap_35 ?_
        refine q_ifd_eq (tgt := 52) hM dX7_addTrap_38 (by decide) (fun c38 => ?_) (fun c38 => ?_)
        · refine q_bipush (v := -3) hM dX7_addTrap_52 (by decide) ?_
          exact hret _ _ _ _ _ _ ⟨by unfold rAddTrap; skip; (try (first | rw [if_pos c5] | rw [if_neg c5])); (try (first | rw [if_pos c17] | rw [if_neg c17])); (try (first | rw [if_pos c27] | rw [if_neg c27])); (try (first | rw [if_pos c38] | rw [if_neg c38])); try rfl, by unfold sAddTrap; skip; (try (first | rw [if_pos c5] | rw [if_neg c5])); (try (first | rw [if_pos c17] | rw [if_neg c17])); (try (first | rw [if_pos c27] | rw [if_neg c27])); (try (first | rw [if_pos c38] | rw [if_neg c38])); exact hr, FrC.rf⟩ dX7_addTrap_54
        · refine q_iload hM dX7_addTrap_41 rfl ?_
          refine q_iconst (v := 0) hM dX7_addTrap_43 (by decide) ?_
          refine q_bipush (v := 50) hM dX7_addTrap_44 (by decide) ?_
          refine callSe_z hM mi_X7_in lk_X7_35 (c_X7_in l G _ _ _) rfl rfl (by decide) (Nat.le_refl _) (by omega) (Nat.le_of_ble_eq_true rfl) dX7_addTrap_46 ?_
          refine q_ifd_ne (tgt := 55) hM dX7_addTrap_49 (by decide) (fun c49 => ?_) (fun c49 => ?_)
          · refine q_aload_n hM dX7_addTrap_55 rfl ?_
            refine g_X7_7 hM (by decide) (by decide) hR.m0 dX7_addTrap_56 ?_
            refine q_iconst (v := 1) hM dX7_addTrap_59 (by decide) ?_
            refine q_row hM hm 1 rfl (by decide) (by decide) dX7_addTrap_60 ?_
            refine q_bipush (v := 16) hM dX7_addTrap_61 (by decide) ?_
            refine q_icmp_ne (tgt := 69) hM dX7_addTrap_63 (by decide) (fun c63 => ?_) (fun c63 => ?_)
            · have hlt : cI (aF A 1) < 16 := Nat.lt_of_le_of_ne hn (fun q => c63 (by rw [hP.e1, q]; rfl))
              refine q_aload_n hM dX7_addTrap_69 rfl ?_
              refine callV_v hM mi_X7_keeps lk_X7_47 cf_X7 (by decide) (by decide) (c_X7_keeps l G hr hA) rfl rfl (by decide) (Nat.le_refl _) (by omega) (Nat.le_of_ble_eq_true rfl) dX7_addTrap_70 (fun I9 L9 X9 hp9 => ?_)
              obtain ⟨hr9, hF9, rfl⟩ := hp9
              have hk := RM.kept hr9
              have hm9 := hk.mf
              refine q_bipush (v := 19) hM dX7_addTrap_73 (by decide) ?_
              refine q_bipush (v := 7) hM dX7_addTrap_75 (by decide) ?_
              refine q_aload_n hM dX7_addTrap_77 rfl ?_
              refine g_X7_7 hM (by decide) (by decide) hR.m0 dX7_addTrap_78 ?_
              refine q_iconst (v := 1) hM dX7_addTrap_81 (by decide) ?_
              refine q_row hM hm9 1 rfl (by decide) (by decide) dX7_addTrap_82 ?_
              refine q_imul hM dX7_addTrap_83 ?_
              refine q_iadd hM dX7_addTrap_84 ?_
              refine q_topi (nI (19 + 7 * cI (aF A 1))) (ix19 hP.e1) ?_
              refine si_7_6 hM dX7_addTrap_85 ?_
              refine q_aload_n hM dX7_addTrap_87 rfl ?_
              refine g_X7_7 hM (by decide) (by decide) hR.m0 dX7_addTrap_88 ?_
              refine q_iload hM dX7_addTrap_91 rfl ?_
              refine q_iload_n hM dX7_addTrap_93 rfl ?_
              refine q_rowst hM (19 + 7 * cI (aF A 1)) (rfl) (by omega) (by decide) dX7_addTrap_94 ?_
              have hk1 := hk.setI (i := 19 + 7 * cI (aF A 1)) (by omega) (a)
              have hm1 := hk1.mf
              refine q_aload_n hM dX7_addTrap_95 rfl ?_
              refine g_X7_7 hM (by decide) (by decide) hR.m0 dX7_addTrap_96 ?_
              refine q_iload hM dX7_addTrap_99 rfl ?_
              refine q_iconst (v := 1) hM dX7_addTrap_101 (by decide) ?_
              refine q_iadd hM dX7_addTrap_102 ?_
              refine q_iload_n hM dX7_addTrap_103 rfl ?_
              refine q_rowst hM (19 + 7 * cI (aF A 1) + 1) (nI_add _ 1) (by omega) (by decide) dX7_addTrap_104 ?_
              have hk2 := hk1.setI (i := 19 + 7 * cI (aF A 1) + 1) (by omega) (k)
              have hm2 := hk2.mf
              refine q_aload_n hM dX7_addTrap_105 rfl ?_
              refine g_X7_7 hM (by decide) (by decide) hR.m0 dX7_addTrap_106 ?_
              refine q_iload hM dX7_addTrap_109 rfl ?_
              refine q_iconst (v := 2) hM dX7_addTrap_111 (by decide) ?_
              refine q_iadd hM dX7_addTrap_112 ?_
              refine q_iload_n hM dX7_addTrap_113 rfl ?_
              refine q_rowst hM (19 + 7 * cI (aF A 1) + 2) (nI_add _ 2) (by omega) (by decide) dX7_addTrap_114 ?_
              have hk3 := hk2.setI (i := 19 + 7 * cI (aF A 1) + 2) (by omega) (z)
              have hm3 := hk3.mf
              refine q_aload_n hM dX7_addTrap_115 rfl ?_
              refine g_X7_7 hM (by decide) (by decide) hR.m0 dX7_addTrap_116 ?_
              refine q_iload hM dX7_addTrap_119 rfl ?_
              refine q_iconst (v := 3) hM dX7_addTrap_121 (by decide) ?_
              refine q_iadd hM dX7_addTrap_122 ?_
              refine q_iload hM dX7_addTrap_123 rfl ?_
              refine q_rowst hM (19 + 7 * cI (aF A 1) + 3) (nI_add _ 3) (by omega) (by decide) dX7_addTrap_125 ?_
              have hk4 := hk3.setI (i := 19 + 7 * cI (aF A 1) + 3) (by omega) (x)
              have hm4 := hk4.mf
              refine q_aload_n hM dX7_addTrap_126 rfl ?_
              refine g_X7_7 hM (by decide) (by decide) hR.m0 dX7_addTrap_127 ?_
              refine q_iload hM dX7_addTrap_130 rfl ?_
              refine q_iconst (v := 4) hM dX7_addTrap_132 (by decide) ?_
              refine q_iadd hM dX7_addTrap_133 ?_
              refine q_iload hM dX7_addTrap_134 rfl ?_
              refine q_rowst hM (19 + 7 * cI (aF A 1) + 4) (nI_add _ 4) (by omega) (by decide) dX7_addTrap_136 ?_
              have hk5 := hk4.setI (i := 19 + 7 * cI (aF A 1) + 4) (by omega) (y)
              have hm5 := hk5.mf
              refine q_aload_n hM dX7_addTrap_137 rfl ?_
              refine g_X7_7 hM (by decide) (by decide) hR.m0 dX7_addTrap_138 ?_
              refine q_iload hM dX7_addTrap_141 rfl ?_
              refine q_iconst (v := 5) hM dX7_addTrap_143 (by decide) ?_
              refine q_iadd hM dX7_addTrap_144 ?_
              refine q_iconst (v := 0) hM dX7_addTrap_145 (by decide) ?_
              refine q_rowst hM (19 + 7 * cI (aF A 1) + 5) (nI_add _ 5) (by omega) (by decide) dX7_addTrap_146 ?_
              have hk6 := hk5.setI (i := 19 + 7 * cI (aF A 1) + 5) (by omega) (0)
              have hm6 := hk6.mf
              refine q_aload_n hM dX7_addTrap_147 rfl ?_
              refine g_X7_7 hM (by decide) (by decide) hR.m0 dX7_addTrap_148 ?_
              refine q_iload hM dX7_addTrap_151 rfl ?_
              refine q_bipush (v := 6) hM dX7_addTrap_153 (by decide) ?_
              refine q_iadd hM dX7_addTrap_155 ?_
              refine q_iconst (v := -1) hM dX7_addTrap_156 (by decide) ?_
              refine q_rowst hM (19 + 7 * cI (aF A 1) + 6) (nI_add _ 6) (by omega) (by decide) dX7_addTrap_157 ?_
              have hk7 := hk6.setI (i := 19 + 7 * cI (aF A 1) + 6) (by omega) (-1)
              have hm7 := hk7.mf
              refine q_aload_n hM dX7_addTrap_158 rfl ?_
              refine g_X7_13 hM (by decide) (by decide) hR.m1 dX7_addTrap_159 ?_
              refine q_aload_n hM dX7_addTrap_162 rfl ?_
              refine g_X7_7 hM (by decide) (by decide) hR.m0 dX7_addTrap_163 ?_
              refine q_iconst (v := 1) hM dX7_addTrap_166 (by decide) ?_
              refine q_row hM hm7 (1) (rfl) (by decide) (by decide) dX7_addTrap_167 ?_
              refine q_topi (aF A 1) (((va_up_ne _ _ (by omega)).trans ((va_up_ne _ _ (by omega)).trans ((va_up_ne _ _ (by omega)).trans ((va_up_ne _ _ (by omega)).trans ((va_up_ne _ _ (by omega)).trans ((va_up_ne _ _ (by omega)).trans (va_up_ne _ _ (by omega))))))))) ?_
              refine q_lconst (v := 0) hM dX7_addTrap_168 (by decide) ?_
              refine q_lost hM (cI (aF A 1)) hP.e1 (by omega) (by decide) dX7_addTrap_169 ?_
              have hk8 := hk7.setL (t := cI (aF A 1)) (by omega) 0
              have hm8 := hk8.mf
              refine q_aload_n hM dX7_addTrap_170 rfl ?_
              refine g_X7_7 hM (by decide) (by decide) hR.m0 dX7_addTrap_171 ?_
              refine q_iconst (v := 1) hM dX7_addTrap_174 (by decide) ?_
              refine q_dup2 hM dX7_addTrap_175 rfl rfl ?_
              refine q_row hM hm8 (1) (rfl) (by decide) (by decide) dX7_addTrap_176 ?_
              refine q_topi (aF A 1) (((va_up_ne _ _ (by omega)).trans ((va_up_ne _ _ (by omega)).trans ((va_up_ne _ _ (by omega)).trans ((va_up_ne _ _ (by omega)).trans ((va_up_ne _ _ (by omega)).trans ((va_up_ne _ _ (by omega)).trans (va_up_ne _ _ (by omega))))))))) ?_
              refine q_iconst (v := 1) hM dX7_addTrap_177 (by decide) ?_
              refine q_iadd hM dX7_addTrap_178 ?_
              refine q_rowst hM (1) (rfl) (by decide) (by decide) dX7_addTrap_179 ?_
              have hk9 := hk8.setI (i := 1) (by decide) (aF A 1 + 1)
              have hm9 := hk9.mf
              refine q_aload_n hM dX7_addTrap_180 rfl ?_
              refine g_X7_7 hM (by decide) (by decide) hR.m0 dX7_addTrap_181 ?_
              refine q_iconst (v := 1) hM dX7_addTrap_184 (by decide) ?_
              refine q_row hM hk9.mf (1) (rfl) (by decide) (by decide) dX7_addTrap_185 ?_
              refine q_topi (aF A 1 + 1) (va_up_self _ _ _) ?_
              refine q_iconst (v := 1) hM dX7_addTrap_186 (by decide) ?_
              refine q_isub hM dX7_addTrap_187 ?_
              exact hret _ _ _ _ _ _ ⟨by unfold rAddTrap; skip; (try (first | rw [if_pos c5] | rw [if_neg c5])); (try (first | rw [if_pos c17] | rw [if_neg c17])); (try (first | rw [if_pos c27] | rw [if_neg c27])); (try (first | rw [if_pos c38] | rw [if_neg c38])); (try (first | rw [if_pos c49] | rw [if_neg c49])); (try (first | rw [if_pos c63] | rw [if_neg c63])); exact Int32.add_sub_cancel _ _, by unfold sAddTrap; skip; (try (first | rw [if_pos c5] | rw [if_neg c5])); (try (first | rw [if_pos c17] | rw [if_neg c17])); (try (first | rw [if_pos c27] | rw [if_neg c27])); (try (first | rw [if_pos c38] | rw [if_neg c38])); (try (first | rw [if_pos c49] | rw [if_neg c49])); (try (first | rw [if_pos c63] | rw [if_neg c63])); (try rw [hcj]); exact hk9, ((((((((hF9).put (by decide)).put (by decide)).put (by decide)).put (by decide)).put (by decide)).put (by decide)).put (by decide)).putL (by decide) |>.put (by decide)⟩ dX7_addTrap_188
            · refine q_bipush (v := -5) hM dX7_addTrap_66 (by decide) ?_
              exact hret _ _ _ _ _ _ ⟨by unfold rAddTrap; skip; (try (first | rw [if_pos c5] | rw [if_neg c5])); (try (first | rw [if_pos c17] | rw [if_neg c17])); (try (first | rw [if_pos c27] | rw [if_neg c27])); (try (first | rw [if_pos c38] | rw [if_neg c38])); (try (first | rw [if_pos c49] | rw [if_neg c49])); (try (first | rw [if_pos c63] | rw [if_neg c63])); try rfl, by unfold sAddTrap; skip; (try (first | rw [if_pos c5] | rw [if_neg c5])); (try (first | rw [if_pos c17] | rw [if_neg c17])); (try (first | rw [if_pos c27] | rw [if_neg c27])); (try (first | rw [if_pos c38] | rw [if_neg c38])); (try (first | rw [if_pos c49] | rw [if_neg c49])); (try (first | rw [if_pos c63] | rw [if_neg c63])); exact hr, FrC.rf⟩ dX7_addTrap_68
          · refine q_bipush (v := -3) hM dX7_addTrap_52 (by decide) ?_
            exact hret _ _ _ _ _ _ ⟨by unfold rAddTrap; skip; (try (first | rw [if_pos c5] | rw [if_neg c5])); (try (first | rw [if_pos c17] | rw [if_neg c17])); (try (first | rw [if_pos c27] | rw [if_neg c27])); (try (first | rw [if_pos c38] | rw [if_neg c38])); (try (first | rw [if_pos c49] | rw [if_neg c49])); try rfl, by unfold sAddTrap; skip; (try (first | rw [if_pos c5] | rw [if_neg c5])); (try (first | rw [if_pos c17] | rw [if_neg c17])); (try (first | rw [if_pos c27] | rw [if_neg c27])); (try (first | rw [if_pos c38] | rw [if_neg c38])); (try (first | rw [if_pos c49] | rw [if_neg c49])); exact hr, FrC.rf⟩ dX7_addTrap_54
  · refine q_bipush (v := -2) hM dX7_addTrap_8 (by decide) ?_
    exact hret _ _ _ _ _ _ ⟨by unfold rAddTrap; skip; (try (first | rw [if_pos c5] | rw [if_neg c5])); try rfl, by unfold sAddTrap; skip; (try (first | rw [if_pos c5] | rw [if_neg c5])); exact hr, FrC.rf⟩ dX7_addTrap_10
set_option maxHeartbeats 4000000 in
set_option maxRecDepth 100000 in
theorem c_X7_moveLine (l : Launch) (G : kG) {I : kI} {L : kL} {X : kX} {A : kA} (hr : RM I L X A) (hA : AInv A) (i h : Int32)  : Ki l yX7_moveLine cX7_moveLine 4 2 G [.ref (ad G 153), .int i, .int h] 159 159 I L X (fun v I' L' X' => v = rMoveLine A i h ∧ RM I' L' X' (sMoveLine A i h) ∧ FrC I I' L L' X X') := by
  refine Ki_intro (own := RX7) (lv0 := [some (.ref (ad G 153)), some (.int i), some (.int h), none]) 1 (by decide +kernel) rfl rfl (Nat.le_of_ble_eq_true rfl) (Nat.le_refl _) (fun J hM hret => ?_)
  have hR := hr.1
  have hm := hr.m
  have hP := hA.f
  have hn := hP.nT
  have hn8 := hP.nL
  refine q_aload_n hM dX7_moveLine_0 rfl ?_
  refine q_iload_n hM dX7_moveLine_1 rfl ?_
  refine callVe_z hM mi_X7_isLine lk_X7_50 cf_X7 (by decide) (by decide) (c_X7_isLine l G hR hm hP _) rfl rfl (by decide) (Nat.le_refl _) (by omega) (Nat.le_of_ble_eq_true rfl) dX7_moveLine_2 ?_
  refine q_ifd_eq (tgt := 15) hM dX7_moveLine_5 (by decide) (fun c5 => ?_) (fun c5 => ?_)
  · refine q_bipush (v := -2) hM dX7_moveLine_15 (by decide) ?_
    exact hret _ _ _ _ _ _ ⟨by unfold rMoveLine; skip; (try (first | rw [if_pos c5] | rw [if_neg c5])); try rfl, by unfold sMoveLine; skip; (try (first | rw [if_pos c5] | rw [if_neg c5])); exact hr, FrC.rf⟩ dX7_moveLine_17
  · obtain ⟨j, hj, rfl⟩ := lineEx hP c5
    have hcj : cI (nI j) = j := cI_nI (by omega)
    refine q_iload_n hM dX7_moveLine_8 rfl ?_
    refine callSe_z hM mi_X7_isHeader lk_X7_43 (c_X7_isHeader l G _) rfl rfl (by decide) (Nat.le_refl _) (by omega) (Nat.le_of_ble_eq_true rfl) dX7_moveLine_9 ?_
    refine q_ifd_ne (tgt := 18) hM dX7_moveLine_12 (by decide) (fun c12 => ?_) (fun c12 => ?_)
    · refine q_aload_n hM dX7_moveLine_18 rfl ?_
      refine callV_v hM mi_X7_keeps lk_X7_47 cf_X7 (by decide) (by decide) (c_X7_keeps l G hr hA) rfl rfl (by decide) (Nat.le_refl _) (by omega) (Nat.le_of_ble_eq_true rfl) dX7_moveLine_19 (fun I9 L9 X9 hp9 => ?_)
      obtain ⟨hr9, hF9, rfl⟩ := hp9
      have hk := RM.kept hr9
      have hm9 := hk.mf
      refine q_aload_n hM dX7_moveLine_22 rfl ?_
      refine g_X7_7 hM (by decide) (by decide) hR.m0 dX7_moveLine_23 ?_
      refine q_bipush (v := 11) hM dX7_moveLine_26 (by decide) ?_
      refine q_iload_n hM dX7_moveLine_28 rfl ?_
      refine q_iadd hM dX7_moveLine_29 ?_
      refine q_row hM hm9 (11 + j) (nI_add 11 _) (by omega) (by decide) dX7_moveLine_30 ?_
      refine si_4_3 hM dX7_moveLine_31 ?_
      refine q_aload_n hM dX7_moveLine_32 rfl ?_
      refine g_X7_7 hM (by decide) (by decide) hR.m0 dX7_moveLine_33 ?_
      refine q_bipush (v := 11) hM dX7_moveLine_36 (by decide) ?_
      refine q_iload_n hM dX7_moveLine_38 rfl ?_
      refine q_iadd hM dX7_moveLine_39 ?_
      refine q_iload_n hM dX7_moveLine_40 rfl ?_
      refine q_rowst hM (11 + j) (nI_add 11 _) (by omega) (by decide) dX7_moveLine_41 ?_
      have hk1 := hk.setI (i := 11 + j) (by omega) (h)
      have hm1 := hk1.mf
      refine q_iload_n hM dX7_moveLine_42 rfl ?_
      exact hret _ _ _ _ _ _ ⟨by unfold rMoveLine; skip; (try (first | rw [if_pos c5] | rw [if_neg c5])); (try (first | rw [if_pos c12] | rw [if_neg c12])); (try rw [hcj]); try rfl, by unfold sMoveLine; skip; (try (first | rw [if_pos c5] | rw [if_neg c5])); (try (first | rw [if_pos c12] | rw [if_neg c12])); (try rw [hcj]); exact hk1, (hF9).put (by decide)⟩ dX7_moveLine_43
    · refine q_bipush (v := -2) hM dX7_moveLine_15 (by decide) ?_
      exact hret _ _ _ _ _ _ ⟨by unfold rMoveLine; skip; (try (first | rw [if_pos c5] | rw [if_neg c5])); (try (first | rw [if_pos c12] | rw [if_neg c12])); try rfl, by unfold sMoveLine; skip; (try (first | rw [if_pos c5] | rw [if_neg c5])); (try (first | rw [if_pos c12] | rw [if_neg c12])); exact hr, FrC.rf⟩ dX7_moveLine_17
set_option maxHeartbeats 4000000 in
set_option maxRecDepth 100000 in
theorem c_X7_setWork (l : Launch) (G : kG) {I : kI} {L : kL} {X : kX} {A : kA} (hr : RM I L X A) (hA : AInv A) (a p i : Int32)  : Ki l yX7_setWork cX7_setWork 5 2 G [.ref (ad G 153), .int a, .int p, .int i] 159 159 I L X (fun v I' L' X' => v = rSetWork A a p i ∧ RM I' L' X' (sSetWork A a p i) ∧ FrC I I' L L' X X') := by
  refine Ki_intro (own := RX7) (lv0 := [some (.ref (ad G 153)), some (.int a), some (.int p), some (.int i), none]) 1 (by decide +kernel) rfl rfl (Nat.le_of_ble_eq_true rfl) (Nat.le_refl _) (fun J hM hret => ?_)
  have hR := hr.1
  have hm := hr.m
  have hP := hA.f
  have hn := hP.nT
  have hn8 := hP.nL
  refine q_iload_n hM dX7_setWork_0 rfl ?_
  refine q_iconst (v := 1) hM dX7_setWork_1 (by decide) ?_
  refine q_bipush (v := 24) hM dX7_setWork_2 (by decide) ?_
  refine callSe_z hM mi_X7_in lk_X7_35 (c_X7_in l G _ _ _) rfl rfl (by decide) (Nat.le_refl _) (by omega) (Nat.le_of_ble_eq_true rfl) dX7_setWork_4 ?_
  refine q_ifd_eq (tgt := 32) hM dX7_setWork_7 (by decide) (fun c7 => ?_) (fun c7 => ?_)
  · refine q_bipush (v := -3) hM dX7_setWork_32 (by decide) ?_
    exact hret _ _ _ _ _ _ ⟨by unfold rSetWork; skip; (try (first | rw [if_pos c7] | rw [if_neg c7])); try rfl, by unfold sSetWork; skip; (try (first | rw [if_pos c7] | rw [if_neg c7])); exact hr, FrC.rf⟩ dX7_setWork_34
  · refine q_iload_n hM dX7_setWork_10 rfl ?_
    refine q_iconst (v := 1) hM dX7_setWork_11 (by decide) ?_
    refine q_sipush (v := 1000) hM dX7_setWork_12 (by decide) ?_
    refine callSe_z hM mi_X7_in lk_X7_35 (c_X7_in l G _ _ _) rfl rfl (by decide) (Nat.le_refl _) (by omega) (Nat.le_of_ble_eq_true rfl) dX7_setWork_15 ?_
    refine q_ifd_eq (tgt := 32) hM dX7_setWork_18 (by decide) (fun c18 => ?_) (fun c18 => ?_)
    · refine q_bipush (v := -3) hM dX7_setWork_32 (by decide) ?_
      exact hret _ _ _ _ _ _ ⟨by unfold rSetWork; skip; (try (first | rw [if_pos c7] | rw [if_neg c7])); (try (first | rw [if_pos c18] | rw [if_neg c18])); try rfl, by unfold sSetWork; skip; (try (first | rw [if_pos c7] | rw [if_neg c7])); (try (first | rw [if_pos c18] | rw [if_neg c18])); exact hr, FrC.rf⟩ dX7_setWork_34
    · refine q_iload_n hM dX7_setWork_21 rfl ?_
      refine q_iconst (v := 1) hM dX7_setWork_22 (by decide) ?_
      refine q_sipush (v := 400) hM dX7_setWork_23 (by decide) ?_
      refine callSe_z hM mi_X7_in lk_X7_35 (c_X7_in l G _ _ _) rfl rfl (by decide) (Nat.le_refl _) (by omega) (Nat.le_of_ble_eq_true rfl) dX7_setWork_26 ?_
      refine q_ifd_ne (tgt := 35) hM dX7_setWork_29 (by decide) (fun c29 => ?_) (fun c29 => ?_)
      · refine q_aload_n hM dX7_setWork_35 rfl ?_
        refine callV_v hM mi_X7_keeps lk_X7_47 cf_X7 (by decide) (by decide) (c_X7_keeps l G hr hA) rfl rfl (by decide) (Nat.le_refl _) (by omega) (Nat.le_of_ble_eq_true rfl) dX7_setWork_36 (fun I9 L9 X9 hp9 => ?_)
        obtain ⟨hr9, hF9, rfl⟩ := hp9
        have hk := RM.kept hr9
        have hm9 := hk.mf
        refine q_aload_n hM dX7_setWork_39 rfl ?_
        refine g_X7_7 hM (by decide) (by decide) hR.m0 dX7_setWork_40 ?_
        refine q_iconst (v := 2) hM dX7_setWork_43 (by decide) ?_
        refine q_row hM hm9 2 rfl (by decide) (by decide) dX7_setWork_44 ?_
        refine si_5_4 hM dX7_setWork_45 ?_
        refine q_aload_n hM dX7_setWork_47 rfl ?_
        refine g_X7_7 hM (by decide) (by decide) hR.m0 dX7_setWork_48 ?_
        refine q_iconst (v := 2) hM dX7_setWork_51 (by decide) ?_
        refine q_iload_n hM dX7_setWork_52 rfl ?_
        refine q_rowst hM (2) (rfl) (by decide) (by decide) dX7_setWork_53 ?_
        have hk1 := hk.setI (i := 2) (by decide) (a)
        have hm1 := hk1.mf
        refine q_aload_n hM dX7_setWork_54 rfl ?_
        refine g_X7_7 hM (by decide) (by decide) hR.m0 dX7_setWork_55 ?_
        refine q_iconst (v := 3) hM dX7_setWork_58 (by decide) ?_
        refine q_iload_n hM dX7_setWork_59 rfl ?_
        refine q_rowst hM (3) (rfl) (by decide) (by decide) dX7_setWork_60 ?_
        have hk2 := hk1.setI (i := 3) (by decide) (p)
        have hm2 := hk2.mf
        refine q_aload_n hM dX7_setWork_61 rfl ?_
        refine g_X7_7 hM (by decide) (by decide) hR.m0 dX7_setWork_62 ?_
        refine q_iconst (v := 4) hM dX7_setWork_65 (by decide) ?_
        refine q_iload_n hM dX7_setWork_66 rfl ?_
        refine q_rowst hM (4) (rfl) (by decide) (by decide) dX7_setWork_67 ?_
        have hk3 := hk2.setI (i := 4) (by decide) (i)
        have hm3 := hk3.mf
        refine q_iload hM dX7_setWork_68 rfl ?_
        exact hret _ _ _ _ _ _ ⟨by unfold rSetWork; skip; (try (first | rw [if_pos c7] | rw [if_neg c7])); (try (first | rw [if_pos c18] | rw [if_neg c18])); (try (first | rw [if_pos c29] | rw [if_neg c29])); (try rw [hcj]); try rfl, by unfold sSetWork; skip; (try (first | rw [if_pos c7] | rw [if_neg c7])); (try (first | rw [if_pos c18] | rw [if_neg c18])); (try (first | rw [if_pos c29] | rw [if_neg c29])); (try rw [hcj]); exact hk3, (((hF9).put (by decide)).put (by decide)).put (by decide)⟩ dX7_setWork_70
      · refine q_bipush (v := -3) hM dX7_setWork_32 (by decide) ?_
        exact hret _ _ _ _ _ _ ⟨by unfold rSetWork; skip; (try (first | rw [if_pos c7] | rw [if_neg c7])); (try (first | rw [if_pos c18] | rw [if_neg c18])); (try (first | rw [if_pos c29] | rw [if_neg c29])); try rfl, by unfold sSetWork; skip; (try (first | rw [if_pos c7] | rw [if_neg c7])); (try (first | rw [if_pos c18] | rw [if_neg c18])); (try (first | rw [if_pos c29] | rw [if_neg c29])); exact hr, FrC.rf⟩ dX7_setWork_34
set_option maxHeartbeats 4000000 in
set_option maxRecDepth 100000 in
theorem c_X7_count (l : Launch) (G : kG) {I : kI} {L : kL} {X : kX} {A : kA} (hr : RM I L X A) (hA : AInv A) (w : Int32)  : Ki l yX7_count cX7_count 2 1 G [.ref (ad G 153), .int w] 159 159 I L X (pE (rCount A w) I L X) := by
  refine Ki_intro (own := RX7) (lv0 := [some (.ref (ad G 153)), some (.int w)]) 0 (by decide +kernel) rfl rfl (Nat.le_of_ble_eq_true rfl) (Nat.le_refl _) (fun J hM hret => ?_)
  have hR := hr.1
  have hm := hr.m
  have hP := hA.f
  have hn := hP.nT
  have hn8 := hP.nL
  refine q_iload_n hM dX7_count_0 rfl ?_
  refine q_iconst (v := 0) hM dX7_count_1 (by decide) ?_
  refine q_bipush (v := 7) hM dX7_count_2 (by decide) ?_
  refine callSe_z hM mi_X7_in lk_X7_35 (c_X7_in l G _ _ _) rfl rfl (by decide) (Nat.le_refl _) (by omega) (Nat.le_of_ble_eq_true rfl) dX7_count_4 ?_
  refine q_ifd_eq (tgt := 19) hM dX7_count_7 (by decide) (fun c7 => ?_) (fun c7 => ?_)
  · refine q_bipush (v := -3) hM dX7_count_19 (by decide) ?_
    exact hret _ _ _ _ _ _ ⟨(by unfold rCount; skip; (try (first | rw [if_pos c7] | rw [if_neg c7])); (first | rfl | (rw [hcj]; done) | (rw [hcj]; rfl) | skip)), rfl, rfl, rfl⟩ dX7_count_21
  · refine q_aload_n hM dX7_count_10 rfl ?_
    refine g_X7_7 hM (by decide) (by decide) hR.m0 dX7_count_11 ?_
    refine q_iload_n hM dX7_count_14 rfl ?_
    refine q_row hM hm (cI w) ((w8 c7).1) (Nat.lt_trans (w8 c7).2 (by decide)) (by decide) dX7_count_15 ?_
    refine q_goto (tgt := 21) hM dX7_count_16 (by decide) ?_
    exact hret _ _ _ _ _ _ ⟨(by unfold rCount; skip; (try (first | rw [if_pos c7] | rw [if_neg c7])); (first | rfl | (rw [hcj]; done) | (rw [hcj]; rfl) | skip)), rfl, rfl, rfl⟩ dX7_count_21
set_option maxHeartbeats 4000000 in
set_option maxRecDepth 100000 in
theorem c_X7_trap (l : Launch) (G : kG) {I : kI} {L : kL} {X : kX} {A : kA} (hr : RM I L X A) (hA : AInv A) (t w : Int32)  : Ki l yX7_trap cX7_trap 3 2 G [.ref (ad G 153), .int t, .int w] 159 159 I L X (pE (rTrap A t w) I L X) := by
  refine Ki_intro (own := RX7) (lv0 := [some (.ref (ad G 153)), some (.int t), some (.int w)]) 0 (by decide +kernel) rfl rfl (Nat.le_of_ble_eq_true rfl) (Nat.le_refl _) (fun J hM hret => ?_)
  have hR := hr.1
  have hm := hr.m
  have hP := hA.f
  have hn := hP.nT
  have hn8 := hP.nL
  refine q_aload_n hM dX7_trap_0 rfl ?_
  refine q_iload_n hM dX7_trap_1 rfl ?_
  refine callVe_z hM mi_X7_isTrap lk_X7_53 cf_X7 (by decide) (by decide) (c_X7_isTrap l G hR hm hP _) rfl rfl (by decide) (Nat.le_refl _) (by omega) (Nat.le_of_ble_eq_true rfl) dX7_trap_2 ?_
  refine q_ifd_ne (tgt := 11) hM dX7_trap_5 (by decide) (fun c5 => ?_) (fun c5 => ?_)
  · obtain ⟨j, hj, rfl⟩ := trapEx hP c5
    have hcj : cI (nI j) = j := cI_nI (by omega)
    refine q_iload_n hM dX7_trap_11 rfl ?_
    refine q_iconst (v := 0) hM dX7_trap_12 (by decide) ?_
    refine q_bipush (v := 7) hM dX7_trap_13 (by decide) ?_
    refine callSe_z hM mi_X7_in lk_X7_35 (c_X7_in l G _ _ _) rfl rfl (by decide) (Nat.le_refl _) (by omega) (Nat.le_of_ble_eq_true rfl) dX7_trap_15 ?_
    refine q_ifd_ne (tgt := 26) hM dX7_trap_18 (by decide) (fun c18 => ?_) (fun c18 => ?_)
    · obtain ⟨u, hu, rfl⟩ : ∃ u, u < 8 ∧ w = nI u := ⟨_, (w8 c18).2, (w8 c18).1⟩
      have hcu : cI (nI u) = u := cI_nI (by omega)
      refine q_iload_n hM dX7_trap_26 rfl ?_
      refine q_bipush (v := 7) hM dX7_trap_27 (by decide) ?_
      refine q_icmp_ne (tgt := 40) hM dX7_trap_29 (by decide) (fun c29 => ?_) (fun c29 => ?_)
      · have hu7 : u < 7 := by have : u ≠ 7 := fun q => c29 (by rw [q]; rfl)
                               omega
        refine q_aload_n hM dX7_trap_40 rfl ?_
        refine q_iload_n hM dX7_trap_41 rfl ?_
        refine q_iload_n hM dX7_trap_42 rfl ?_
        refine callVe_i hM mi_X7_of lk_X7_39 cf_X7 (by decide) (by decide) (c_X7_of l G hR hm j u (by omega) hu7) rfl rfl (by decide) (Nat.le_refl _) (by omega) (Nat.le_of_ble_eq_true rfl) dX7_trap_43 ?_
        exact hret _ _ _ _ _ _ ⟨(by unfold rTrap; skip; (try (first | rw [if_pos c5] | rw [if_neg c5])); (try (first | rw [if_pos c18] | rw [if_neg c18])); (try (first | rw [if_pos c29] | rw [if_neg c29])); (first | rfl | (rw [hcj]; exact (hP.hd hj).2.symm) | (rw [hcj, hcu]; done) | skip)), rfl, rfl, rfl⟩ dX7_trap_46
      · refine q_aload_n hM dX7_trap_32 rfl ?_
        refine q_iload_n hM dX7_trap_33 rfl ?_
        refine callVe_i hM mi_X7_header lk_X7_56 cf_X7 (by decide) (by decide) (c_X7_header l G hR hm hP j hj) rfl rfl (by decide) (Nat.le_refl _) (by omega) (Nat.le_of_ble_eq_true rfl) dX7_trap_34 ?_
        refine q_goto (tgt := 46) hM dX7_trap_37 (by decide) ?_
        exact hret _ _ _ _ _ _ ⟨(by unfold rTrap; skip; (try (first | rw [if_pos c5] | rw [if_neg c5])); (try (first | rw [if_pos c18] | rw [if_neg c18])); (try (first | rw [if_pos c29] | rw [if_neg c29])); (first | rfl | (rw [hcj]; exact (hP.hd hj).2.symm) | (rw [hcj, hcu]; done) | skip)), rfl, rfl, rfl⟩ dX7_trap_46
    · refine q_bipush (v := -3) hM dX7_trap_21 (by decide) ?_
      refine q_goto (tgt := 46) hM dX7_trap_23 (by decide) ?_
      exact hret _ _ _ _ _ _ ⟨(by unfold rTrap; skip; (try (first | rw [if_pos c5] | rw [if_neg c5])); (try (first | rw [if_pos c18] | rw [if_neg c18])); (first | rfl | (rw [hcj]; exact (hP.hd hj).2.symm) | (rw [hcj, hcu]; done) | skip)), rfl, rfl, rfl⟩ dX7_trap_46
  · refine q_bipush (v := -2) hM dX7_trap_8 (by decide) ?_
    exact hret _ _ _ _ _ _ ⟨(by unfold rTrap; skip; (try (first | rw [if_pos c5] | rw [if_neg c5])); (first | rfl | (rw [hcj]; exact (hP.hd hj).2.symm) | (rw [hcj, hcu]; done) | skip)), rfl, rfl, rfl⟩ dX7_trap_10
set_option maxHeartbeats 4000000 in
set_option maxRecDepth 100000 in
theorem c_X7_headerOf (l : Launch) (G : kG) {I : kI} {L : kL} {X : kX} {A : kA} (hr : RM I L X A) (hA : AInv A) (i : Int32)  : Ki l yX7_headerOf cX7_headerOf 2 2 G [.ref (ad G 153), .int i] 159 159 I L X (pE (rHeaderOf A i) I L X) := by
  refine Ki_intro (own := RX7) (lv0 := [some (.ref (ad G 153)), some (.int i)]) 0 (by decide +kernel) rfl rfl (Nat.le_of_ble_eq_true rfl) (Nat.le_refl _) (fun J hM hret => ?_)
  have hR := hr.1
  have hm := hr.m
  have hP := hA.f
  have hn := hP.nT
  have hn8 := hP.nL
  refine q_aload_n hM dX7_headerOf_0 rfl ?_
  refine q_iload_n hM dX7_headerOf_1 rfl ?_
  refine callVe_z hM mi_X7_isLine lk_X7_50 cf_X7 (by decide) (by decide) (c_X7_isLine l G hR hm hP _) rfl rfl (by decide) (Nat.le_refl _) (by omega) (Nat.le_of_ble_eq_true rfl) dX7_headerOf_2 ?_
  refine q_ifd_eq (tgt := 20) hM dX7_headerOf_5 (by decide) (fun c5 => ?_) (fun c5 => ?_)
  · refine q_bipush (v := -2) hM dX7_headerOf_20 (by decide) ?_
    exact hret _ _ _ _ _ _ ⟨(by unfold rHeaderOf; skip; (try (first | rw [if_pos c5] | rw [if_neg c5])); (first | rfl | (rw [hcj]; done) | (rw [hcj]; rfl) | skip)), rfl, rfl, rfl⟩ dX7_headerOf_22
  · obtain ⟨j, hj, rfl⟩ := lineEx hP c5
    have hcj : cI (nI j) = j := cI_nI (by omega)
    refine q_aload_n hM dX7_headerOf_8 rfl ?_
    refine g_X7_7 hM (by decide) (by decide) hR.m0 dX7_headerOf_9 ?_
    refine q_bipush (v := 11) hM dX7_headerOf_12 (by decide) ?_
    refine q_iload_n hM dX7_headerOf_14 rfl ?_
    refine q_iadd hM dX7_headerOf_15 ?_
    refine q_row hM hm (11 + j) (nI_add 11 _) (by omega) (by decide) dX7_headerOf_16 ?_
    refine q_goto (tgt := 22) hM dX7_headerOf_17 (by decide) ?_
    exact hret _ _ _ _ _ _ ⟨(by unfold rHeaderOf; skip; (try (first | rw [if_pos c5] | rw [if_neg c5])); (first | rfl | (rw [hcj]; done) | (rw [hcj]; rfl) | skip)), rfl, rfl, rfl⟩ dX7_headerOf_22
set_option maxHeartbeats 4000000 in
set_option maxRecDepth 100000 in
theorem c_X7_pressure (l : Launch) (G : kG) {I : kI} {L : kL} {X : kX} {A : kA} (hr : RM I L X A) (hA : AInv A) (h : Int32)  : Ki l yX7_pressure cX7_pressure 2 2 G [.ref (ad G 153), .int h] 159 159 I L X (pE (rPressure A h) I L X) := by
  refine Ki_intro (own := RX7) (lv0 := [some (.ref (ad G 153)), some (.int h)]) 0 (by decide +kernel) rfl rfl (Nat.le_of_ble_eq_true rfl) (Nat.le_refl _) (fun J hM hret => ?_)
  have hR := hr.1
  have hm := hr.m
  have hP := hA.f
  have hn := hP.nT
  have hn8 := hP.nL
  refine q_iload_n hM dX7_pressure_0 rfl ?_
  refine callSe_z hM mi_X7_isHeader lk_X7_43 (c_X7_isHeader l G _) rfl rfl (by decide) (Nat.le_refl _) (by omega) (Nat.le_of_ble_eq_true rfl) dX7_pressure_1 ?_
  refine q_ifd_eq (tgt := 19) hM dX7_pressure_4 (by decide) (fun c4 => ?_) (fun c4 => ?_)
  · refine q_bipush (v := -2) hM dX7_pressure_19 (by decide) ?_
    exact hret _ _ _ _ _ _ ⟨(by unfold rPressure; skip; (try (first | rw [if_pos c4] | rw [if_neg c4])); (first | rfl | (rw [hcj]; done) | (rw [hcj]; rfl) | skip)), rfl, rfl, rfl⟩ dX7_pressure_21
  · obtain ⟨j, hj, rfl⟩ := hdrEx c4
    have hcj : cI (nI j) = j := cI_nI (by omega)
    refine q_aload_n hM dX7_pressure_7 rfl ?_
    refine g_X7_7 hM (by decide) (by decide) hR.m0 dX7_pressure_8 ?_
    refine q_bipush (v := 8) hM dX7_pressure_11 (by decide) ?_
    refine q_iload_n hM dX7_pressure_13 rfl ?_
    refine q_iadd hM dX7_pressure_14 ?_
    refine q_row hM hm (8 + j) (nI_add 8 _) (by omega) (by decide) dX7_pressure_15 ?_
    refine q_goto (tgt := 21) hM dX7_pressure_16 (by decide) ?_
    exact hret _ _ _ _ _ _ ⟨(by unfold rPressure; skip; (try (first | rw [if_pos c4] | rw [if_neg c4])); (first | rfl | (rw [hcj]; done) | (rw [hcj]; rfl) | skip)), rfl, rfl, rfl⟩ dX7_pressure_21
set_option maxHeartbeats 4000000 in
set_option maxRecDepth 100000 in
theorem c_X7_judge (l : Launch) (G : kG) {I : kI} {L : kL} {X : kX} {A : kA} (hr : RM I L X A) (hA : AInv A) (t i o c : Int32)  : Ki l yX7_judge cX7_judge 5 3 G [.ref (ad G 153), .int t, .int i, .int o, .int c] 159 159 I L X (pE (rJudge A t i o c) I L X) := by
  refine Ki_intro (own := RX7) (lv0 := [some (.ref (ad G 153)), some (.int t), some (.int i), some (.int o), some (.int c)]) 0 (by decide +kernel) rfl rfl (Nat.le_of_ble_eq_true rfl) (Nat.le_refl _) (fun J hM hret => ?_)
  have hR := hr.1
  have hm := hr.m
  have hP := hA.f
  have hn := hP.nT
  have hn8 := hP.nL
  refine q_aload_n hM dX7_judge_0 rfl ?_
  refine q_iload_n hM dX7_judge_1 rfl ?_
  refine callVe_z hM mi_X7_isTrap lk_X7_53 cf_X7 (by decide) (by decide) (c_X7_isTrap l G hR hm hP _) rfl rfl (by decide) (Nat.le_refl _) (by omega) (Nat.le_of_ble_eq_true rfl) dX7_judge_2 ?_
  refine q_ifd_ne (tgt := 11) hM dX7_judge_5 (by decide) (fun c5 => ?_) (fun c5 => ?_)
  · obtain ⟨j, hj, rfl⟩ := trapEx hP c5
    have hcj : cI (nI j) = j := cI_nI (by omega)
    refine q_iload_n hM dX7_judge_11 rfl ?_
    refine q_iload_n hM dX7_judge_12 rfl ?_
    refine q_iload hM dX7_judge_13 rfl ?_
    refine callSe_z hM mi_X7_isReading lk_X7_64 (c_X7_isReading l G _ _ _) rfl rfl (by decide) (Nat.le_refl _) (by omega) (Nat.le_of_ble_eq_true rfl) dX7_judge_15 ?_
    refine q_ifd_eq (tgt := 33) hM dX7_judge_18 (by decide) (fun c18 => ?_) (fun c18 => ?_)
    · refine q_bipush (v := -3) hM dX7_judge_33 (by decide) ?_
      exact hret _ _ _ _ _ _ ⟨(jud_bad c5 c18).1.symm, rfl, rfl, rfl⟩ dX7_judge_35
    · refine q_aload_n hM dX7_judge_21 rfl ?_
      refine q_iload_n hM dX7_judge_22 rfl ?_
      refine q_iload_n hM dX7_judge_23 rfl ?_
      refine q_iload_n hM dX7_judge_24 rfl ?_
      refine q_iload hM dX7_judge_25 rfl ?_
      refine callVe_i hM mi_X7_judges lk_X7_60 cf_X7 (by decide) (by decide) (c_X7_judges l G hR hm hP j hj i o c c18.1 c18.2.1) rfl rfl (by decide) (Nat.le_refl _) (by omega) (Nat.le_of_ble_eq_true rfl) dX7_judge_27 ?_
      refine q_goto (tgt := 35) hM dX7_judge_30 (by decide) ?_
      exact hret _ _ _ _ _ _ ⟨by unfold rJudge; rw [if_pos c5, if_pos c18.1, if_pos c18.2.1, if_pos c18.2.2, hcj], rfl, rfl, rfl⟩ dX7_judge_35
  · refine q_bipush (v := -2) hM dX7_judge_8 (by decide) ?_
    exact hret _ _ _ _ _ _ ⟨(by unfold rJudge; skip; (try (first | rw [if_pos c5] | rw [if_neg c5])); (first | rfl | (rw [hcj]; done) | (rw [hcj]; rfl) | skip)), rfl, rfl, rfl⟩ dX7_judge_10
set_option maxHeartbeats 4000000 in
set_option maxRecDepth 100000 in
theorem c_X7_read (l : Launch) (G : kG) {I : kI} {L : kL} {X : kX} {A : kA} (hr : RM I L X A) (hA : AInv A) (t i o c : Int32)  : Ki l yX7_read cX7_read 5 4 G [.ref (ad G 153), .int t, .int i, .int o, .int c] 159 159 I L X (fun v I' L' X' => v = rJudge A t i o c ∧ RM I' L' X' (sRead A t i o c) ∧ FrC I I' L L' X X') := by
  refine Ki_intro (own := RX7) (lv0 := [some (.ref (ad G 153)), some (.int t), some (.int i), some (.int o), some (.int c)]) 0 (by decide +kernel) rfl rfl (Nat.le_of_ble_eq_true rfl) (Nat.le_refl _) (fun J hM hret => ?_)
  have hR := hr.1
  have hm := hr.m
  have hP := hA.f
  have hn := hP.nT
  have hn8 := hP.nL
  refine q_aload_n hM dX7_read_0 rfl ?_
  refine q_iload_n hM dX7_read_1 rfl ?_
  refine callVe_z hM mi_X7_isTrap lk_X7_53 cf_X7 (by decide) (by decide) (c_X7_isTrap l G hR hm hP _) rfl rfl (by decide) (Nat.le_refl _) (by omega) (Nat.le_of_ble_eq_true rfl) dX7_read_2 ?_
  refine q_ifd_ne (tgt := 11) hM dX7_read_5 (by decide) (fun c5 => ?_) (fun c5 => ?_)
  · obtain ⟨j, hj, rfl⟩ := trapEx hP c5
    have hcj : cI (nI j) = j := cI_nI (by omega)
    refine q_iload_n hM dX7_read_11 rfl ?_
    refine q_iload_n hM dX7_read_12 rfl ?_
    refine q_iload hM dX7_read_13 rfl ?_
    refine callSe_z hM mi_X7_isReading lk_X7_64 (c_X7_isReading l G _ _ _) rfl rfl (by decide) (Nat.le_refl _) (by omega) (Nat.le_of_ble_eq_true rfl) dX7_read_15 ?_
    refine q_ifd_ne (tgt := 24) hM dX7_read_18 (by decide) (fun c18 => ?_) (fun c18 => ?_)
    · refine q_aload_n hM dX7_read_24 rfl ?_
      refine callV_v hM mi_X7_keeps lk_X7_47 cf_X7 (by decide) (by decide) (c_X7_keeps l G hr hA) rfl rfl (by decide) (Nat.le_refl _) (by omega) (Nat.le_of_ble_eq_true rfl) dX7_read_25 (fun I9 L9 X9 hp9 => ?_)
      obtain ⟨hr9, hF9, rfl⟩ := hp9
      have hk := RM.kept hr9
      have hm9 := hk.mf
      refine q_aload_n hM dX7_read_28 rfl ?_
      refine q_iload_n hM dX7_read_29 rfl ?_
      refine q_iload_n hM dX7_read_30 rfl ?_
      refine q_iload_n hM dX7_read_31 rfl ?_
      refine q_iload hM dX7_read_32 rfl ?_
      refine callV_v hM mi_X7_reads lk_X7_67 cf_X7 (by decide) (by decide) (c_X7_reads l G hR hm9 hP j hj i o c c18.1 c18.2.1) rfl rfl (by decide) (Nat.le_refl _) (by omega) (Nat.le_of_ble_eq_true rfl) dX7_read_34 (fun I9 L9 X9 hp9 => ?_)
      obtain ⟨rfl, rfl, rfl⟩ := hp9
      have hk1 := hk.setI (i := 19 + 7 * j + 5) (by omega) (sJud (aF A) j i o c)
      have hk2 := hk1.setI (i := 19 + 7 * j + 6) (by omega) (aF A 5)
      have hm2 := hk2.mf
      refine q_aload_n hM dX7_read_37 rfl ?_
      refine q_iload_n hM dX7_read_38 rfl ?_
      refine q_iconst (v := 5) hM dX7_read_39 (by decide) ?_
      refine callVe_i hM mi_X7_of lk_X7_39 cf_X7 (by decide) (by decide) (c_X7_of l G hR hm2 j 5 (by omega) (by decide)) rfl rfl (by decide) (Nat.le_refl _) (by omega) (Nat.le_of_ble_eq_true rfl) dX7_read_40 ?_
      exact hret _ _ _ _ _ _ ⟨by unfold rJudge; rw [if_pos c5, if_pos c18.1, if_pos c18.2.1, if_pos c18.2.2, hcj]; exact (va_up_ne _ _ (by omega)).trans (va_up_self _ _ _), by unfold sRead; rw [if_pos c5, if_pos c18.1, if_pos c18.2.1, if_pos c18.2.2, hcj]; exact hk2, ((hF9).put (by decide)).put (by decide)⟩ dX7_read_43
    · refine q_bipush (v := -3) hM dX7_read_21 (by decide) ?_
      exact hret _ _ _ _ _ _ ⟨(jud_bad c5 c18).1.symm, by rw [(jud_bad c5 c18).2]; exact hr, FrC.rf⟩ dX7_read_23
  · refine q_bipush (v := -2) hM dX7_read_8 (by decide) ?_
    exact hret _ _ _ _ _ _ ⟨by unfold rJudge; skip; (try (first | rw [if_pos c5] | rw [if_neg c5])); try rfl, by unfold sRead; skip; (try (first | rw [if_pos c5] | rw [if_neg c5])); exact hr, FrC.rf⟩ dX7_read_10
set_option maxHeartbeats 4000000 in
set_option maxRecDepth 100000 in
theorem c_X7_pass (l : Launch) (G : kG) {I : kI} {L : kL} {X : kX} {A : kA} (hr : RM I L X A) (hA : AInv A) (d : Int32)  : Ki l yX7_pass cX7_pass 3 3 G [.ref (ad G 153), .int d] 159 159 I L X (fun v I' L' X' => v = rPass A d ∧ RM I' L' X' (sPass A d) ∧ FrC I I' L L' X X') := by
  refine Ki_intro (own := RX7) (lv0 := [some (.ref (ad G 153)), some (.int d), none]) 1 (by decide +kernel) rfl rfl (Nat.le_of_ble_eq_true rfl) (Nat.le_refl _) (fun J hM hret => ?_)
  have hR := hr.1
  have hm := hr.m
  have hP := hA.f
  have hn := hP.nT
  have hn8 := hP.nL
  refine q_iload_n hM dX7_pass_0 rfl ?_
  refine q_iconst (v := 1) hM dX7_pass_1 (by decide) ?_
  refine q_bipush (v := 100) hM dX7_pass_2 (by decide) ?_
  refine callSe_z hM mi_X7_in lk_X7_35 (c_X7_in l G _ _ _) rfl rfl (by decide) (Nat.le_refl _) (by omega) (Nat.le_of_ble_eq_true rfl) dX7_pass_4 ?_
  refine q_ifd_ne (tgt := 13) hM dX7_pass_7 (by decide) (fun c7 => ?_) (fun c7 => ?_)
  · refine q_aload_n hM dX7_pass_13 rfl ?_
    refine g_X7_7 hM (by decide) (by decide) hR.m0 dX7_pass_14 ?_
    refine q_iconst (v := 5) hM dX7_pass_17 (by decide) ?_
    refine q_row hM hm 5 rfl (by decide) (by decide) dX7_pass_18 ?_
    refine q_iload_n hM dX7_pass_19 rfl ?_
    refine q_iadd hM dX7_pass_20 ?_
    refine q_sipush (v := 10000) hM dX7_pass_21 (by decide) ?_
    refine q_icmp_le (tgt := 30) hM dX7_pass_24 (by decide) (fun c24 => ?_) (fun c24 => ?_)
    · have h5 : ¬ 10000 < aF A 5 + d := Int32.not_lt.mpr c24
      refine q_aload_n hM dX7_pass_30 rfl ?_
      refine callV_v hM mi_X7_keeps lk_X7_47 cf_X7 (by decide) (by decide) (c_X7_keeps l G hr hA) rfl rfl (by decide) (Nat.le_refl _) (by omega) (Nat.le_of_ble_eq_true rfl) dX7_pass_31 (fun I9 L9 X9 hp9 => ?_)
      obtain ⟨hr9, hF9, rfl⟩ := hp9
      have hk := RM.kept hr9
      have hm9 := hk.mf
      refine q_aload_n hM dX7_pass_34 rfl ?_
      refine g_X7_7 hM (by decide) (by decide) hR.m0 dX7_pass_35 ?_
      refine q_iconst (v := 5) hM dX7_pass_38 (by decide) ?_
      refine q_dup2 hM dX7_pass_39 rfl rfl ?_
      refine q_row hM hm9 5 rfl (by decide) (by decide) dX7_pass_40 ?_
      refine q_iload_n hM dX7_pass_41 rfl ?_
      refine q_iadd hM dX7_pass_42 ?_
      refine q_rowst hM (5) (rfl) (by decide) (by decide) dX7_pass_43 ?_
      have hk1 := hk.setI (i := 5) (by decide) (aF A 5 + d)
      have hm1 := hk1.mf
      refine q_iconst (v := 0) hM dX7_pass_44 (by decide) ?_
      refine si_3_2 hM dX7_pass_45 ?_
      have hP1 : PInv (va_up (aF A) 5 (aF A 5 + d)) := hP.upS (by decide) (by decide) ⟨fun q => absurd q (by decide), fun q => absurd q (by decide), fun q => absurd q (by decide), fun _ => pass_rng hP c7 h5⟩
      have e11 : va_up (aF A) 5 (aF A 5 + d) 1 = aF A 1 := va_up_ne _ _ (by decide)
      have e12 : va_up (aF A) 5 (aF A 5 + d) 2 = aF A 2 := va_up_ne _ _ (by decide)
      generalize hI1 : up2 I9 154 5 (aF A 5 + d) = I1 at hk1 hm1
      have loop : ∀ (k i : Nat) (L1 : kL), i ≤ cI (aF A 1) → cI (aF A 1) < i + k → RM I1 L1 X (setF (keepA A) (va_up (aF A) 5 (aF A 5 + d)) (fun u => if u < i then passG (aF A) (aG A) d u else aG A u)) → FrC I I1 L L1 X X → J 159 I1 L1 X 46 [some (.ref (ad G 153)), some (.int d), some (.int (nI i))] [] := by
        intro k
        induction k with
        | zero => intros; omega
        | succ k ih =>
          intro i L1 h1 h2 hk2 hF2
          have hm2 := hk2.mf
          refine q_iload_n hM dX7_pass_46 rfl ?_
          refine q_aload_n hM dX7_pass_47 rfl ?_
          refine g_X7_7 hM (by decide) (by decide) hR.m0 dX7_pass_48 ?_
          refine q_iconst (v := 1) hM dX7_pass_51 (by decide) ?_
          refine q_row hM hm2 (1) (rfl) (by decide) (by decide) dX7_pass_52 ?_
          refine q_topi (aF A 1) (e11) ?_
          refine q_icmp_geN (tgt := 88) hM i (cI (aF A 1)) rfl hP.e1 (by omega) (by omega) dX7_pass_53 (by decide) (fun c53 => ?_) (fun c53 => ?_)
          · obtain rfl : i = cI (aF A 1) := by omega
            refine q_aload_n hM dX7_pass_88 rfl ?_
            refine g_X7_7 hM (by decide) (by decide) hR.m0 dX7_pass_89 ?_
            refine q_iconst (v := 5) hM dX7_pass_92 (by decide) ?_
            refine q_row hM hm2 (5) (rfl) (by decide) (by decide) dX7_pass_93 ?_
            refine q_topi (aF A 5 + d) (va_up_self _ _ _) ?_
            refine hret _ _ _ _ _ _ ⟨by unfold rPass; rw [if_pos c7, if_neg h5], ?_, hF2⟩ dX7_pass_94
            unfold sPass; rw [if_pos c7, if_neg h5]
            refine hk2.gcong (fun t ht => ?_)
            by_cases h3 : t < cI (aF A 1)
            · rw [if_pos h3]
            · rw [if_neg h3]; unfold passG; rw [if_neg h3]
          · refine q_aload_n hM dX7_pass_56 rfl ?_
            refine g_X7_13 hM (by decide) (by decide) hR.m1 dX7_pass_57 ?_
            refine q_iload_n hM dX7_pass_60 rfl ?_
            refine q_dup2 hM dX7_pass_61 rfl rfl ?_
            refine q_lo hM hm2 i rfl (by omega) (by decide) dX7_pass_62 ?_
            refine q_topl (aG A i) (if_neg (Nat.lt_irrefl i)) ?_
            refine q_aload_n hM dX7_pass_63 rfl ?_
            refine q_iload_n hM dX7_pass_64 rfl ?_
            refine callVe_i hM mi_X7_lossOf lk_X7_71 cf_X7 (by decide) (by decide) (c_X7_lossOf l G hR hm2 hP1 i (by rw [e11]; exact c53)) rfl rfl (by decide) (Nat.le_refl _) (by omega) (Nat.le_of_ble_eq_true rfl) dX7_pass_65 ?_
            refine q_topi (sLoss (aF A) i) (sLoss_up5 i) ?_
            refine q_i2l hM dX7_pass_68 ?_
            refine q_aload_n hM dX7_pass_69 rfl ?_
            refine g_X7_7 hM (by decide) (by decide) hR.m0 dX7_pass_70 ?_
            refine q_iconst (v := 2) hM dX7_pass_73 (by decide) ?_
            refine q_row hM hm2 (2) (rfl) (by decide) (by decide) dX7_pass_74 ?_
            refine q_topi (aF A 2) (e12) ?_
            refine q_i2l hM dX7_pass_75 ?_
            refine q_lmul hM dX7_pass_76 ?_
            refine q_iload_n hM dX7_pass_77 rfl ?_
            refine q_i2l hM dX7_pass_78 ?_
            refine q_lmul hM dX7_pass_79 ?_
            refine q_ladd hM dX7_pass_80 ?_
            refine q_lost hM i rfl (by omega) (by decide) dX7_pass_81 ?_
            have hk3 := hk2.setL (t := i) (by omega) (aG A i + (sLoss (aF A) i).toInt64 * (aF A 2).toInt64 * d.toInt64)
            refine sinc_3_2 hM dX7_pass_82 (inc1 i) ?_
            refine q_goto (tgt := 46) hM dX7_pass_85 (by decide) ?_
            refine ih (i + 1) _ (by omega) (by omega) (hk3.gcong (fun t _ => ?_)) (hF2.putL (by decide))
            by_cases hti : t = i
            · subst hti; rw [va_up_self, if_pos (by omega)]; unfold passG; rw [if_pos c53]
            · rw [va_up_ne _ _ hti]
              by_cases h3 : t < i
              · rw [if_pos h3, if_pos (by omega)]
              · rw [if_neg h3, if_neg (by omega)]
      have hF1 := hF9.put (r := 154) (j := 5) (v := aF A 5 + d) (by decide)
      rw [hI1] at hF1
      exact loop (cI (aF A 1) + 1) 0 L9 (Nat.zero_le _) (by omega) (hk1.gcong (fun t _ => by rw [if_neg (Nat.not_lt_zero t)])) hF1
    · have h5 : 10000 < aF A 5 + d := Int32.not_le.mp c24
      refine q_bipush (v := -5) hM dX7_pass_27 (by decide) ?_
      exact hret _ _ _ _ _ _ ⟨by unfold rPass; rw [if_pos c7, if_pos h5], by unfold sPass; rw [if_pos c7, if_pos h5]; exact hr, FrC.rf⟩ dX7_pass_29
  · refine q_bipush (v := -3) hM dX7_pass_10 (by decide) ?_
    exact hret _ _ _ _ _ _ ⟨by unfold rPass; skip; (try (first | rw [if_pos c7] | rw [if_neg c7])); try rfl, by unfold sPass; skip; (try (first | rw [if_pos c7] | rw [if_neg c7])); exact hr, FrC.rf⟩ dX7_pass_12
set_option maxHeartbeats 4000000 in
set_option maxRecDepth 100000 in
theorem c_X7_inState (l : Launch) (G : kG) {I : kI} {L : kL} {X : kX} {A : kA} (hr : RM I L X A) (hA : AInv A) (z : Int32)  : Ki l yX7_inState cX7_inState 4 1 G [.ref (ad G 153), .int z] 159 159 I L X (pE (rInState A z) I L X) := by
  refine Ki_intro (own := RX7) (lv0 := [some (.ref (ad G 153)), some (.int z), none, none]) 2 (by decide +kernel) rfl rfl (Nat.le_of_ble_eq_true rfl) (Nat.le_refl _) (fun J hM hret => ?_)
  have hR := hr.1
  have hm := hr.m
  have hP := hA.f
  have hn := hP.nT
  have hn8 := hP.nL
  generalize hh : (fun t => if sOf (aF A) t 5 = z then (1 : Int32) else 0) = h
  refine q_iload_n hM dX7_inState_0 rfl ?_
  refine q_iconst (v := 0) hM dX7_inState_1 (by decide) ?_
  refine q_iconst (v := 5) hM dX7_inState_2 (by decide) ?_
  refine callSe_z hM mi_X7_in lk_X7_35 (c_X7_in l G _ _ _) rfl rfl (by decide) (Nat.le_refl _) (by omega) (Nat.le_of_ble_eq_true rfl) dX7_inState_3 ?_
  refine q_ifd_ne (tgt := 12) hM dX7_inState_6 (by decide) (fun c6 => ?_) (fun c6 => ?_)
  · refine q_iconst (v := 0) hM dX7_inState_12 (by decide) ?_
    refine si_4_2 hM dX7_inState_13 ?_
    refine q_iconst (v := 0) hM dX7_inState_14 (by decide) ?_
    refine si_4_3 hM dX7_inState_15 ?_
    have loop : ∀ (k i : Nat), i ≤ cI (aF A 1) → cI (aF A 1) < i + k → J 159 I L X 16 [some (.ref (ad G 153)), some (.int z), some (.int (sSum h i)), some (.int (nI i))] [] := by
      intro k
      induction k with
      | zero => intro i; intros; omega
      | succ k ih =>
        intro i h1 h2
        refine q_iload_n hM dX7_inState_16 rfl ?_
        refine q_aload_n hM dX7_inState_17 rfl ?_
        refine g_X7_7 hM (by decide) (by decide) hR.m0 dX7_inState_18 ?_
        refine q_iconst (v := 1) hM dX7_inState_21 (by decide) ?_
        refine q_row hM hm 1 rfl (by decide) (by decide) dX7_inState_22 ?_
        refine q_icmp_geN (tgt := 50) hM i (cI (aF A 1)) rfl hP.e1 (by omega) (by omega) dX7_inState_23 (by decide) (fun c23 => ?_) (fun c23 => ?_)
        · obtain rfl : i = cI (aF A 1) := by omega
          refine q_iload_n hM dX7_inState_50 rfl ?_
          exact hret _ _ _ _ _ _ ⟨by unfold rInState; rw [if_pos c6, hh], rfl, rfl, rfl⟩ dX7_inState_51
        · refine q_iload_n hM dX7_inState_26 rfl ?_
          refine q_aload_n hM dX7_inState_27 rfl ?_
          refine q_iload_n hM dX7_inState_28 rfl ?_
          refine q_iconst (v := 5) hM dX7_inState_29 (by decide) ?_
          refine callVe_i hM mi_X7_of lk_X7_39 cf_X7 (by decide) (by decide) (c_X7_of l G hR hm i 5 (by omega) (by decide)) rfl rfl (by decide) (Nat.le_refl _) (by omega) (Nat.le_of_ble_eq_true rfl) dX7_inState_30 ?_
          refine q_iload_n hM dX7_inState_33 rfl ?_
          refine q_icmp_ne (tgt := 41) hM dX7_inState_34 (by decide) (fun c34 => ?_) (fun c34 => ?_)
          · have hs : sSum h (i + 1) = sSum h i + 0 := by rw [sSum, ← hh]; simp only; rw [if_neg c34]
            refine q_iconst (v := 0) hM dX7_inState_41 (by decide) ?_
            refine q_iadd hM dX7_inState_42 ?_
            rw [← hs]
            refine si_4_2 hM dX7_inState_43 ?_
            refine sinc_4_3 hM dX7_inState_44 (inc1 i) ?_
            refine q_goto (tgt := 16) hM dX7_inState_47 (by decide) ?_
            exact ih (i + 1) (by omega) (by omega)
          · have hs : sSum h (i + 1) = sSum h i + (1) := by rw [sSum, ← hh]; simp only; rw [if_pos c34]
            refine q_iconst (v := 1) hM dX7_inState_37 (by decide) ?_
            refine q_goto (tgt := 42) hM dX7_inState_38 (by decide) ?_
            refine q_iadd hM dX7_inState_42 ?_
            rw [← hs]
            refine si_4_2 hM dX7_inState_43 ?_
            refine sinc_4_3 hM dX7_inState_44 (inc1 i) ?_
            refine q_goto (tgt := 16) hM dX7_inState_47 (by decide) ?_
            exact ih (i + 1) (by omega) (by omega)
    exact loop (cI (aF A 1) + 1) 0 (Nat.zero_le _) (by omega)
  · refine q_bipush (v := -3) hM dX7_inState_9 (by decide) ?_
    exact hret _ _ _ _ _ _ ⟨(by unfold rInState; skip; (try (first | rw [if_pos c6] | rw [if_neg c6])); (first | rfl | (rw [hcj]; done) | (rw [hcj]; rfl) | skip)), rfl, rfl, rfl⟩ dX7_inState_11
