/-! ===== the class's calls ===== -/
theorem st_ge2 {x : Int32} (h : inR 0 x 5) (h0 : ¬ x = 0) (h1 : ¬ x = 1) : ¬ x < 2 := by
  unfold inR at h
  rw [eq_i, i0] at h0
  rw [eq_i, show (1 : Int32).toInt = 1 from rfl] at h1
  rw [lt_i, show (2 : Int32).toInt = 2 from rfl]
  omega
theorem mendF_cost {I : kI} {L : kL} {f : Fr} {g : Gr} {j : Nat} (hS : Sm I L 1 (mendF f j) g) (hj : j < cI (f 1)) : costQ (I (5 + j) 1) (I (5 + j) 2) = sCost f j := by
  have e1 : mendF f j 1 = f 1 := by unfold mendF; rw [va_up_ne _ _ (by decide), va_up_ne _ _ (by decide), va_up_ne _ _ (by omega)]
  have hj' : j < cI (mendF f j 1) := by rw [e1]; exact hj
  rw [hS.tr hj' (by decide), hS.tr hj' (by decide)]
  unfold sCost sOf mendF
  rw [va_up_ne _ _ (by omega), va_up_ne _ _ (by omega), va_up_ne _ _ (by omega), va_up_ne _ _ (by omega), va_up_ne _ _ (by omega), va_up_ne _ _ (by omega)]
theorem RC.typed {I : kI} {L : kL} {X : kX} {A : kA} (hC : RC I L X A) (hA : AInv A) (h : aK A < 100) (c : Int32) : RC (up2 (up2 I 131 (aK A) c) 130 2 (nI (aK A + 1))) L X (A.1, A.2.1, aN A, va_up (aT A) (aK A) c, aK A + 1) := by
  obtain ⟨pm, hH, hS, hT⟩ := hC
  have far : ∀ r, r < 130 → up2 (up2 I 131 (aK A) c) 130 2 (nI (aK A + 1)) r = I r := fun r hr => (up2_row (by omega)).trans (up2_row (by omega))
  refine ⟨pm, ?_, hS.frame hA.f.nT (fun r r1 r2 => ⟨far r (by omega), rfl⟩), up2_self _ _ _ _, fun j hj => ?_⟩
  · exact hH.frame hA (fun r r1 r2 => ⟨far r (by omega), rfl⟩) rfl
  · show up2 (up2 I 131 (aK A) c) 130 2 (nI (aK A + 1)) 131 j = va_up (aT A) (aK A) c j
    rw [up2_ne (by omega)]
    by_cases hjk : j = aK A
    · subst hjk
      rw [up2_self, va_up_self]
    · rw [up2_ne (by omega), va_up_ne _ _ hjk]
      have hj' : j < aK A + 1 := hj
      exact hT.2 j (by omega)
theorem RC.cleared {I : kI} {L : kL} {X : kX} {A : kA} (hC : RC I L X A) (hA : AInv A) : RC (up2 I 130 2 0) L X (sClear A) := by
  obtain ⟨pm, hH, hS, hT⟩ := hC
  have far : ∀ r, r < 130 → up2 I 130 2 0 r = I r := fun r hr => up2_row (by omega)
  refine ⟨pm, ?_, hS.frame hA.f.nT (fun r r1 r2 => ⟨far r (by omega), rfl⟩), up2_self _ _ _ _, fun j hj => absurd hj (Nat.not_lt_zero j)⟩
  exact hH.frame hA (fun r r1 r2 => ⟨far r (by omega), rfl⟩) rfl
theorem RC.undone {I I' : kI} {L L' : kL} {X : kX} {A : kA} (hC : RC I L X A) (hA : AInv A) (hpos : 0 < aN A) (hf : ∀ r, (r = 0 ∨ 21 < r) → I' r = I r ∧ L' r = L r) (hn : I' 21 1 = nI (aN A - 1)) (hS : Sm I' L' 1 (A.1 (aN A)) (A.2.1 (aN A))) : RC I' L' X (va_up A.1 0 (A.1 (aN A)), va_up A.2.1 0 (A.2.1 (aN A)), aN A - 1, A.2.2.2) := by
  obtain ⟨pm, ⟨h1, h2, h3, h4⟩, -, hT⟩ := hC
  have hn5 := hA.1
  refine ⟨pm, ⟨h1, h2, hn, fun i hi => ?_⟩, ?_, ?_, fun j hj => ?_⟩
  · have hi' : i < aN A - 1 := hi
    show Sm I' L' (pm i) (va_up A.1 0 (A.1 (aN A)) (i + 1)) (va_up A.2.1 0 (A.2.1 (aN A)) (i + 1))
    rw [va_up_ne _ _ (by omega), va_up_ne _ _ (by omega)]
    refine (h4 i (by omega)).frame (hA.2.2 _ (by omega)).nT (fun r r1 r2 => hf r ?_)
    have := h2.rng (i := i) (by omega)
    omega
  · show Sm I' L' 1 (va_up A.1 0 (A.1 (aN A)) 0) (va_up A.2.1 0 (A.2.1 (aN A)) 0)
    rw [va_up_self, va_up_self]
    exact hS
  · rw [(hf 130 (by omega)).1]; exact hT.1
  · rw [(hf 131 (by omega)).1]; exact hT.2 j hj

set_option maxHeartbeats 4000000 in
set_option maxRecDepth 100000 in
theorem c_X6_setPressure (l : Launch) (G : kG) {I : kI} {L : kL} {X : kX} {A : kA} (hC : RC I L X A) (hA : AInv A) (h p : Int32)  : Ki l yX6_setPressure cX6_setPressure 4 3 G [.ref (ad G 0), .int h, .int p] 153 153 I L X (fun v I' L' X' => v = rSetPressure A h p ∧ RC I' L' X' (sSetPressure A h p) ∧ FrM I I' L L' X X') := by
  refine Ki_intro (own := RX6) (lv0 := [some (.ref (ad G 0)), some (.int h), some (.int p), none]) 1 (by decide +kernel) rfl rfl (Nat.le_of_ble_eq_true rfl) (Nat.le_refl _) (fun J hM hret => ?_)
  obtain ⟨pm, hH, hS, hT⟩ := id hC
  have hR := hH.1
  have hP := hA.f
  have hn := hP.nT
  have hn8 := hP.nL
  refine q_aload_n hM dX6_setPressure_0 rfl ?_
  refine g_X6_10 hM (by decide) (by decide) hR.x0 dX6_setPressure_1 ?_
  refine q_iload_n hM dX6_setPressure_4 rfl ?_
  refine callVe_z hM mi_X1_hasHeader lk_X6_44 cf_X1 (by decide) (by decide) (c_X1_hasHeader l G _) rfl rfl (by decide) (Nat.le_refl _) (by omega) (Nat.le_of_ble_eq_true rfl) dX6_setPressure_5 ?_
  refine q_ifd_ne (tgt := 14) hM dX6_setPressure_8 (by decide) (fun c8 => ?_) (fun c8 => ?_)
  · refine q_iload_n hM dX6_setPressure_14 rfl ?_
    refine q_iconst (v := 1) hM dX6_setPressure_15 (by decide) ?_
    refine q_bipush (v := 20) hM dX6_setPressure_16 (by decide) ?_
    refine callSe_z hM mi_X6_isWithin lk_X6_48 (c_X6_isWithin l G _ _ _) rfl rfl (by decide) (Nat.le_refl _) (by omega) (Nat.le_of_ble_eq_true rfl) dX6_setPressure_18 ?_
    refine q_ifd_ne (tgt := 27) hM dX6_setPressure_21 (by decide) (fun c21 => ?_) (fun c21 => ?_)
    · refine q_aload_n hM dX6_setPressure_27 rfl ?_
      refine g_X6_19 hM (by decide) (by decide) hR.x1 dX6_setPressure_28 ?_
      refine q_aload_n hM dX6_setPressure_31 rfl ?_
      refine g_X6_10 hM (by decide) (by decide) hR.x0 dX6_setPressure_32 ?_
      refine callV_v hM mi_X0_keep lk_X6_52 cf_X0 (by decide) (by decide) (c_X0_keep l G hH hS hA) rfl rfl (by decide) (Nat.le_refl _) (by omega) (Nat.le_of_ble_eq_true rfl) dX6_setPressure_35 (fun I9 L9 X9 hp9 => ?_)
      have hk := hp9
      have hS9 := hk.sm hA hS
      have hR9 := hk.1.choose_spec.1
      refine q_aload_n hM dX6_setPressure_38 rfl ?_
      refine g_X6_10 hM (by decide) (by decide) hR9.x0 dX6_setPressure_39 ?_
      refine g_X6_56 hM (by decide) (by decide) hR9.p0 dX6_setPressure_42 ?_
      refine q_iload_n hM dX6_setPressure_45 rfl ?_
      refine q_iald (r := 2) hM (by decide) (by decide) (cI h) (hdrYes c8).1 (hdrYes c8).2 dX6_setPressure_46 ?_
      refine q_topi (aF A (8 + cI h)) (hS9.pr (hdrYes c8).2) ?_
      refine si_4_3 hM dX6_setPressure_47 ?_
      refine q_aload_n hM dX6_setPressure_48 rfl ?_
      refine g_X6_10 hM (by decide) (by decide) hR9.x0 dX6_setPressure_49 ?_
      refine g_X6_56 hM (by decide) (by decide) hR9.p0 dX6_setPressure_52 ?_
      refine q_iload_n hM dX6_setPressure_55 rfl ?_
      refine q_iload_n hM dX6_setPressure_56 rfl ?_
      refine q_iast (r := 2) hM (by decide) (by decide) (cI h) (hdrYes c8).1 (hdrYes c8).2 dX6_setPressure_57 ?_
      refine q_iload_n hM dX6_setPressure_58 rfl ?_
      have hd := RC.done hk hA hT (hS9.setP (hdrYes c8).2 p) (Fr1.rf.put (by decide) (by decide)) rfl
      exact hret _ _ _ _ _ _ ⟨by unfold rSetPressure; skip; (try (first | rw [if_pos c8] | rw [if_neg c8])); (try (first | rw [if_pos c21] | rw [if_neg c21])); try rfl, by unfold sSetPressure; skip; (try (first | rw [if_pos c8] | rw [if_neg c8])); (try (first | rw [if_pos c21] | rw [if_neg c21])); exact hd.1, hd.2⟩ dX6_setPressure_59
    · refine q_bipush (v := -3) hM dX6_setPressure_24 (by decide) ?_
      exact hret _ _ _ _ _ _ ⟨by unfold rSetPressure; skip; (try (first | rw [if_pos c8] | rw [if_neg c8])); (try (first | rw [if_pos c21] | rw [if_neg c21])); try rfl, by unfold sSetPressure; skip; (try (first | rw [if_pos c8] | rw [if_neg c8])); (try (first | rw [if_pos c21] | rw [if_neg c21])); exact hC, FrM.rf⟩ dX6_setPressure_26
  · refine q_bipush (v := -2) hM dX6_setPressure_11 (by decide) ?_
    exact hret _ _ _ _ _ _ ⟨by unfold rSetPressure; skip; (try (first | rw [if_pos c8] | rw [if_neg c8])); try rfl, by unfold sSetPressure; skip; (try (first | rw [if_pos c8] | rw [if_neg c8])); exact hC, FrM.rf⟩ dX6_setPressure_13
set_option maxHeartbeats 4000000 in
set_option maxRecDepth 100000 in
theorem c_X6_addLine (l : Launch) (G : kG) {I : kI} {L : kL} {X : kX} {A : kA} (hC : RC I L X A) (hA : AInv A) (h : Int32)  : Ki l yX6_addLine cX6_addLine 3 3 G [.ref (ad G 0), .int h] 153 153 I L X (fun v I' L' X' => v = rAddLine A h ∧ RC I' L' X' (sAddLine A h) ∧ FrM I I' L L' X X') := by
  refine Ki_intro (own := RX6) (lv0 := [some (.ref (ad G 0)), some (.int h), none]) 1 (by decide +kernel) rfl rfl (Nat.le_of_ble_eq_true rfl) (Nat.le_refl _) (fun J hM hret => ?_)
  obtain ⟨pm, hH, hS, hT⟩ := id hC
  have hR := hH.1
  have hP := hA.f
  have hn := hP.nT
  have hn8 := hP.nL
  refine q_aload_n hM dX6_addLine_0 rfl ?_
  refine g_X6_10 hM (by decide) (by decide) hR.x0 dX6_addLine_1 ?_
  refine q_iload_n hM dX6_addLine_4 rfl ?_
  refine callVe_z hM mi_X1_hasHeader lk_X6_44 cf_X1 (by decide) (by decide) (c_X1_hasHeader l G _) rfl rfl (by decide) (Nat.le_refl _) (by omega) (Nat.le_of_ble_eq_true rfl) dX6_addLine_5 ?_
  refine q_ifd_ne (tgt := 14) hM dX6_addLine_8 (by decide) (fun c8 => ?_) (fun c8 => ?_)
  · refine q_aload_n hM dX6_addLine_14 rfl ?_
    refine g_X6_10 hM (by decide) (by decide) hR.x0 dX6_addLine_15 ?_
    refine g_X6_60 hM (by decide) (by decide) dX6_addLine_18 ?_
    refine q_bipush (v := 8) hM dX6_addLine_21 (by decide) ?_
    refine q_icmp_ltN (tgt := 29) hM (cI (aF A 0)) 8 (hS.a0.trans hP.e0) rfl (by omega) (by omega) dX6_addLine_23 (by decide) (fun c23 => ?_) (fun c23 => ?_)
    · have h8 : ¬ aF A 0 = 8 := by rw [hP.e0]; intro q; rw [show (8 : Int32) = nI 8 from rfl, nI_eq (by omega) (by decide)] at q; omega
      refine q_aload_n hM dX6_addLine_29 rfl ?_
      refine g_X6_19 hM (by decide) (by decide) hR.x1 dX6_addLine_30 ?_
      refine q_aload_n hM dX6_addLine_33 rfl ?_
      refine g_X6_10 hM (by decide) (by decide) hR.x0 dX6_addLine_34 ?_
      refine callV_v hM mi_X0_keep lk_X6_52 cf_X0 (by decide) (by decide) (c_X0_keep l G hH hS hA) rfl rfl (by decide) (Nat.le_refl _) (by omega) (Nat.le_of_ble_eq_true rfl) dX6_addLine_37 (fun I9 L9 X9 hp9 => ?_)
      have hk := hp9
      have hS9 := hk.sm hA hS
      have hR9 := hk.1.choose_spec.1
      refine q_aload_n hM dX6_addLine_40 rfl ?_
      refine g_X6_10 hM (by decide) (by decide) hR9.x0 dX6_addLine_41 ?_
      refine g_X6_60 hM (by decide) (by decide) dX6_addLine_44 ?_
      refine q_topi (aF A 0) hS9.a0 ?_
      refine si_3_2 hM dX6_addLine_47 ?_
      refine q_aload_n hM dX6_addLine_48 rfl ?_
      refine g_X6_10 hM (by decide) (by decide) hR9.x0 dX6_addLine_49 ?_
      refine g_X6_64 hM (by decide) (by decide) hR9.p1 dX6_addLine_52 ?_
      refine q_iload_n hM dX6_addLine_55 rfl ?_
      refine q_iload_n hM dX6_addLine_56 rfl ?_
      refine q_iast (r := 3) hM (by decide) (by decide) (cI (aF A 0)) hP.e0 (show cI (aF A 0) < 8 by omega) dX6_addLine_57 ?_
      have hS2 := hS9.addL hP c23 h
      have e0 : up2 I9 3 (cI (aF A 0)) h 1 3 = aF A 0 := (up2_ne (Or.inl (by decide))).trans hS9.a0
      refine q_aload_n hM dX6_addLine_58 rfl ?_
      refine g_X6_10 hM (by decide) (by decide) hR9.x0 dX6_addLine_59 ?_
      refine q_dup hM dX6_addLine_62 rfl ?_
      refine g_X6_60 hM (by decide) (by decide) dX6_addLine_63 ?_
      refine q_topi (aF A 0) e0 ?_
      refine q_iconst (v := 1) hM dX6_addLine_66 (by decide) ?_
      refine q_iadd hM dX6_addLine_67 ?_
      refine p_X6_60 hM (by decide) (by decide) dX6_addLine_68 ?_
      refine q_iload_n hM dX6_addLine_71 rfl ?_
      have hd := RC.done hk hA hT hS2 ((Fr1.rf.put (by decide) (by decide)).put (by decide) (by decide)) rfl
      exact hret _ _ _ _ _ _ ⟨by unfold rAddLine; rw [if_pos c8, if_neg h8], by unfold sAddLine; rw [if_pos c8, if_neg h8]; exact hd.1, hd.2⟩ dX6_addLine_72
    · have h8 : aF A 0 = 8 := by rw [hP.e0, show cI (aF A 0) = 8 by omega]; rfl
      refine q_bipush (v := -5) hM dX6_addLine_26 (by decide) ?_
      exact hret _ _ _ _ _ _ ⟨by unfold rAddLine; rw [if_pos c8, if_pos h8], by unfold sAddLine; rw [if_pos c8, if_pos h8]; exact hC, FrM.rf⟩ dX6_addLine_28
  · refine q_bipush (v := -2) hM dX6_addLine_11 (by decide) ?_
    exact hret _ _ _ _ _ _ ⟨by unfold rAddLine; skip; (try (first | rw [if_pos c8] | rw [if_neg c8])); try rfl, by unfold sAddLine; skip; (try (first | rw [if_pos c8] | rw [if_neg c8])); exact hC, FrM.rf⟩ dX6_addLine_13
set_option maxHeartbeats 4000000 in
set_option maxRecDepth 100000 in
theorem c_X6_addTrap (l : Launch) (G : kG) {I : kI} {L : kL} {X : kX} {A : kA} (hC : RC I L X A) (hA : AInv A) (a k z x y : Int32)  : Ki l yX6_addTrap cX6_addTrap 7 3 G [.ref (ad G 0), .int a, .int k, .int z, .int x, .int y] 153 153 I L X (fun v I' L' X' => v = rAddTrap A a k z x y ∧ RC I' L' X' (sAddTrap A a k z x y) ∧ FrM I I' L L' X X') := by
  refine Ki_intro (own := RX6) (lv0 := [some (.ref (ad G 0)), some (.int a), some (.int k), some (.int z), some (.int x), some (.int y), none]) 1 (by decide +kernel) rfl rfl (Nat.le_of_ble_eq_true rfl) (Nat.le_refl _) (fun J hM hret => ?_)
  obtain ⟨pm, hH, hS, hT⟩ := id hC
  have hR := hH.1
  have hP := hA.f
  have hn := hP.nT
  have hn8 := hP.nL
  refine q_aload_n hM dX6_addTrap_0 rfl ?_
  refine g_X6_10 hM (by decide) (by decide) hR.x0 dX6_addTrap_1 ?_
  refine q_iload_n hM dX6_addTrap_4 rfl ?_
  refine callVe_z hM mi_X1_hasLine lk_X6_67 cf_X1 (by decide) (by decide) (c_X1_hasLine l G hR hS hP _) rfl rfl (by decide) (Nat.le_refl _) (by omega) (Nat.le_of_ble_eq_true rfl) dX6_addTrap_5 ?_
  refine q_ifd_ne (tgt := 14) hM dX6_addTrap_8 (by decide) (fun c8 => ?_) (fun c8 => ?_)
  · refine q_iload_n hM dX6_addTrap_14 rfl ?_
    refine q_iconst (v := 0) hM dX6_addTrap_15 (by decide) ?_
    refine q_iconst (v := 2) hM dX6_addTrap_16 (by decide) ?_
    refine callSe_z hM mi_X6_isWithin lk_X6_48 (c_X6_isWithin l G _ _ _) rfl rfl (by decide) (Nat.le_refl _) (by omega) (Nat.le_of_ble_eq_true rfl) dX6_addTrap_17 ?_
    refine q_ifd_eq (tgt := 55) hM dX6_addTrap_20 (by decide) (fun c20 => ?_) (fun c20 => ?_)
    · refine q_bipush (v := -3) hM dX6_addTrap_55 (by decide) ?_
      exact hret _ _ _ _ _ _ ⟨by unfold rAddTrap; skip; (try (first | rw [if_pos c8] | rw [if_neg c8])); (try (first | rw [if_pos c20] | rw [if_neg c20])); try rfl, by unfold sAddTrap; skip; (try (first | rw [if_pos c8] | rw [if_neg c8])); (try (first | rw [if_pos c20] | rw [if_neg c20])); exact hC, FrM.rf⟩ dX6_addTrap_57
    · refine q_iload_n hM dX6_addTrap_23 rfl ?_
      refine q_iconst (v := 1) hM dX6_addTrap_24 (by decide) ?_
      refine q_bipush (v := 9) hM dX6_addTrap_25 (by decide) ?_
      refine callSe_z hM mi_X6_isWithin lk_X6_48 (c_X6_isWithin l G _ _ _) rfl rfl (by decide) (Nat.le_refl _) (by omega) (Nat.le_of_ble_eq_true rfl) dX6_addTrap_27 ?_
      refine q_ifd_eq (tgt := 55) hM dX6_addTrap_30 (by decide) (fun c30 => ?_) (fun c30 => ?_)
      · refine q_bipush (v := -3) hM dX6_addTrap_55 (by decide) ?_
        exact hret _ _ _ _ _ _ ⟨by unfold rAddTrap; skip; (try (first | rw [if_pos c8] | rw [if_neg c8])); (try (first | rw [if_pos c20] | rw [if_neg c20])); (try (first | rw [if_pos c30] | rw [if_neg c30])); try rfl, by unfold sAddTrap; skip; (try (first | rw [if_pos c8] | rw [if_neg c8])); (try (first | rw [if_pos c20] | rw [if_neg c20])); (try (first | rw [if_pos c30] | rw [if_neg c30])); exact hC, FrM.rf⟩ dX6_addTrap_57
      · refine q_iload hM dX6_addTrap_33 rfl ?_
        refine q_iconst (v := 0) hM dX6_addTrap_35 (by decide) ?_
        refine q_bipush (v := 50) hM dX6_addTrap_36 (by decide) ?_
        refine callSe_z hM mi_X6_isWithin lk_X6_48 (c_X6_isWithin l G _ _ _) rfl rfl (by decide) (Nat.le_refl _) (by omega) (Nat.le_of_ble_eq_true rfl) dX6_addTrap_38 ?_
        refine q_ifd_eq (tgt := 55) hM dX6_addTrap_41 (by decide) (fun c41 => ?_) (fun c41 => ?_)
        · refine q_bipush (v := -3) hM dX6_addTrap_55 (by decide) ?_
          exact hret _ _ _ _ _ _ ⟨by unfold rAddTrap; skip; (try (first | rw [if_pos c8] | rw [if_neg c8])); (try (first | rw [if_pos c20] | rw [if_neg c20])); (try (first | rw [if_pos c30] | rw [if_neg c30])); (try (first | rw [if_pos c41] | rw [if_neg c41])); try rfl, by unfold sAddTrap; skip; (try (first | rw [if_pos c8] | rw [if_neg c8])); (try (first | rw [if_pos c20] | rw [if_neg c20])); (try (first | rw [if_pos c30] | rw [if_neg c30])); (try (first | rw [if_pos c41] | rw [if_neg c41])); exact hC, FrM.rf⟩ dX6_addTrap_57
        · refine q_iload hM dX6_addTrap_44 rfl ?_
          refine q_iconst (v := 0) hM dX6_addTrap_46 (by decide) ?_
          refine q_bipush (v := 50) hM dX6_addTrap_47 (by decide) ?_
          refine callSe_z hM mi_X6_isWithin lk_X6_48 (c_X6_isWithin l G _ _ _) rfl rfl (by decide) (Nat.le_refl _) (by omega) (Nat.le_of_ble_eq_true rfl) dX6_addTrap_49 ?_
          refine q_ifd_ne (tgt := 58) hM dX6_addTrap_52 (by decide) (fun c52 => ?_) (fun c52 => ?_)
          · refine q_aload_n hM dX6_addTrap_58 rfl ?_
            refine g_X6_10 hM (by decide) (by decide) hR.x0 dX6_addTrap_59 ?_
            refine g_X6_70 hM (by decide) (by decide) dX6_addTrap_62 ?_
            refine q_bipush (v := 16) hM dX6_addTrap_65 (by decide) ?_
            refine q_icmp_ltN (tgt := 73) hM (cI (aF A 1)) 16 (hS.a1.trans hP.e1) rfl (by omega) (by omega) dX6_addTrap_67 (by decide) (fun c67 => ?_) (fun c67 => ?_)
            · have h16 : ¬ aF A 1 = 16 := by rw [hP.e1]; intro q; rw [show (16 : Int32) = nI 16 from rfl, nI_eq (by omega) (by decide)] at q; omega
              refine q_aload_n hM dX6_addTrap_73 rfl ?_
              refine g_X6_19 hM (by decide) (by decide) hR.x1 dX6_addTrap_74 ?_
              refine q_aload_n hM dX6_addTrap_77 rfl ?_
              refine g_X6_10 hM (by decide) (by decide) hR.x0 dX6_addTrap_78 ?_
              refine callV_v hM mi_X0_keep lk_X6_52 cf_X0 (by decide) (by decide) (c_X0_keep l G hH hS hA) rfl rfl (by decide) (Nat.le_refl _) (by omega) (Nat.le_of_ble_eq_true rfl) dX6_addTrap_81 (fun I9 L9 X9 hp9 => ?_)
              have hk := hp9
              have hS9 := hk.sm hA hS
              have hR9 := hk.1.choose_spec.1
              refine q_aload_n hM dX6_addTrap_84 rfl ?_
              refine g_X6_10 hM (by decide) (by decide) hR9.x0 dX6_addTrap_85 ?_
              refine g_X6_70 hM (by decide) (by decide) dX6_addTrap_88 ?_
              refine q_topi (aF A 1) hS9.a1 ?_
              refine si_7_6 hM dX6_addTrap_91 ?_
              refine q_aload_n hM dX6_addTrap_93 rfl ?_
              refine g_X6_10 hM (by decide) (by decide) hR9.x0 dX6_addTrap_94 ?_
              refine g_X6_73 hM (by decide) (by decide) hR9.p2 dX6_addTrap_97 ?_
              refine q_iload hM dX6_addTrap_100 rfl ?_
              refine q_aald (r := 4) hM (by decide) 12 (by decide) (Or.inr (Or.inl rfl)) (cI (aF A 1)) hP.e1 (show cI (aF A 1) < 16 by omega) (hR9.pt (by omega)) dX6_addTrap_102 ?_
              refine q_iload_n hM dX6_addTrap_103 rfl ?_
              refine q_iload_n hM dX6_addTrap_104 rfl ?_
              refine q_iload_n hM dX6_addTrap_105 rfl ?_
              refine q_iload hM dX6_addTrap_106 rfl ?_
              refine q_iload hM dX6_addTrap_108 rfl ?_
              refine callV_v hM mi_X5_install lk_X6_77 cf_X5 (ltT (t := cI (aF A 1)) (by omega)) (kdT (t := cI (aF A 1)) (by omega)) (c_X5_install l G (cI (aF A 1)) (by omega) a k z x y) rfl rfl (by decide) (Nat.le_refl _) (by omega) (Nat.le_of_ble_eq_true rfl) dX6_addTrap_110 (fun I9 L9 X9 hp9 => ?_)
              obtain ⟨rfl, rfl, rfl⟩ := hp9
              have hS2 := hS9.addT hP c67 a k z x y
              have e1 : up2 (up2 (up2 (up2 (up2 I9 (5 + cI (aF A 1)) 0 a) (5 + cI (aF A 1)) 1 k) (5 + cI (aF A 1)) 2 z) (5 + cI (aF A 1)) 3 x) (5 + cI (aF A 1)) 4 y 1 4 = aF A 1 := by simp only [up2_row (show 1 ≠ 5 + cI (aF A 1) by omega)]; exact hS9.a1
              refine q_aload_n hM dX6_addTrap_113 rfl ?_
              refine g_X6_10 hM (by decide) (by decide) hR9.x0 dX6_addTrap_114 ?_
              refine q_dup hM dX6_addTrap_117 rfl ?_
              refine g_X6_70 hM (by decide) (by decide) dX6_addTrap_118 ?_
              refine q_topi (aF A 1) e1 ?_
              refine q_iconst (v := 1) hM dX6_addTrap_121 (by decide) ?_
              refine q_iadd hM dX6_addTrap_122 ?_
              refine p_X6_70 hM (by decide) (by decide) dX6_addTrap_123 ?_
              refine q_iload hM dX6_addTrap_126 rfl ?_
              have hd := RC.done hk hA hT hS2 ((((((Fr1.rf.put (by omega) (by omega)).put (by omega) (by omega)).put (by omega) (by omega)).put (by omega) (by omega)).put (by omega) (by omega)).put (by decide) (by decide)) rfl
              exact hret _ _ _ _ _ _ ⟨by unfold rAddTrap; skip; (try (first | rw [if_pos c8] | rw [if_neg c8])); (try (first | rw [if_pos c20] | rw [if_neg c20])); (try (first | rw [if_pos c30] | rw [if_neg c30])); (try (first | rw [if_pos c41] | rw [if_neg c41])); (try (first | rw [if_pos c52] | rw [if_neg c52])); (try (first | rw [if_pos c67] | rw [if_neg c67])); rw [if_neg h16], by unfold sAddTrap; skip; (try (first | rw [if_pos c8] | rw [if_neg c8])); (try (first | rw [if_pos c20] | rw [if_neg c20])); (try (first | rw [if_pos c30] | rw [if_neg c30])); (try (first | rw [if_pos c41] | rw [if_neg c41])); (try (first | rw [if_pos c52] | rw [if_neg c52])); (try (first | rw [if_pos c67] | rw [if_neg c67])); rw [if_neg h16]; exact hd.1, hd.2⟩ dX6_addTrap_128
            · have h16 : aF A 1 = 16 := by rw [hP.e1, show cI (aF A 1) = 16 by omega]; rfl
              refine q_bipush (v := -5) hM dX6_addTrap_70 (by decide) ?_
              exact hret _ _ _ _ _ _ ⟨by unfold rAddTrap; skip; (try (first | rw [if_pos c8] | rw [if_neg c8])); (try (first | rw [if_pos c20] | rw [if_neg c20])); (try (first | rw [if_pos c30] | rw [if_neg c30])); (try (first | rw [if_pos c41] | rw [if_neg c41])); (try (first | rw [if_pos c52] | rw [if_neg c52])); (try (first | rw [if_pos c67] | rw [if_neg c67])); rw [if_pos h16], by unfold sAddTrap; skip; (try (first | rw [if_pos c8] | rw [if_neg c8])); (try (first | rw [if_pos c20] | rw [if_neg c20])); (try (first | rw [if_pos c30] | rw [if_neg c30])); (try (first | rw [if_pos c41] | rw [if_neg c41])); (try (first | rw [if_pos c52] | rw [if_neg c52])); (try (first | rw [if_pos c67] | rw [if_neg c67])); rw [if_pos h16]; exact hC, FrM.rf⟩ dX6_addTrap_72
          · refine q_bipush (v := -3) hM dX6_addTrap_55 (by decide) ?_
            exact hret _ _ _ _ _ _ ⟨by unfold rAddTrap; skip; (try (first | rw [if_pos c8] | rw [if_neg c8])); (try (first | rw [if_pos c20] | rw [if_neg c20])); (try (first | rw [if_pos c30] | rw [if_neg c30])); (try (first | rw [if_pos c41] | rw [if_neg c41])); (try (first | rw [if_pos c52] | rw [if_neg c52])); try rfl, by unfold sAddTrap; skip; (try (first | rw [if_pos c8] | rw [if_neg c8])); (try (first | rw [if_pos c20] | rw [if_neg c20])); (try (first | rw [if_pos c30] | rw [if_neg c30])); (try (first | rw [if_pos c41] | rw [if_neg c41])); (try (first | rw [if_pos c52] | rw [if_neg c52])); exact hC, FrM.rf⟩ dX6_addTrap_57
  · refine q_bipush (v := -2) hM dX6_addTrap_11 (by decide) ?_
    exact hret _ _ _ _ _ _ ⟨by unfold rAddTrap; skip; (try (first | rw [if_pos c8] | rw [if_neg c8])); try rfl, by unfold sAddTrap; skip; (try (first | rw [if_pos c8] | rw [if_neg c8])); exact hC, FrM.rf⟩ dX6_addTrap_13
set_option maxHeartbeats 4000000 in
set_option maxRecDepth 100000 in
theorem c_X6_moveLine (l : Launch) (G : kG) {I : kI} {L : kL} {X : kX} {A : kA} (hC : RC I L X A) (hA : AInv A) (i h : Int32)  : Ki l yX6_moveLine cX6_moveLine 4 3 G [.ref (ad G 0), .int i, .int h] 153 153 I L X (fun v I' L' X' => v = rMoveLine A i h ∧ RC I' L' X' (sMoveLine A i h) ∧ FrM I I' L L' X X') := by
  refine Ki_intro (own := RX6) (lv0 := [some (.ref (ad G 0)), some (.int i), some (.int h), none]) 1 (by decide +kernel) rfl rfl (Nat.le_of_ble_eq_true rfl) (Nat.le_refl _) (fun J hM hret => ?_)
  obtain ⟨pm, hH, hS, hT⟩ := id hC
  have hR := hH.1
  have hP := hA.f
  have hn := hP.nT
  have hn8 := hP.nL
  refine q_aload_n hM dX6_moveLine_0 rfl ?_
  refine g_X6_10 hM (by decide) (by decide) hR.x0 dX6_moveLine_1 ?_
  refine q_iload_n hM dX6_moveLine_4 rfl ?_
  refine callVe_z hM mi_X1_hasLine lk_X6_67 cf_X1 (by decide) (by decide) (c_X1_hasLine l G hR hS hP _) rfl rfl (by decide) (Nat.le_refl _) (by omega) (Nat.le_of_ble_eq_true rfl) dX6_moveLine_5 ?_
  refine q_ifd_eq (tgt := 22) hM dX6_moveLine_8 (by decide) (fun c8 => ?_) (fun c8 => ?_)
  · refine q_bipush (v := -2) hM dX6_moveLine_22 (by decide) ?_
    exact hret _ _ _ _ _ _ ⟨by unfold rMoveLine; skip; (try (first | rw [if_pos c8] | rw [if_neg c8])); try rfl, by unfold sMoveLine; skip; (try (first | rw [if_pos c8] | rw [if_neg c8])); exact hC, FrM.rf⟩ dX6_moveLine_24
  · refine q_aload_n hM dX6_moveLine_11 rfl ?_
    refine g_X6_10 hM (by decide) (by decide) hR.x0 dX6_moveLine_12 ?_
    refine q_iload_n hM dX6_moveLine_15 rfl ?_
    refine callVe_z hM mi_X1_hasHeader lk_X6_44 cf_X1 (by decide) (by decide) (c_X1_hasHeader l G _) rfl rfl (by decide) (Nat.le_refl _) (by omega) (Nat.le_of_ble_eq_true rfl) dX6_moveLine_16 ?_
    refine q_ifd_ne (tgt := 25) hM dX6_moveLine_19 (by decide) (fun c19 => ?_) (fun c19 => ?_)
    · refine q_aload_n hM dX6_moveLine_25 rfl ?_
      refine g_X6_19 hM (by decide) (by decide) hR.x1 dX6_moveLine_26 ?_
      refine q_aload_n hM dX6_moveLine_29 rfl ?_
      refine g_X6_10 hM (by decide) (by decide) hR.x0 dX6_moveLine_30 ?_
      refine callV_v hM mi_X0_keep lk_X6_52 cf_X0 (by decide) (by decide) (c_X0_keep l G hH hS hA) rfl rfl (by decide) (Nat.le_refl _) (by omega) (Nat.le_of_ble_eq_true rfl) dX6_moveLine_33 (fun I9 L9 X9 hp9 => ?_)
      have hk := hp9
      have hS9 := hk.sm hA hS
      have hR9 := hk.1.choose_spec.1
      refine q_aload_n hM dX6_moveLine_36 rfl ?_
      refine g_X6_10 hM (by decide) (by decide) hR9.x0 dX6_moveLine_37 ?_
      refine g_X6_64 hM (by decide) (by decide) hR9.p1 dX6_moveLine_40 ?_
      refine q_iload_n hM dX6_moveLine_43 rfl ?_
      refine q_iald (r := 3) hM (by decide) (by decide) (cI i) (lineYes hP c8).1 (show cI i < 8 by have := (lineYes hP c8).2; omega) dX6_moveLine_44 ?_
      refine q_topi (aF A (11 + cI i)) (hS9.li (lineYes hP c8).2) ?_
      refine si_4_3 hM dX6_moveLine_45 ?_
      refine q_aload_n hM dX6_moveLine_46 rfl ?_
      refine g_X6_10 hM (by decide) (by decide) hR9.x0 dX6_moveLine_47 ?_
      refine g_X6_64 hM (by decide) (by decide) hR9.p1 dX6_moveLine_50 ?_
      refine q_iload_n hM dX6_moveLine_53 rfl ?_
      refine q_iload_n hM dX6_moveLine_54 rfl ?_
      refine q_iast (r := 3) hM (by decide) (by decide) (cI i) (lineYes hP c8).1 (show cI i < 8 by have := (lineYes hP c8).2; omega) dX6_moveLine_55 ?_
      refine q_iload_n hM dX6_moveLine_56 rfl ?_
      have hd := RC.done hk hA hT (hS9.setH (i := cI i) (by have := (lineYes hP c8).2; omega) h) (Fr1.rf.put (by decide) (by decide)) rfl
      exact hret _ _ _ _ _ _ ⟨by unfold rMoveLine; skip; (try (first | rw [if_pos c8] | rw [if_neg c8])); (try (first | rw [if_pos c19] | rw [if_neg c19])); try rfl, by unfold sMoveLine; skip; (try (first | rw [if_pos c8] | rw [if_neg c8])); (try (first | rw [if_pos c19] | rw [if_neg c19])); exact hd.1, hd.2⟩ dX6_moveLine_57
    · refine q_bipush (v := -2) hM dX6_moveLine_22 (by decide) ?_
      exact hret _ _ _ _ _ _ ⟨by unfold rMoveLine; skip; (try (first | rw [if_pos c8] | rw [if_neg c8])); (try (first | rw [if_pos c19] | rw [if_neg c19])); try rfl, by unfold sMoveLine; skip; (try (first | rw [if_pos c8] | rw [if_neg c8])); (try (first | rw [if_pos c19] | rw [if_neg c19])); exact hC, FrM.rf⟩ dX6_moveLine_24
set_option maxHeartbeats 4000000 in
set_option maxRecDepth 100000 in
theorem c_X6_setWork (l : Launch) (G : kG) {I : kI} {L : kL} {X : kX} {A : kA} (hC : RC I L X A) (hA : AInv A) (a p i : Int32)  : Ki l yX6_setWork cX6_setWork 5 3 G [.ref (ad G 0), .int a, .int p, .int i] 153 153 I L X (fun v I' L' X' => v = rSetWork A a p i ∧ RC I' L' X' (sSetWork A a p i) ∧ FrM I I' L L' X X') := by
  refine Ki_intro (own := RX6) (lv0 := [some (.ref (ad G 0)), some (.int a), some (.int p), some (.int i), none]) 1 (by decide +kernel) rfl rfl (Nat.le_of_ble_eq_true rfl) (Nat.le_refl _) (fun J hM hret => ?_)
  obtain ⟨pm, hH, hS, hT⟩ := id hC
  have hR := hH.1
  have hP := hA.f
  have hn := hP.nT
  have hn8 := hP.nL
  refine q_iload_n hM dX6_setWork_0 rfl ?_
  refine q_iconst (v := 1) hM dX6_setWork_1 (by decide) ?_
  refine q_bipush (v := 24) hM dX6_setWork_2 (by decide) ?_
  refine callSe_z hM mi_X6_isWithin lk_X6_48 (c_X6_isWithin l G _ _ _) rfl rfl (by decide) (Nat.le_refl _) (by omega) (Nat.le_of_ble_eq_true rfl) dX6_setWork_4 ?_
  refine q_ifd_eq (tgt := 32) hM dX6_setWork_7 (by decide) (fun c7 => ?_) (fun c7 => ?_)
  · refine q_bipush (v := -3) hM dX6_setWork_32 (by decide) ?_
    exact hret _ _ _ _ _ _ ⟨by unfold rSetWork; skip; (try (first | rw [if_pos c7] | rw [if_neg c7])); try rfl, by unfold sSetWork; skip; (try (first | rw [if_pos c7] | rw [if_neg c7])); exact hC, FrM.rf⟩ dX6_setWork_34
  · refine q_iload_n hM dX6_setWork_10 rfl ?_
    refine q_iconst (v := 1) hM dX6_setWork_11 (by decide) ?_
    refine q_sipush (v := 1000) hM dX6_setWork_12 (by decide) ?_
    refine callSe_z hM mi_X6_isWithin lk_X6_48 (c_X6_isWithin l G _ _ _) rfl rfl (by decide) (Nat.le_refl _) (by omega) (Nat.le_of_ble_eq_true rfl) dX6_setWork_15 ?_
    refine q_ifd_eq (tgt := 32) hM dX6_setWork_18 (by decide) (fun c18 => ?_) (fun c18 => ?_)
    · refine q_bipush (v := -3) hM dX6_setWork_32 (by decide) ?_
      exact hret _ _ _ _ _ _ ⟨by unfold rSetWork; skip; (try (first | rw [if_pos c7] | rw [if_neg c7])); (try (first | rw [if_pos c18] | rw [if_neg c18])); try rfl, by unfold sSetWork; skip; (try (first | rw [if_pos c7] | rw [if_neg c7])); (try (first | rw [if_pos c18] | rw [if_neg c18])); exact hC, FrM.rf⟩ dX6_setWork_34
    · refine q_iload_n hM dX6_setWork_21 rfl ?_
      refine q_iconst (v := 1) hM dX6_setWork_22 (by decide) ?_
      refine q_sipush (v := 400) hM dX6_setWork_23 (by decide) ?_
      refine callSe_z hM mi_X6_isWithin lk_X6_48 (c_X6_isWithin l G _ _ _) rfl rfl (by decide) (Nat.le_refl _) (by omega) (Nat.le_of_ble_eq_true rfl) dX6_setWork_26 ?_
      refine q_ifd_ne (tgt := 35) hM dX6_setWork_29 (by decide) (fun c29 => ?_) (fun c29 => ?_)
      · refine q_aload_n hM dX6_setWork_35 rfl ?_
        refine g_X6_19 hM (by decide) (by decide) hR.x1 dX6_setWork_36 ?_
        refine q_aload_n hM dX6_setWork_39 rfl ?_
        refine g_X6_10 hM (by decide) (by decide) hR.x0 dX6_setWork_40 ?_
        refine callV_v hM mi_X0_keep lk_X6_52 cf_X0 (by decide) (by decide) (c_X0_keep l G hH hS hA) rfl rfl (by decide) (Nat.le_refl _) (by omega) (Nat.le_of_ble_eq_true rfl) dX6_setWork_43 (fun I9 L9 X9 hp9 => ?_)
        have hk := hp9
        have hS9 := hk.sm hA hS
        have hR9 := hk.1.choose_spec.1
        refine q_aload_n hM dX6_setWork_46 rfl ?_
        refine g_X6_10 hM (by decide) (by decide) hR9.x0 dX6_setWork_47 ?_
        refine g_X6_83 hM (by decide) (by decide) dX6_setWork_50 ?_
        refine q_topi (aF A 2) hS9.a2 ?_
        refine si_5_4 hM dX6_setWork_53 ?_
        refine q_aload_n hM dX6_setWork_55 rfl ?_
        refine g_X6_10 hM (by decide) (by decide) hR9.x0 dX6_setWork_56 ?_
        refine q_iload_n hM dX6_setWork_59 rfl ?_
        refine p_X6_83 hM (by decide) (by decide) dX6_setWork_60 ?_
        refine q_aload_n hM dX6_setWork_63 rfl ?_
        refine g_X6_10 hM (by decide) (by decide) hR9.x0 dX6_setWork_64 ?_
        refine q_iload_n hM dX6_setWork_67 rfl ?_
        refine p_X6_86 hM (by decide) (by decide) dX6_setWork_68 ?_
        refine q_aload_n hM dX6_setWork_71 rfl ?_
        refine g_X6_10 hM (by decide) (by decide) hR9.x0 dX6_setWork_72 ?_
        refine q_iload_n hM dX6_setWork_75 rfl ?_
        refine p_X6_89 hM (by decide) (by decide) dX6_setWork_76 ?_
        refine q_iload hM dX6_setWork_79 rfl ?_
        have hd := RC.done hk hA hT (((hS9.setS (i := 2) (by decide) (by decide) a).setS (i := 3) (by decide) (by decide) p).setS (i := 4) (by decide) (by decide) i) (((Fr1.rf.put (by decide) (by decide)).put (by decide) (by decide)).put (by decide) (by decide)) rfl
        exact hret _ _ _ _ _ _ ⟨by unfold rSetWork; skip; (try (first | rw [if_pos c7] | rw [if_neg c7])); (try (first | rw [if_pos c18] | rw [if_neg c18])); (try (first | rw [if_pos c29] | rw [if_neg c29])); try rfl, by unfold sSetWork; skip; (try (first | rw [if_pos c7] | rw [if_neg c7])); (try (first | rw [if_pos c18] | rw [if_neg c18])); (try (first | rw [if_pos c29] | rw [if_neg c29])); exact hd.1, hd.2⟩ dX6_setWork_81
      · refine q_bipush (v := -3) hM dX6_setWork_32 (by decide) ?_
        exact hret _ _ _ _ _ _ ⟨by unfold rSetWork; skip; (try (first | rw [if_pos c7] | rw [if_neg c7])); (try (first | rw [if_pos c18] | rw [if_neg c18])); (try (first | rw [if_pos c29] | rw [if_neg c29])); try rfl, by unfold sSetWork; skip; (try (first | rw [if_pos c7] | rw [if_neg c7])); (try (first | rw [if_pos c18] | rw [if_neg c18])); (try (first | rw [if_pos c29] | rw [if_neg c29])); exact hC, FrM.rf⟩ dX6_setWork_34
set_option maxHeartbeats 4000000 in
set_option maxRecDepth 100000 in
theorem c_X6_count (l : Launch) (G : kG) {I : kI} {L : kL} {X : kX} {A : kA} (hC : RC I L X A) (hA : AInv A) (w : Int32)  : Ki l yX6_count cX6_count 2 0 G [.ref (ad G 0), .int w] 153 153 I L X (pE (rCount A w) I L X) := by
  refine Ki_intro (own := RX6) (lv0 := [some (.ref (ad G 0)), some (.int w)]) 0 (by decide +kernel) rfl rfl (Nat.le_of_ble_eq_true rfl) (Nat.le_refl _) (fun J hM hret => ?_)
  obtain ⟨pm, hH, hS, hT⟩ := id hC
  have hR := hH.1
  have hP := hA.f
  have hn := hP.nT
  have hn8 := hP.nL
  refine q_iload_n hM dX6_count_0 rfl ?_
  by_cases hin : 0 ≤ w ∧ w ≤ 7
  · rcases tsw8 hin with rfl | rfl | rfl | rfl | rfl | rfl | rfl | rfl
    · refine q_tableIn (off := 47) (tgt := 48) hM dX6_count_1 (by decide) (by decide) (by decide) (by decide) ?_
      refine q_aload_n hM dX6_count_48 rfl ?_
      refine g_X6_10 hM (by decide) (by decide) hR.x0 dX6_count_49 ?_
      refine g_X6_60 hM (by decide) (by decide) dX6_count_52 ?_
      exact hret _ _ _ _ _ _ ⟨by unfold rCount; rw [if_pos hin]; exact hS.a0, rfl, rfl, rfl⟩ dX6_count_55
    · refine q_tableIn (off := 55) (tgt := 56) hM dX6_count_1 (by decide) (by decide) (by decide) (by decide) ?_
      refine q_aload_n hM dX6_count_56 rfl ?_
      refine g_X6_10 hM (by decide) (by decide) hR.x0 dX6_count_57 ?_
      refine g_X6_70 hM (by decide) (by decide) dX6_count_60 ?_
      exact hret _ _ _ _ _ _ ⟨by unfold rCount; rw [if_pos hin]; exact hS.a1, rfl, rfl, rfl⟩ dX6_count_63
    · refine q_tableIn (off := 63) (tgt := 64) hM dX6_count_1 (by decide) (by decide) (by decide) (by decide) ?_
      refine q_aload_n hM dX6_count_64 rfl ?_
      refine g_X6_10 hM (by decide) (by decide) hR.x0 dX6_count_65 ?_
      refine g_X6_83 hM (by decide) (by decide) dX6_count_68 ?_
      exact hret _ _ _ _ _ _ ⟨by unfold rCount; rw [if_pos hin]; exact hS.a2, rfl, rfl, rfl⟩ dX6_count_71
    · refine q_tableIn (off := 71) (tgt := 72) hM dX6_count_1 (by decide) (by decide) (by decide) (by decide) ?_
      refine q_aload_n hM dX6_count_72 rfl ?_
      refine g_X6_10 hM (by decide) (by decide) hR.x0 dX6_count_73 ?_
      refine g_X6_86 hM (by decide) (by decide) dX6_count_76 ?_
      exact hret _ _ _ _ _ _ ⟨by unfold rCount; rw [if_pos hin]; exact hS.a3, rfl, rfl, rfl⟩ dX6_count_79
    · refine q_tableIn (off := 79) (tgt := 80) hM dX6_count_1 (by decide) (by decide) (by decide) (by decide) ?_
      refine q_aload_n hM dX6_count_80 rfl ?_
      refine g_X6_10 hM (by decide) (by decide) hR.x0 dX6_count_81 ?_
      refine g_X6_89 hM (by decide) (by decide) dX6_count_84 ?_
      exact hret _ _ _ _ _ _ ⟨by unfold rCount; rw [if_pos hin]; exact hS.a4, rfl, rfl, rfl⟩ dX6_count_87
    · refine q_tableIn (off := 87) (tgt := 88) hM dX6_count_1 (by decide) (by decide) (by decide) (by decide) ?_
      refine q_aload_n hM dX6_count_88 rfl ?_
      refine g_X6_10 hM (by decide) (by decide) hR.x0 dX6_count_89 ?_
      refine g_X6_92 hM (by decide) (by decide) dX6_count_92 ?_
      exact hret _ _ _ _ _ _ ⟨by unfold rCount; rw [if_pos hin]; exact hS.a5, rfl, rfl, rfl⟩ dX6_count_95
    · refine q_tableIn (off := 95) (tgt := 96) hM dX6_count_1 (by decide) (by decide) (by decide) (by decide) ?_
      refine q_aload_n hM dX6_count_96 rfl ?_
      refine g_X6_10 hM (by decide) (by decide) hR.x0 dX6_count_97 ?_
      refine g_X6_95 hM (by decide) (by decide) dX6_count_100 ?_
      exact hret _ _ _ _ _ _ ⟨by unfold rCount; rw [if_pos hin]; exact hS.a6, rfl, rfl, rfl⟩ dX6_count_103
    · refine q_tableIn (off := 103) (tgt := 104) hM dX6_count_1 (by decide) (by decide) (by decide) (by decide) ?_
      refine q_aload_n hM dX6_count_104 rfl ?_
      refine g_X6_10 hM (by decide) (by decide) hR.x0 dX6_count_105 ?_
      refine g_X6_98 hM (by decide) (by decide) dX6_count_108 ?_
      exact hret _ _ _ _ _ _ ⟨by unfold rCount; rw [if_pos hin]; exact hS.a7, rfl, rfl, rfl⟩ dX6_count_111
  refine q_tableOut (tgt := 112) hM dX6_count_1 (tsw8n hin) (by decide) ?_
  refine q_bipush (v := -3) hM dX6_count_112 (by decide) ?_
  exact hret _ _ _ _ _ _ ⟨by unfold rCount; rw [if_neg hin], rfl, rfl, rfl⟩ dX6_count_114
set_option maxHeartbeats 4000000 in
set_option maxRecDepth 100000 in
theorem c_X6_trap (l : Launch) (G : kG) {I : kI} {L : kL} {X : kX} {A : kA} (hC : RC I L X A) (hA : AInv A) (t w : Int32)  : Ki l yX6_trap cX6_trap 4 2 G [.ref (ad G 0), .int t, .int w] 153 153 I L X (pE (rTrap A t w) I L X) := by
  refine Ki_intro (own := RX6) (lv0 := [some (.ref (ad G 0)), some (.int t), some (.int w), none]) 1 (by decide +kernel) rfl rfl (Nat.le_of_ble_eq_true rfl) (Nat.le_refl _) (fun J hM hret => ?_)
  obtain ⟨pm, hH, hS, hT⟩ := id hC
  have hR := hH.1
  have hP := hA.f
  have hn := hP.nT
  have hn8 := hP.nL
  refine q_aload_n hM dX6_trap_0 rfl ?_
  refine g_X6_10 hM (by decide) (by decide) hR.x0 dX6_trap_1 ?_
  refine q_iload_n hM dX6_trap_4 rfl ?_
  refine callV_q hM mi_X1_trapAt lk_X6_101 cf_X1 (by decide) (by decide) (c_X1_trapAt l G hR hS hP _) rfl rfl (by decide) (Nat.le_refl _) (by omega) (Nat.le_of_ble_eq_true rfl) dX6_trap_5 (fun qr I9 L9 X9 hp9 => ?_)
  obtain ⟨hp9, rfl, rfl, rfl⟩ := hp9
  rcases hp9 with ⟨j, hj, hjt, rfl⟩ | ⟨hno, rfl⟩
  · have hyes := trapYes hP hj
    subst hjt
    have hcj : cI (nI j) = j := cI_nI (by omega)
    have hj16 : j < 16 := by omega
    refine sa_4_3 hM dX6_trap_8 ?_
    refine q_aload_n hM dX6_trap_9 rfl ?_
    refine q_ifnonnull (tgt := 16) hM dX6_trap_10 (by decide) ?_
    refine q_iload_n hM dX6_trap_16 rfl ?_
    by_cases hin : 0 ≤ w ∧ w ≤ 7
    · rcases tsw8 hin with rfl | rfl | rfl | rfl | rfl | rfl | rfl | rfl
      · refine q_tableIn (off := 47) (tgt := 64) hM dX6_trap_17 (by decide) (by decide) (by decide) (by decide) ?_
        refine q_aload_n hM dX6_trap_64 rfl ?_
        refine g_X6_105 hM (ltT (t := j) (by omega)) (kdT (t := j) (by omega)) dX6_trap_65 ?_
        exact hret _ _ _ _ _ _ ⟨by unfold rTrap; rw [if_pos hyes, if_pos hin, if_neg (by decide), hcj]; exact hS.tr hj (by decide), rfl, rfl, rfl⟩ dX6_trap_68
      · refine q_tableIn (off := 52) (tgt := 69) hM dX6_trap_17 (by decide) (by decide) (by decide) (by decide) ?_
        refine q_aload_n hM dX6_trap_69 rfl ?_
        refine g_X6_108 hM (ltT (t := j) (by omega)) (kdT (t := j) (by omega)) dX6_trap_70 ?_
        exact hret _ _ _ _ _ _ ⟨by unfold rTrap; rw [if_pos hyes, if_pos hin, if_neg (by decide), hcj]; exact hS.tr hj (by decide), rfl, rfl, rfl⟩ dX6_trap_73
      · refine q_tableIn (off := 57) (tgt := 74) hM dX6_trap_17 (by decide) (by decide) (by decide) (by decide) ?_
        refine q_aload_n hM dX6_trap_74 rfl ?_
        refine g_X6_111 hM (ltT (t := j) (by omega)) (kdT (t := j) (by omega)) dX6_trap_75 ?_
        exact hret _ _ _ _ _ _ ⟨by unfold rTrap; rw [if_pos hyes, if_pos hin, if_neg (by decide), hcj]; exact hS.tr hj (by decide), rfl, rfl, rfl⟩ dX6_trap_78
      · refine q_tableIn (off := 62) (tgt := 79) hM dX6_trap_17 (by decide) (by decide) (by decide) (by decide) ?_
        refine q_aload_n hM dX6_trap_79 rfl ?_
        refine g_X6_114 hM (ltT (t := j) (by omega)) (kdT (t := j) (by omega)) dX6_trap_80 ?_
        exact hret _ _ _ _ _ _ ⟨by unfold rTrap; rw [if_pos hyes, if_pos hin, if_neg (by decide), hcj]; exact hS.tr hj (by decide), rfl, rfl, rfl⟩ dX6_trap_83
      · refine q_tableIn (off := 67) (tgt := 84) hM dX6_trap_17 (by decide) (by decide) (by decide) (by decide) ?_
        refine q_aload_n hM dX6_trap_84 rfl ?_
        refine g_X6_117 hM (ltT (t := j) (by omega)) (kdT (t := j) (by omega)) dX6_trap_85 ?_
        exact hret _ _ _ _ _ _ ⟨by unfold rTrap; rw [if_pos hyes, if_pos hin, if_neg (by decide), hcj]; exact hS.tr hj (by decide), rfl, rfl, rfl⟩ dX6_trap_88
      · refine q_tableIn (off := 72) (tgt := 89) hM dX6_trap_17 (by decide) (by decide) (by decide) (by decide) ?_
        refine q_aload_n hM dX6_trap_89 rfl ?_
        refine g_X6_120 hM (ltT (t := j) (by omega)) (kdT (t := j) (by omega)) dX6_trap_90 ?_
        exact hret _ _ _ _ _ _ ⟨by unfold rTrap; rw [if_pos hyes, if_pos hin, if_neg (by decide), hcj]; exact hS.tr hj (by decide), rfl, rfl, rfl⟩ dX6_trap_93
      · refine q_tableIn (off := 77) (tgt := 94) hM dX6_trap_17 (by decide) (by decide) (by decide) (by decide) ?_
        refine q_aload_n hM dX6_trap_94 rfl ?_
        refine g_X6_123 hM (ltT (t := j) (by omega)) (kdT (t := j) (by omega)) dX6_trap_95 ?_
        exact hret _ _ _ _ _ _ ⟨by unfold rTrap; rw [if_pos hyes, if_pos hin, if_neg (by decide), hcj]; exact hS.tr hj (by decide), rfl, rfl, rfl⟩ dX6_trap_98
      · refine q_tableIn (off := 82) (tgt := 99) hM dX6_trap_17 (by decide) (by decide) (by decide) (by decide) ?_
        refine q_aload_n hM dX6_trap_99 rfl ?_
        refine g_X6_10 hM (by decide) (by decide) hR.x0 dX6_trap_100 ?_
        refine q_aload_n hM dX6_trap_103 rfl ?_
        refine g_X6_105 hM (ltT (t := j) (by omega)) (kdT (t := j) (by omega)) dX6_trap_104 ?_
        refine callVe_i hM mi_X1_headerOfLine lk_X6_126 cf_X1 (by decide) (by decide) (c_X1_headerOfLine l G hR hS hP _) rfl rfl (by decide) (Nat.le_refl _) (by omega) (Nat.le_of_ble_eq_true rfl) dX6_trap_107 ?_
        exact hret _ _ _ _ _ _ ⟨by have h1 := hP.ln hj; unfold rTrap; rw [if_pos hyes, if_pos hin, if_pos rfl, hcj, hS.tr hj (by decide), if_pos (by have h3 := (hP.t hj).1; simp only [le_i, lt_i]; exact h3)], rfl, rfl, rfl⟩ dX6_trap_110
    refine q_tableOut (tgt := 111) hM dX6_trap_17 (tsw8n hin) (by decide) ?_
    refine q_bipush (v := -3) hM dX6_trap_111 (by decide) ?_
    exact hret _ _ _ _ _ _ ⟨by unfold rTrap; rw [if_pos hyes, if_neg hin], rfl, rfl, rfl⟩ dX6_trap_113
  · refine saN_4_3 hM dX6_trap_8 ?_
    refine q_aload_nN hM dX6_trap_9 rfl ?_
    refine q_ifnonnullN hM dX6_trap_10 ?_
    refine q_bipush (v := -2) hM dX6_trap_13 (by decide) ?_
    exact hret _ _ _ _ _ _ ⟨(by unfold rTrap; skip; (try (first | rw [if_pos hno] | rw [if_neg hno])); try rfl), rfl, rfl, rfl⟩ dX6_trap_15
set_option maxHeartbeats 4000000 in
set_option maxRecDepth 100000 in
theorem c_X6_headerOf (l : Launch) (G : kG) {I : kI} {L : kL} {X : kX} {A : kA} (hC : RC I L X A) (hA : AInv A) (i : Int32)  : Ki l yX6_headerOf cX6_headerOf 2 2 G [.ref (ad G 0), .int i] 153 153 I L X (pE (rHeaderOf A i) I L X) := by
  refine Ki_intro (own := RX6) (lv0 := [some (.ref (ad G 0)), some (.int i)]) 0 (by decide +kernel) rfl rfl (Nat.le_of_ble_eq_true rfl) (Nat.le_refl _) (fun J hM hret => ?_)
  obtain ⟨pm, hH, hS, hT⟩ := id hC
  have hR := hH.1
  have hP := hA.f
  have hn := hP.nT
  have hn8 := hP.nL
  refine q_aload_n hM dX6_headerOf_0 rfl ?_
  refine g_X6_10 hM (by decide) (by decide) hR.x0 dX6_headerOf_1 ?_
  refine q_iload_n hM dX6_headerOf_4 rfl ?_
  refine callVe_i hM mi_X1_headerOfLine lk_X6_126 cf_X1 (by decide) (by decide) (c_X1_headerOfLine l G hR hS hP _) rfl rfl (by decide) (Nat.le_refl _) (by omega) (Nat.le_of_ble_eq_true rfl) dX6_headerOf_5 ?_
  exact hret _ _ _ _ _ _ ⟨rfl, rfl, rfl, rfl⟩ dX6_headerOf_8
set_option maxHeartbeats 4000000 in
set_option maxRecDepth 100000 in
theorem c_X6_pressure (l : Launch) (G : kG) {I : kI} {L : kL} {X : kX} {A : kA} (hC : RC I L X A) (hA : AInv A) (h : Int32)  : Ki l yX6_pressure cX6_pressure 2 2 G [.ref (ad G 0), .int h] 153 153 I L X (pE (rPressure A h) I L X) := by
  refine Ki_intro (own := RX6) (lv0 := [some (.ref (ad G 0)), some (.int h)]) 0 (by decide +kernel) rfl rfl (Nat.le_of_ble_eq_true rfl) (Nat.le_refl _) (fun J hM hret => ?_)
  obtain ⟨pm, hH, hS, hT⟩ := id hC
  have hR := hH.1
  have hP := hA.f
  have hn := hP.nT
  have hn8 := hP.nL
  refine q_aload_n hM dX6_pressure_0 rfl ?_
  refine g_X6_10 hM (by decide) (by decide) hR.x0 dX6_pressure_1 ?_
  refine q_iload_n hM dX6_pressure_4 rfl ?_
  refine callVe_i hM mi_X1_pressureOfHeader lk_X6_130 cf_X1 (by decide) (by decide) (c_X1_pressureOfHeader l G hR hS hP _) rfl rfl (by decide) (Nat.le_refl _) (by omega) (Nat.le_of_ble_eq_true rfl) dX6_pressure_5 ?_
  exact hret _ _ _ _ _ _ ⟨rfl, rfl, rfl, rfl⟩ dX6_pressure_8
set_option maxHeartbeats 4000000 in
set_option maxRecDepth 100000 in
theorem c_X6_judge (l : Launch) (G : kG) {I : kI} {L : kL} {X : kX} {A : kA} (hC : RC I L X A) (hA : AInv A) (t i o c : Int32)  : Ki l yX6_judge cX6_judge 6 3 G [.ref (ad G 0), .int t, .int i, .int o, .int c] 153 153 I L X (pE (rJudge A t i o c) I L X) := by
  refine Ki_intro (own := RX6) (lv0 := [some (.ref (ad G 0)), some (.int t), some (.int i), some (.int o), some (.int c), none]) 1 (by decide +kernel) rfl rfl (Nat.le_of_ble_eq_true rfl) (Nat.le_refl _) (fun J hM hret => ?_)
  obtain ⟨pm, hH, hS, hT⟩ := id hC
  have hR := hH.1
  have hP := hA.f
  have hn := hP.nT
  have hn8 := hP.nL
  refine q_aload_n hM dX6_judge_0 rfl ?_
  refine g_X6_10 hM (by decide) (by decide) hR.x0 dX6_judge_1 ?_
  refine q_iload_n hM dX6_judge_4 rfl ?_
  refine callV_q hM mi_X1_trapAt lk_X6_101 cf_X1 (by decide) (by decide) (c_X1_trapAt l G hR hS hP _) rfl rfl (by decide) (Nat.le_refl _) (by omega) (Nat.le_of_ble_eq_true rfl) dX6_judge_5 (fun qr I9 L9 X9 hp9 => ?_)
  obtain ⟨hp9, rfl, rfl, rfl⟩ := hp9
  rcases hp9 with ⟨j, hj, hjt, rfl⟩ | ⟨hno, rfl⟩
  · have hyes := trapYes hP hj
    subst hjt
    have hcj : cI (nI j) = j := cI_nI (by omega)
    have hj16 : j < 16 := by omega
    refine sa_6_5 hM dX6_judge_8 ?_
    refine q_aload hM dX6_judge_10 rfl ?_
    refine q_ifnonnull (tgt := 18) hM dX6_judge_12 (by decide) ?_
    refine q_iload_n hM dX6_judge_18 rfl ?_
    refine q_iconst (v := 0) hM dX6_judge_19 (by decide) ?_
    refine q_sipush (v := 300) hM dX6_judge_20 (by decide) ?_
    refine callSe_z hM mi_X6_isWithin lk_X6_48 (c_X6_isWithin l G _ _ _) rfl rfl (by decide) (Nat.le_refl _) (by omega) (Nat.le_of_ble_eq_true rfl) dX6_judge_23 ?_
    refine q_ifd_eq (tgt := 51) hM dX6_judge_26 (by decide) (fun c26 => ?_) (fun c26 => ?_)
    · refine q_bipush (v := -3) hM dX6_judge_51 (by decide) ?_
      exact hret _ _ _ _ _ _ ⟨(by unfold rJudge; skip; (try (first | rw [if_pos hyes] | rw [if_neg hyes])); (try (first | rw [if_pos c26] | rw [if_neg c26])); try rfl), rfl, rfl, rfl⟩ dX6_judge_53
    · refine q_iload_n hM dX6_judge_29 rfl ?_
      refine q_iconst (v := 0) hM dX6_judge_30 (by decide) ?_
      refine q_sipush (v := 300) hM dX6_judge_31 (by decide) ?_
      refine callSe_z hM mi_X6_isWithin lk_X6_48 (c_X6_isWithin l G _ _ _) rfl rfl (by decide) (Nat.le_refl _) (by omega) (Nat.le_of_ble_eq_true rfl) dX6_judge_34 ?_
      refine q_ifd_eq (tgt := 51) hM dX6_judge_37 (by decide) (fun c37 => ?_) (fun c37 => ?_)
      · refine q_bipush (v := -3) hM dX6_judge_51 (by decide) ?_
        exact hret _ _ _ _ _ _ ⟨(by unfold rJudge; skip; (try (first | rw [if_pos hyes] | rw [if_neg hyes])); (try (first | rw [if_pos c26] | rw [if_neg c26])); (try (first | rw [if_pos c37] | rw [if_neg c37])); try rfl), rfl, rfl, rfl⟩ dX6_judge_53
      · refine q_iload hM dX6_judge_40 rfl ?_
        refine q_iconst (v := 0) hM dX6_judge_42 (by decide) ?_
        refine q_bipush (v := 60) hM dX6_judge_43 (by decide) ?_
        refine callSe_z hM mi_X6_isWithin lk_X6_48 (c_X6_isWithin l G _ _ _) rfl rfl (by decide) (Nat.le_refl _) (by omega) (Nat.le_of_ble_eq_true rfl) dX6_judge_45 ?_
        refine q_ifd_ne (tgt := 54) hM dX6_judge_48 (by decide) (fun c48 => ?_) (fun c48 => ?_)
        · refine q_aload hM dX6_judge_54 rfl ?_
          refine q_iload_n hM dX6_judge_56 rfl ?_
          refine q_iload_n hM dX6_judge_57 rfl ?_
          refine q_iload hM dX6_judge_58 rfl ?_
          refine q_aload_n hM dX6_judge_60 rfl ?_
          refine g_X6_10 hM (by decide) (by decide) hR.x0 dX6_judge_61 ?_
          refine q_aload hM dX6_judge_64 rfl ?_
          refine callVe_i hM mi_X1_pressureAt lk_X6_141 cf_X1 (by decide) (by decide) (c_X1_pressureAt l G hR hS hP j hj) rfl rfl (by decide) (Nat.le_refl _) (by omega) (Nat.le_of_ble_eq_true rfl) dX6_judge_66 ?_
          refine callVe_i hM mi_X5_judged lk_X6_145 cf_X5 (ltT (t := j) (by omega)) (kdT (t := j) (by omega)) (c_X5_judged l G j (by omega) _ _ _ _) rfl rfl (by decide) (Nat.le_refl _) (by omega) (Nat.le_of_ble_eq_true rfl) dX6_judge_69 ?_
          exact hret _ _ _ _ _ _ ⟨by unfold rJudge; skip; (try (first | rw [if_pos hyes] | rw [if_neg hyes])); (try (first | rw [if_pos c26] | rw [if_neg c26])); (try (first | rw [if_pos c37] | rw [if_neg c37])); (try (first | rw [if_pos c48] | rw [if_neg c48])); rw [hcj, hS.tr hj (by decide)]; rfl, rfl, rfl, rfl⟩ dX6_judge_72
        · refine q_bipush (v := -3) hM dX6_judge_51 (by decide) ?_
          exact hret _ _ _ _ _ _ ⟨(by unfold rJudge; skip; (try (first | rw [if_pos hyes] | rw [if_neg hyes])); (try (first | rw [if_pos c26] | rw [if_neg c26])); (try (first | rw [if_pos c37] | rw [if_neg c37])); (try (first | rw [if_pos c48] | rw [if_neg c48])); try rfl), rfl, rfl, rfl⟩ dX6_judge_53
  · refine saN_6_5 hM dX6_judge_8 ?_
    refine q_aloadN hM dX6_judge_10 rfl ?_
    refine q_ifnonnullN hM dX6_judge_12 ?_
    refine q_bipush (v := -2) hM dX6_judge_15 (by decide) ?_
    exact hret _ _ _ _ _ _ ⟨(by unfold rJudge; skip; (try (first | rw [if_pos hno] | rw [if_neg hno])); try rfl), rfl, rfl, rfl⟩ dX6_judge_17
set_option maxHeartbeats 4000000 in
set_option maxRecDepth 100000 in
theorem c_X6_read (l : Launch) (G : kG) {I : kI} {L : kL} {X : kX} {A : kA} (hC : RC I L X A) (hA : AInv A) (t i o c : Int32)  : Ki l yX6_read cX6_read 6 4 G [.ref (ad G 0), .int t, .int i, .int o, .int c] 153 153 I L X (fun v I' L' X' => v = rJudge A t i o c ∧ RC I' L' X' (sRead A t i o c) ∧ FrM I I' L L' X X') := by
  refine Ki_intro (own := RX6) (lv0 := [some (.ref (ad G 0)), some (.int t), some (.int i), some (.int o), some (.int c), none]) 1 (by decide +kernel) rfl rfl (Nat.le_of_ble_eq_true rfl) (Nat.le_refl _) (fun J hM hret => ?_)
  obtain ⟨pm, hH, hS, hT⟩ := id hC
  have hR := hH.1
  have hP := hA.f
  have hn := hP.nT
  have hn8 := hP.nL
  refine q_aload_n hM dX6_read_0 rfl ?_
  refine q_iload_n hM dX6_read_1 rfl ?_
  refine q_iload_n hM dX6_read_2 rfl ?_
  refine q_iload_n hM dX6_read_3 rfl ?_
  refine q_iload hM dX6_read_4 rfl ?_
  refine callVe_i hM mi_X6_judge lk_X6_133 cf_X6 (by decide) (by decide) (c_X6_judge l G hC hA _ _ _ _) rfl rfl (by decide) (Nat.le_refl _) (by omega) (Nat.le_of_ble_eq_true rfl) dX6_read_6 ?_
  refine si_6_5 hM dX6_read_9 ?_
  refine q_iload hM dX6_read_11 rfl ?_
  refine q_if_ge (tgt := 19) hM dX6_read_13 (by decide) (fun c13 => ?_) (fun c13 => ?_)
  · have hall : jAll A t i o c := Classical.byContradiction fun q => (jud_no q).1 c13
    have hy := jud_yes hall
    obtain ⟨k, hk1, rfl⟩ : ∃ k, k < cI (aF A 1) ∧ t = nI k := ⟨_, (trapIx hP hall.1).2, (trapIx hP hall.1).1⟩
    have hck : cI (nI k) = k := cI_nI (by omega)
    rw [hck] at hy
    refine q_aload_n hM dX6_read_19 rfl ?_
    refine g_X6_19 hM (by decide) (by decide) hR.x1 dX6_read_20 ?_
    refine q_aload_n hM dX6_read_23 rfl ?_
    refine g_X6_10 hM (by decide) (by decide) hR.x0 dX6_read_24 ?_
    refine callV_v hM mi_X0_keep lk_X6_52 cf_X0 (by decide) (by decide) (c_X0_keep l G hH hS hA) rfl rfl (by decide) (Nat.le_refl _) (by omega) (Nat.le_of_ble_eq_true rfl) dX6_read_27 (fun I9 L9 X9 hp9 => ?_)
    have hk := hp9
    have hS9 := hk.sm hA hS
    have hR9 := hk.1.choose_spec.1
    refine q_aload_n hM dX6_read_30 rfl ?_
    refine g_X6_10 hM (by decide) (by decide) hR9.x0 dX6_read_31 ?_
    refine q_iload_n hM dX6_read_34 rfl ?_
    refine q_iload_n hM dX6_read_35 rfl ?_
    refine q_iload_n hM dX6_read_36 rfl ?_
    refine q_iload hM dX6_read_37 rfl ?_
    refine callV_v hM mi_X1_takeReading lk_X6_137 cf_X1 (by decide) (by decide) (c_X1_takeReading l G hR9 hS9 hP k hk1 i o c) rfl rfl (by decide) (Nat.le_refl _) (by omega) (Nat.le_of_ble_eq_true rfl) dX6_read_39 (fun I9 L9 X9 hp9 => ?_)
    obtain ⟨hS2, hF2, rfl⟩ := hp9
    refine q_iload hM dX6_read_42 rfl ?_
    have hd := RC.done hk hA hT hS2 hF2 rfl
    exact hret _ _ _ _ _ _ ⟨rfl, by rw [hy.2]; exact hd.1, hd.2⟩ dX6_read_44
  · have hall : ¬ jAll A t i o c := fun q => c13 (by rw [(jud_yes q).1]; exact judC_pos _ _ _ _ _)
    refine q_iload hM dX6_read_16 rfl ?_
    exact hret _ _ _ _ _ _ ⟨rfl, by rw [(jud_no hall).2]; exact hC, FrM.rf⟩ dX6_read_18
set_option maxHeartbeats 4000000 in
set_option maxRecDepth 100000 in
theorem c_X6_pass (l : Launch) (G : kG) {I : kI} {L : kL} {X : kX} {A : kA} (hC : RC I L X A) (hA : AInv A) (d : Int32)  : Ki l yX6_pass cX6_pass 2 5 G [.ref (ad G 0), .int d] 153 153 I L X (fun v I' L' X' => v = rPass A d ∧ RC I' L' X' (sPass A d) ∧ FrM I I' L L' X X') := by
  refine Ki_intro (own := RX6) (lv0 := [some (.ref (ad G 0)), some (.int d)]) 0 (by decide +kernel) rfl rfl (Nat.le_of_ble_eq_true rfl) (Nat.le_refl _) (fun J hM hret => ?_)
  obtain ⟨pm, hH, hS, hT⟩ := id hC
  have hR := hH.1
  have hP := hA.f
  have hn := hP.nT
  have hn8 := hP.nL
  refine q_iload_n hM dX6_pass_0 rfl ?_
  refine q_iconst (v := 1) hM dX6_pass_1 (by decide) ?_
  refine q_bipush (v := 100) hM dX6_pass_2 (by decide) ?_
  refine callSe_z hM mi_X6_isWithin lk_X6_48 (c_X6_isWithin l G _ _ _) rfl rfl (by decide) (Nat.le_refl _) (by omega) (Nat.le_of_ble_eq_true rfl) dX6_pass_4 ?_
  refine q_ifd_ne (tgt := 13) hM dX6_pass_7 (by decide) (fun c7 => ?_) (fun c7 => ?_)
  · refine q_aload_n hM dX6_pass_13 rfl ?_
    refine g_X6_10 hM (by decide) (by decide) hR.x0 dX6_pass_14 ?_
    refine g_X6_92 hM (by decide) (by decide) dX6_pass_17 ?_
    refine q_iload_n hM dX6_pass_20 rfl ?_
    refine q_iadd hM dX6_pass_21 ?_
    refine q_sipush (v := 10000) hM dX6_pass_22 (by decide) ?_
    refine q_icmp_le (tgt := 31) hM dX6_pass_25 (by decide) (fun c25 => ?_) (fun c25 => ?_)
    · have h5 : ¬ 10000 < aF A 5 + d := by rw [← hS.a5]; exact Int32.not_lt.mpr c25
      refine q_aload_n hM dX6_pass_31 rfl ?_
      refine g_X6_19 hM (by decide) (by decide) hR.x1 dX6_pass_32 ?_
      refine q_aload_n hM dX6_pass_35 rfl ?_
      refine g_X6_10 hM (by decide) (by decide) hR.x0 dX6_pass_36 ?_
      refine callV_v hM mi_X0_keep lk_X6_52 cf_X0 (by decide) (by decide) (c_X0_keep l G hH hS hA) rfl rfl (by decide) (Nat.le_refl _) (by omega) (Nat.le_of_ble_eq_true rfl) dX6_pass_39 (fun I9 L9 X9 hp9 => ?_)
      have hk := hp9
      have hS9 := hk.sm hA hS
      have hR9 := hk.1.choose_spec.1
      refine q_aload_n hM dX6_pass_42 rfl ?_
      refine g_X6_10 hM (by decide) (by decide) hR9.x0 dX6_pass_43 ?_
      refine q_iload_n hM dX6_pass_46 rfl ?_
      refine callV_v hM mi_X1_letPass lk_X6_148 cf_X1 (by decide) (by decide) (c_X1_letPass l G hR9 hS9 hP d) rfl rfl (by decide) (Nat.le_refl _) (by omega) (Nat.le_of_ble_eq_true rfl) dX6_pass_47 (fun I9 L9 X9 hp9 => ?_)
      obtain ⟨hS2, hF2, rfl⟩ := hp9
      refine q_aload_n hM dX6_pass_50 rfl ?_
      refine g_X6_10 hM (by decide) (by decide) hR9.x0 dX6_pass_51 ?_
      refine g_X6_92 hM (by decide) (by decide) dX6_pass_54 ?_
      have hd := RC.done hk hA hT hS2 hF2 rfl
      exact hret _ _ _ _ _ _ ⟨by unfold rPass; rw [if_pos c7, if_neg h5]; exact hS2.a5, by unfold sPass; rw [if_pos c7, if_neg h5]; exact hd.1, hd.2⟩ dX6_pass_57
    · have h5 : 10000 < aF A 5 + d := by rw [← hS.a5]; exact Int32.not_le.mp c25
      refine q_bipush (v := -5) hM dX6_pass_28 (by decide) ?_
      exact hret _ _ _ _ _ _ ⟨by unfold rPass; rw [if_pos c7, if_pos h5], by unfold sPass; rw [if_pos c7, if_pos h5]; exact hC, FrM.rf⟩ dX6_pass_30
  · refine q_bipush (v := -3) hM dX6_pass_10 (by decide) ?_
    exact hret _ _ _ _ _ _ ⟨by unfold rPass; skip; (try (first | rw [if_pos c7] | rw [if_neg c7])); try rfl, by unfold sPass; skip; (try (first | rw [if_pos c7] | rw [if_neg c7])); exact hC, FrM.rf⟩ dX6_pass_12
set_option maxHeartbeats 4000000 in
set_option maxRecDepth 100000 in
theorem c_X6_inState (l : Launch) (G : kG) {I : kI} {L : kL} {X : kX} {A : kA} (hC : RC I L X A) (hA : AInv A) (z : Int32)  : Ki l yX6_inState cX6_inState 2 1 G [.ref (ad G 0), .int z] 153 153 I L X (pE (rInState A z) I L X) := by
  refine Ki_intro (own := RX6) (lv0 := [some (.ref (ad G 0)), some (.int z)]) 0 (by decide +kernel) rfl rfl (Nat.le_of_ble_eq_true rfl) (Nat.le_refl _) (fun J hM hret => ?_)
  obtain ⟨pm, hH, hS, hT⟩ := id hC
  have hR := hH.1
  have hP := hA.f
  have hn := hP.nT
  have hn8 := hP.nL
  refine q_iload_n hM dX6_inState_0 rfl ?_
  refine q_iconst (v := 0) hM dX6_inState_1 (by decide) ?_
  refine q_iconst (v := 5) hM dX6_inState_2 (by decide) ?_
  refine callSe_z hM mi_X6_isWithin lk_X6_48 (c_X6_isWithin l G _ _ _) rfl rfl (by decide) (Nat.le_refl _) (by omega) (Nat.le_of_ble_eq_true rfl) dX6_inState_3 ?_
  refine q_ifd_ne (tgt := 12) hM dX6_inState_6 (by decide) (fun c6 => ?_) (fun c6 => ?_)
  · refine q_aload_n hM dX6_inState_12 rfl ?_
    refine g_X6_10 hM (by decide) (by decide) hR.x0 dX6_inState_13 ?_
    refine q_iload_n hM dX6_inState_16 rfl ?_
    refine callVe_i hM mi_X1_trapsInState lk_X6_152 cf_X1 (by decide) (by decide) (c_X1_trapsInState l G hR hS hP _) rfl rfl (by decide) (Nat.le_refl _) (by omega) (Nat.le_of_ble_eq_true rfl) dX6_inState_17 ?_
    exact hret _ _ _ _ _ _ ⟨(by unfold rInState; skip; (try (first | rw [if_pos c6] | rw [if_neg c6])); try rfl), rfl, rfl, rfl⟩ dX6_inState_20
  · refine q_bipush (v := -3) hM dX6_inState_9 (by decide) ?_
    exact hret _ _ _ _ _ _ ⟨(by unfold rInState; skip; (try (first | rw [if_pos c6] | rw [if_neg c6])); try rfl), rfl, rfl, rfl⟩ dX6_inState_11
set_option maxHeartbeats 4000000 in
set_option maxRecDepth 100000 in
theorem c_X6_loss (l : Launch) (G : kG) {I : kI} {L : kL} {X : kX} {A : kA} (hC : RC I L X A) (hA : AInv A) (t : Int32)  : Ki l yX6_loss cX6_loss 3 4 G [.ref (ad G 0), .int t] 153 153 I L X (pE (rLoss A t) I L X) := by
  refine Ki_intro (own := RX6) (lv0 := [some (.ref (ad G 0)), some (.int t), none]) 1 (by decide +kernel) rfl rfl (Nat.le_of_ble_eq_true rfl) (Nat.le_refl _) (fun J hM hret => ?_)
  obtain ⟨pm, hH, hS, hT⟩ := id hC
  have hR := hH.1
  have hP := hA.f
  have hn := hP.nT
  have hn8 := hP.nL
  refine q_aload_n hM dX6_loss_0 rfl ?_
  refine g_X6_10 hM (by decide) (by decide) hR.x0 dX6_loss_1 ?_
  refine q_iload_n hM dX6_loss_4 rfl ?_
  refine callV_q hM mi_X1_trapAt lk_X6_101 cf_X1 (by decide) (by decide) (c_X1_trapAt l G hR hS hP _) rfl rfl (by decide) (Nat.le_refl _) (by omega) (Nat.le_of_ble_eq_true rfl) dX6_loss_5 (fun qr I9 L9 X9 hp9 => ?_)
  obtain ⟨hp9, rfl, rfl, rfl⟩ := hp9
  rcases hp9 with ⟨j, hj, hjt, rfl⟩ | ⟨hno, rfl⟩
  · have hyes := trapYes hP hj
    subst hjt
    have hcj : cI (nI j) = j := cI_nI (by omega)
    have hj16 : j < 16 := by omega
    refine sa_3_2 hM dX6_loss_8 ?_
    refine q_aload_n hM dX6_loss_9 rfl ?_
    refine q_ifnonnull (tgt := 18) hM dX6_loss_10 (by decide) ?_
    refine q_aload_n hM dX6_loss_18 rfl ?_
    refine g_X6_10 hM (by decide) (by decide) hR.x0 dX6_loss_19 ?_
    refine q_aload_n hM dX6_loss_22 rfl ?_
    refine callVe_i hM mi_X1_lossOf lk_X6_155 cf_X1 (by decide) (by decide) (c_X1_lossOf l G hR hS hP j hj) rfl rfl (by decide) (Nat.le_refl _) (by omega) (Nat.le_of_ble_eq_true rfl) dX6_loss_23 ?_
    exact hret _ _ _ _ _ _ ⟨(by unfold rLoss; skip; (try (first | rw [if_pos hyes] | rw [if_neg hyes])); (first | rfl | (rw [hcj]; done) | (rw [hcj]; rfl) | skip)), rfl, rfl, rfl⟩ dX6_loss_26
  · refine saN_3_2 hM dX6_loss_8 ?_
    refine q_aload_nN hM dX6_loss_9 rfl ?_
    refine q_ifnonnullN hM dX6_loss_10 ?_
    refine q_bipush (v := -2) hM dX6_loss_13 (by decide) ?_
    refine q_goto (tgt := 26) hM dX6_loss_15 (by decide) ?_
    exact hret _ _ _ _ _ _ ⟨(by unfold rLoss; skip; (try (first | rw [if_pos hno] | rw [if_neg hno])); (first | rfl | (rw [hcj]; done) | (rw [hcj]; rfl) | skip)), rfl, rfl, rfl⟩ dX6_loss_26
set_option maxHeartbeats 4000000 in
set_option maxRecDepth 100000 in
theorem c_X6_lineLoss (l : Launch) (G : kG) {I : kI} {L : kL} {X : kX} {A : kA} (hC : RC I L X A) (hA : AInv A) (i : Int32)  : Ki l yX6_lineLoss cX6_lineLoss 2 5 G [.ref (ad G 0), .int i] 153 153 I L X (pE (rLineLoss A i) I L X) := by
  refine Ki_intro (own := RX6) (lv0 := [some (.ref (ad G 0)), some (.int i)]) 0 (by decide +kernel) rfl rfl (Nat.le_of_ble_eq_true rfl) (Nat.le_refl _) (fun J hM hret => ?_)
  obtain ⟨pm, hH, hS, hT⟩ := id hC
  have hR := hH.1
  have hP := hA.f
  have hn := hP.nT
  have hn8 := hP.nL
  refine q_aload_n hM dX6_lineLoss_0 rfl ?_
  refine g_X6_10 hM (by decide) (by decide) hR.x0 dX6_lineLoss_1 ?_
  refine q_iload_n hM dX6_lineLoss_4 rfl ?_
  refine callVe_z hM mi_X1_hasLine lk_X6_67 cf_X1 (by decide) (by decide) (c_X1_hasLine l G hR hS hP _) rfl rfl (by decide) (Nat.le_refl _) (by omega) (Nat.le_of_ble_eq_true rfl) dX6_lineLoss_5 ?_
  refine q_ifd_eq (tgt := 22) hM dX6_lineLoss_8 (by decide) (fun c8 => ?_) (fun c8 => ?_)
  · refine q_bipush (v := -2) hM dX6_lineLoss_22 (by decide) ?_
    exact hret _ _ _ _ _ _ ⟨(by unfold rLineLoss; skip; (try (first | rw [if_pos c8] | rw [if_neg c8])); try rfl), rfl, rfl, rfl⟩ dX6_lineLoss_24
  · refine q_aload_n hM dX6_lineLoss_11 rfl ?_
    refine g_X6_10 hM (by decide) (by decide) hR.x0 dX6_lineLoss_12 ?_
    refine q_iload_n hM dX6_lineLoss_15 rfl ?_
    refine callVe_i hM mi_X1_lossOfLine lk_X6_158 cf_X1 (by decide) (by decide) (c_X1_lossOfLine l G hR hS hP _) rfl rfl (by decide) (Nat.le_refl _) (by omega) (Nat.le_of_ble_eq_true rfl) dX6_lineLoss_16 ?_
    refine q_goto (tgt := 24) hM dX6_lineLoss_19 (by decide) ?_
    exact hret _ _ _ _ _ _ ⟨(by unfold rLineLoss; skip; (try (first | rw [if_pos c8] | rw [if_neg c8])); try rfl), rfl, rfl, rfl⟩ dX6_lineLoss_24
set_option maxHeartbeats 4000000 in
set_option maxRecDepth 100000 in
theorem c_X6_headerLoss (l : Launch) (G : kG) {I : kI} {L : kL} {X : kX} {A : kA} (hC : RC I L X A) (hA : AInv A) (h : Int32)  : Ki l yX6_headerLoss cX6_headerLoss 2 5 G [.ref (ad G 0), .int h] 153 153 I L X (pE (rHeaderLoss A h) I L X) := by
  refine Ki_intro (own := RX6) (lv0 := [some (.ref (ad G 0)), some (.int h)]) 0 (by decide +kernel) rfl rfl (Nat.le_of_ble_eq_true rfl) (Nat.le_refl _) (fun J hM hret => ?_)
  obtain ⟨pm, hH, hS, hT⟩ := id hC
  have hR := hH.1
  have hP := hA.f
  have hn := hP.nT
  have hn8 := hP.nL
  refine q_aload_n hM dX6_headerLoss_0 rfl ?_
  refine g_X6_10 hM (by decide) (by decide) hR.x0 dX6_headerLoss_1 ?_
  refine q_iload_n hM dX6_headerLoss_4 rfl ?_
  refine callVe_z hM mi_X1_hasHeader lk_X6_44 cf_X1 (by decide) (by decide) (c_X1_hasHeader l G _) rfl rfl (by decide) (Nat.le_refl _) (by omega) (Nat.le_of_ble_eq_true rfl) dX6_headerLoss_5 ?_
  refine q_ifd_eq (tgt := 22) hM dX6_headerLoss_8 (by decide) (fun c8 => ?_) (fun c8 => ?_)
  · refine q_bipush (v := -2) hM dX6_headerLoss_22 (by decide) ?_
    exact hret _ _ _ _ _ _ ⟨(by unfold rHeaderLoss; skip; (try (first | rw [if_pos c8] | rw [if_neg c8])); try rfl), rfl, rfl, rfl⟩ dX6_headerLoss_24
  · refine q_aload_n hM dX6_headerLoss_11 rfl ?_
    refine g_X6_10 hM (by decide) (by decide) hR.x0 dX6_headerLoss_12 ?_
    refine q_iload_n hM dX6_headerLoss_15 rfl ?_
    refine callVe_i hM mi_X1_lossOfHeader lk_X6_161 cf_X1 (by decide) (by decide) (c_X1_lossOfHeader l G hR hS hP _) rfl rfl (by decide) (Nat.le_refl _) (by omega) (Nat.le_of_ble_eq_true rfl) dX6_headerLoss_16 ?_
    refine q_goto (tgt := 24) hM dX6_headerLoss_19 (by decide) ?_
    exact hret _ _ _ _ _ _ ⟨(by unfold rHeaderLoss; skip; (try (first | rw [if_pos c8] | rw [if_neg c8])); try rfl), rfl, rfl, rfl⟩ dX6_headerLoss_24
set_option maxHeartbeats 4000000 in
set_option maxRecDepth 100000 in
theorem c_X6_lost (l : Launch) (G : kG) {I : kI} {L : kL} {X : kX} {A : kA} (hC : RC I L X A) (hA : AInv A) (t : Int32)  : Kl l yX6_lost cX6_lost 3 1 G [.ref (ad G 0), .int t] 153 153 I L X (pE (rLost A t) I L X) := by
  refine Kl_intro (own := RX6) (lv0 := [some (.ref (ad G 0)), some (.int t), none]) 1 (by decide +kernel) rfl rfl (Nat.le_of_ble_eq_true rfl) (Nat.le_refl _) (fun J hM hret => ?_)
  obtain ⟨pm, hH, hS, hT⟩ := id hC
  have hR := hH.1
  have hP := hA.f
  have hn := hP.nT
  have hn8 := hP.nL
  refine q_iload_n hM dX6_lost_0 rfl ?_
  refine q_iconst (v := -1) hM dX6_lost_1 (by decide) ?_
  refine q_icmp_ne (tgt := 13) hM dX6_lost_2 (by decide) (fun c2 => ?_) (fun c2 => ?_)
  · refine q_aload_n hM dX6_lost_13 rfl ?_
    refine g_X6_10 hM (by decide) (by decide) hR.x0 dX6_lost_14 ?_
    refine q_iload_n hM dX6_lost_17 rfl ?_
    refine callV_q hM mi_X1_trapAt lk_X6_101 cf_X1 (by decide) (by decide) (c_X1_trapAt l G hR hS hP _) rfl rfl (by decide) (Nat.le_refl _) (by omega) (Nat.le_of_ble_eq_true rfl) dX6_lost_18 (fun qr I9 L9 X9 hp9 => ?_)
    obtain ⟨hp9, rfl, rfl, rfl⟩ := hp9
    rcases hp9 with ⟨j, hj, hjt, rfl⟩ | ⟨hno, rfl⟩
    · have hyes := trapYes hP hj
      subst hjt
      have hcj : cI (nI j) = j := cI_nI (by omega)
      have hj16 : j < 16 := by omega
      refine sa_3_2 hM dX6_lost_21 ?_
      refine q_aload_n hM dX6_lost_22 rfl ?_
      refine q_ifnonnull (tgt := 32) hM dX6_lost_23 (by decide) ?_
      refine q_aload_n hM dX6_lost_32 rfl ?_
      refine g_X6_170 hM (ltT (t := j) (by omega)) (kdT (t := j) (by omega)) dX6_lost_33 ?_
      exact hret _ _ _ _ _ _ ⟨by unfold rLost; rw [if_neg c2, if_pos hyes, hcj]; exact hS.lo hj, rfl, rfl, rfl⟩ dX6_lost_36
    · refine saN_3_2 hM dX6_lost_21 ?_
      refine q_aload_nN hM dX6_lost_22 rfl ?_
      refine q_ifnonnullN hM dX6_lost_23 ?_
      refine q_ldc2 hM cw_X6_168 dX6_lost_26 ?_
      refine q_goto (tgt := 36) hM dX6_lost_29 (by decide) ?_
      exact hret _ _ _ _ _ _ ⟨by unfold rLost; rw [if_neg c2, if_neg hno], rfl, rfl, rfl⟩ dX6_lost_36
  · refine q_aload_n hM dX6_lost_5 rfl ?_
    refine g_X6_10 hM (by decide) (by decide) hR.x0 dX6_lost_6 ?_
    refine callVe_l hM mi_X1_lostByAll lk_X6_164 cf_X1 (by decide) (by decide) (c_X1_lostByAll l G hR hS hP) rfl rfl (by decide) (Nat.le_refl _) (by omega) (Nat.le_of_ble_eq_true rfl) dX6_lost_9 ?_
    exact hret _ _ _ _ _ _ ⟨by unfold rLost; rw [if_pos c2], rfl, rfl, rfl⟩ dX6_lost_12
set_option maxHeartbeats 4000000 in
set_option maxRecDepth 100000 in
theorem c_X6_saves (l : Launch) (G : kG) {I : kI} {L : kL} {X : kX} {A : kA} (hC : RC I L X A) (hA : AInv A) (t : Int32)  : Kl l yX6_saves cX6_saves 3 4 G [.ref (ad G 0), .int t] 153 153 I L X (pE (rSaves A t) I L X) := by
  refine Kl_intro (own := RX6) (lv0 := [some (.ref (ad G 0)), some (.int t), none]) 1 (by decide +kernel) rfl rfl (Nat.le_of_ble_eq_true rfl) (Nat.le_refl _) (fun J hM hret => ?_)
  obtain ⟨pm, hH, hS, hT⟩ := id hC
  have hR := hH.1
  have hP := hA.f
  have hn := hP.nT
  have hn8 := hP.nL
  refine q_aload_n hM dX6_saves_0 rfl ?_
  refine g_X6_10 hM (by decide) (by decide) hR.x0 dX6_saves_1 ?_
  refine q_iload_n hM dX6_saves_4 rfl ?_
  refine callV_q hM mi_X1_trapAt lk_X6_101 cf_X1 (by decide) (by decide) (c_X1_trapAt l G hR hS hP _) rfl rfl (by decide) (Nat.le_refl _) (by omega) (Nat.le_of_ble_eq_true rfl) dX6_saves_5 (fun qr I9 L9 X9 hp9 => ?_)
  obtain ⟨hp9, rfl, rfl, rfl⟩ := hp9
  rcases hp9 with ⟨j, hj, hjt, rfl⟩ | ⟨hno, rfl⟩
  · have hyes := trapYes hP hj
    subst hjt
    have hcj : cI (nI j) = j := cI_nI (by omega)
    have hj16 : j < 16 := by omega
    refine sa_3_2 hM dX6_saves_8 ?_
    refine q_aload_n hM dX6_saves_9 rfl ?_
    refine q_ifnonnull (tgt := 19) hM dX6_saves_10 (by decide) ?_
    refine q_aload_n hM dX6_saves_19 rfl ?_
    refine g_X6_10 hM (by decide) (by decide) hR.x0 dX6_saves_20 ?_
    refine q_aload_n hM dX6_saves_23 rfl ?_
    refine g_X6_10 hM (by decide) (by decide) hR.x0 dX6_saves_24 ?_
    refine q_aload_n hM dX6_saves_27 rfl ?_
    refine callVe_i hM mi_X1_lossOf lk_X6_155 cf_X1 (by decide) (by decide) (c_X1_lossOf l G hR hS hP j hj) rfl rfl (by decide) (Nat.le_refl _) (by omega) (Nat.le_of_ble_eq_true rfl) dX6_saves_28 ?_
    refine callVe_l hM mi_X1_priceADay lk_X6_174 cf_X1 (by decide) (by decide) (c_X1_priceADay l G hR hS hP _) rfl rfl (by decide) (Nat.le_refl _) (by omega) (Nat.le_of_ble_eq_true rfl) dX6_saves_31 ?_
    refine q_ldc2 hM cw_X6_178 dX6_saves_34 ?_
    refine q_ldiv hM dX6_saves_37 (by decide) ?_
    exact hret _ _ _ _ _ _ ⟨(by unfold rSaves; skip; (try (first | rw [if_pos hyes] | rw [if_neg hyes])); (first | rfl | (rw [hcj]; done) | (rw [hcj]; rfl) | skip)), rfl, rfl, rfl⟩ dX6_saves_38
  · refine saN_3_2 hM dX6_saves_8 ?_
    refine q_aload_nN hM dX6_saves_9 rfl ?_
    refine q_ifnonnullN hM dX6_saves_10 ?_
    refine q_ldc2 hM cw_X6_168 dX6_saves_13 ?_
    refine q_goto (tgt := 38) hM dX6_saves_16 (by decide) ?_
    exact hret _ _ _ _ _ _ ⟨(by unfold rSaves; skip; (try (first | rw [if_pos hno] | rw [if_neg hno])); (first | rfl | (rw [hcj]; done) | (rw [hcj]; rfl) | skip)), rfl, rfl, rfl⟩ dX6_saves_38
set_option maxHeartbeats 4000000 in
set_option maxRecDepth 100000 in
theorem c_X6_repairCost (l : Launch) (G : kG) {I : kI} {L : kL} {X : kX} {A : kA} (hC : RC I L X A) (hA : AInv A) (t : Int32)  : Ki l yX6_repairCost cX6_repairCost 3 1 G [.ref (ad G 0), .int t] 153 153 I L X (pE (rRepairCost A t) I L X) := by
  refine Ki_intro (own := RX6) (lv0 := [some (.ref (ad G 0)), some (.int t), none]) 1 (by decide +kernel) rfl rfl (Nat.le_of_ble_eq_true rfl) (Nat.le_refl _) (fun J hM hret => ?_)
  obtain ⟨pm, hH, hS, hT⟩ := id hC
  have hR := hH.1
  have hP := hA.f
  have hn := hP.nT
  have hn8 := hP.nL
  refine q_aload_n hM dX6_repairCost_0 rfl ?_
  refine g_X6_10 hM (by decide) (by decide) hR.x0 dX6_repairCost_1 ?_
  refine q_iload_n hM dX6_repairCost_4 rfl ?_
  refine callV_q hM mi_X1_trapAt lk_X6_101 cf_X1 (by decide) (by decide) (c_X1_trapAt l G hR hS hP _) rfl rfl (by decide) (Nat.le_refl _) (by omega) (Nat.le_of_ble_eq_true rfl) dX6_repairCost_5 (fun qr I9 L9 X9 hp9 => ?_)
  obtain ⟨hp9, rfl, rfl, rfl⟩ := hp9
  rcases hp9 with ⟨j, hj, hjt, rfl⟩ | ⟨hno, rfl⟩
  · have hyes := trapYes hP hj
    subst hjt
    have hcj : cI (nI j) = j := cI_nI (by omega)
    have hj16 : j < 16 := by omega
    refine sa_3_2 hM dX6_repairCost_8 ?_
    refine q_aload_n hM dX6_repairCost_9 rfl ?_
    refine q_ifnonnull (tgt := 18) hM dX6_repairCost_10 (by decide) ?_
    refine q_aload_n hM dX6_repairCost_18 rfl ?_
    refine callVe_i hM mi_X5_costOfRepair lk_X6_180 cf_X5 (ltT (t := j) (by omega)) (kdT (t := j) (by omega)) (c_X5_costOfRepair l G j (by omega)) rfl rfl (by decide) (Nat.le_refl _) (by omega) (Nat.le_of_ble_eq_true rfl) dX6_repairCost_19 ?_
    exact hret _ _ _ _ _ _ ⟨by unfold rRepairCost; rw [if_pos hyes, hcj, hS.tr hj (by decide), hS.tr hj (by decide)]; rfl, rfl, rfl, rfl⟩ dX6_repairCost_22
  · refine saN_3_2 hM dX6_repairCost_8 ?_
    refine q_aload_nN hM dX6_repairCost_9 rfl ?_
    refine q_ifnonnullN hM dX6_repairCost_10 ?_
    refine q_bipush (v := -2) hM dX6_repairCost_13 (by decide) ?_
    refine q_goto (tgt := 22) hM dX6_repairCost_15 (by decide) ?_
    exact hret _ _ _ _ _ _ ⟨by unfold rRepairCost; rw [if_neg hno], rfl, rfl, rfl⟩ dX6_repairCost_22
set_option maxHeartbeats 4000000 in
set_option maxRecDepth 100000 in
theorem c_X6_payback (l : Launch) (G : kG) {I : kI} {L : kL} {X : kX} {A : kA} (hC : RC I L X A) (hA : AInv A) (t : Int32)  : Kl l yX6_payback cX6_payback 3 5 G [.ref (ad G 0), .int t] 153 153 I L X (pE (rPayback A t) I L X) := by
  refine Kl_intro (own := RX6) (lv0 := [some (.ref (ad G 0)), some (.int t), none]) 1 (by decide +kernel) rfl rfl (Nat.le_of_ble_eq_true rfl) (Nat.le_refl _) (fun J hM hret => ?_)
  obtain ⟨pm, hH, hS, hT⟩ := id hC
  have hR := hH.1
  have hP := hA.f
  have hn := hP.nT
  have hn8 := hP.nL
  refine q_aload_n hM dX6_payback_0 rfl ?_
  refine g_X6_10 hM (by decide) (by decide) hR.x0 dX6_payback_1 ?_
  refine q_iload_n hM dX6_payback_4 rfl ?_
  refine callV_q hM mi_X1_trapAt lk_X6_101 cf_X1 (by decide) (by decide) (c_X1_trapAt l G hR hS hP _) rfl rfl (by decide) (Nat.le_refl _) (by omega) (Nat.le_of_ble_eq_true rfl) dX6_payback_5 (fun qr I9 L9 X9 hp9 => ?_)
  obtain ⟨hp9, rfl, rfl, rfl⟩ := hp9
  rcases hp9 with ⟨j, hj, hjt, rfl⟩ | ⟨hno, rfl⟩
  · have hyes := trapYes hP hj
    subst hjt
    have hcj : cI (nI j) = j := cI_nI (by omega)
    have hj16 : j < 16 := by omega
    refine sa_3_2 hM dX6_payback_8 ?_
    refine q_aload_n hM dX6_payback_9 rfl ?_
    refine q_ifnonnull (tgt := 19) hM dX6_payback_10 (by decide) ?_
    refine q_aload_n hM dX6_payback_19 rfl ?_
    refine g_X6_10 hM (by decide) (by decide) hR.x0 dX6_payback_20 ?_
    refine q_aload_n hM dX6_payback_23 rfl ?_
    refine callVe_l hM mi_X1_paybackOf lk_X6_184 cf_X1 (by decide) (by decide) (c_X1_paybackOf l G hR hS hP j hj) rfl rfl (by decide) (Nat.le_refl _) (by omega) (Nat.le_of_ble_eq_true rfl) dX6_payback_24 ?_
    exact hret _ _ _ _ _ _ ⟨(by unfold rPayback; skip; (try (first | rw [if_pos hyes] | rw [if_neg hyes])); (first | rfl | (rw [hcj]; done) | (rw [hcj]; rfl) | skip)), rfl, rfl, rfl⟩ dX6_payback_27
  · refine saN_3_2 hM dX6_payback_8 ?_
    refine q_aload_nN hM dX6_payback_9 rfl ?_
    refine q_ifnonnullN hM dX6_payback_10 ?_
    refine q_ldc2 hM cw_X6_168 dX6_payback_13 ?_
    refine q_goto (tgt := 27) hM dX6_payback_16 (by decide) ?_
    exact hret _ _ _ _ _ _ ⟨(by unfold rPayback; skip; (try (first | rw [if_pos hno] | rw [if_neg hno])); (first | rfl | (rw [hcj]; done) | (rw [hcj]; rfl) | skip)), rfl, rfl, rfl⟩ dX6_payback_27
set_option maxHeartbeats 4000000 in
set_option maxRecDepth 100000 in
theorem c_X6_isDue (l : Launch) (G : kG) {I : kI} {L : kL} {X : kX} {A : kA} (hC : RC I L X A) (hA : AInv A) (t : Int32)  : Ki l yX6_isDue cX6_isDue 3 1 G [.ref (ad G 0), .int t] 153 153 I L X (pE (rIsDue A t) I L X) := by
  refine Ki_intro (own := RX6) (lv0 := [some (.ref (ad G 0)), some (.int t), none]) 1 (by decide +kernel) rfl rfl (Nat.le_of_ble_eq_true rfl) (Nat.le_refl _) (fun J hM hret => ?_)
  obtain ⟨pm, hH, hS, hT⟩ := id hC
  have hR := hH.1
  have hP := hA.f
  have hn := hP.nT
  have hn8 := hP.nL
  refine q_aload_n hM dX6_isDue_0 rfl ?_
  refine g_X6_10 hM (by decide) (by decide) hR.x0 dX6_isDue_1 ?_
  refine q_iload_n hM dX6_isDue_4 rfl ?_
  refine callV_q hM mi_X1_trapAt lk_X6_101 cf_X1 (by decide) (by decide) (c_X1_trapAt l G hR hS hP _) rfl rfl (by decide) (Nat.le_refl _) (by omega) (Nat.le_of_ble_eq_true rfl) dX6_isDue_5 (fun qr I9 L9 X9 hp9 => ?_)
  obtain ⟨hp9, rfl, rfl, rfl⟩ := hp9
  rcases hp9 with ⟨j, hj, hjt, rfl⟩ | ⟨hno, rfl⟩
  · have hyes := trapYes hP hj
    subst hjt
    have hcj : cI (nI j) = j := cI_nI (by omega)
    have hj16 : j < 16 := by omega
    refine sa_3_2 hM dX6_isDue_8 ?_
    refine q_aload_n hM dX6_isDue_9 rfl ?_
    refine q_ifnonnull (tgt := 16) hM dX6_isDue_10 (by decide) ?_
    refine q_aload_n hM dX6_isDue_16 rfl ?_
    refine g_X6_10 hM (by decide) (by decide) hR.x0 dX6_isDue_17 ?_
    refine q_aload_n hM dX6_isDue_20 rfl ?_
    refine callVe_z hM mi_X1_needsVisit lk_X6_198 cf_X1 (by decide) (by decide) (c_X1_needsVisit l G hR hS hP j hj) rfl rfl (by decide) (Nat.le_refl _) (by omega) (Nat.le_of_ble_eq_true rfl) dX6_isDue_21 ?_
    refine q_ifd_eq (tgt := 31) hM dX6_isDue_24 (by decide) (fun c24 => ?_) (fun c24 => ?_)
    · refine q_iconst (v := 0) hM dX6_isDue_31 (by decide) ?_
      exact hret _ _ _ _ _ _ ⟨by unfold rIsDue; rw [if_pos hyes, hcj]; skip; (try (first | rw [if_pos hyes] | rw [if_neg hyes])); (try (first | rw [if_pos c24] | rw [if_neg c24])); try rfl, rfl, rfl, rfl⟩ dX6_isDue_32
    · refine q_iconst (v := 1) hM dX6_isDue_27 (by decide) ?_
      refine q_goto (tgt := 32) hM dX6_isDue_28 (by decide) ?_
      exact hret _ _ _ _ _ _ ⟨by unfold rIsDue; rw [if_pos hyes, hcj]; skip; (try (first | rw [if_pos hyes] | rw [if_neg hyes])); (try (first | rw [if_pos c24] | rw [if_neg c24])); try rfl, rfl, rfl, rfl⟩ dX6_isDue_32
  · refine saN_3_2 hM dX6_isDue_8 ?_
    refine q_aload_nN hM dX6_isDue_9 rfl ?_
    refine q_ifnonnullN hM dX6_isDue_10 ?_
    refine q_bipush (v := -2) hM dX6_isDue_13 (by decide) ?_
    exact hret _ _ _ _ _ _ ⟨(by unfold rIsDue; skip; (try (first | rw [if_pos hno] | rw [if_neg hno])); (first | rfl | (rw [hcj]; done) | (rw [hcj]; rfl) | skip)), rfl, rfl, rfl⟩ dX6_isDue_15
set_option maxHeartbeats 4000000 in
set_option maxRecDepth 100000 in
theorem c_X6_dueOn (l : Launch) (G : kG) {I : kI} {L : kL} {X : kX} {A : kA} (hC : RC I L X A) (hA : AInv A) (t : Int32)  : Ki l yX6_dueOn cX6_dueOn 3 1 G [.ref (ad G 0), .int t] 153 153 I L X (pE (rDueOn A t) I L X) := by
  refine Ki_intro (own := RX6) (lv0 := [some (.ref (ad G 0)), some (.int t), none]) 1 (by decide +kernel) rfl rfl (Nat.le_of_ble_eq_true rfl) (Nat.le_refl _) (fun J hM hret => ?_)
  obtain ⟨pm, hH, hS, hT⟩ := id hC
  have hR := hH.1
  have hP := hA.f
  have hn := hP.nT
  have hn8 := hP.nL
  refine q_aload_n hM dX6_dueOn_0 rfl ?_
  refine g_X6_10 hM (by decide) (by decide) hR.x0 dX6_dueOn_1 ?_
  refine q_iload_n hM dX6_dueOn_4 rfl ?_
  refine callV_q hM mi_X1_trapAt lk_X6_101 cf_X1 (by decide) (by decide) (c_X1_trapAt l G hR hS hP _) rfl rfl (by decide) (Nat.le_refl _) (by omega) (Nat.le_of_ble_eq_true rfl) dX6_dueOn_5 (fun qr I9 L9 X9 hp9 => ?_)
  obtain ⟨hp9, rfl, rfl, rfl⟩ := hp9
  rcases hp9 with ⟨j, hj, hjt, rfl⟩ | ⟨hno, rfl⟩
  · have hyes := trapYes hP hj
    subst hjt
    have hcj : cI (nI j) = j := cI_nI (by omega)
    have hj16 : j < 16 := by omega
    refine sa_3_2 hM dX6_dueOn_8 ?_
    refine q_aload_n hM dX6_dueOn_9 rfl ?_
    refine q_ifnonnull (tgt := 16) hM dX6_dueOn_10 (by decide) ?_
    refine q_aload_n hM dX6_dueOn_16 rfl ?_
    refine g_X6_10 hM (by decide) (by decide) hR.x0 dX6_dueOn_17 ?_
    refine q_aload_n hM dX6_dueOn_20 rfl ?_
    refine callVe_z hM mi_X1_needsVisit lk_X6_198 cf_X1 (by decide) (by decide) (c_X1_needsVisit l G hR hS hP j hj) rfl rfl (by decide) (Nat.le_refl _) (by omega) (Nat.le_of_ble_eq_true rfl) dX6_dueOn_21 ?_
    refine q_ifd_eq (tgt := 37) hM dX6_dueOn_24 (by decide) (fun c24 => ?_) (fun c24 => ?_)
    · refine q_aload_n hM dX6_dueOn_37 rfl ?_
      refine g_X6_123 hM (ltT (t := j) (by omega)) (kdT (t := j) (by omega)) dX6_dueOn_38 ?_
      refine q_aload_n hM dX6_dueOn_41 rfl ?_
      refine g_X6_10 hM (by decide) (by decide) hR.x0 dX6_dueOn_42 ?_
      refine g_X6_89 hM (by decide) (by decide) dX6_dueOn_45 ?_
      refine q_iadd hM dX6_dueOn_48 ?_
      exact hret _ _ _ _ _ _ ⟨by unfold rDueOn; rw [if_pos hyes, hcj]; skip; (try (first | rw [if_pos hyes] | rw [if_neg hyes])); (try (first | rw [if_pos c24] | rw [if_neg c24])); first | exact hS.a5 | (rw [hS.tr hj (by decide), hS.a4]), rfl, rfl, rfl⟩ dX6_dueOn_49
    · refine q_aload_n hM dX6_dueOn_27 rfl ?_
      refine g_X6_10 hM (by decide) (by decide) hR.x0 dX6_dueOn_28 ?_
      refine g_X6_92 hM (by decide) (by decide) dX6_dueOn_31 ?_
      refine q_goto (tgt := 49) hM dX6_dueOn_34 (by decide) ?_
      exact hret _ _ _ _ _ _ ⟨by unfold rDueOn; rw [if_pos hyes, hcj]; skip; (try (first | rw [if_pos hyes] | rw [if_neg hyes])); (try (first | rw [if_pos c24] | rw [if_neg c24])); first | exact hS.a5 | (rw [hS.tr hj (by decide), hS.a4]), rfl, rfl, rfl⟩ dX6_dueOn_49
  · refine saN_3_2 hM dX6_dueOn_8 ?_
    refine q_aload_nN hM dX6_dueOn_9 rfl ?_
    refine q_ifnonnullN hM dX6_dueOn_10 ?_
    refine q_bipush (v := -2) hM dX6_dueOn_13 (by decide) ?_
    exact hret _ _ _ _ _ _ ⟨(by unfold rDueOn; skip; (try (first | rw [if_pos hno] | rw [if_neg hno])); (first | rfl | (rw [hcj]; done) | (rw [hcj]; rfl) | skip)), rfl, rfl, rfl⟩ dX6_dueOn_15
set_option maxHeartbeats 4000000 in
set_option maxRecDepth 100000 in
theorem c_X6_repair (l : Launch) (G : kG) {I : kI} {L : kL} {X : kX} {A : kA} (hC : RC I L X A) (hA : AInv A) (t : Int32)  : Ki l yX6_repair cX6_repair 3 3 G [.ref (ad G 0), .int t] 153 153 I L X (fun v I' L' X' => v = rRepair A t ∧ RC I' L' X' (sRepair A t) ∧ FrM I I' L L' X X') := by
  refine Ki_intro (own := RX6) (lv0 := [some (.ref (ad G 0)), some (.int t), none]) 1 (by decide +kernel) rfl rfl (Nat.le_of_ble_eq_true rfl) (Nat.le_refl _) (fun J hM hret => ?_)
  obtain ⟨pm, hH, hS, hT⟩ := id hC
  have hR := hH.1
  have hP := hA.f
  have hn := hP.nT
  have hn8 := hP.nL
  refine q_aload_n hM dX6_repair_0 rfl ?_
  refine g_X6_10 hM (by decide) (by decide) hR.x0 dX6_repair_1 ?_
  refine q_iload_n hM dX6_repair_4 rfl ?_
  refine callV_q hM mi_X1_trapAt lk_X6_101 cf_X1 (by decide) (by decide) (c_X1_trapAt l G hR hS hP _) rfl rfl (by decide) (Nat.le_refl _) (by omega) (Nat.le_of_ble_eq_true rfl) dX6_repair_5 (fun qr I9 L9 X9 hp9 => ?_)
  obtain ⟨hp9, rfl, rfl, rfl⟩ := hp9
  rcases hp9 with ⟨j, hj, hjt, rfl⟩ | ⟨hno, rfl⟩
  · have hyes := trapYes hP hj
    subst hjt
    have hcj : cI (nI j) = j := cI_nI (by omega)
    have hj16 : j < 16 := by omega
    refine sa_3_2 hM dX6_repair_8 ?_
    refine q_aload_n hM dX6_repair_9 rfl ?_
    refine q_ifnonnull (tgt := 16) hM dX6_repair_10 (by decide) ?_
    refine q_aload_n hM dX6_repair_16 rfl ?_
    refine g_X6_120 hM (ltT (t := j) (by omega)) (kdT (t := j) (by omega)) dX6_repair_17 ?_
    refine q_if_eq (tgt := 31) hM dX6_repair_20 (by decide) (fun c20 => ?_) (fun c20 => ?_)
    · have h2 : sOf (aF A) j 5 < 2 := by rw [hS.tr hj (w := 5) (by decide)] at c20; rw [c20]; decide
      refine q_bipush (v := -4) hM dX6_repair_31 (by decide) ?_
      exact hret _ _ _ _ _ _ ⟨by unfold rRepair; rw [if_pos hyes, hcj, if_pos h2], by unfold sRepair; rw [if_pos hyes, hcj, if_pos h2]; exact hC, FrM.rf⟩ dX6_repair_33
    · refine q_aload_n hM dX6_repair_23 rfl ?_
      refine g_X6_120 hM (ltT (t := j) (by omega)) (kdT (t := j) (by omega)) dX6_repair_24 ?_
      refine q_iconst (v := 1) hM dX6_repair_27 (by decide) ?_
      refine q_icmp_ne (tgt := 34) hM dX6_repair_28 (by decide) (fun c28 => ?_) (fun c28 => ?_)
      · have hst := (hP.t hj).2.2.2.2.2.1
        have e5 := hS.tr hj (w := 5) (by decide)
        have h2 : ¬ sOf (aF A) j 5 < 2 := by rw [e5] at c20 c28; exact st_ge2 hst c20 c28
        refine q_aload_n hM dX6_repair_34 rfl ?_
        refine g_X6_19 hM (by decide) (by decide) hR.x1 dX6_repair_35 ?_
        refine q_aload_n hM dX6_repair_38 rfl ?_
        refine g_X6_10 hM (by decide) (by decide) hR.x0 dX6_repair_39 ?_
        refine callV_v hM mi_X0_keep lk_X6_52 cf_X0 (by decide) (by decide) (c_X0_keep l G hH hS hA) rfl rfl (by decide) (Nat.le_refl _) (by omega) (Nat.le_of_ble_eq_true rfl) dX6_repair_42 (fun I9 L9 X9 hp9 => ?_)
        have hk := hp9
        have hS9 := hk.sm hA hS
        have hR9 := hk.1.choose_spec.1
        refine q_aload_n hM dX6_repair_45 rfl ?_
        refine g_X6_10 hM (by decide) (by decide) hR9.x0 dX6_repair_46 ?_
        refine q_aload_n hM dX6_repair_49 rfl ?_
        refine callV_v hM mi_X1_mend lk_X6_194 cf_X1 (by decide) (by decide) (c_X1_mend l G hR9 hS9 hP j hj) rfl rfl (by decide) (Nat.le_refl _) (by omega) (Nat.le_of_ble_eq_true rfl) dX6_repair_50 (fun I9 L9 X9 hp9 => ?_)
        obtain ⟨hS2, hF2, rfl⟩ := hp9
        refine q_aload_n hM dX6_repair_53 rfl ?_
        refine callVe_i hM mi_X5_costOfRepair lk_X6_180 cf_X5 (ltT (t := j) (by omega)) (kdT (t := j) (by omega)) (c_X5_costOfRepair l G j (by omega)) rfl rfl (by decide) (Nat.le_refl _) (by omega) (Nat.le_of_ble_eq_true rfl) dX6_repair_54 ?_
        have hd := RC.done hk hA hT hS2 hF2 rfl
        exact hret _ _ _ _ _ _ ⟨by unfold rRepair; rw [if_pos hyes, hcj, if_neg h2, mendF_cost hS2 hj], by unfold sRepair; rw [if_pos hyes, hcj, if_neg h2]; exact hd.1, hd.2⟩ dX6_repair_57
      · have h2 : sOf (aF A) j 5 < 2 := by rw [hS.tr hj (w := 5) (by decide)] at c28; rw [c28]; decide
        refine q_bipush (v := -4) hM dX6_repair_31 (by decide) ?_
        exact hret _ _ _ _ _ _ ⟨by unfold rRepair; rw [if_pos hyes, hcj, if_pos h2], by unfold sRepair; rw [if_pos hyes, hcj, if_pos h2]; exact hC, FrM.rf⟩ dX6_repair_33
  · refine saN_3_2 hM dX6_repair_8 ?_
    refine q_aload_nN hM dX6_repair_9 rfl ?_
    refine q_ifnonnullN hM dX6_repair_10 ?_
    refine q_bipush (v := -2) hM dX6_repair_13 (by decide) ?_
    exact hret _ _ _ _ _ _ ⟨by unfold rRepair; rw [if_neg hno], by unfold sRepair; rw [if_neg hno]; exact hC, FrM.rf⟩ dX6_repair_15
set_option maxHeartbeats 4000000 in
set_option maxRecDepth 100000 in
theorem c_X6_undo (l : Launch) (G : kG) {I : kI} {L : kL} {X : kX} {A : kA} (hC : RC I L X A) (hA : AInv A)  : Ki l yX6_undo cX6_undo 1 3 G [.ref (ad G 0)] 153 153 I L X (fun v I' L' X' => v = rUndo A ∧ RC I' L' X' (sUndo A) ∧ FrM I I' L L' X X') := by
  refine Ki_intro (own := RX6) (lv0 := [some (.ref (ad G 0))]) 0 (by decide +kernel) rfl rfl (Nat.le_of_ble_eq_true rfl) (Nat.le_refl _) (fun J hM hret => ?_)
  obtain ⟨pm, hH, hS, hT⟩ := id hC
  have hR := hH.1
  have hP := hA.f
  have hn := hP.nT
  have hn8 := hP.nL
  refine q_aload_n hM dX6_undo_0 rfl ?_
  refine g_X6_19 hM (by decide) (by decide) hR.x1 dX6_undo_1 ?_
  refine q_aload_n hM dX6_undo_4 rfl ?_
  refine g_X6_10 hM (by decide) (by decide) hR.x0 dX6_undo_5 ?_
  refine callV_z hM mi_X0_takeBack lk_X6_211 cf_X0 (by decide) (by decide) (c_X0_takeBack l G hH hA) rfl rfl (by decide) (Nat.le_refl _) (by omega) (Nat.le_of_ble_eq_true rfl) dX6_undo_8 (fun z9 I9 L9 X9 hp9 => ?_)
  obtain ⟨rfl, hf9, hz⟩ := hp9
  rcases hz with ⟨rfl, hz0, rfl, rfl⟩ | ⟨rfl, hpos, hn9, hS9⟩
  · refine q_if_eq_t (tgt := 24) hM dX6_undo_11 (by decide) (by decide) ?_
    refine q_bipush (v := -4) hM dX6_undo_24 (by decide) ?_
    exact hret _ _ _ _ _ _ ⟨by unfold rUndo; rw [if_pos hz0], by unfold sUndo; rw [if_pos hz0]; exact hC, FrM.rf⟩ dX6_undo_26
  · refine q_if_eq_f (tgt := 24) hM dX6_undo_11 (by decide) (by decide) ?_
    refine q_aload_n hM dX6_undo_14 rfl ?_
    refine g_X6_19 hM (by decide) (by decide) hR.x1 dX6_undo_15 ?_
    refine g_X6_215 hM (by decide) (by decide) dX6_undo_18 ?_
    refine q_topi (nI (aN A - 1)) hn9 ?_
    refine q_goto (tgt := 26) hM dX6_undo_21 (by decide) ?_
    exact hret _ _ _ _ _ _ ⟨by unfold rUndo; rw [if_neg (by omega)], by unfold sUndo; rw [if_neg (by omega)]; exact RC.undone hC hA hpos hf9 hn9 hS9, fun r hr => ⟨(hf9 r (by omega)).1, (hf9 r (by omega)).2, rfl⟩⟩ dX6_undo_26
