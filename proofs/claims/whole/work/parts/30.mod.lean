/-! ===== the reference's own helpers ===== -/
theorem addN {x : Int32} {a b : Nat} (h : x = nI b) : nI a + x = nI (a + b) := by rw [h, nI_add]
theorem ixw (w a i : Nat) : nI w * nI a + nI i = nI (w * a + i) := by rw [pk_mul, nI_add]
theorem Mm.setI {I : kI} {L : kL} {f : Fr} {g : Gr} (h : Mm I L f g) {i : Nat} (hi : i < 131) (v : Int32) : Mm (up2 I 154 i v) L (va_up f i v) g := by
  refine ⟨fun j hj => ?_, h.2⟩
  by_cases hji : j = i
  · subst hji; rw [up2_self, va_up_self]
  · rw [up2_ne (by omega), va_up_ne _ _ hji]; exact h.1 j hj

set_option maxHeartbeats 4000000 in
set_option maxRecDepth 100000 in
theorem c_X7_in (l : Launch) (G : kG) {I : kI} {L : kL} {X : kX} (v a b : Int32)  : Kz l yX7_in cX7_in 3 0 G [.int v, .int a, .int b] 159 159 I L X (pE (decide (a ≤ v ∧ v ≤ b)) I L X) := by
  refine Kz_intro (own := RX7) (lv0 := [some (.int v), some (.int a), some (.int b)]) 0 (by decide +kernel) rfl rfl (Nat.le_of_ble_eq_true rfl) (Nat.le_refl _) (fun J hM hret => ?_)
  refine q_iload_n hM dX7_in_0 rfl ?_
  refine q_iload_n hM dX7_in_1 rfl ?_
  refine q_icmp_lt (tgt := 14) hM dX7_in_2 (by decide) (fun c2 => ?_) (fun c2 => ?_)
  · refine q_iconst (v := 0) hM dX7_in_14 (by decide) ?_
    exact hret false _ _ _ _ _ _ rfl ⟨(by simp only [lt_i, le_i, Int.not_lt, Int.not_le] at c2 ⊢; first | (apply Eq.symm; apply decide_eq_true; omega) | (apply Eq.symm; apply decide_eq_false; omega)), rfl, rfl, rfl⟩ dX7_in_15
  · refine q_iload_n hM dX7_in_5 rfl ?_
    refine q_iload_n hM dX7_in_6 rfl ?_
    refine q_icmp_gt (tgt := 14) hM dX7_in_7 (by decide) (fun c7 => ?_) (fun c7 => ?_)
    · refine q_iconst (v := 0) hM dX7_in_14 (by decide) ?_
      exact hret false _ _ _ _ _ _ rfl ⟨(by simp only [lt_i, le_i, Int.not_lt, Int.not_le] at c2 c7 ⊢; first | (apply Eq.symm; apply decide_eq_true; omega) | (apply Eq.symm; apply decide_eq_false; omega)), rfl, rfl, rfl⟩ dX7_in_15
    · refine q_iconst (v := 1) hM dX7_in_10 (by decide) ?_
      refine q_goto (tgt := 15) hM dX7_in_11 (by decide) ?_
      exact hret true _ _ _ _ _ _ rfl ⟨(by simp only [lt_i, le_i, Int.not_lt, Int.not_le] at c2 c7 ⊢; first | (apply Eq.symm; apply decide_eq_true; omega) | (apply Eq.symm; apply decide_eq_false; omega)), rfl, rfl, rfl⟩ dX7_in_15
set_option maxHeartbeats 4000000 in
set_option maxRecDepth 100000 in
theorem c_X7_isHeader (l : Launch) (G : kG) {I : kI} {L : kL} {X : kX} (h : Int32)  : Kz l yX7_isHeader cX7_isHeader 1 1 G [.int h] 159 159 I L X (pE (decide (0 ≤ h ∧ h < 3)) I L X) := by
  refine Kz_intro (own := RX7) (lv0 := [some (.int h)]) 0 (by decide +kernel) rfl rfl (Nat.le_of_ble_eq_true rfl) (Nat.le_refl _) (fun J hM hret => ?_)
  refine q_iload_n hM dX7_isHeader_0 rfl ?_
  refine q_iconst (v := 0) hM dX7_isHeader_1 (by decide) ?_
  refine q_iconst (v := 2) hM dX7_isHeader_2 (by decide) ?_
  refine callSe_z hM mi_X7_in lk_X7_35 (c_X7_in l G _ _ _) rfl rfl (by decide) (Nat.le_refl _) (by omega) (Nat.le_of_ble_eq_true rfl) dX7_isHeader_3 ?_
  exact hret _ _ _ _ _ _ _ rfl ⟨decide_eq_decide.mpr in_two, rfl, rfl, rfl⟩ dX7_isHeader_6
set_option maxHeartbeats 4000000 in
set_option maxRecDepth 100000 in
theorem c_X7_isLine (l : Launch) (G : kG) {I : kI} {L : kL} {X : kX} {f : Fr} {g : Gr} (hR : RefM X) (hm : Mm I L f g) (hP : PInv f) (i : Int32)  : Kz l yX7_isLine cX7_isLine 2 1 G [.ref (ad G 153), .int i] 159 159 I L X (pE (decide (0 ≤ i ∧ i < f 0)) I L X) := by
  refine Kz_intro (own := RX7) (lv0 := [some (.ref (ad G 153)), some (.int i)]) 0 (by decide +kernel) rfl rfl (Nat.le_of_ble_eq_true rfl) (Nat.le_refl _) (fun J hM hret => ?_)
  refine q_iload_n hM dX7_isLine_0 rfl ?_
  refine q_iconst (v := 0) hM dX7_isLine_1 (by decide) ?_
  refine q_aload_n hM dX7_isLine_2 rfl ?_
  refine g_X7_7 hM (by decide) (by decide) hR.m0 dX7_isLine_3 ?_
  refine q_iconst (v := 0) hM dX7_isLine_6 (by decide) ?_
  refine q_row hM hm 0 rfl (by decide) (by decide) dX7_isLine_7 ?_
  refine q_iconst (v := 1) hM dX7_isLine_8 (by decide) ?_
  refine q_isub hM dX7_isLine_9 ?_
  refine callSe_z hM mi_X7_in lk_X7_35 (c_X7_in l G _ _ _) rfl rfl (by decide) (Nat.le_refl _) (by omega) (Nat.le_of_ble_eq_true rfl) dX7_isLine_10 ?_
  exact hret _ _ _ _ _ _ _ rfl ⟨decide_eq_decide.mpr (in_last ⟨hP.1.1.1, Int.le_trans hP.1.1.2 (by decide)⟩), rfl, rfl, rfl⟩ dX7_isLine_13
set_option maxHeartbeats 4000000 in
set_option maxRecDepth 100000 in
theorem c_X7_isTrap (l : Launch) (G : kG) {I : kI} {L : kL} {X : kX} {f : Fr} {g : Gr} (hR : RefM X) (hm : Mm I L f g) (hP : PInv f) (i : Int32)  : Kz l yX7_isTrap cX7_isTrap 2 1 G [.ref (ad G 153), .int i] 159 159 I L X (pE (decide (0 ≤ i ∧ i < f 1)) I L X) := by
  refine Kz_intro (own := RX7) (lv0 := [some (.ref (ad G 153)), some (.int i)]) 0 (by decide +kernel) rfl rfl (Nat.le_of_ble_eq_true rfl) (Nat.le_refl _) (fun J hM hret => ?_)
  refine q_iload_n hM dX7_isTrap_0 rfl ?_
  refine q_iconst (v := 0) hM dX7_isTrap_1 (by decide) ?_
  refine q_aload_n hM dX7_isTrap_2 rfl ?_
  refine g_X7_7 hM (by decide) (by decide) hR.m0 dX7_isTrap_3 ?_
  refine q_iconst (v := 1) hM dX7_isTrap_6 (by decide) ?_
  refine q_row hM hm 1 rfl (by decide) (by decide) dX7_isTrap_7 ?_
  refine q_iconst (v := 1) hM dX7_isTrap_8 (by decide) ?_
  refine q_isub hM dX7_isTrap_9 ?_
  refine callSe_z hM mi_X7_in lk_X7_35 (c_X7_in l G _ _ _) rfl rfl (by decide) (Nat.le_refl _) (by omega) (Nat.le_of_ble_eq_true rfl) dX7_isTrap_10 ?_
  exact hret _ _ _ _ _ _ _ rfl ⟨decide_eq_decide.mpr (in_last hP.1.2), rfl, rfl, rfl⟩ dX7_isTrap_13
set_option maxHeartbeats 4000000 in
set_option maxRecDepth 100000 in
theorem c_X7_of (l : Launch) (G : kG) {I : kI} {L : kL} {X : kX} {f : Fr} {g : Gr} (hR : RefM X) (hm : Mm I L f g) (t w : Nat) (ht : t < 16) (hw : w < 7)  : Ki l yX7_of cX7_of 3 0 G [.ref (ad G 153), .int (nI t), .int (nI w)] 159 159 I L X (pE (sOf f t w) I L X) := by
  refine Ki_intro (own := RX7) (lv0 := [some (.ref (ad G 153)), some (.int (nI t)), some (.int (nI w))]) 0 (by decide +kernel) rfl rfl (Nat.le_of_ble_eq_true rfl) (Nat.le_refl _) (fun J hM hret => ?_)
  refine q_aload_n hM dX7_of_0 rfl ?_
  refine g_X7_7 hM (by decide) (by decide) hR.m0 dX7_of_1 ?_
  refine q_bipush (v := 19) hM dX7_of_4 (by decide) ?_
  refine q_bipush (v := 7) hM dX7_of_6 (by decide) ?_
  refine q_iload_n hM dX7_of_8 rfl ?_
  refine q_imul hM dX7_of_9 ?_
  refine q_iadd hM dX7_of_10 ?_
  refine q_iload_n hM dX7_of_11 rfl ?_
  refine q_iadd hM dX7_of_12 ?_
  refine q_row hM hm (19 + 7 * t + w) (ix7 t w) (by omega) (by decide) dX7_of_13 ?_
  exact hret _ _ _ _ _ _ ⟨rfl, rfl, rfl, rfl⟩ dX7_of_14
set_option maxHeartbeats 4000000 in
set_option maxRecDepth 100000 in
theorem c_X7_header (l : Launch) (G : kG) {I : kI} {L : kL} {X : kX} {f : Fr} {g : Gr} (hR : RefM X) (hm : Mm I L f g) (hP : PInv f) (t : Nat) (ht : t < cI (f 1))  : Ki l yX7_header cX7_header 2 1 G [.ref (ad G 153), .int (nI t)] 159 159 I L X (pE (nI (sH f t)) I L X) := by
  refine Ki_intro (own := RX7) (lv0 := [some (.ref (ad G 153)), some (.int (nI t))]) 0 (by decide +kernel) rfl rfl (Nat.le_of_ble_eq_true rfl) (Nat.le_refl _) (fun J hM hret => ?_)
  have hn := hP.nT
  have hn8 := hP.nL
  have hl := hP.ln ht
  have hh := hP.hd ht
  refine q_aload_n hM dX7_header_0 rfl ?_
  refine g_X7_7 hM (by decide) (by decide) hR.m0 dX7_header_1 ?_
  refine q_bipush (v := 11) hM dX7_header_4 (by decide) ?_
  refine q_aload_n hM dX7_header_6 rfl ?_
  refine q_iload_n hM dX7_header_7 rfl ?_
  refine q_iconst (v := 0) hM dX7_header_8 (by decide) ?_
  refine callVe_i hM mi_X7_of lk_X7_39 cf_X7 (by decide) (by decide) (c_X7_of l G hR hm t 0 (by omega) (by decide)) rfl rfl (by decide) (Nat.le_refl _) (by omega) (Nat.le_of_ble_eq_true rfl) dX7_header_9 ?_
  refine q_iadd hM dX7_header_12 ?_
  refine q_row hM hm (11 + cI (sOf f t 0)) (addN (a := 11) hl.1) (by omega) (by decide) dX7_header_13 ?_
  exact hret _ _ _ _ _ _ ⟨hh.2, rfl, rfl, rfl⟩ dX7_header_14
set_option maxHeartbeats 4000000 in
set_option maxRecDepth 100000 in
theorem c_X7_isReading (l : Launch) (G : kG) {I : kI} {L : kL} {X : kX} (i o c : Int32)  : Kz l yX7_isReading cX7_isReading 3 1 G [.int i, .int o, .int c] 159 159 I L X (pE (decide ((0 ≤ i ∧ i ≤ 300) ∧ (0 ≤ o ∧ o ≤ 300) ∧ (0 ≤ c ∧ c ≤ 60))) I L X) := by
  refine Kz_intro (own := RX7) (lv0 := [some (.int i), some (.int o), some (.int c)]) 0 (by decide +kernel) rfl rfl (Nat.le_of_ble_eq_true rfl) (Nat.le_refl _) (fun J hM hret => ?_)
  refine q_iload_n hM dX7_isReading_0 rfl ?_
  refine q_iconst (v := 0) hM dX7_isReading_1 (by decide) ?_
  refine q_sipush (v := 300) hM dX7_isReading_2 (by decide) ?_
  refine callSe_z hM mi_X7_in lk_X7_35 (c_X7_in l G _ _ _) rfl rfl (by decide) (Nat.le_refl _) (by omega) (Nat.le_of_ble_eq_true rfl) dX7_isReading_5 ?_
  refine q_ifd_eq (tgt := 36) hM dX7_isReading_8 (by decide) (fun c8 => ?_) (fun c8 => ?_)
  · refine q_iconst (v := 0) hM dX7_isReading_36 (by decide) ?_
    exact hret false _ _ _ _ _ _ rfl ⟨(by first | exact (decide_eq_true (by simp [*])).symm | exact (decide_eq_false (by simp [*])).symm), rfl, rfl, rfl⟩ dX7_isReading_37
  · refine q_iload_n hM dX7_isReading_11 rfl ?_
    refine q_iconst (v := 0) hM dX7_isReading_12 (by decide) ?_
    refine q_sipush (v := 300) hM dX7_isReading_13 (by decide) ?_
    refine callSe_z hM mi_X7_in lk_X7_35 (c_X7_in l G _ _ _) rfl rfl (by decide) (Nat.le_refl _) (by omega) (Nat.le_of_ble_eq_true rfl) dX7_isReading_16 ?_
    refine q_ifd_eq (tgt := 36) hM dX7_isReading_19 (by decide) (fun c19 => ?_) (fun c19 => ?_)
    · refine q_iconst (v := 0) hM dX7_isReading_36 (by decide) ?_
      exact hret false _ _ _ _ _ _ rfl ⟨(by first | exact (decide_eq_true (by simp [*])).symm | exact (decide_eq_false (by simp [*])).symm), rfl, rfl, rfl⟩ dX7_isReading_37
    · refine q_iload_n hM dX7_isReading_22 rfl ?_
      refine q_iconst (v := 0) hM dX7_isReading_23 (by decide) ?_
      refine q_bipush (v := 60) hM dX7_isReading_24 (by decide) ?_
      refine callSe_z hM mi_X7_in lk_X7_35 (c_X7_in l G _ _ _) rfl rfl (by decide) (Nat.le_refl _) (by omega) (Nat.le_of_ble_eq_true rfl) dX7_isReading_26 ?_
      refine q_ifd_eq (tgt := 36) hM dX7_isReading_29 (by decide) (fun c29 => ?_) (fun c29 => ?_)
      · refine q_iconst (v := 0) hM dX7_isReading_36 (by decide) ?_
        exact hret false _ _ _ _ _ _ rfl ⟨(by first | exact (decide_eq_true (by simp [*])).symm | exact (decide_eq_false (by simp [*])).symm), rfl, rfl, rfl⟩ dX7_isReading_37
      · refine q_iconst (v := 1) hM dX7_isReading_32 (by decide) ?_
        refine q_goto (tgt := 37) hM dX7_isReading_33 (by decide) ?_
        exact hret true _ _ _ _ _ _ rfl ⟨(by first | exact (decide_eq_true (by simp [*])).symm | exact (decide_eq_false (by simp [*])).symm), rfl, rfl, rfl⟩ dX7_isReading_37
set_option maxHeartbeats 4000000 in
set_option maxRecDepth 100000 in
theorem c_X7_judges (l : Launch) (G : kG) {I : kI} {L : kL} {X : kX} {f : Fr} {g : Gr} (hR : RefM X) (hm : Mm I L f g) (hP : PInv f) (t : Nat) (ht : t < cI (f 1)) (i o c : Int32) (hi : 0 ≤ i ∧ i ≤ 300) (ho : 0 ≤ o ∧ o ≤ 300)  : Ki l yX7_judges cX7_judges 10 2 G [.ref (ad G 153), .int (nI t), .int i, .int o, .int c] 159 159 I L X (pE (sJud f t i o c) I L X) := by
  refine Ki_intro (own := RX7) (lv0 := [some (.ref (ad G 153)), some (.int (nI t)), some (.int i), some (.int o), some (.int c), none, none, none, none, none]) 5 (by decide +kernel) rfl rfl (Nat.le_of_ble_eq_true rfl) (Nat.le_refl _) (fun J hM hret => ?_)
  have hn := hP.nT
  have hn8 := hP.nL
  have hh := hP.hd ht
  have k1 : (1 : Int32).toInt = 1 := rfl
  have k3 : (3 : Int32).toInt = 3 := rfl
  have k20 : (20 : Int32).toInt = 20 := rfl
  have k30 : (30 : Int32).toInt = 30 := rfl
  have k2 : (2 : Int32).toInt = 2 := rfl
  have k5 : (5 : Int32).toInt = 5 := rfl
  have k15 : (15 : Int32).toInt = 15 := rfl
  have k40 : (40 : Int32).toInt = 40 := rfl
  have k300 : (300 : Int32).toInt = 300 := rfl
  simp only [le_i, i0, k300] at hi ho
  have e1 : (i - o).toInt = i.toInt - o.toInt := sub_i (by omega) (by omega)
  have e2 : (i - 2).toInt = i.toInt - 2 := by rw [sub_i (by omega) (by omega)]; rfl
  have e5 : (i - 5).toInt = i.toInt - 5 := by rw [sub_i (by omega) (by omega)]; rfl
  have e15 : (i - 15).toInt = i.toInt - 15 := by rw [sub_i (by omega) (by omega)]; rfl
  have e40 : (i - 40).toInt = i.toInt - 40 := by rw [sub_i (by omega) (by omega)]; rfl
  refine q_bipush (v := 100) hM dX7_judges_0 (by decide) ?_
  refine q_bipush (v := 6) hM dX7_judges_2 (by decide) ?_
  refine q_aload_n hM dX7_judges_4 rfl ?_
  refine g_X7_7 hM (by decide) (by decide) hR.m0 dX7_judges_5 ?_
  refine q_bipush (v := 8) hM dX7_judges_8 (by decide) ?_
  refine q_aload_n hM dX7_judges_10 rfl ?_
  refine q_iload_n hM dX7_judges_11 rfl ?_
  refine callVe_i hM mi_X7_header lk_X7_56 cf_X7 (by decide) (by decide) (c_X7_header l G hR hm hP t ht) rfl rfl (by decide) (Nat.le_refl _) (by omega) (Nat.le_of_ble_eq_true rfl) dX7_judges_12 ?_
  refine q_iadd hM dX7_judges_15 ?_
  refine q_row hM hm (8 + sH f t) (nI_add 8 _) (by omega) (by decide) dX7_judges_16 ?_
  refine q_topi (sP f t) rfl ?_
  refine q_imul hM dX7_judges_17 ?_
  refine q_iadd hM dX7_judges_18 ?_
  refine si_10_5 hM dX7_judges_19 ?_
  refine q_aload_n hM dX7_judges_21 rfl ?_
  refine q_iload_n hM dX7_judges_22 rfl ?_
  refine q_iconst (v := 1) hM dX7_judges_23 (by decide) ?_
  refine callVe_i hM mi_X7_of lk_X7_39 cf_X7 (by decide) (by decide) (c_X7_of l G hR hm t 1 (by omega) (by decide)) rfl rfl (by decide) (Nat.le_refl _) (by omega) (Nat.le_of_ble_eq_true rfl) dX7_judges_24 ?_
  refine si_10_6 hM dX7_judges_27 ?_
  refine q_iload_n hM dX7_judges_29 rfl ?_
  refine q_iload_n hM dX7_judges_30 rfl ?_
  refine q_isub hM dX7_judges_31 ?_
  refine si_10_7 hM dX7_judges_32 ?_
  refine q_iload_n hM dX7_judges_34 rfl ?_
  refine q_iload hM dX7_judges_35 rfl ?_
  refine q_iconst (v := 2) hM dX7_judges_37 (by decide) ?_
  refine q_idiv hM dX7_judges_38 (by decide) ?_
  refine q_icmp_ge (tgt := 44) hM dX7_judges_39 (by decide) (fun c39 => ?_) (fun c39 => ?_)
  · refine q_iload hM dX7_judges_44 rfl ?_
    refine q_if_ne (tgt := 58) hM dX7_judges_46 (by decide) (fun c46 => ?_) (fun c46 => ?_)
    · refine q_iload hM dX7_judges_58 rfl ?_
      refine q_if_ne (tgt := 78) hM dX7_judges_60 (by decide) (fun c60 => ?_) (fun c60 => ?_)
      · refine q_iload hM dX7_judges_78 rfl ?_
        refine q_iconst (v := 1) hM dX7_judges_80 (by decide) ?_
        refine q_icmp_ne (tgt := 98) hM dX7_judges_81 (by decide) (fun c81 => ?_) (fun c81 => ?_)
        · refine q_iload hM dX7_judges_98 rfl ?_
          refine q_bipush (v := 40) hM dX7_judges_100 (by decide) ?_
          refine q_icmp_ge (tgt := 111) hM dX7_judges_102 (by decide) (fun c102 => ?_) (fun c102 => ?_)
          · refine q_iconst (v := 1) hM dX7_judges_111 (by decide) ?_
            refine q_goto (tgt := 116) hM dX7_judges_112 (by decide) ?_
            refine si_10_8 hM dX7_judges_116 ?_
            refine q_iload hM dX7_judges_118 rfl ?_
            refine q_if_ne (tgt := 138) hM dX7_judges_120 (by decide) (fun c120 => ?_) (fun c120 => ?_)
            · refine q_iload hM dX7_judges_138 rfl ?_
              refine q_iconst (v := 1) hM dX7_judges_140 (by decide) ?_
              refine q_icmp_ne (tgt := 159) hM dX7_judges_141 (by decide) (fun c141 => ?_) (fun c141 => ?_)
              · refine q_iload hM dX7_judges_159 rfl ?_
                refine q_bipush (v := 20) hM dX7_judges_161 (by decide) ?_
                refine q_icmp_lt (tgt := 170) hM dX7_judges_163 (by decide) (fun c163 => ?_) (fun c163 => ?_)
                · refine q_iconst (v := 0) hM dX7_judges_170 (by decide) ?_
                  refine si_10_9 hM dX7_judges_171 ?_
                  refine q_iload hM dX7_judges_173 rfl ?_
                  refine q_if_eq_f (tgt := 182) hM dX7_judges_175 (by decide) (by decide) ?_
                  refine q_iconst (v := 3) hM dX7_judges_178 (by decide) ?_
                  refine q_goto (tgt := 192) hM dX7_judges_179 (by decide) ?_
                  exact hret _ _ _ _ _ _ ⟨(by unfold sJud judC; simp only [lt_i, le_i, eq_i, e1, e2, e5, e15, e40, i0, k1, k2, k3, k5, k15, k20, k30, k40, Int.not_lt, Int.not_le] at c39 c46 c60 c81 c102 c120 c141 c163 ⊢; (repeat' split) <;> first | rfl | omega), rfl, rfl, rfl⟩ dX7_judges_192
                · refine q_iconst (v := 1) hM dX7_judges_166 (by decide) ?_
                  refine q_goto (tgt := 171) hM dX7_judges_167 (by decide) ?_
                  refine si_10_9 hM dX7_judges_171 ?_
                  refine q_iload hM dX7_judges_173 rfl ?_
                  refine q_if_eq_f (tgt := 182) hM dX7_judges_175 (by decide) (by decide) ?_
                  refine q_iconst (v := 3) hM dX7_judges_178 (by decide) ?_
                  refine q_goto (tgt := 192) hM dX7_judges_179 (by decide) ?_
                  exact hret _ _ _ _ _ _ ⟨(by unfold sJud judC; simp only [lt_i, le_i, eq_i, e1, e2, e5, e15, e40, i0, k1, k2, k3, k5, k15, k20, k30, k40, Int.not_lt, Int.not_le] at c39 c46 c60 c81 c102 c120 c141 c163 ⊢; (repeat' split) <;> first | rfl | omega), rfl, rfl, rfl⟩ dX7_judges_192
              · refine q_iload hM dX7_judges_144 rfl ?_
                refine q_bipush (v := 15) hM dX7_judges_146 (by decide) ?_
                refine q_icmp_gt (tgt := 155) hM dX7_judges_148 (by decide) (fun c148 => ?_) (fun c148 => ?_)
                · refine q_iconst (v := 0) hM dX7_judges_155 (by decide) ?_
                  refine q_goto (tgt := 171) hM dX7_judges_156 (by decide) ?_
                  refine si_10_9 hM dX7_judges_171 ?_
                  refine q_iload hM dX7_judges_173 rfl ?_
                  refine q_if_eq_f (tgt := 182) hM dX7_judges_175 (by decide) (by decide) ?_
                  refine q_iconst (v := 3) hM dX7_judges_178 (by decide) ?_
                  refine q_goto (tgt := 192) hM dX7_judges_179 (by decide) ?_
                  exact hret _ _ _ _ _ _ ⟨(by unfold sJud judC; simp only [lt_i, le_i, eq_i, e1, e2, e5, e15, e40, i0, k1, k2, k3, k5, k15, k20, k30, k40, Int.not_lt, Int.not_le] at c39 c46 c60 c81 c102 c120 c141 c148 ⊢; (repeat' split) <;> first | rfl | omega), rfl, rfl, rfl⟩ dX7_judges_192
                · refine q_iconst (v := 1) hM dX7_judges_151 (by decide) ?_
                  refine q_goto (tgt := 171) hM dX7_judges_152 (by decide) ?_
                  refine si_10_9 hM dX7_judges_171 ?_
                  refine q_iload hM dX7_judges_173 rfl ?_
                  refine q_if_eq_f (tgt := 182) hM dX7_judges_175 (by decide) (by decide) ?_
                  refine q_iconst (v := 3) hM dX7_judges_178 (by decide) ?_
                  refine q_goto (tgt := 192) hM dX7_judges_179 (by decide) ?_
                  exact hret _ _ _ _ _ _ ⟨(by unfold sJud judC; simp only [lt_i, le_i, eq_i, e1, e2, e5, e15, e40, i0, k1, k2, k3, k5, k15, k20, k30, k40, Int.not_lt, Int.not_le] at c39 c46 c60 c81 c102 c120 c141 c148 ⊢; (repeat' split) <;> first | rfl | omega), rfl, rfl, rfl⟩ dX7_judges_192
            · refine q_iload hM dX7_judges_123 rfl ?_
              refine q_bipush (v := 15) hM dX7_judges_125 (by decide) ?_
              refine q_icmp_lt (tgt := 134) hM dX7_judges_127 (by decide) (fun c127 => ?_) (fun c127 => ?_)
              · refine q_iconst (v := 0) hM dX7_judges_134 (by decide) ?_
                refine q_goto (tgt := 171) hM dX7_judges_135 (by decide) ?_
                refine si_10_9 hM dX7_judges_171 ?_
                refine q_iload hM dX7_judges_173 rfl ?_
                refine q_if_eq_f (tgt := 182) hM dX7_judges_175 (by decide) (by decide) ?_
                refine q_iconst (v := 3) hM dX7_judges_178 (by decide) ?_
                refine q_goto (tgt := 192) hM dX7_judges_179 (by decide) ?_
                exact hret _ _ _ _ _ _ ⟨(by unfold sJud judC; simp only [lt_i, le_i, eq_i, e1, e2, e5, e15, e40, i0, k1, k2, k3, k5, k15, k20, k30, k40, Int.not_lt, Int.not_le] at c39 c46 c60 c81 c102 c120 c127 ⊢; (repeat' split) <;> first | rfl | omega), rfl, rfl, rfl⟩ dX7_judges_192
              · refine q_iconst (v := 1) hM dX7_judges_130 (by decide) ?_
                refine q_goto (tgt := 171) hM dX7_judges_131 (by decide) ?_
                refine si_10_9 hM dX7_judges_171 ?_
                refine q_iload hM dX7_judges_173 rfl ?_
                refine q_if_eq_f (tgt := 182) hM dX7_judges_175 (by decide) (by decide) ?_
                refine q_iconst (v := 3) hM dX7_judges_178 (by decide) ?_
                refine q_goto (tgt := 192) hM dX7_judges_179 (by decide) ?_
                exact hret _ _ _ _ _ _ ⟨(by unfold sJud judC; simp only [lt_i, le_i, eq_i, e1, e2, e5, e15, e40, i0, k1, k2, k3, k5, k15, k20, k30, k40, Int.not_lt, Int.not_le] at c39 c46 c60 c81 c102 c120 c127 ⊢; (repeat' split) <;> first | rfl | omega), rfl, rfl, rfl⟩ dX7_judges_192
          · refine q_iload hM dX7_judges_105 rfl ?_
            refine q_iconst (v := 2) hM dX7_judges_107 (by decide) ?_
            refine q_icmp_gt (tgt := 115) hM dX7_judges_108 (by decide) (fun c108 => ?_) (fun c108 => ?_)
            · refine q_iconst (v := 0) hM dX7_judges_115 (by decide) ?_
              refine si_10_8 hM dX7_judges_116 ?_
              refine q_iload hM dX7_judges_118 rfl ?_
              refine q_if_ne (tgt := 138) hM dX7_judges_120 (by decide) (fun c120 => ?_) (fun c120 => ?_)
              · refine q_iload hM dX7_judges_138 rfl ?_
                refine q_iconst (v := 1) hM dX7_judges_140 (by decide) ?_
                refine q_icmp_ne (tgt := 159) hM dX7_judges_141 (by decide) (fun c141 => ?_) (fun c141 => ?_)
                · refine q_iload hM dX7_judges_159 rfl ?_
                  refine q_bipush (v := 20) hM dX7_judges_161 (by decide) ?_
                  refine q_icmp_lt (tgt := 170) hM dX7_judges_163 (by decide) (fun c163 => ?_) (fun c163 => ?_)
                  · refine q_iconst (v := 0) hM dX7_judges_170 (by decide) ?_
                    refine si_10_9 hM dX7_judges_171 ?_
                    refine q_iload hM dX7_judges_173 rfl ?_
                    refine q_if_eq_t (tgt := 182) hM dX7_judges_175 (by decide) (by decide) ?_
                    refine q_iload hM dX7_judges_182 rfl ?_
                    refine q_if_eq_t (tgt := 191) hM dX7_judges_184 (by decide) (by decide) ?_
                    refine q_iconst (v := 1) hM dX7_judges_191 (by decide) ?_
                    exact hret _ _ _ _ _ _ ⟨(by unfold sJud judC; simp only [lt_i, le_i, eq_i, e1, e2, e5, e15, e40, i0, k1, k2, k3, k5, k15, k20, k30, k40, Int.not_lt, Int.not_le] at c39 c46 c60 c81 c102 c108 c120 c141 c163 ⊢; (repeat' split) <;> first | rfl | omega), rfl, rfl, rfl⟩ dX7_judges_192
                  · refine q_iconst (v := 1) hM dX7_judges_166 (by decide) ?_
                    refine q_goto (tgt := 171) hM dX7_judges_167 (by decide) ?_
                    refine si_10_9 hM dX7_judges_171 ?_
                    refine q_iload hM dX7_judges_173 rfl ?_
                    refine q_if_eq_t (tgt := 182) hM dX7_judges_175 (by decide) (by decide) ?_
                    refine q_iload hM dX7_judges_182 rfl ?_
                    refine q_if_eq_f (tgt := 191) hM dX7_judges_184 (by decide) (by decide) ?_
                    refine q_iconst (v := 2) hM dX7_judges_187 (by decide) ?_
                    refine q_goto (tgt := 192) hM dX7_judges_188 (by decide) ?_
                    exact hret _ _ _ _ _ _ ⟨(by unfold sJud judC; simp only [lt_i, le_i, eq_i, e1, e2, e5, e15, e40, i0, k1, k2, k3, k5, k15, k20, k30, k40, Int.not_lt, Int.not_le] at c39 c46 c60 c81 c102 c108 c120 c141 c163 ⊢; (repeat' split) <;> first | rfl | omega), rfl, rfl, rfl⟩ dX7_judges_192
                · refine q_iload hM dX7_judges_144 rfl ?_
                  refine q_bipush (v := 15) hM dX7_judges_146 (by decide) ?_
                  refine q_icmp_gt (tgt := 155) hM dX7_judges_148 (by decide) (fun c148 => ?_) (fun c148 => ?_)
                  · refine q_iconst (v := 0) hM dX7_judges_155 (by decide) ?_
                    refine q_goto (tgt := 171) hM dX7_judges_156 (by decide) ?_
                    refine si_10_9 hM dX7_judges_171 ?_
                    refine q_iload hM dX7_judges_173 rfl ?_
                    refine q_if_eq_t (tgt := 182) hM dX7_judges_175 (by decide) (by decide) ?_
                    refine q_iload hM dX7_judges_182 rfl ?_
                    refine q_if_eq_t (tgt := 191) hM dX7_judges_184 (by decide) (by decide) ?_
                    refine q_iconst (v := 1) hM dX7_judges_191 (by decide) ?_
                    exact hret _ _ _ _ _ _ ⟨(by unfold sJud judC; simp only [lt_i, le_i, eq_i, e1, e2, e5, e15, e40, i0, k1, k2, k3, k5, k15, k20, k30, k40, Int.not_lt, Int.not_le] at c39 c46 c60 c81 c102 c108 c120 c141 c148 ⊢; (repeat' split) <;> first | rfl | omega), rfl, rfl, rfl⟩ dX7_judges_192
                  · refine q_iconst (v := 1) hM dX7_judges_151 (by decide) ?_
                    refine q_goto (tgt := 171) hM dX7_judges_152 (by decide) ?_
                    refine si_10_9 hM dX7_judges_171 ?_
                    refine q_iload hM dX7_judges_173 rfl ?_
                    refine q_if_eq_t (tgt := 182) hM dX7_judges_175 (by decide) (by decide) ?_
                    refine q_iload hM dX7_judges_182 rfl ?_
                    refine q_if_eq_f (tgt := 191) hM dX7_judges_184 (by decide) (by decide) ?_
                    refine q_iconst (v := 2) hM dX7_judges_187 (by decide) ?_
                    refine q_goto (tgt := 192) hM dX7_judges_188 (by decide) ?_
                    exact hret _ _ _ _ _ _ ⟨(by unfold sJud judC; simp only [lt_i, le_i, eq_i, e1, e2, e5, e15, e40, i0, k1, k2, k3, k5, k15, k20, k30, k40, Int.not_lt, Int.not_le] at c39 c46 c60 c81 c102 c108 c120 c141 c148 ⊢; (repeat' split) <;> first | rfl | omega), rfl, rfl, rfl⟩ dX7_judges_192
              · refine q_iload hM dX7_judges_123 rfl ?_
                refine q_bipush (v := 15) hM dX7_judges_125 (by decide) ?_
                refine q_icmp_lt (tgt := 134) hM dX7_judges_127 (by decide) (fun c127 => ?_) (fun c127 => ?_)
                · refine q_iconst (v := 0) hM dX7_judges_134 (by decide) ?_
                  refine q_goto (tgt := 171) hM dX7_judges_135 (by decide) ?_
                  refine si_10_9 hM dX7_judges_171 ?_
                  refine q_iload hM dX7_judges_173 rfl ?_
                  refine q_if_eq_t (tgt := 182) hM dX7_judges_175 (by decide) (by decide) ?_
                  refine q_iload hM dX7_judges_182 rfl ?_
                  refine q_if_eq_t (tgt := 191) hM dX7_judges_184 (by decide) (by decide) ?_
                  refine q_iconst (v := 1) hM dX7_judges_191 (by decide) ?_
                  exact hret _ _ _ _ _ _ ⟨(by unfold sJud judC; simp only [lt_i, le_i, eq_i, e1, e2, e5, e15, e40, i0, k1, k2, k3, k5, k15, k20, k30, k40, Int.not_lt, Int.not_le] at c39 c46 c60 c81 c102 c108 c120 c127 ⊢; (repeat' split) <;> first | rfl | omega), rfl, rfl, rfl⟩ dX7_judges_192
                · refine q_iconst (v := 1) hM dX7_judges_130 (by decide) ?_
                  refine q_goto (tgt := 171) hM dX7_judges_131 (by decide) ?_
                  refine si_10_9 hM dX7_judges_171 ?_
                  refine q_iload hM dX7_judges_173 rfl ?_
                  refine q_if_eq_t (tgt := 182) hM dX7_judges_175 (by decide) (by decide) ?_
                  refine q_iload hM dX7_judges_182 rfl ?_
                  refine q_if_eq_f (tgt := 191) hM dX7_judges_184 (by decide) (by decide) ?_
                  refine q_iconst (v := 2) hM dX7_judges_187 (by decide) ?_
                  refine q_goto (tgt := 192) hM dX7_judges_188 (by decide) ?_
                  exact hret _ _ _ _ _ _ ⟨(by unfold sJud judC; simp only [lt_i, le_i, eq_i, e1, e2, e5, e15, e40, i0, k1, k2, k3, k5, k15, k20, k30, k40, Int.not_lt, Int.not_le] at c39 c46 c60 c81 c102 c108 c120 c127 ⊢; (repeat' split) <;> first | rfl | omega), rfl, rfl, rfl⟩ dX7_judges_192
            · refine q_iconst (v := 1) hM dX7_judges_111 (by decide) ?_
              refine q_goto (tgt := 116) hM dX7_judges_112 (by decide) ?_
              refine si_10_8 hM dX7_judges_116 ?_
              refine q_iload hM dX7_judges_118 rfl ?_
              refine q_if_ne (tgt := 138) hM dX7_judges_120 (by decide) (fun c120 => ?_) (fun c120 => ?_)
              · refine q_iload hM dX7_judges_138 rfl ?_
                refine q_iconst (v := 1) hM dX7_judges_140 (by decide) ?_
                refine q_icmp_ne (tgt := 159) hM dX7_judges_141 (by decide) (fun c141 => ?_) (fun c141 => ?_)
                · refine q_iload hM dX7_judges_159 rfl ?_
                  refine q_bipush (v := 20) hM dX7_judges_161 (by decide) ?_
                  refine q_icmp_lt (tgt := 170) hM dX7_judges_163 (by decide) (fun c163 => ?_) (fun c163 => ?_)
                  · refine q_iconst (v := 0) hM dX7_judges_170 (by decide) ?_
                    refine si_10_9 hM dX7_judges_171 ?_
                    refine q_iload hM dX7_judges_173 rfl ?_
                    refine q_if_eq_f (tgt := 182) hM dX7_judges_175 (by decide) (by decide) ?_
                    refine q_iconst (v := 3) hM dX7_judges_178 (by decide) ?_
                    refine q_goto (tgt := 192) hM dX7_judges_179 (by decide) ?_
                    exact hret _ _ _ _ _ _ ⟨(by unfold sJud judC; simp only [lt_i, le_i, eq_i, e1, e2, e5, e15, e40, i0, k1, k2, k3, k5, k15, k20, k30, k40, Int.not_lt, Int.not_le] at c39 c46 c60 c81 c102 c108 c120 c141 c163 ⊢; (repeat' split) <;> first | rfl | omega), rfl, rfl, rfl⟩ dX7_judges_192
                  · refine q_iconst (v := 1) hM dX7_judges_166 (by decide) ?_
                    refine q_goto (tgt := 171) hM dX7_judges_167 (by decide) ?_
                    refine si_10_9 hM dX7_judges_171 ?_
                    refine q_iload hM dX7_judges_173 rfl ?_
                    refine q_if_eq_f (tgt := 182) hM dX7_judges_175 (by decide) (by decide) ?_
                    refine q_iconst (v := 3) hM dX7_judges_178 (by decide) ?_
                    refine q_goto (tgt := 192) hM dX7_judges_179 (by decide) ?_
                    exact hret _ _ _ _ _ _ ⟨(by unfold sJud judC; simp only [lt_i, le_i, eq_i, e1, e2, e5, e15, e40, i0, k1, k2, k3, k5, k15, k20, k30, k40, Int.not_lt, Int.not_le] at c39 c46 c60 c81 c102 c108 c120 c141 c163 ⊢; (repeat' split) <;> first | rfl | omega), rfl, rfl, rfl⟩ dX7_judges_192
                · refine q_iload hM dX7_judges_144 rfl ?_
                  refine q_bipush (v := 15) hM dX7_judges_146 (by decide) ?_
                  refine q_icmp_gt (tgt := 155) hM dX7_judges_148 (by decide) (fun c148 => ?_) (fun c148 => ?_)
                  · refine q_iconst (v := 0) hM dX7_judges_155 (by decide) ?_
                    refine q_goto (tgt := 171) hM dX7_judges_156 (by decide) ?_
                    refine si_10_9 hM dX7_judges_171 ?_
                    refine q_iload hM dX7_judges_173 rfl ?_
                    refine q_if_eq_f (tgt := 182) hM dX7_judges_175 (by decide) (by decide) ?_
                    refine q_iconst (v := 3) hM dX7_judges_178 (by decide) ?_
                    refine q_goto (tgt := 192) hM dX7_judges_179 (by decide) ?_
                    exact hret _ _ _ _ _ _ ⟨(by unfold sJud judC; simp only [lt_i, le_i, eq_i, e1, e2, e5, e15, e40, i0, k1, k2, k3, k5, k15, k20, k30, k40, Int.not_lt, Int.not_le] at c39 c46 c60 c81 c102 c108 c120 c141 c148 ⊢; (repeat' split) <;> first | rfl | omega), rfl, rfl, rfl⟩ dX7_judges_192
                  · refine q_iconst (v := 1) hM dX7_judges_151 (by decide) ?_
                    refine q_goto (tgt := 171) hM dX7_judges_152 (by decide) ?_
                    refine si_10_9 hM dX7_judges_171 ?_
                    refine q_iload hM dX7_judges_173 rfl ?_
                    refine q_if_eq_f (tgt := 182) hM dX7_judges_175 (by decide) (by decide) ?_
                    refine q_iconst (v := 3) hM dX7_judges_178 (by decide) ?_
                    refine q_goto (tgt := 192) hM dX7_judges_179 (by decide) ?_
                    exact hret _ _ _ _ _ _ ⟨(by unfold sJud judC; simp only [lt_i, le_i, eq_i, e1, e2, e5, e15, e40, i0, k1, k2, k3, k5, k15, k20, k30, k40, Int.not_lt, Int.not_le] at c39 c46 c60 c81 c102 c108 c120 c141 c148 ⊢; (repeat' split) <;> first | rfl | omega), rfl, rfl, rfl⟩ dX7_judges_192
              · refine q_iload hM dX7_judges_123 rfl ?_
                refine q_bipush (v := 15) hM dX7_judges_125 (by decide) ?_
                refine q_icmp_lt (tgt := 134) hM dX7_judges_127 (by decide) (fun c127 => ?_) (fun c127 => ?_)
                · refine q_iconst (v := 0) hM dX7_judges_134 (by decide) ?_
                  refine q_goto (tgt := 171) hM dX7_judges_135 (by decide) ?_
                  refine si_10_9 hM dX7_judges_171 ?_
                  refine q_iload hM dX7_judges_173 rfl ?_
                  refine q_if_eq_f (tgt := 182) hM dX7_judges_175 (by decide) (by decide) ?_
                  refine q_iconst (v := 3) hM dX7_judges_178 (by decide) ?_
                  refine q_goto (tgt := 192) hM dX7_judges_179 (by decide) ?_
                  exact hret _ _ _ _ _ _ ⟨(by unfold sJud judC; simp only [lt_i, le_i, eq_i, e1, e2, e5, e15, e40, i0, k1, k2, k3, k5, k15, k20, k30, k40, Int.not_lt, Int.not_le] at c39 c46 c60 c81 c102 c108 c120 c127 ⊢; (repeat' split) <;> first | rfl | omega), rfl, rfl, rfl⟩ dX7_judges_192
                · refine q_iconst (v := 1) hM dX7_judges_130 (by decide) ?_
                  refine q_goto (tgt := 171) hM dX7_judges_131 (by decide) ?_
                  refine si_10_9 hM dX7_judges_171 ?_
                  refine q_iload hM dX7_judges_173 rfl ?_
                  refine q_if_eq_f (tgt := 182) hM dX7_judges_175 (by decide) (by decide) ?_
                  refine q_iconst (v := 3) hM dX7_judges_178 (by decide) ?_
                  refine q_goto (tgt := 192) hM dX7_judges_179 (by decide) ?_
                  exact hret _ _ _ _ _ _ ⟨(by unfold sJud judC; simp only [lt_i, le_i, eq_i, e1, e2, e5, e15, e40, i0, k1, k2, k3, k5, k15, k20, k30, k40, Int.not_lt, Int.not_le] at c39 c46 c60 c81 c102 c108 c120 c127 ⊢; (repeat' split) <;> first | rfl | omega), rfl, rfl, rfl⟩ dX7_judges_192
        · refine q_iload hM dX7_judges_84 rfl ?_
          refine q_iconst (v := 5) hM dX7_judges_86 (by decide) ?_
          refine q_icmp_gt (tgt := 94) hM dX7_judges_87 (by decide) (fun c87 => ?_) (fun c87 => ?_)
          · refine q_iconst (v := 0) hM dX7_judges_94 (by decide) ?_
            refine q_goto (tgt := 116) hM dX7_judges_95 (by decide) ?_
            refine si_10_8 hM dX7_judges_116 ?_
            refine q_iload hM dX7_judges_118 rfl ?_
            refine q_if_ne (tgt := 138) hM dX7_judges_120 (by decide) (fun c120 => ?_) (fun c120 => ?_)
            · refine q_iload hM dX7_judges_138 rfl ?_
              refine q_iconst (v := 1) hM dX7_judges_140 (by decide) ?_
              refine q_icmp_ne (tgt := 159) hM dX7_judges_141 (by decide) (fun c141 => ?_) (fun c141 => ?_)
              · refine q_iload hM dX7_judges_159 rfl ?_
                refine q_bipush (v := 20) hM dX7_judges_161 (by decide) ?_
                refine q_icmp_lt (tgt := 170) hM dX7_judges_163 (by decide) (fun c163 => ?_) (fun c163 => ?_)
                · refine q_iconst (v := 0) hM dX7_judges_170 (by decide) ?_
                  refine si_10_9 hM dX7_judges_171 ?_
                  refine q_iload hM dX7_judges_173 rfl ?_
                  refine q_if_eq_t (tgt := 182) hM dX7_judges_175 (by decide) (by decide) ?_
                  refine q_iload hM dX7_judges_182 rfl ?_
                  refine q_if_eq_t (tgt := 191) hM dX7_judges_184 (by decide) (by decide) ?_
                  refine q_iconst (v := 1) hM dX7_judges_191 (by decide) ?_
                  exact hret _ _ _ _ _ _ ⟨(by unfold sJud judC; simp only [lt_i, le_i, eq_i, e1, e2, e5, e15, e40, i0, k1, k2, k3, k5, k15, k20, k30, k40, Int.not_lt, Int.not_le] at c39 c46 c60 c81 c87 c120 c141 c163 ⊢; (repeat' split) <;> first | rfl | omega), rfl, rfl, rfl⟩ dX7_judges_192
                · refine q_iconst (v := 1) hM dX7_judges_166 (by decide) ?_
                  refine q_goto (tgt := 171) hM dX7_judges_167 (by decide) ?_
                  refine si_10_9 hM dX7_judges_171 ?_
                  refine q_iload hM dX7_judges_173 rfl ?_
                  refine q_if_eq_t (tgt := 182) hM dX7_judges_175 (by decide) (by decide) ?_
                  refine q_iload hM dX7_judges_182 rfl ?_
                  refine q_if_eq_f (tgt := 191) hM dX7_judges_184 (by decide) (by decide) ?_
                  refine q_iconst (v := 2) hM dX7_judges_187 (by decide) ?_
                  refine q_goto (tgt := 192) hM dX7_judges_188 (by decide) ?_
                  exact hret _ _ _ _ _ _ ⟨(by unfold sJud judC; simp only [lt_i, le_i, eq_i, e1, e2, e5, e15, e40, i0, k1, k2, k3, k5, k15, k20, k30, k40, Int.not_lt, Int.not_le] at c39 c46 c60 c81 c87 c120 c141 c163 ⊢; (repeat' split) <;> first | rfl | omega), rfl, rfl, rfl⟩ dX7_judges_192
              · refine q_iload hM dX7_judges_144 rfl ?_
                refine q_bipush (v := 15) hM dX7_judges_146 (by decide) ?_
                refine q_icmp_gt (tgt := 155) hM dX7_judges_148 (by decide) (fun c148 => ?_) (fun c148 => ?_)
                · refine q_iconst (v := 0) hM dX7_judges_155 (by decide) ?_
                  refine q_goto (tgt := 171) hM dX7_judges_156 (by decide) ?_
                  refine si_10_9 hM dX7_judges_171 ?_
                  refine q_iload hM dX7_judges_173 rfl ?_
                  refine q_if_eq_t (tgt := 182) hM dX7_judges_175 (by decide) (by decide) ?_
                  refine q_iload hM dX7_judges_182 rfl ?_
                  refine q_if_eq_t (tgt := 191) hM dX7_judges_184 (by decide) (by decide) ?_
                  refine q_iconst (v := 1) hM dX7_judges_191 (by decide) ?_
                  exact hret _ _ _ _ _ _ ⟨(by unfold sJud judC; simp only [lt_i, le_i, eq_i, e1, e2, e5, e15, e40, i0, k1, k2, k3, k5, k15, k20, k30, k40, Int.not_lt, Int.not_le] at c39 c46 c60 c81 c87 c120 c141 c148 ⊢; (repeat' split) <;> first | rfl | omega), rfl, rfl, rfl⟩ dX7_judges_192
                · refine q_iconst (v := 1) hM dX7_judges_151 (by decide) ?_
                  refine q_goto (tgt := 171) hM dX7_judges_152 (by decide) ?_
                  refine si_10_9 hM dX7_judges_171 ?_
                  refine q_iload hM dX7_judges_173 rfl ?_
                  refine q_if_eq_t (tgt := 182) hM dX7_judges_175 (by decide) (by decide) ?_
                  refine q_iload hM dX7_judges_182 rfl ?_
                  refine q_if_eq_f (tgt := 191) hM dX7_judges_184 (by decide) (by decide) ?_
                  refine q_iconst (v := 2) hM dX7_judges_187 (by decide) ?_
                  refine q_goto (tgt := 192) hM dX7_judges_188 (by decide) ?_
                  exact hret _ _ _ _ _ _ ⟨(by unfold sJud judC; simp only [lt_i, le_i, eq_i, e1, e2, e5, e15, e40, i0, k1, k2, k3, k5, k15, k20, k30, k40, Int.not_lt, Int.not_le] at c39 c46 c60 c81 c87 c120 c141 c148 ⊢; (repeat' split) <;> first | rfl | omega), rfl, rfl, rfl⟩ dX7_judges_192
            · refine q_iload hM dX7_judges_123 rfl ?_
              refine q_bipush (v := 15) hM dX7_judges_125 (by decide) ?_
              refine q_icmp_lt (tgt := 134) hM dX7_judges_127 (by decide) (fun c127 => ?_) (fun c127 => ?_)
              · refine q_iconst (v := 0) hM dX7_judges_134 (by decide) ?_
                refine q_goto (tgt := 171) hM dX7_judges_135 (by decide) ?_
                refine si_10_9 hM dX7_judges_171 ?_
                refine q_iload hM dX7_judges_173 rfl ?_
                refine q_if_eq_t (tgt := 182) hM dX7_judges_175 (by decide) (by decide) ?_
                refine q_iload hM dX7_judges_182 rfl ?_
                refine q_if_eq_t (tgt := 191) hM dX7_judges_184 (by decide) (by decide) ?_
                refine q_iconst (v := 1) hM dX7_judges_191 (by decide) ?_
                exact hret _ _ _ _ _ _ ⟨(by unfold sJud judC; simp only [lt_i, le_i, eq_i, e1, e2, e5, e15, e40, i0, k1, k2, k3, k5, k15, k20, k30, k40, Int.not_lt, Int.not_le] at c39 c46 c60 c81 c87 c120 c127 ⊢; (repeat' split) <;> first | rfl | omega), rfl, rfl, rfl⟩ dX7_judges_192
              · refine q_iconst (v := 1) hM dX7_judges_130 (by decide) ?_
                refine q_goto (tgt := 171) hM dX7_judges_131 (by decide) ?_
                refine si_10_9 hM dX7_judges_171 ?_
                refine q_iload hM dX7_judges_173 rfl ?_
                refine q_if_eq_t (tgt := 182) hM dX7_judges_175 (by decide) (by decide) ?_
                refine q_iload hM dX7_judges_182 rfl ?_
                refine q_if_eq_f (tgt := 191) hM dX7_judges_184 (by decide) (by decide) ?_
                refine q_iconst (v := 2) hM dX7_judges_187 (by decide) ?_
                refine q_goto (tgt := 192) hM dX7_judges_188 (by decide) ?_
                exact hret _ _ _ _ _ _ ⟨(by unfold sJud judC; simp only [lt_i, le_i, eq_i, e1, e2, e5, e15, e40, i0, k1, k2, k3, k5, k15, k20, k30, k40, Int.not_lt, Int.not_le] at c39 c46 c60 c81 c87 c120 c127 ⊢; (repeat' split) <;> first | rfl | omega), rfl, rfl, rfl⟩ dX7_judges_192
          · refine q_iconst (v := 1) hM dX7_judges_90 (by decide) ?_
            refine q_goto (tgt := 116) hM dX7_judges_91 (by decide) ?_
            refine si_10_8 hM dX7_judges_116 ?_
            refine q_iload hM dX7_judges_118 rfl ?_
            refine q_if_ne (tgt := 138) hM dX7_judges_120 (by decide) (fun c120 => ?_) (fun c120 => ?_)
            · refine q_iload hM dX7_judges_138 rfl ?_
              refine q_iconst (v := 1) hM dX7_judges_140 (by decide) ?_
              refine q_icmp_ne (tgt := 159) hM dX7_judges_141 (by decide) (fun c141 => ?_) (fun c141 => ?_)
              · refine q_iload hM dX7_judges_159 rfl ?_
                refine q_bipush (v := 20) hM dX7_judges_161 (by decide) ?_
                refine q_icmp_lt (tgt := 170) hM dX7_judges_163 (by decide) (fun c163 => ?_) (fun c163 => ?_)
                · refine q_iconst (v := 0) hM dX7_judges_170 (by decide) ?_
                  refine si_10_9 hM dX7_judges_171 ?_
                  refine q_iload hM dX7_judges_173 rfl ?_
                  refine q_if_eq_f (tgt := 182) hM dX7_judges_175 (by decide) (by decide) ?_
                  refine q_iconst (v := 3) hM dX7_judges_178 (by decide) ?_
                  refine q_goto (tgt := 192) hM dX7_judges_179 (by decide) ?_
                  exact hret _ _ _ _ _ _ ⟨(by unfold sJud judC; simp only [lt_i, le_i, eq_i, e1, e2, e5, e15, e40, i0, k1, k2, k3, k5, k15, k20, k30, k40, Int.not_lt, Int.not_le] at c39 c46 c60 c81 c87 c120 c141 c163 ⊢; (repeat' split) <;> first | rfl | omega), rfl, rfl, rfl⟩ dX7_judges_192
                · refine q_iconst (v := 1) hM dX7_judges_166 (by decide) ?_
                  refine q_goto (tgt := 171) hM dX7_judges_167 (by decide) ?_
                  refine si_10_9 hM dX7_judges_171 ?_
                  refine q_iload hM dX7_judges_173 rfl ?_
                  refine q_if_eq_f (tgt := 182) hM dX7_judges_175 (by decide) (by decide) ?_
                  refine q_iconst (v := 3) hM dX7_judges_178 (by decide) ?_
                  refine q_goto (tgt := 192) hM dX7_judges_179 (by decide) ?_
                  exact hret _ _ _ _ _ _ ⟨(by unfold sJud judC; simp only [lt_i, le_i, eq_i, e1, e2, e5, e15, e40, i0, k1, k2, k3, k5, k15, k20, k30, k40, Int.not_lt, Int.not_le] at c39 c46 c60 c81 c87 c120 c141 c163 ⊢; (repeat' split) <;> first | rfl | omega), rfl, rfl, rfl⟩ dX7_judges_192
              · refine q_iload hM dX7_judges_144 rfl ?_
                refine q_bipush (v := 15) hM dX7_judges_146 (by decide) ?_
                refine q_icmp_gt (tgt := 155) hM dX7_judges_148 (by decide) (fun c148 => ?_) (fun c148 => ?_)
                · refine q_iconst (v := 0) hM dX7_judges_155 (by decide) ?_
                  refine q_goto (tgt := 171) hM dX7_judges_156 (by decide) ?_
                  refine si_10_9 hM dX7_judges_171 ?_
                  refine q_iload hM dX7_judges_173 rfl ?_
                  refine q_if_eq_f (tgt := 182) hM dX7_judges_175 (by decide) (by decide) ?_
                  refine q_iconst (v := 3) hM dX7_judges_178 (by decide) ?_
                  refine q_goto (tgt := 192) hM dX7_judges_179 (by decide) ?_
                  exact hret _ _ _ _ _ _ ⟨(by unfold sJud judC; simp only [lt_i, le_i, eq_i, e1, e2, e5, e15, e40, i0, k1, k2, k3, k5, k15, k20, k30, k40, Int.not_lt, Int.not_le] at c39 c46 c60 c81 c87 c120 c141 c148 ⊢; (repeat' split) <;> first | rfl | omega), rfl, rfl, rfl⟩ dX7_judges_192
                · refine q_iconst (v := 1) hM dX7_judges_151 (by decide) ?_
                  refine q_goto (tgt := 171) hM dX7_judges_152 (by decide) ?_
                  refine si_10_9 hM dX7_judges_171 ?_
                  refine q_iload hM dX7_judges_173 rfl ?_
                  refine q_if_eq_f (tgt := 182) hM dX7_judges_175 (by decide) (by decide) ?_
                  refine q_iconst (v := 3) hM dX7_judges_178 (by decide) ?_
                  refine q_goto (tgt := 192) hM dX7_judges_179 (by decide) ?_
                  exact hret _ _ _ _ _ _ ⟨(by unfold sJud judC; simp only [lt_i, le_i, eq_i, e1, e2, e5, e15, e40, i0, k1, k2, k3, k5, k15, k20, k30, k40, Int.not_lt, Int.not_le] at c39 c46 c60 c81 c87 c120 c141 c148 ⊢; (repeat' split) <;> first | rfl | omega), rfl, rfl, rfl⟩ dX7_judges_192
            · refine q_iload hM dX7_judges_123 rfl ?_
              refine q_bipush (v := 15) hM dX7_judges_125 (by decide) ?_
              refine q_icmp_lt (tgt := 134) hM dX7_judges_127 (by decide) (fun c127 => ?_) (fun c127 => ?_)
              · refine q_iconst (v := 0) hM dX7_judges_134 (by decide) ?_
                refine q_goto (tgt := 171) hM dX7_judges_135 (by decide) ?_
                refine si_10_9 hM dX7_judges_171 ?_
                refine q_iload hM dX7_judges_173 rfl ?_
                refine q_if_eq_f (tgt := 182) hM dX7_judges_175 (by decide) (by decide) ?_
                refine q_iconst (v := 3) hM dX7_judges_178 (by decide) ?_
                refine q_goto (tgt := 192) hM dX7_judges_179 (by decide) ?_
                exact hret _ _ _ _ _ _ ⟨(by unfold sJud judC; simp only [lt_i, le_i, eq_i, e1, e2, e5, e15, e40, i0, k1, k2, k3, k5, k15, k20, k30, k40, Int.not_lt, Int.not_le] at c39 c46 c60 c81 c87 c120 c127 ⊢; (repeat' split) <;> first | rfl | omega), rfl, rfl, rfl⟩ dX7_judges_192
              · refine q_iconst (v := 1) hM dX7_judges_130 (by decide) ?_
                refine q_goto (tgt := 171) hM dX7_judges_131 (by decide) ?_
                refine si_10_9 hM dX7_judges_171 ?_
                refine q_iload hM dX7_judges_173 rfl ?_
                refine q_if_eq_f (tgt := 182) hM dX7_judges_175 (by decide) (by decide) ?_
                refine q_iconst (v := 3) hM dX7_judges_178 (by decide) ?_
                refine q_goto (tgt := 192) hM dX7_judges_179 (by decide) ?_
                exact hret _ _ _ _ _ _ ⟨(by unfold sJud judC; simp only [lt_i, le_i, eq_i, e1, e2, e5, e15, e40, i0, k1, k2, k3, k5, k15, k20, k30, k40, Int.not_lt, Int.not_le] at c39 c46 c60 c81 c87 c120 c127 ⊢; (repeat' split) <;> first | rfl | omega), rfl, rfl, rfl⟩ dX7_judges_192
      · refine q_iload hM dX7_judges_63 rfl ?_
        refine q_bipush (v := 30) hM dX7_judges_65 (by decide) ?_
        refine q_icmp_lt (tgt := 74) hM dX7_judges_67 (by decide) (fun c67 => ?_) (fun c67 => ?_)
        · refine q_iconst (v := 0) hM dX7_judges_74 (by decide) ?_
          refine q_goto (tgt := 116) hM dX7_judges_75 (by decide) ?_
          refine si_10_8 hM dX7_judges_116 ?_
          refine q_iload hM dX7_judges_118 rfl ?_
          refine q_if_ne (tgt := 138) hM dX7_judges_120 (by decide) (fun c120 => ?_) (fun c120 => ?_)
          · refine q_iload hM dX7_judges_138 rfl ?_
            refine q_iconst (v := 1) hM dX7_judges_140 (by decide) ?_
            refine q_icmp_ne (tgt := 159) hM dX7_judges_141 (by decide) (fun c141 => ?_) (fun c141 => ?_)
            · refine q_iload hM dX7_judges_159 rfl ?_
              refine q_bipush (v := 20) hM dX7_judges_161 (by decide) ?_
              refine q_icmp_lt (tgt := 170) hM dX7_judges_163 (by decide) (fun c163 => ?_) (fun c163 => ?_)
              · refine q_iconst (v := 0) hM dX7_judges_170 (by decide) ?_
                refine si_10_9 hM dX7_judges_171 ?_
                refine q_iload hM dX7_judges_173 rfl ?_
                refine q_if_eq_t (tgt := 182) hM dX7_judges_175 (by decide) (by decide) ?_
                refine q_iload hM dX7_judges_182 rfl ?_
                refine q_if_eq_t (tgt := 191) hM dX7_judges_184 (by decide) (by decide) ?_
                refine q_iconst (v := 1) hM dX7_judges_191 (by decide) ?_
                exact hret _ _ _ _ _ _ ⟨(by unfold sJud judC; simp only [lt_i, le_i, eq_i, e1, e2, e5, e15, e40, i0, k1, k2, k3, k5, k15, k20, k30, k40, Int.not_lt, Int.not_le] at c39 c46 c60 c67 c120 c141 c163 ⊢; (repeat' split) <;> first | rfl | omega), rfl, rfl, rfl⟩ dX7_judges_192
              · refine q_iconst (v := 1) hM dX7_judges_166 (by decide) ?_
                refine q_goto (tgt := 171) hM dX7_judges_167 (by decide) ?_
                refine si_10_9 hM dX7_judges_171 ?_
                refine q_iload hM dX7_judges_173 rfl ?_
                refine q_if_eq_t (tgt := 182) hM dX7_judges_175 (by decide) (by decide) ?_
                refine q_iload hM dX7_judges_182 rfl ?_
                refine q_if_eq_f (tgt := 191) hM dX7_judges_184 (by decide) (by decide) ?_
                refine q_iconst (v := 2) hM dX7_judges_187 (by decide) ?_
                refine q_goto (tgt := 192) hM dX7_judges_188 (by decide) ?_
                exact hret _ _ _ _ _ _ ⟨(by unfold sJud judC; simp only [lt_i, le_i, eq_i, e1, e2, e5, e15, e40, i0, k1, k2, k3, k5, k15, k20, k30, k40, Int.not_lt, Int.not_le] at c39 c46 c60 c67 c120 c141 c163 ⊢; (repeat' split) <;> first | rfl | omega), rfl, rfl, rfl⟩ dX7_judges_192
            · refine q_iload hM dX7_judges_144 rfl ?_
              refine q_bipush (v := 15) hM dX7_judges_146 (by decide) ?_
              refine q_icmp_gt (tgt := 155) hM dX7_judges_148 (by decide) (fun c148 => ?_) (fun c148 => ?_)
              · refine q_iconst (v := 0) hM dX7_judges_155 (by decide) ?_
                refine q_goto (tgt := 171) hM dX7_judges_156 (by decide) ?_
                refine si_10_9 hM dX7_judges_171 ?_
                refine q_iload hM dX7_judges_173 rfl ?_
                refine q_if_eq_t (tgt := 182) hM dX7_judges_175 (by decide) (by decide) ?_
                refine q_iload hM dX7_judges_182 rfl ?_
                refine q_if_eq_t (tgt := 191) hM dX7_judges_184 (by decide) (by decide) ?_
                refine q_iconst (v := 1) hM dX7_judges_191 (by decide) ?_
                exact hret _ _ _ _ _ _ ⟨(by unfold sJud judC; simp only [lt_i, le_i, eq_i, e1, e2, e5, e15, e40, i0, k1, k2, k3, k5, k15, k20, k30, k40, Int.not_lt, Int.not_le] at c39 c46 c60 c67 c120 c141 c148 ⊢; (repeat' split) <;> first | rfl | omega), rfl, rfl, rfl⟩ dX7_judges_192
              · refine q_iconst (v := 1) hM dX7_judges_151 (by decide) ?_
                refine q_goto (tgt := 171) hM dX7_judges_152 (by decide) ?_
                refine si_10_9 hM dX7_judges_171 ?_
                refine q_iload hM dX7_judges_173 rfl ?_
                refine q_if_eq_t (tgt := 182) hM dX7_judges_175 (by decide) (by decide) ?_
                refine q_iload hM dX7_judges_182 rfl ?_
                refine q_if_eq_f (tgt := 191) hM dX7_judges_184 (by decide) (by decide) ?_
                refine q_iconst (v := 2) hM dX7_judges_187 (by decide) ?_
                refine q_goto (tgt := 192) hM dX7_judges_188 (by decide) ?_
                exact hret _ _ _ _ _ _ ⟨(by unfold sJud judC; simp only [lt_i, le_i, eq_i, e1, e2, e5, e15, e40, i0, k1, k2, k3, k5, k15, k20, k30, k40, Int.not_lt, Int.not_le] at c39 c46 c60 c67 c120 c141 c148 ⊢; (repeat' split) <;> first | rfl | omega), rfl, rfl, rfl⟩ dX7_judges_192
          · refine q_iload hM dX7_judges_123 rfl ?_
            refine q_bipush (v := 15) hM dX7_judges_125 (by decide) ?_
            refine q_icmp_lt (tgt := 134) hM dX7_judges_127 (by decide) (fun c127 => ?_) (fun c127 => ?_)
            · refine q_iconst (v := 0) hM dX7_judges_134 (by decide) ?_
              refine q_goto (tgt := 171) hM dX7_judges_135 (by decide) ?_
              refine si_10_9 hM dX7_judges_171 ?_
              refine q_iload hM dX7_judges_173 rfl ?_
              refine q_if_eq_t (tgt := 182) hM dX7_judges_175 (by decide) (by decide) ?_
              refine q_iload hM dX7_judges_182 rfl ?_
              refine q_if_eq_t (tgt := 191) hM dX7_judges_184 (by decide) (by decide) ?_
              refine q_iconst (v := 1) hM dX7_judges_191 (by decide) ?_
              exact hret _ _ _ _ _ _ ⟨(by unfold sJud judC; simp only [lt_i, le_i, eq_i, e1, e2, e5, e15, e40, i0, k1, k2, k3, k5, k15, k20, k30, k40, Int.not_lt, Int.not_le] at c39 c46 c60 c67 c120 c127 ⊢; (repeat' split) <;> first | rfl | omega), rfl, rfl, rfl⟩ dX7_judges_192
            · refine q_iconst (v := 1) hM dX7_judges_130 (by decide) ?_
              refine q_goto (tgt := 171) hM dX7_judges_131 (by decide) ?_
              refine si_10_9 hM dX7_judges_171 ?_
              refine q_iload hM dX7_judges_173 rfl ?_
              refine q_if_eq_t (tgt := 182) hM dX7_judges_175 (by decide) (by decide) ?_
              refine q_iload hM dX7_judges_182 rfl ?_
              refine q_if_eq_f (tgt := 191) hM dX7_judges_184 (by decide) (by decide) ?_
              refine q_iconst (v := 2) hM dX7_judges_187 (by decide) ?_
              refine q_goto (tgt := 192) hM dX7_judges_188 (by decide) ?_
              exact hret _ _ _ _ _ _ ⟨(by unfold sJud judC; simp only [lt_i, le_i, eq_i, e1, e2, e5, e15, e40, i0, k1, k2, k3, k5, k15, k20, k30, k40, Int.not_lt, Int.not_le] at c39 c46 c60 c67 c120 c127 ⊢; (repeat' split) <;> first | rfl | omega), rfl, rfl, rfl⟩ dX7_judges_192
        · refine q_iconst (v := 1) hM dX7_judges_70 (by decide) ?_
          refine q_goto (tgt := 116) hM dX7_judges_71 (by decide) ?_
          refine si_10_8 hM dX7_judges_116 ?_
          refine q_iload hM dX7_judges_118 rfl ?_
          refine q_if_ne (tgt := 138) hM dX7_judges_120 (by decide) (fun c120 => ?_) (fun c120 => ?_)
          · refine q_iload hM dX7_judges_138 rfl ?_
            refine q_iconst (v := 1) hM dX7_judges_140 (by decide) ?_
            refine q_icmp_ne (tgt := 159) hM dX7_judges_141 (by decide) (fun c141 => ?_) (fun c141 => ?_)
            · refine q_iload hM dX7_judges_159 rfl ?_
              refine q_bipush (v := 20) hM dX7_judges_161 (by decide) ?_
              refine q_icmp_lt (tgt := 170) hM dX7_judges_163 (by decide) (fun c163 => ?_) (fun c163 => ?_)
              · refine q_iconst (v := 0) hM dX7_judges_170 (by decide) ?_
                refine si_10_9 hM dX7_judges_171 ?_
                refine q_iload hM dX7_judges_173 rfl ?_
                refine q_if_eq_f (tgt := 182) hM dX7_judges_175 (by decide) (by decide) ?_
                refine q_iconst (v := 3) hM dX7_judges_178 (by decide) ?_
                refine q_goto (tgt := 192) hM dX7_judges_179 (by decide) ?_
                exact hret _ _ _ _ _ _ ⟨(by unfold sJud judC; simp only [lt_i, le_i, eq_i, e1, e2, e5, e15, e40, i0, k1, k2, k3, k5, k15, k20, k30, k40, Int.not_lt, Int.not_le] at c39 c46 c60 c67 c120 c141 c163 ⊢; (repeat' split) <;> first | rfl | omega), rfl, rfl, rfl⟩ dX7_judges_192
              · refine q_iconst (v := 1) hM dX7_judges_166 (by decide) ?_
                refine q_goto (tgt := 171) hM dX7_judges_167 (by decide) ?_
                refine si_10_9 hM dX7_judges_171 ?_
                refine q_iload hM dX7_judges_173 rfl ?_
                refine q_if_eq_f (tgt := 182) hM dX7_judges_175 (by decide) (by decide) ?_
                refine q_iconst (v := 3) hM dX7_judges_178 (by decide) ?_
                refine q_goto (tgt := 192) hM dX7_judges_179 (by decide) ?_
                exact hret _ _ _ _ _ _ ⟨(by unfold sJud judC; simp only [lt_i, le_i, eq_i, e1, e2, e5, e15, e40, i0, k1, k2, k3, k5, k15, k20, k30, k40, Int.not_lt, Int.not_le] at c39 c46 c60 c67 c120 c141 c163 ⊢; (repeat' split) <;> first | rfl | omega), rfl, rfl, rfl⟩ dX7_judges_192
            · refine q_iload hM dX7_judges_144 rfl ?_
              refine q_bipush (v := 15) hM dX7_judges_146 (by decide) ?_
              refine q_icmp_gt (tgt := 155) hM dX7_judges_148 (by decide) (fun c148 => ?_) (fun c148 => ?_)
              · refine q_iconst (v := 0) hM dX7_judges_155 (by decide) ?_
                refine q_goto (tgt := 171) hM dX7_judges_156 (by decide) ?_
                refine si_10_9 hM dX7_judges_171 ?_
                refine q_iload hM dX7_judges_173 rfl ?_
                refine q_if_eq_f (tgt := 182) hM dX7_judges_175 (by decide) (by decide) ?_
                refine q_iconst (v := 3) hM dX7_judges_178 (by decide) ?_
                refine q_goto (tgt := 192) hM dX7_judges_179 (by decide) ?_
                exact hret _ _ _ _ _ _ ⟨(by unfold sJud judC; simp only [lt_i, le_i, eq_i, e1, e2, e5, e15, e40, i0, k1, k2, k3, k5, k15, k20, k30, k40, Int.not_lt, Int.not_le] at c39 c46 c60 c67 c120 c141 c148 ⊢; (repeat' split) <;> first | rfl | omega), rfl, rfl, rfl⟩ dX7_judges_192
              · refine q_iconst (v := 1) hM dX7_judges_151 (by decide) ?_
                refine q_goto (tgt := 171) hM dX7_judges_152 (by decide) ?_
                refine si_10_9 hM dX7_judges_171 ?_
                refine q_iload hM dX7_judges_173 rfl ?_
                refine q_if_eq_f (tgt := 182) hM dX7_judges_175 (by decide) (by decide) ?_
                refine q_iconst (v := 3) hM dX7_judges_178 (by decide) ?_
                refine q_goto (tgt := 192) hM dX7_judges_179 (by decide) ?_
                exact hret _ _ _ _ _ _ ⟨(by unfold sJud judC; simp only [lt_i, le_i, eq_i, e1, e2, e5, e15, e40, i0, k1, k2, k3, k5, k15, k20, k30, k40, Int.not_lt, Int.not_le] at c39 c46 c60 c67 c120 c141 c148 ⊢; (repeat' split) <;> first | rfl | omega), rfl, rfl, rfl⟩ dX7_judges_192
          · refine q_iload hM dX7_judges_123 rfl ?_
            refine q_bipush (v := 15) hM dX7_judges_125 (by decide) ?_
            refine q_icmp_lt (tgt := 134) hM dX7_judges_127 (by decide) (fun c127 => ?_) (fun c127 => ?_)
            · refine q_iconst (v := 0) hM dX7_judges_134 (by decide) ?_
              refine q_goto (tgt := 171) hM dX7_judges_135 (by decide) ?_
              refine si_10_9 hM dX7_judges_171 ?_
              refine q_iload hM dX7_judges_173 rfl ?_
              refine q_if_eq_f (tgt := 182) hM dX7_judges_175 (by decide) (by decide) ?_
              refine q_iconst (v := 3) hM dX7_judges_178 (by decide) ?_
              refine q_goto (tgt := 192) hM dX7_judges_179 (by decide) ?_
              exact hret _ _ _ _ _ _ ⟨(by unfold sJud judC; simp only [lt_i, le_i, eq_i, e1, e2, e5, e15, e40, i0, k1, k2, k3, k5, k15, k20, k30, k40, Int.not_lt, Int.not_le] at c39 c46 c60 c67 c120 c127 ⊢; (repeat' split) <;> first | rfl | omega), rfl, rfl, rfl⟩ dX7_judges_192
            · refine q_iconst (v := 1) hM dX7_judges_130 (by decide) ?_
              refine q_goto (tgt := 171) hM dX7_judges_131 (by decide) ?_
              refine si_10_9 hM dX7_judges_171 ?_
              refine q_iload hM dX7_judges_173 rfl ?_
              refine q_if_eq_f (tgt := 182) hM dX7_judges_175 (by decide) (by decide) ?_
              refine q_iconst (v := 3) hM dX7_judges_178 (by decide) ?_
              refine q_goto (tgt := 192) hM dX7_judges_179 (by decide) ?_
              exact hret _ _ _ _ _ _ ⟨(by unfold sJud judC; simp only [lt_i, le_i, eq_i, e1, e2, e5, e15, e40, i0, k1, k2, k3, k5, k15, k20, k30, k40, Int.not_lt, Int.not_le] at c39 c46 c60 c67 c120 c127 ⊢; (repeat' split) <;> first | rfl | omega), rfl, rfl, rfl⟩ dX7_judges_192
    · refine q_iload hM dX7_judges_49 rfl ?_
      refine q_bipush (v := 40) hM dX7_judges_51 (by decide) ?_
      refine q_icmp_lt (tgt := 58) hM dX7_judges_53 (by decide) (fun c53 => ?_) (fun c53 => ?_)
      · refine q_iload hM dX7_judges_58 rfl ?_
        refine q_if_ne (tgt := 78) hM dX7_judges_60 (by decide) (fun c60 => ?_) (fun c60 => ?_)
        · refine q_iload hM dX7_judges_78 rfl ?_
          refine q_iconst (v := 1) hM dX7_judges_80 (by decide) ?_
          refine q_icmp_ne (tgt := 98) hM dX7_judges_81 (by decide) (fun c81 => ?_) (fun c81 => ?_)
          · refine q_iload hM dX7_judges_98 rfl ?_
            refine q_bipush (v := 40) hM dX7_judges_100 (by decide) ?_
            refine q_icmp_ge (tgt := 111) hM dX7_judges_102 (by decide) (fun c102 => ?_) (fun c102 => ?_)
            · refine q_iconst (v := 1) hM dX7_judges_111 (by decide) ?_
              refine q_goto (tgt := 116) hM dX7_judges_112 (by decide) ?_
              refine si_10_8 hM dX7_judges_116 ?_
              refine q_iload hM dX7_judges_118 rfl ?_
              refine q_if_ne (tgt := 138) hM dX7_judges_120 (by decide) (fun c120 => ?_) (fun c120 => ?_)
              · refine q_iload hM dX7_judges_138 rfl ?_
                refine q_iconst (v := 1) hM dX7_judges_140 (by decide) ?_
                refine q_icmp_ne (tgt := 159) hM dX7_judges_141 (by decide) (fun c141 => ?_) (fun c141 => ?_)
                · refine q_iload hM dX7_judges_159 rfl ?_
                  refine q_bipush (v := 20) hM dX7_judges_161 (by decide) ?_
                  refine q_icmp_lt (tgt := 170) hM dX7_judges_163 (by decide) (fun c163 => ?_) (fun c163 => ?_)
                  · refine q_iconst (v := 0) hM dX7_judges_170 (by decide) ?_
                    refine si_10_9 hM dX7_judges_171 ?_
                    refine q_iload hM dX7_judges_173 rfl ?_
                    refine q_if_eq_f (tgt := 182) hM dX7_judges_175 (by decide) (by decide) ?_
                    refine q_iconst (v := 3) hM dX7_judges_178 (by decide) ?_
                    refine q_goto (tgt := 192) hM dX7_judges_179 (by decide) ?_
                    exact hret _ _ _ _ _ _ ⟨(by unfold sJud judC; simp only [lt_i, le_i, eq_i, e1, e2, e5, e15, e40, i0, k1, k2, k3, k5, k15, k20, k30, k40, Int.not_lt, Int.not_le] at c39 c46 c53 c60 c81 c102 c120 c141 c163 ⊢; (repeat' split) <;> first | rfl | omega), rfl, rfl, rfl⟩ dX7_judges_192
                  · refine q_iconst (v := 1) hM dX7_judges_166 (by decide) ?_
                    refine q_goto (tgt := 171) hM dX7_judges_167 (by decide) ?_
                    refine si_10_9 hM dX7_judges_171 ?_
                    refine q_iload hM dX7_judges_173 rfl ?_
                    refine q_if_eq_f (tgt := 182) hM dX7_judges_175 (by decide) (by decide) ?_
                    refine q_iconst (v := 3) hM dX7_judges_178 (by decide) ?_
                    refine q_goto (tgt := 192) hM dX7_judges_179 (by decide) ?_
                    exact hret _ _ _ _ _ _ ⟨(by unfold sJud judC; simp only [lt_i, le_i, eq_i, e1, e2, e5, e15, e40, i0, k1, k2, k3, k5, k15, k20, k30, k40, Int.not_lt, Int.not_le] at c39 c46 c53 c60 c81 c102 c120 c141 c163 ⊢; (repeat' split) <;> first | rfl | omega), rfl, rfl, rfl⟩ dX7_judges_192
                · refine q_iload hM dX7_judges_144 rfl ?_
                  refine q_bipush (v := 15) hM dX7_judges_146 (by decide) ?_
                  refine q_icmp_gt (tgt := 155) hM dX7_judges_148 (by decide) (fun c148 => ?_) (fun c148 => ?_)
                  · refine q_iconst (v := 0) hM dX7_judges_155 (by decide) ?_
                    refine q_goto (tgt := 171) hM dX7_judges_156 (by decide) ?_
                    refine si_10_9 hM dX7_judges_171 ?_
                    refine q_iload hM dX7_judges_173 rfl ?_
                    refine q_if_eq_f (tgt := 182) hM dX7_judges_175 (by decide) (by decide) ?_
                    refine q_iconst (v := 3) hM dX7_judges_178 (by decide) ?_
                    refine q_goto (tgt := 192) hM dX7_judges_179 (by decide) ?_
                    exact hret _ _ _ _ _ _ ⟨(by unfold sJud judC; simp only [lt_i, le_i, eq_i, e1, e2, e5, e15, e40, i0, k1, k2, k3, k5, k15, k20, k30, k40, Int.not_lt, Int.not_le] at c39 c46 c53 c60 c81 c102 c120 c141 c148 ⊢; (repeat' split) <;> first | rfl | omega), rfl, rfl, rfl⟩ dX7_judges_192
                  · refine q_iconst (v := 1) hM dX7_judges_151 (by decide) ?_
                    refine q_goto (tgt := 171) hM dX7_judges_152 (by decide) ?_
                    refine si_10_9 hM dX7_judges_171 ?_
                    refine q_iload hM dX7_judges_173 rfl ?_
                    refine q_if_eq_f (tgt := 182) hM dX7_judges_175 (by decide) (by decide) ?_
                    refine q_iconst (v := 3) hM dX7_judges_178 (by decide) ?_
                    refine q_goto (tgt := 192) hM dX7_judges_179 (by decide) ?_
                    exact hret _ _ _ _ _ _ ⟨(by unfold sJud judC; simp only [lt_i, le_i, eq_i, e1, e2, e5, e15, e40, i0, k1, k2, k3, k5, k15, k20, k30, k40, Int.not_lt, Int.not_le] at c39 c46 c53 c60 c81 c102 c120 c141 c148 ⊢; (repeat' split) <;> first | rfl | omega), rfl, rfl, rfl⟩ dX7_judges_192
              · refine q_iload hM dX7_judges_123 rfl ?_
                refine q_bipush (v := 15) hM dX7_judges_125 (by decide) ?_
                refine q_icmp_lt (tgt := 134) hM dX7_judges_127 (by decide) (fun c127 => ?_) (fun c127 => ?_)
                · refine q_iconst (v := 0) hM dX7_judges_134 (by decide) ?_
                  refine q_goto (tgt := 171) hM dX7_judges_135 (by decide) ?_
                  refine si_10_9 hM dX7_judges_171 ?_
                  refine q_iload hM dX7_judges_173 rfl ?_
                  refine q_if_eq_f (tgt := 182) hM dX7_judges_175 (by decide) (by decide) ?_
                  refine q_iconst (v := 3) hM dX7_judges_178 (by decide) ?_
                  refine q_goto (tgt := 192) hM dX7_judges_179 (by decide) ?_
                  exact hret _ _ _ _ _ _ ⟨(by unfold sJud judC; simp only [lt_i, le_i, eq_i, e1, e2, e5, e15, e40, i0, k1, k2, k3, k5, k15, k20, k30, k40, Int.not_lt, Int.not_le] at c39 c46 c53 c60 c81 c102 c120 c127 ⊢; (repeat' split) <;> first | rfl | omega), rfl, rfl, rfl⟩ dX7_judges_192
                · refine q_iconst (v := 1) hM dX7_judges_130 (by decide) ?_
                  refine q_goto (tgt := 171) hM dX7_judges_131 (by decide) ?_
                  refine si_10_9 hM dX7_judges_171 ?_
                  refine q_iload hM dX7_judges_173 rfl ?_
                  refine q_if_eq_f (tgt := 182) hM dX7_judges_175 (by decide) (by decide) ?_
                  refine q_iconst (v := 3) hM dX7_judges_178 (by decide) ?_
                  refine q_goto (tgt := 192) hM dX7_judges_179 (by decide) ?_
                  exact hret _ _ _ _ _ _ ⟨(by unfold sJud judC; simp only [lt_i, le_i, eq_i, e1, e2, e5, e15, e40, i0, k1, k2, k3, k5, k15, k20, k30, k40, Int.not_lt, Int.not_le] at c39 c46 c53 c60 c81 c102 c120 c127 ⊢; (repeat' split) <;> first | rfl | omega), rfl, rfl, rfl⟩ dX7_judges_192
            · refine q_iload hM dX7_judges_105 rfl ?_
              refine q_iconst (v := 2) hM dX7_judges_107 (by decide) ?_
              refine q_icmp_gt (tgt := 115) hM dX7_judges_108 (by decide) (fun c108 => ?_) (fun c108 => ?_)
              · refine q_iconst (v := 0) hM dX7_judges_115 (by decide) ?_
                refine si_10_8 hM dX7_judges_116 ?_
                refine q_iload hM dX7_judges_118 rfl ?_
                refine q_if_ne (tgt := 138) hM dX7_judges_120 (by decide) (fun c120 => ?_) (fun c120 => ?_)
                · refine q_iload hM dX7_judges_138 rfl ?_
                  refine q_iconst (v := 1) hM dX7_judges_140 (by decide) ?_
                  refine q_icmp_ne (tgt := 159) hM dX7_judges_141 (by decide) (fun c141 => ?_) (fun c141 => ?_)
                  · refine q_iload hM dX7_judges_159 rfl ?_
                    refine q_bipush (v := 20) hM dX7_judges_161 (by decide) ?_
                    refine q_icmp_lt (tgt := 170) hM dX7_judges_163 (by decide) (fun c163 => ?_) (fun c163 => ?_)
                    · refine q_iconst (v := 0) hM dX7_judges_170 (by decide) ?_
                      refine si_10_9 hM dX7_judges_171 ?_
                      refine q_iload hM dX7_judges_173 rfl ?_
                      refine q_if_eq_t (tgt := 182) hM dX7_judges_175 (by decide) (by decide) ?_
                      refine q_iload hM dX7_judges_182 rfl ?_
                      refine q_if_eq_t (tgt := 191) hM dX7_judges_184 (by decide) (by decide) ?_
                      refine q_iconst (v := 1) hM dX7_judges_191 (by decide) ?_
                      exact hret _ _ _ _ _ _ ⟨(by unfold sJud judC; simp only [lt_i, le_i, eq_i, e1, e2, e5, e15, e40, i0, k1, k2, k3, k5, k15, k20, k30, k40, Int.not_lt, Int.not_le] at c39 c46 c53 c60 c81 c102 c108 c120 c141 c163 ⊢; (repeat' split) <;> first | rfl | omega), rfl, rfl, rfl⟩ dX7_judges_192
                    · refine q_iconst (v := 1) hM dX7_judges_166 (by decide) ?_
                      refine q_goto (tgt := 171) hM dX7_judges_167 (by decide) ?_
                      refine si_10_9 hM dX7_judges_171 ?_
                      refine q_iload hM dX7_judges_173 rfl ?_
                      refine q_if_eq_t (tgt := 182) hM dX7_judges_175 (by decide) (by decide) ?_
                      refine q_iload hM dX7_judges_182 rfl ?_
                      refine q_if_eq_f (tgt := 191) hM dX7_judges_184 (by decide) (by decide) ?_
                      refine q_iconst (v := 2) hM dX7_judges_187 (by decide) ?_
                      refine q_goto (tgt := 192) hM dX7_judges_188 (by decide) ?_
                      exact hret _ _ _ _ _ _ ⟨(by unfold sJud judC; simp only [lt_i, le_i, eq_i, e1, e2, e5, e15, e40, i0, k1, k2, k3, k5, k15, k20, k30, k40, Int.not_lt, Int.not_le] at c39 c46 c53 c60 c81 c102 c108 c120 c141 c163 ⊢; (repeat' split) <;> first | rfl | omega), rfl, rfl, rfl⟩ dX7_judges_192
                  · refine q_iload hM dX7_judges_144 rfl ?_
                    refine q_bipush (v := 15) hM dX7_judges_146 (by decide) ?_
                    refine q_icmp_gt (tgt := 155) hM dX7_judges_148 (by decide) (fun c148 => ?_) (fun c148 => ?_)
                    · refine q_iconst (v := 0) hM dX7_judges_155 (by decide) ?_
                      refine q_goto (tgt := 171) hM dX7_judges_156 (by decide) ?_
                      refine si_10_9 hM dX7_judges_171 ?_
                      refine q_iload hM dX7_judges_173 rfl ?_
                      refine q_if_eq_t (tgt := 182) hM dX7_judges_175 (by decide) (by decide) ?_
                      refine q_iload hM dX7_judges_182 rfl ?_
                      refine q_if_eq_t (tgt := 191) hM dX7_judges_184 (by decide) (by decide) ?_
                      refine q_iconst (v := 1) hM dX7_judges_191 (by decide) ?_
                      exact hret _ _ _ _ _ _ ⟨(by unfold sJud judC; simp only [lt_i, le_i, eq_i, e1, e2, e5, e15, e40, i0, k1, k2, k3, k5, k15, k20, k30, k40, Int.not_lt, Int.not_le] at c39 c46 c53 c60 c81 c102 c108 c120 c141 c148 ⊢; (repeat' split) <;> first | rfl | omega), rfl, rfl, rfl⟩ dX7_judges_192
                    · refine q_iconst (v := 1) hM dX7_judges_151 (by decide) ?_
                      refine q_goto (tgt := 171) hM dX7_judges_152 (by decide) ?_
                      refine si_10_9 hM dX7_judges_171 ?_
                      refine q_iload hM dX7_judges_173 rfl ?_
                      refine q_if_eq_t (tgt := 182) hM dX7_judges_175 (by decide) (by decide) ?_
                      refine q_iload hM dX7_judges_182 rfl ?_
                      refine q_if_eq_f (tgt := 191) hM dX7_judges_184 (by decide) (by decide) ?_
                      refine q_iconst (v := 2) hM dX7_judges_187 (by decide) ?_
                      refine q_goto (tgt := 192) hM dX7_judges_188 (by decide) ?_
                      exact hret _ _ _ _ _ _ ⟨(by unfold sJud judC; simp only [lt_i, le_i, eq_i, e1, e2, e5, e15, e40, i0, k1, k2, k3, k5, k15, k20, k30, k40, Int.not_lt, Int.not_le] at c39 c46 c53 c60 c81 c102 c108 c120 c141 c148 ⊢; (repeat' split) <;> first | rfl | omega), rfl, rfl, rfl⟩ dX7_judges_192
                · refine q_iload hM dX7_judges_123 rfl ?_
                  refine q_bipush (v := 15) hM dX7_judges_125 (by decide) ?_
                  refine q_icmp_lt (tgt := 134) hM dX7_judges_127 (by decide) (fun c127 => ?_) (fun c127 => ?_)
                  · refine q_iconst (v := 0) hM dX7_judges_134 (by decide) ?_
                    refine q_goto (tgt := 171) hM dX7_judges_135 (by decide) ?_
                    refine si_10_9 hM dX7_judges_171 ?_
                    refine q_iload hM dX7_judges_173 rfl ?_
                    refine q_if_eq_t (tgt := 182) hM dX7_judges_175 (by decide) (by decide) ?_
                    refine q_iload hM dX7_judges_182 rfl ?_
                    refine q_if_eq_t (tgt := 191) hM dX7_judges_184 (by decide) (by decide) ?_
                    refine q_iconst (v := 1) hM dX7_judges_191 (by decide) ?_
                    exact hret _ _ _ _ _ _ ⟨(by unfold sJud judC; simp only [lt_i, le_i, eq_i, e1, e2, e5, e15, e40, i0, k1, k2, k3, k5, k15, k20, k30, k40, Int.not_lt, Int.not_le] at c39 c46 c53 c60 c81 c102 c108 c120 c127 ⊢; (repeat' split) <;> first | rfl | omega), rfl, rfl, rfl⟩ dX7_judges_192
                  · refine q_iconst (v := 1) hM dX7_judges_130 (by decide) ?_
                    refine q_goto (tgt := 171) hM dX7_judges_131 (by decide) ?_
                    refine si_10_9 hM dX7_judges_171 ?_
                    refine q_iload hM dX7_judges_173 rfl ?_
                    refine q_if_eq_t (tgt := 182) hM dX7_judges_175 (by decide) (by decide) ?_
                    refine q_iload hM dX7_judges_182 rfl ?_
                    refine q_if_eq_f (tgt := 191) hM dX7_judges_184 (by decide) (by decide) ?_
                    refine q_iconst (v := 2) hM dX7_judges_187 (by decide) ?_
                    refine q_goto (tgt := 192) hM dX7_judges_188 (by decide) ?_
                    exact hret _ _ _ _ _ _ ⟨(by unfold sJud judC; simp only [lt_i, le_i, eq_i, e1, e2, e5, e15, e40, i0, k1, k2, k3, k5, k15, k20, k30, k40, Int.not_lt, Int.not_le] at c39 c46 c53 c60 c81 c102 c108 c120 c127 ⊢; (repeat' split) <;> first | rfl | omega), rfl, rfl, rfl⟩ dX7_judges_192
              · refine q_iconst (v := 1) hM dX7_judges_111 (by decide) ?_
                refine q_goto (tgt := 116) hM dX7_judges_112 (by decide) ?_
                refine si_10_8 hM dX7_judges_116 ?_
                refine q_iload hM dX7_judges_118 rfl ?_
                refine q_if_ne (tgt := 138) hM dX7_judges_120 (by decide) (fun c120 => ?_) (fun c120 => ?_)
                · refine q_iload hM dX7_judges_138 rfl ?_
                  refine q_iconst (v := 1) hM dX7_judges_140 (by decide) ?_
                  refine q_icmp_ne (tgt := 159) hM dX7_judges_141 (by decide) (fun c141 => ?_) (fun c141 => ?_)
                  · refine q_iload hM dX7_judges_159 rfl ?_
                    refine q_bipush (v := 20) hM dX7_judges_161 (by decide) ?_
                    refine q_icmp_lt (tgt := 170) hM dX7_judges_163 (by decide) (fun c163 => ?_) (fun c163 => ?_)
                    · refine q_iconst (v := 0) hM dX7_judges_170 (by decide) ?_
                      refine si_10_9 hM dX7_judges_171 ?_
                      refine q_iload hM dX7_judges_173 rfl ?_
                      refine q_if_eq_f (tgt := 182) hM dX7_judges_175 (by decide) (by decide) ?_
                      refine q_iconst (v := 3) hM dX7_judges_178 (by decide) ?_
                      refine q_goto (tgt := 192) hM dX7_judges_179 (by decide) ?_
                      exact hret _ _ _ _ _ _ ⟨(by unfold sJud judC; simp only [lt_i, le_i, eq_i, e1, e2, e5, e15, e40, i0, k1, k2, k3, k5, k15, k20, k30, k40, Int.not_lt, Int.not_le] at c39 c46 c53 c60 c81 c102 c108 c120 c141 c163 ⊢; (repeat' split) <;> first | rfl | omega), rfl, rfl, rfl⟩ dX7_judges_192
                    · refine q_iconst (v := 1) hM dX7_judges_166 (by decide) ?_
                      refine q_goto (tgt := 171) hM dX7_judges_167 (by decide) ?_
                      refine si_10_9 hM dX7_judges_171 ?_
                      refine q_iload hM dX7_judges_173 rfl ?_
                      refine q_if_eq_f (tgt := 182) hM dX7_judges_175 (by decide) (by decide) ?_
                      refine q_iconst (v := 3) hM dX7_judges_178 (by decide) ?_
                      refine q_goto (tgt := 192) hM dX7_judges_179 (by decide) ?_
                      exact hret _ _ _ _ _ _ ⟨(by unfold sJud judC; simp only [lt_i, le_i, eq_i, e1, e2, e5, e15, e40, i0, k1, k2, k3, k5, k15, k20, k30, k40, Int.not_lt, Int.not_le] at c39 c46 c53 c60 c81 c102 c108 c120 c141 c163 ⊢; (repeat' split) <;> first | rfl | omega), rfl, rfl, rfl⟩ dX7_judges_192
                  · refine q_iload hM dX7_judges_144 rfl ?_
                    refine q_bipush (v := 15) hM dX7_judges_146 (by decide) ?_
                    refine q_icmp_gt (tgt := 155) hM dX7_judges_148 (by decide) (fun c148 => ?_) (fun c148 => ?_)
                    · refine q_iconst (v := 0) hM dX7_judges_155 (by decide) ?_
                      refine q_goto (tgt := 171) hM dX7_judges_156 (by decide) ?_
                      refine si_10_9 hM dX7_judges_171 ?_
                      refine q_iload hM dX7_judges_173 rfl ?_
                      refine q_if_eq_f (tgt := 182) hM dX7_judges_175 (by decide) (by decide) ?_
                      refine q_iconst (v := 3) hM dX7_judges_178 (by decide) ?_
                      refine q_goto (tgt := 192) hM dX7_judges_179 (by decide) ?_
                      exact hret _ _ _ _ _ _ ⟨(by unfold sJud judC; simp only [lt_i, le_i, eq_i, e1, e2, e5, e15, e40, i0, k1, k2, k3, k5, k15, k20, k30, k40, Int.not_lt, Int.not_le] at c39 c46 c53 c60 c81 c102 c108 c120 c141 c148 ⊢; (repeat' split) <;> first | rfl | omega), rfl, rfl, rfl⟩ dX7_judges_192
                    · refine q_iconst (v := 1) hM dX7_judges_151 (by decide) ?_
                      refine q_goto (tgt := 171) hM dX7_judges_152 (by decide) ?_
                      refine si_10_9 hM dX7_judges_171 ?_
                      refine q_iload hM dX7_judges_173 rfl ?_
                      refine q_if_eq_f (tgt := 182) hM dX7_judges_175 (by decide) (by decide) ?_
                      refine q_iconst (v := 3) hM dX7_judges_178 (by decide) ?_
                      refine q_goto (tgt := 192) hM dX7_judges_179 (by decide) ?_
                      exact hret _ _ _ _ _ _ ⟨(by unfold sJud judC; simp only [lt_i, le_i, eq_i, e1, e2, e5, e15, e40, i0, k1, k2, k3, k5, k15, k20, k30, k40, Int.not_lt, Int.not_le] at c39 c46 c53 c60 c81 c102 c108 c120 c141 c148 ⊢; (repeat' split) <;> first | rfl | omega), rfl, rfl, rfl⟩ dX7_judges_192
                · refine q_iload hM dX7_judges_123 rfl ?_
                  refine q_bipush (v := 15) hM dX7_judges_125 (by decide) ?_
                  refine q_icmp_lt (tgt := 134) hM dX7_judges_127 (by decide) (fun c127 => ?_) (fun c127 => ?_)
                  · refine q_iconst (v := 0) hM dX7_judges_134 (by decide) ?_
                    refine q_goto (tgt := 171) hM dX7_judges_135 (by decide) ?_
                    refine si_10_9 hM dX7_judges_171 ?_
                    refine q_iload hM dX7_judges_173 rfl ?_
                    refine q_if_eq_f (tgt := 182) hM dX7_judges_175 (by decide) (by decide) ?_
                    refine q_iconst (v := 3) hM dX7_judges_178 (by decide) ?_
                    refine q_goto (tgt := 192) hM dX7_judges_179 (by decide) ?_
                    exact hret _ _ _ _ _ _ ⟨(by unfold sJud judC; simp only [lt_i, le_i, eq_i, e1, e2, e5, e15, e40, i0, k1, k2, k3, k5, k15, k20, k30, k40, Int.not_lt, Int.not_le] at c39 c46 c53 c60 c81 c102 c108 c120 c127 ⊢; (repeat' split) <;> first | rfl | omega), rfl, rfl, rfl⟩ dX7_judges_192
                  · refine q_iconst (v := 1) hM dX7_judges_130 (by decide) ?_
                    refine q_goto (tgt := 171) hM dX7_judges_131 (by decide) ?_
                    refine si_10_9 hM dX7_judges_171 ?_
                    refine q_iload hM dX7_judges_173 rfl ?_
                    refine q_if_eq_f (tgt := 182) hM dX7_judges_175 (by decide) (by decide) ?_
                    refine q_iconst (v := 3) hM dX7_judges_178 (by decide) ?_
                    refine q_goto (tgt := 192) hM dX7_judges_179 (by decide) ?_
                    exact hret _ _ _ _ _ _ ⟨(by unfold sJud judC; simp only [lt_i, le_i, eq_i, e1, e2, e5, e15, e40, i0, k1, k2, k3, k5, k15, k20, k30, k40, Int.not_lt, Int.not_le] at c39 c46 c53 c60 c81 c102 c108 c120 c127 ⊢; (repeat' split) <;> first | rfl | omega), rfl, rfl, rfl⟩ dX7_judges_192
          · refine q_iload hM dX7_judges_84 rfl ?_
            refine q_iconst (v := 5) hM dX7_judges_86 (by decide) ?_
            refine q_icmp_gt (tgt := 94) hM dX7_judges_87 (by decide) (fun c87 => ?_) (fun c87 => ?_)
            · refine q_iconst (v := 0) hM dX7_judges_94 (by decide) ?_
              refine q_goto (tgt := 116) hM dX7_judges_95 (by decide) ?_
              refine si_10_8 hM dX7_judges_116 ?_
              refine q_iload hM dX7_judges_118 rfl ?_
              refine q_if_ne (tgt := 138) hM dX7_judges_120 (by decide) (fun c120 => ?_) (fun c120 => ?_)
              · refine q_iload hM dX7_judges_138 rfl ?_
                refine q_iconst (v := 1) hM dX7_judges_140 (by decide) ?_
                refine q_icmp_ne (tgt := 159) hM dX7_judges_141 (by decide) (fun c141 => ?_) (fun c141 => ?_)
                · refine q_iload hM dX7_judges_159 rfl ?_
                  refine q_bipush (v := 20) hM dX7_judges_161 (by decide) ?_
                  refine q_icmp_lt (tgt := 170) hM dX7_judges_163 (by decide) (fun c163 => ?_) (fun c163 => ?_)
                  · refine q_iconst (v := 0) hM dX7_judges_170 (by decide) ?_
                    refine si_10_9 hM dX7_judges_171 ?_
                    refine q_iload hM dX7_judges_173 rfl ?_
                    refine q_if_eq_t (tgt := 182) hM dX7_judges_175 (by decide) (by decide) ?_
                    refine q_iload hM dX7_judges_182 rfl ?_
                    refine q_if_eq_t (tgt := 191) hM dX7_judges_184 (by decide) (by decide) ?_
                    refine q_iconst (v := 1) hM dX7_judges_191 (by decide) ?_
                    exact hret _ _ _ _ _ _ ⟨(by unfold sJud judC; simp only [lt_i, le_i, eq_i, e1, e2, e5, e15, e40, i0, k1, k2, k3, k5, k15, k20, k30, k40, Int.not_lt, Int.not_le] at c39 c46 c53 c60 c81 c87 c120 c141 c163 ⊢; (repeat' split) <;> first | rfl | omega), rfl, rfl, rfl⟩ dX7_judges_192
                  · refine q_iconst (v := 1) hM dX7_judges_166 (by decide) ?_
                    refine q_goto (tgt := 171) hM dX7_judges_167 (by decide) ?_
                    refine si_10_9 hM dX7_judges_171 ?_
                    refine q_iload hM dX7_judges_173 rfl ?_
                    refine q_if_eq_t (tgt := 182) hM dX7_judges_175 (by decide) (by decide) ?_
                    refine q_iload hM dX7_judges_182 rfl ?_
                    refine q_if_eq_f (tgt := 191) hM dX7_judges_184 (by decide) (by decide) ?_
                    refine q_iconst (v := 2) hM dX7_judges_187 (by decide) ?_
                    refine q_goto (tgt := 192) hM dX7_judges_188 (by decide) ?_
                    exact hret _ _ _ _ _ _ ⟨(by unfold sJud judC; simp only [lt_i, le_i, eq_i, e1, e2, e5, e15, e40, i0, k1, k2, k3, k5, k15, k20, k30, k40, Int.not_lt, Int.not_le] at c39 c46 c53 c60 c81 c87 c120 c141 c163 ⊢; (repeat' split) <;> first | rfl | omega), rfl, rfl, rfl⟩ dX7_judges_192
                · refine q_iload hM dX7_judges_144 rfl ?_
                  refine q_bipush (v := 15) hM dX7_judges_146 (by decide) ?_
                  refine q_icmp_gt (tgt := 155) hM dX7_judges_148 (by decide) (fun c148 => ?_) (fun c148 => ?_)
                  · refine q_iconst (v := 0) hM dX7_judges_155 (by decide) ?_
                    refine q_goto (tgt := 171) hM dX7_judges_156 (by decide) ?_
                    refine si_10_9 hM dX7_judges_171 ?_
                    refine q_iload hM dX7_judges_173 rfl ?_
                    refine q_if_eq_t (tgt := 182) hM dX7_judges_175 (by decide) (by decide) ?_
                    refine q_iload hM dX7_judges_182 rfl ?_
                    refine q_if_eq_t (tgt := 191) hM dX7_judges_184 (by decide) (by decide) ?_
                    refine q_iconst (v := 1) hM dX7_judges_191 (by decide) ?_
                    exact hret _ _ _ _ _ _ ⟨(by unfold sJud judC; simp only [lt_i, le_i, eq_i, e1, e2, e5, e15, e40, i0, k1, k2, k3, k5, k15, k20, k30, k40, Int.not_lt, Int.not_le] at c39 c46 c53 c60 c81 c87 c120 c141 c148 ⊢; (repeat' split) <;> first | rfl | omega), rfl, rfl, rfl⟩ dX7_judges_192
                  · refine q_iconst (v := 1) hM dX7_judges_151 (by decide) ?_
                    refine q_goto (tgt := 171) hM dX7_judges_152 (by decide) ?_
                    refine si_10_9 hM dX7_judges_171 ?_
                    refine q_iload hM dX7_judges_173 rfl ?_
                    refine q_if_eq_t (tgt := 182) hM dX7_judges_175 (by decide) (by decide) ?_
                    refine q_iload hM dX7_judges_182 rfl ?_
                    refine q_if_eq_f (tgt := 191) hM dX7_judges_184 (by decide) (by decide) ?_
                    refine q_iconst (v := 2) hM dX7_judges_187 (by decide) ?_
                    refine q_goto (tgt := 192) hM dX7_judges_188 (by decide) ?_
                    exact hret _ _ _ _ _ _ ⟨(by unfold sJud judC; simp only [lt_i, le_i, eq_i, e1, e2, e5, e15, e40, i0, k1, k2, k3, k5, k15, k20, k30, k40, Int.not_lt, Int.not_le] at c39 c46 c53 c60 c81 c87 c120 c141 c148 ⊢; (repeat' split) <;> first | rfl | omega), rfl, rfl, rfl⟩ dX7_judges_192
              · refine q_iload hM dX7_judges_123 rfl ?_
                refine q_bipush (v := 15) hM dX7_judges_125 (by decide) ?_
                refine q_icmp_lt (tgt := 134) hM dX7_judges_127 (by decide) (fun c127 => ?_) (fun c127 => ?_)
                · refine q_iconst (v := 0) hM dX7_judges_134 (by decide) ?_
                  refine q_goto (tgt := 171) hM dX7_judges_135 (by decide) ?_
                  refine si_10_9 hM dX7_judges_171 ?_
                  refine q_iload hM dX7_judges_173 rfl ?_
                  refine q_if_eq_t (tgt := 182) hM dX7_judges_175 (by decide) (by decide) ?_
                  refine q_iload hM dX7_judges_182 rfl ?_
                  refine q_if_eq_t (tgt := 191) hM dX7_judges_184 (by decide) (by decide) ?_
                  refine q_iconst (v := 1) hM dX7_judges_191 (by decide) ?_
                  exact hret _ _ _ _ _ _ ⟨(by unfold sJud judC; simp only [lt_i, le_i, eq_i, e1, e2, e5, e15, e40, i0, k1, k2, k3, k5, k15, k20, k30, k40, Int.not_lt, Int.not_le] at c39 c46 c53 c60 c81 c87 c120 c127 ⊢; (repeat' split) <;> first | rfl | omega), rfl, rfl, rfl⟩ dX7_judges_192
                · refine q_iconst (v := 1) hM dX7_judges_130 (by decide) ?_
                  refine q_goto (tgt := 171) hM dX7_judges_131 (by decide) ?_
                  refine si_10_9 hM dX7_judges_171 ?_
                  refine q_iload hM dX7_judges_173 rfl ?_
                  refine q_if_eq_t (tgt := 182) hM dX7_judges_175 (by decide) (by decide) ?_
                  refine q_iload hM dX7_judges_182 rfl ?_
                  refine q_if_eq_f (tgt := 191) hM dX7_judges_184 (by decide) (by decide) ?_
                  refine q_iconst (v := 2) hM dX7_judges_187 (by decide) ?_
                  refine q_goto (tgt := 192) hM dX7_judges_188 (by decide) ?_
                  exact hret _ _ _ _ _ _ ⟨(by unfold sJud judC; simp only [lt_i, le_i, eq_i, e1, e2, e5, e15, e40, i0, k1, k2, k3, k5, k15, k20, k30, k40, Int.not_lt, Int.not_le] at c39 c46 c53 c60 c81 c87 c120 c127 ⊢; (repeat' split) <;> first | rfl | omega), rfl, rfl, rfl⟩ dX7_judges_192
            · refine q_iconst (v := 1) hM dX7_judges_90 (by decide) ?_
              refine q_goto (tgt := 116) hM dX7_judges_91 (by decide) ?_
              refine si_10_8 hM dX7_judges_116 ?_
              refine q_iload hM dX7_judges_118 rfl ?_
              refine q_if_ne (tgt := 138) hM dX7_judges_120 (by decide) (fun c120 => ?_) (fun c120 => ?_)
              · refine q_iload hM dX7_judges_138 rfl ?_
                refine q_iconst (v := 1) hM dX7_judges_140 (by decide) ?_
                refine q_icmp_ne (tgt := 159) hM dX7_judges_141 (by decide) (fun c141 => ?_) (fun c141 => ?_)
                · refine q_iload hM dX7_judges_159 rfl ?_
                  refine q_bipush (v := 20) hM dX7_judges_161 (by decide) ?_
                  refine q_icmp_lt (tgt := 170) hM dX7_judges_163 (by decide) (fun c163 => ?_) (fun c163 => ?_)
                  · refine q_iconst (v := 0) hM dX7_judges_170 (by decide) ?_
                    refine si_10_9 hM dX7_judges_171 ?_
                    refine q_iload hM dX7_judges_173 rfl ?_
                    refine q_if_eq_f (tgt := 182) hM dX7_judges_175 (by decide) (by decide) ?_
                    refine q_iconst (v := 3) hM dX7_judges_178 (by decide) ?_
                    refine q_goto (tgt := 192) hM dX7_judges_179 (by decide) ?_
                    exact hret _ _ _ _ _ _ ⟨(by unfold sJud judC; simp only [lt_i, le_i, eq_i, e1, e2, e5, e15, e40, i0, k1, k2, k3, k5, k15, k20, k30, k40, Int.not_lt, Int.not_le] at c39 c46 c53 c60 c81 c87 c120 c141 c163 ⊢; (repeat' split) <;> first | rfl | omega), rfl, rfl, rfl⟩ dX7_judges_192
                  · refine q_iconst (v := 1) hM dX7_judges_166 (by decide) ?_
                    refine q_goto (tgt := 171) hM dX7_judges_167 (by decide) ?_
                    refine si_10_9 hM dX7_judges_171 ?_
                    refine q_iload hM dX7_judges_173 rfl ?_
                    refine q_if_eq_f (tgt := 182) hM dX7_judges_175 (by decide) (by decide) ?_
                    refine q_iconst (v := 3) hM dX7_judges_178 (by decide) ?_
                    refine q_goto (tgt := 192) hM dX7_judges_179 (by decide) ?_
                    exact hret _ _ _ _ _ _ ⟨(by unfold sJud judC; simp only [lt_i, le_i, eq_i, e1, e2, e5, e15, e40, i0, k1, k2, k3, k5, k15, k20, k30, k40, Int.not_lt, Int.not_le] at c39 c46 c53 c60 c81 c87 c120 c141 c163 ⊢; (repeat' split) <;> first | rfl | omega), rfl, rfl, rfl⟩ dX7_judges_192
                · refine q_iload hM dX7_judges_144 rfl ?_
                  refine q_bipush (v := 15) hM dX7_judges_146 (by decide) ?_
                  refine q_icmp_gt (tgt := 155) hM dX7_judges_148 (by decide) (fun c148 => ?_) (fun c148 => ?_)
                  · refine q_iconst (v := 0) hM dX7_judges_155 (by decide) ?_
                    refine q_goto (tgt := 171) hM dX7_judges_156 (by decide) ?_
                    refine si_10_9 hM dX7_judges_171 ?_
                    refine q_iload hM dX7_judges_173 rfl ?_
                    refine q_if_eq_f (tgt := 182) hM dX7_judges_175 (by decide) (by decide) ?_
                    refine q_iconst (v := 3) hM dX7_judges_178 (by decide) ?_
                    refine q_goto (tgt := 192) hM dX7_judges_179 (by decide) ?_
                    exact hret _ _ _ _ _ _ ⟨(by unfold sJud judC; simp only [lt_i, le_i, eq_i, e1, e2, e5, e15, e40, i0, k1, k2, k3, k5, k15, k20, k30, k40, Int.not_lt, Int.not_le] at c39 c46 c53 c60 c81 c87 c120 c141 c148 ⊢; (repeat' split) <;> first | rfl | omega), rfl, rfl, rfl⟩ dX7_judges_192
                  · refine q_iconst (v := 1) hM dX7_judges_151 (by decide) ?_
                    refine q_goto (tgt := 171) hM dX7_judges_152 (by decide) ?_
                    refine si_10_9 hM dX7_judges_171 ?_
                    refine q_iload hM dX7_judges_173 rfl ?_
                    refine q_if_eq_f (tgt := 182) hM dX7_judges_175 (by decide) (by decide) ?_
                    refine q_iconst (v := 3) hM dX7_judges_178 (by decide) ?_
                    refine q_goto (tgt := 192) hM dX7_judges_179 (by decide) ?_
                    exact hret _ _ _ _ _ _ ⟨(by unfold sJud judC; simp only [lt_i, le_i, eq_i, e1, e2, e5, e15, e40, i0, k1, k2, k3, k5, k15, k20, k30, k40, Int.not_lt, Int.not_le] at c39 c46 c53 c60 c81 c87 c120 c141 c148 ⊢; (repeat' split) <;> first | rfl | omega), rfl, rfl, rfl⟩ dX7_judges_192
              · refine q_iload hM dX7_judges_123 rfl ?_
                refine q_bipush (v := 15) hM dX7_judges_125 (by decide) ?_
                refine q_icmp_lt (tgt := 134) hM dX7_judges_127 (by decide) (fun c127 => ?_) (fun c127 => ?_)
                · refine q_iconst (v := 0) hM dX7_judges_134 (by decide) ?_
                  refine q_goto (tgt := 171) hM dX7_judges_135 (by decide) ?_
                  refine si_10_9 hM dX7_judges_171 ?_
                  refine q_iload hM dX7_judges_173 rfl ?_
                  refine q_if_eq_f (tgt := 182) hM dX7_judges_175 (by decide) (by decide) ?_
                  refine q_iconst (v := 3) hM dX7_judges_178 (by decide) ?_
                  refine q_goto (tgt := 192) hM dX7_judges_179 (by decide) ?_
                  exact hret _ _ _ _ _ _ ⟨(by unfold sJud judC; simp only [lt_i, le_i, eq_i, e1, e2, e5, e15, e40, i0, k1, k2, k3, k5, k15, k20, k30, k40, Int.not_lt, Int.not_le] at c39 c46 c53 c60 c81 c87 c120 c127 ⊢; (repeat' split) <;> first | rfl | omega), rfl, rfl, rfl⟩ dX7_judges_192
                · refine q_iconst (v := 1) hM dX7_judges_130 (by decide) ?_
                  refine q_goto (tgt := 171) hM dX7_judges_131 (by decide) ?_
                  refine si_10_9 hM dX7_judges_171 ?_
                  refine q_iload hM dX7_judges_173 rfl ?_
                  refine q_if_eq_f (tgt := 182) hM dX7_judges_175 (by decide) (by decide) ?_
                  refine q_iconst (v := 3) hM dX7_judges_178 (by decide) ?_
                  refine q_goto (tgt := 192) hM dX7_judges_179 (by decide) ?_
                  exact hret _ _ _ _ _ _ ⟨(by unfold sJud judC; simp only [lt_i, le_i, eq_i, e1, e2, e5, e15, e40, i0, k1, k2, k3, k5, k15, k20, k30, k40, Int.not_lt, Int.not_le] at c39 c46 c53 c60 c81 c87 c120 c127 ⊢; (repeat' split) <;> first | rfl | omega), rfl, rfl, rfl⟩ dX7_judges_192
        · refine q_iload hM dX7_judges_63 rfl ?_
          refine q_bipush (v := 30) hM dX7_judges_65 (by decide) ?_
          refine q_icmp_lt (tgt := 74) hM dX7_judges_67 (by decide) (fun c67 => ?_) (fun c67 => ?_)
          · refine q_iconst (v := 0) hM dX7_judges_74 (by decide) ?_
            refine q_goto (tgt := 116) hM dX7_judges_75 (by decide) ?_
            refine si_10_8 hM dX7_judges_116 ?_
            refine q_iload hM dX7_judges_118 rfl ?_
            refine q_if_ne (tgt := 138) hM dX7_judges_120 (by decide) (fun c120 => ?_) (fun c120 => ?_)
            · refine q_iload hM dX7_judges_138 rfl ?_
              refine q_iconst (v := 1) hM dX7_judges_140 (by decide) ?_
              refine q_icmp_ne (tgt := 159) hM dX7_judges_141 (by decide) (fun c141 => ?_) (fun c141 => ?_)
              · refine q_iload hM dX7_judges_159 rfl ?_
                refine q_bipush (v := 20) hM dX7_judges_161 (by decide) ?_
                refine q_icmp_lt (tgt := 170) hM dX7_judges_163 (by decide) (fun c163 => ?_) (fun c163 => ?_)
                · refine q_iconst (v := 0) hM dX7_judges_170 (by decide) ?_
                  refine si_10_9 hM dX7_judges_171 ?_
                  refine q_iload hM dX7_judges_173 rfl ?_
                  refine q_if_eq_t (tgt := 182) hM dX7_judges_175 (by decide) (by decide) ?_
                  refine q_iload hM dX7_judges_182 rfl ?_
                  refine q_if_eq_t (tgt := 191) hM dX7_judges_184 (by decide) (by decide) ?_
                  refine q_iconst (v := 1) hM dX7_judges_191 (by decide) ?_
                  exact hret _ _ _ _ _ _ ⟨(by unfold sJud judC; simp only [lt_i, le_i, eq_i, e1, e2, e5, e15, e40, i0, k1, k2, k3, k5, k15, k20, k30, k40, Int.not_lt, Int.not_le] at c39 c46 c53 c60 c67 c120 c141 c163 ⊢; (repeat' split) <;> first | rfl | omega), rfl, rfl, rfl⟩ dX7_judges_192
                · refine q_iconst (v := 1) hM dX7_judges_166 (by decide) ?_
                  refine q_goto (tgt := 171) hM dX7_judges_167 (by decide) ?_
                  refine si_10_9 hM dX7_judges_171 ?_
                  refine q_iload hM dX7_judges_173 rfl ?_
                  refine q_if_eq_t (tgt := 182) hM dX7_judges_175 (by decide) (by decide) ?_
                  refine q_iload hM dX7_judges_182 rfl ?_
                  refine q_if_eq_f (tgt := 191) hM dX7_judges_184 (by decide) (by decide) ?_
                  refine q_iconst (v := 2) hM dX7_judges_187 (by decide) ?_
                  refine q_goto (tgt := 192) hM dX7_judges_188 (by decide) ?_
                  exact hret _ _ _ _ _ _ ⟨(by unfold sJud judC; simp only [lt_i, le_i, eq_i, e1, e2, e5, e15, e40, i0, k1, k2, k3, k5, k15, k20, k30, k40, Int.not_lt, Int.not_le] at c39 c46 c53 c60 c67 c120 c141 c163 ⊢; (repeat' split) <;> first | rfl | omega), rfl, rfl, rfl⟩ dX7_judges_192
              · refine q_iload hM dX7_judges_144 rfl ?_
                refine q_bipush (v := 15) hM dX7_judges_146 (by decide) ?_
                refine q_icmp_gt (tgt := 155) hM dX7_judges_148 (by decide) (fun c148 => ?_) (fun c148 => ?_)
                · refine q_iconst (v := 0) hM dX7_judges_155 (by decide) ?_
                  refine q_goto (tgt := 171) hM dX7_judges_156 (by decide) ?_
                  refine si_10_9 hM dX7_judges_171 ?_
                  refine q_iload hM dX7_judges_173 rfl ?_
                  refine q_if_eq_t (tgt := 182) hM dX7_judges_175 (by decide) (by decide) ?_
                  refine q_iload hM dX7_judges_182 rfl ?_
                  refine q_if_eq_t (tgt := 191) hM dX7_judges_184 (by decide) (by decide) ?_
                  refine q_iconst (v := 1) hM dX7_judges_191 (by decide) ?_
                  exact hret _ _ _ _ _ _ ⟨(by unfold sJud judC; simp only [lt_i, le_i, eq_i, e1, e2, e5, e15, e40, i0, k1, k2, k3, k5, k15, k20, k30, k40, Int.not_lt, Int.not_le] at c39 c46 c53 c60 c67 c120 c141 c148 ⊢; (repeat' split) <;> first | rfl | omega), rfl, rfl, rfl⟩ dX7_judges_192
                · refine q_iconst (v := 1) hM dX7_judges_151 (by decide) ?_
                  refine q_goto (tgt := 171) hM dX7_judges_152 (by decide) ?_
                  refine si_10_9 hM dX7_judges_171 ?_
                  refine q_iload hM dX7_judges_173 rfl ?_
                  refine q_if_eq_t (tgt := 182) hM dX7_judges_175 (by decide) (by decide) ?_
                  refine q_iload hM dX7_judges_182 rfl ?_
                  refine q_if_eq_f (tgt := 191) hM dX7_judges_184 (by decide) (by decide) ?_
                  refine q_iconst (v := 2) hM dX7_judges_187 (by decide) ?_
                  refine q_goto (tgt := 192) hM dX7_judges_188 (by decide) ?_
                  exact hret _ _ _ _ _ _ ⟨(by unfold sJud judC; simp only [lt_i, le_i, eq_i, e1, e2, e5, e15, e40, i0, k1, k2, k3, k5, k15, k20, k30, k40, Int.not_lt, Int.not_le] at c39 c46 c53 c60 c67 c120 c141 c148 ⊢; (repeat' split) <;> first | rfl | omega), rfl, rfl, rfl⟩ dX7_judges_192
            · refine q_iload hM dX7_judges_123 rfl ?_
              refine q_bipush (v := 15) hM dX7_judges_125 (by decide) ?_
              refine q_icmp_lt (tgt := 134) hM dX7_judges_127 (by decide) (fun c127 => ?_) (fun c127 => ?_)
              · refine q_iconst (v := 0) hM dX7_judges_134 (by decide) ?_
                refine q_goto (tgt := 171) hM dX7_judges_135 (by decide) ?_
                refine si_10_9 hM dX7_judges_171 ?_
                refine q_iload hM dX7_judges_173 rfl ?_
                refine q_if_eq_t (tgt := 182) hM dX7_judges_175 (by decide) (by decide) ?_
                refine q_iload hM dX7_judges_182 rfl ?_
                refine q_if_eq_t (tgt := 191) hM dX7_judges_184 (by decide) (by decide) ?_
                refine q_iconst (v := 1) hM dX7_judges_191 (by decide) ?_
                exact hret _ _ _ _ _ _ ⟨(by unfold sJud judC; simp only [lt_i, le_i, eq_i, e1, e2, e5, e15, e40, i0, k1, k2, k3, k5, k15, k20, k30, k40, Int.not_lt, Int.not_le] at c39 c46 c53 c60 c67 c120 c127 ⊢; (repeat' split) <;> first | rfl | omega), rfl, rfl, rfl⟩ dX7_judges_192
              · refine q_iconst (v := 1) hM dX7_judges_130 (by decide) ?_
                refine q_goto (tgt := 171) hM dX7_judges_131 (by decide) ?_
                refine si_10_9 hM dX7_judges_171 ?_
                refine q_iload hM dX7_judges_173 rfl ?_
                refine q_if_eq_t (tgt := 182) hM dX7_judges_175 (by decide) (by decide) ?_
                refine q_iload hM dX7_judges_182 rfl ?_
                refine q_if_eq_f (tgt := 191) hM dX7_judges_184 (by decide) (by decide) ?_
                refine q_iconst (v := 2) hM dX7_judges_187 (by decide) ?_
                refine q_goto (tgt := 192) hM dX7_judges_188 (by decide) ?_
                exact hret _ _ _ _ _ _ ⟨(by unfold sJud judC; simp only [lt_i, le_i, eq_i, e1, e2, e5, e15, e40, i0, k1, k2, k3, k5, k15, k20, k30, k40, Int.not_lt, Int.not_le] at c39 c46 c53 c60 c67 c120 c127 ⊢; (repeat' split) <;> first | rfl | omega), rfl, rfl, rfl⟩ dX7_judges_192
          · refine q_iconst (v := 1) hM dX7_judges_70 (by decide) ?_
            refine q_goto (tgt := 116) hM dX7_judges_71 (by decide) ?_
            refine si_10_8 hM dX7_judges_116 ?_
            refine q_iload hM dX7_judges_118 rfl ?_
            refine q_if_ne (tgt := 138) hM dX7_judges_120 (by decide) (fun c120 => ?_) (fun c120 => ?_)
            · refine q_iload hM dX7_judges_138 rfl ?_
              refine q_iconst (v := 1) hM dX7_judges_140 (by decide) ?_
              refine q_icmp_ne (tgt := 159) hM dX7_judges_141 (by decide) (fun c141 => ?_) (fun c141 => ?_)
              · refine q_iload hM dX7_judges_159 rfl ?_
                refine q_bipush (v := 20) hM dX7_judges_161 (by decide) ?_
                refine q_icmp_lt (tgt := 170) hM dX7_judges_163 (by decide) (fun c163 => ?_) (fun c163 => ?_)
                · refine q_iconst (v := 0) hM dX7_judges_170 (by decide) ?_
                  refine si_10_9 hM dX7_judges_171 ?_
                  refine q_iload hM dX7_judges_173 rfl ?_
                  refine q_if_eq_f (tgt := 182) hM dX7_judges_175 (by decide) (by decide) ?_
                  refine q_iconst (v := 3) hM dX7_judges_178 (by decide) ?_
                  refine q_goto (tgt := 192) hM dX7_judges_179 (by decide) ?_
                  exact hret _ _ _ _ _ _ ⟨(by unfold sJud judC; simp only [lt_i, le_i, eq_i, e1, e2, e5, e15, e40, i0, k1, k2, k3, k5, k15, k20, k30, k40, Int.not_lt, Int.not_le] at c39 c46 c53 c60 c67 c120 c141 c163 ⊢; (repeat' split) <;> first | rfl | omega), rfl, rfl, rfl⟩ dX7_judges_192
                · refine q_iconst (v := 1) hM dX7_judges_166 (by decide) ?_
                  refine q_goto (tgt := 171) hM dX7_judges_167 (by decide) ?_
                  refine si_10_9 hM dX7_judges_171 ?_
                  refine q_iload hM dX7_judges_173 rfl ?_
                  refine q_if_eq_f (tgt := 182) hM dX7_judges_175 (by decide) (by decide) ?_
                  refine q_iconst (v := 3) hM dX7_judges_178 (by decide) ?_
                  refine q_goto (tgt := 192) hM dX7_judges_179 (by decide) ?_
                  exact hret _ _ _ _ _ _ ⟨(by unfold sJud judC; simp only [lt_i, le_i, eq_i, e1, e2, e5, e15, e40, i0, k1, k2, k3, k5, k15, k20, k30, k40, Int.not_lt, Int.not_le] at c39 c46 c53 c60 c67 c120 c141 c163 ⊢; (repeat' split) <;> first | rfl | omega), rfl, rfl, rfl⟩ dX7_judges_192
              · refine q_iload hM dX7_judges_144 rfl ?_
                refine q_bipush (v := 15) hM dX7_judges_146 (by decide) ?_
                refine q_icmp_gt (tgt := 155) hM dX7_judges_148 (by decide) (fun c148 => ?_) (fun c148 => ?_)
                · refine q_iconst (v := 0) hM dX7_judges_155 (by decide) ?_
                  refine q_goto (tgt := 171) hM dX7_judges_156 (by decide) ?_
                  refine si_10_9 hM dX7_judges_171 ?_
                  refine q_iload hM dX7_judges_173 rfl ?_
                  refine q_if_eq_f (tgt := 182) hM dX7_judges_175 (by decide) (by decide) ?_
                  refine q_iconst (v := 3) hM dX7_judges_178 (by decide) ?_
                  refine q_goto (tgt := 192) hM dX7_judges_179 (by decide) ?_
                  exact hret _ _ _ _ _ _ ⟨(by unfold sJud judC; simp only [lt_i, le_i, eq_i, e1, e2, e5, e15, e40, i0, k1, k2, k3, k5, k15, k20, k30, k40, Int.not_lt, Int.not_le] at c39 c46 c53 c60 c67 c120 c141 c148 ⊢; (repeat' split) <;> first | rfl | omega), rfl, rfl, rfl⟩ dX7_judges_192
                · refine q_iconst (v := 1) hM dX7_judges_151 (by decide) ?_
                  refine q_goto (tgt := 171) hM dX7_judges_152 (by decide) ?_
                  refine si_10_9 hM dX7_judges_171 ?_
                  refine q_iload hM dX7_judges_173 rfl ?_
                  refine q_if_eq_f (tgt := 182) hM dX7_judges_175 (by decide) (by decide) ?_
                  refine q_iconst (v := 3) hM dX7_judges_178 (by decide) ?_
                  refine q_goto (tgt := 192) hM dX7_judges_179 (by decide) ?_
                  exact hret _ _ _ _ _ _ ⟨(by unfold sJud judC; simp only [lt_i, le_i, eq_i, e1, e2, e5, e15, e40, i0, k1, k2, k3, k5, k15, k20, k30, k40, Int.not_lt, Int.not_le] at c39 c46 c53 c60 c67 c120 c141 c148 ⊢; (repeat' split) <;> first | rfl | omega), rfl, rfl, rfl⟩ dX7_judges_192
            · refine q_iload hM dX7_judges_123 rfl ?_
              refine q_bipush (v := 15) hM dX7_judges_125 (by decide) ?_
              refine q_icmp_lt (tgt := 134) hM dX7_judges_127 (by decide) (fun c127 => ?_) (fun c127 => ?_)
              · refine q_iconst (v := 0) hM dX7_judges_134 (by decide) ?_
                refine q_goto (tgt := 171) hM dX7_judges_135 (by decide) ?_
                refine si_10_9 hM dX7_judges_171 ?_
                refine q_iload hM dX7_judges_173 rfl ?_
                refine q_if_eq_f (tgt := 182) hM dX7_judges_175 (by decide) (by decide) ?_
                refine q_iconst (v := 3) hM dX7_judges_178 (by decide) ?_
                refine q_goto (tgt := 192) hM dX7_judges_179 (by decide) ?_
                exact hret _ _ _ _ _ _ ⟨(by unfold sJud judC; simp only [lt_i, le_i, eq_i, e1, e2, e5, e15, e40, i0, k1, k2, k3, k5, k15, k20, k30, k40, Int.not_lt, Int.not_le] at c39 c46 c53 c60 c67 c120 c127 ⊢; (repeat' split) <;> first | rfl | omega), rfl, rfl, rfl⟩ dX7_judges_192
              · refine q_iconst (v := 1) hM dX7_judges_130 (by decide) ?_
                refine q_goto (tgt := 171) hM dX7_judges_131 (by decide) ?_
                refine si_10_9 hM dX7_judges_171 ?_
                refine q_iload hM dX7_judges_173 rfl ?_
                refine q_if_eq_f (tgt := 182) hM dX7_judges_175 (by decide) (by decide) ?_
                refine q_iconst (v := 3) hM dX7_judges_178 (by decide) ?_
                refine q_goto (tgt := 192) hM dX7_judges_179 (by decide) ?_
                exact hret _ _ _ _ _ _ ⟨(by unfold sJud judC; simp only [lt_i, le_i, eq_i, e1, e2, e5, e15, e40, i0, k1, k2, k3, k5, k15, k20, k30, k40, Int.not_lt, Int.not_le] at c39 c46 c53 c60 c67 c120 c127 ⊢; (repeat' split) <;> first | rfl | omega), rfl, rfl, rfl⟩ dX7_judges_192
      · refine q_iconst (v := 4) hM dX7_judges_56 (by decide) ?_
        exact hret _ _ _ _ _ _ ⟨(by unfold sJud judC; simp only [lt_i, le_i, eq_i, e1, e2, e5, e15, e40, i0, k1, k2, k3, k5, k15, k20, k30, k40, Int.not_lt, Int.not_le] at c39 c46 c53 ⊢; (repeat' split) <;> first | rfl | omega), rfl, rfl, rfl⟩ dX7_judges_57
  · refine q_iconst (v := 5) hM dX7_judges_42 (by decide) ?_
    exact hret _ _ _ _ _ _ ⟨(by unfold sJud judC; simp only [lt_i, le_i, eq_i, e1, e2, e5, e15, e40, i0, k1, k2, k3, k5, k15, k20, k30, k40, Int.not_lt, Int.not_le] at c39 ⊢; (repeat' split) <;> first | rfl | omega), rfl, rfl, rfl⟩ dX7_judges_43
