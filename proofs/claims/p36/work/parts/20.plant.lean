/-! ===== the class's plant and traps ===== -/

set_option maxHeartbeats 4000000 in
set_option maxRecDepth 100000 in
theorem c_X6_isWithin (l : Launch) (G : kG) {I : kI} {L : kL} {X : kX} (v a b : Int32)  : Kz l yX6_isWithin cX6_isWithin 3 0 G [.int v, .int a, .int b] 153 153 I L X (pE (decide (a ≤ v ∧ v ≤ b)) I L X) := by
  refine Kz_intro (own := RX6) (lv0 := [some (.int v), some (.int a), some (.int b)]) 0 (by decide +kernel) rfl rfl (Nat.le_of_ble_eq_true rfl) (Nat.le_refl _) (fun J hM hret => ?_)
  refine q_iload_n hM dX6_isWithin_0 rfl ?_
  refine q_iload_n hM dX6_isWithin_1 rfl ?_
  refine q_icmp_lt (tgt := 14) hM dX6_isWithin_2 (by decide) (fun c2 => ?_) (fun c2 => ?_)
  · refine q_iconst (v := 0) hM dX6_isWithin_14 (by decide) ?_
    exact hret false _ _ _ _ _ _ rfl ⟨(by simp only [lt_i, le_i, Int.not_lt, Int.not_le] at c2 ⊢; first | (apply Eq.symm; apply decide_eq_true; omega) | (apply Eq.symm; apply decide_eq_false; omega)), rfl, rfl, rfl⟩ dX6_isWithin_15
  · refine q_iload_n hM dX6_isWithin_5 rfl ?_
    refine q_iload_n hM dX6_isWithin_6 rfl ?_
    refine q_icmp_gt (tgt := 14) hM dX6_isWithin_7 (by decide) (fun c7 => ?_) (fun c7 => ?_)
    · refine q_iconst (v := 0) hM dX6_isWithin_14 (by decide) ?_
      exact hret false _ _ _ _ _ _ rfl ⟨(by simp only [lt_i, le_i, Int.not_lt, Int.not_le] at c2 c7 ⊢; first | (apply Eq.symm; apply decide_eq_true; omega) | (apply Eq.symm; apply decide_eq_false; omega)), rfl, rfl, rfl⟩ dX6_isWithin_15
    · refine q_iconst (v := 1) hM dX6_isWithin_10 (by decide) ?_
      refine q_goto (tgt := 15) hM dX6_isWithin_11 (by decide) ?_
      exact hret true _ _ _ _ _ _ rfl ⟨(by simp only [lt_i, le_i, Int.not_lt, Int.not_le] at c2 c7 ⊢; first | (apply Eq.symm; apply decide_eq_true; omega) | (apply Eq.symm; apply decide_eq_false; omega)), rfl, rfl, rfl⟩ dX6_isWithin_15
set_option maxHeartbeats 4000000 in
set_option maxRecDepth 100000 in
theorem c_X5_judgedAsBucket (l : Launch) (G : kG) {I : kI} {L : kL} {X : kX} (c : Int32)  : Ki l yX5_judgedAsBucket cX5_judgedAsBucket 1 0 G [.int c] 153 153 I L X (pE (if 30 ≤ c then 3 else if 15 ≤ c then 2 else 1) I L X) := by
  refine Ki_intro (own := RX5) (lv0 := [some (.int c)]) 0 (by decide +kernel) rfl rfl (Nat.le_of_ble_eq_true rfl) (Nat.le_refl _) (fun J hM hret => ?_)
  refine q_iload_n hM dX5_judgedAsBucket_0 rfl ?_
  refine q_bipush (v := 30) hM dX5_judgedAsBucket_1 (by decide) ?_
  refine q_icmp_lt (tgt := 8) hM dX5_judgedAsBucket_3 (by decide) (fun c3 => ?_) (fun c3 => ?_)
  · refine q_iload_n hM dX5_judgedAsBucket_8 rfl ?_
    refine q_bipush (v := 15) hM dX5_judgedAsBucket_9 (by decide) ?_
    refine q_icmp_lt (tgt := 18) hM dX5_judgedAsBucket_11 (by decide) (fun c11 => ?_) (fun c11 => ?_)
    · refine q_iconst (v := 1) hM dX5_judgedAsBucket_18 (by decide) ?_
      exact hret _ _ _ _ _ _ ⟨(by simp only [lt_i, le_i, Int.not_lt, Int.not_le] at c3 c11 ⊢; (repeat' split) <;> first | rfl | omega), rfl, rfl, rfl⟩ dX5_judgedAsBucket_19
    · refine q_iconst (v := 2) hM dX5_judgedAsBucket_14 (by decide) ?_
      refine q_goto (tgt := 19) hM dX5_judgedAsBucket_15 (by decide) ?_
      exact hret _ _ _ _ _ _ ⟨(by simp only [lt_i, le_i, Int.not_lt, Int.not_le] at c3 c11 ⊢; (repeat' split) <;> first | rfl | omega), rfl, rfl, rfl⟩ dX5_judgedAsBucket_19
  · refine q_iconst (v := 3) hM dX5_judgedAsBucket_6 (by decide) ?_
    exact hret _ _ _ _ _ _ ⟨(by simp only [lt_i, le_i, Int.not_lt, Int.not_le] at c3 ⊢; (repeat' split) <;> first | rfl | omega), rfl, rfl, rfl⟩ dX5_judgedAsBucket_7
set_option maxHeartbeats 4000000 in
set_option maxRecDepth 100000 in
theorem c_X5_judgedAsThermostatic (l : Launch) (G : kG) {I : kI} {L : kL} {X : kX} (i o : Int32)  : Ki l yX5_judgedAsThermostatic cX5_judgedAsThermostatic 2 0 G [.int i, .int o] 153 153 I L X (pE (if i - 5 ≤ o then 3 else if i - 15 ≤ o then 2 else 1) I L X) := by
  refine Ki_intro (own := RX5) (lv0 := [some (.int i), some (.int o)]) 0 (by decide +kernel) rfl rfl (Nat.le_of_ble_eq_true rfl) (Nat.le_refl _) (fun J hM hret => ?_)
  refine q_iload_n hM dX5_judgedAsThermostatic_0 rfl ?_
  refine q_iload_n hM dX5_judgedAsThermostatic_1 rfl ?_
  refine q_iconst (v := 5) hM dX5_judgedAsThermostatic_2 (by decide) ?_
  refine q_isub hM dX5_judgedAsThermostatic_3 ?_
  refine q_icmp_lt (tgt := 9) hM dX5_judgedAsThermostatic_4 (by decide) (fun c4 => ?_) (fun c4 => ?_)
  · refine q_iload_n hM dX5_judgedAsThermostatic_9 rfl ?_
    refine q_iload_n hM dX5_judgedAsThermostatic_10 rfl ?_
    refine q_bipush (v := 15) hM dX5_judgedAsThermostatic_11 (by decide) ?_
    refine q_isub hM dX5_judgedAsThermostatic_13 ?_
    refine q_icmp_lt (tgt := 21) hM dX5_judgedAsThermostatic_14 (by decide) (fun c14 => ?_) (fun c14 => ?_)
    · refine q_iconst (v := 1) hM dX5_judgedAsThermostatic_21 (by decide) ?_
      exact hret _ _ _ _ _ _ ⟨(by simp only [lt_i, le_i, Int.not_lt, Int.not_le] at c4 c14 ⊢; (repeat' split) <;> first | rfl | omega), rfl, rfl, rfl⟩ dX5_judgedAsThermostatic_22
    · refine q_iconst (v := 2) hM dX5_judgedAsThermostatic_17 (by decide) ?_
      refine q_goto (tgt := 22) hM dX5_judgedAsThermostatic_18 (by decide) ?_
      exact hret _ _ _ _ _ _ ⟨(by simp only [lt_i, le_i, Int.not_lt, Int.not_le] at c4 c14 ⊢; (repeat' split) <;> first | rfl | omega), rfl, rfl, rfl⟩ dX5_judgedAsThermostatic_22
  · refine q_iconst (v := 3) hM dX5_judgedAsThermostatic_7 (by decide) ?_
    exact hret _ _ _ _ _ _ ⟨(by simp only [lt_i, le_i, Int.not_lt, Int.not_le] at c4 ⊢; (repeat' split) <;> first | rfl | omega), rfl, rfl, rfl⟩ dX5_judgedAsThermostatic_8
set_option maxHeartbeats 4000000 in
set_option maxRecDepth 100000 in
theorem c_X5_judgedAsDisc (l : Launch) (G : kG) {I : kI} {L : kL} {X : kX} (i o c : Int32)  : Ki l yX5_judgedAsDisc cX5_judgedAsDisc 3 0 G [.int i, .int o, .int c] 153 153 I L X (pE (if 40 ≤ c ∨ i - 2 ≤ o then 3 else if 20 ≤ c then 2 else 1) I L X) := by
  refine Ki_intro (own := RX5) (lv0 := [some (.int i), some (.int o), some (.int c)]) 0 (by decide +kernel) rfl rfl (Nat.le_of_ble_eq_true rfl) (Nat.le_refl _) (fun J hM hret => ?_)
  refine q_iload_n hM dX5_judgedAsDisc_0 rfl ?_
  refine q_bipush (v := 40) hM dX5_judgedAsDisc_1 (by decide) ?_
  refine q_icmp_ge (tgt := 13) hM dX5_judgedAsDisc_3 (by decide) (fun c3 => ?_) (fun c3 => ?_)
  · refine q_iconst (v := 3) hM dX5_judgedAsDisc_13 (by decide) ?_
    exact hret _ _ _ _ _ _ ⟨(by simp only [lt_i, le_i, Int.not_lt, Int.not_le] at c3 ⊢; (repeat' split) <;> first | rfl | omega), rfl, rfl, rfl⟩ dX5_judgedAsDisc_14
  · refine q_iload_n hM dX5_judgedAsDisc_6 rfl ?_
    refine q_iload_n hM dX5_judgedAsDisc_7 rfl ?_
    refine q_iconst (v := 2) hM dX5_judgedAsDisc_8 (by decide) ?_
    refine q_isub hM dX5_judgedAsDisc_9 ?_
    refine q_icmp_lt (tgt := 15) hM dX5_judgedAsDisc_10 (by decide) (fun c10 => ?_) (fun c10 => ?_)
    · refine q_iload_n hM dX5_judgedAsDisc_15 rfl ?_
      refine q_bipush (v := 20) hM dX5_judgedAsDisc_16 (by decide) ?_
      refine q_icmp_lt (tgt := 25) hM dX5_judgedAsDisc_18 (by decide) (fun c18 => ?_) (fun c18 => ?_)
      · refine q_iconst (v := 1) hM dX5_judgedAsDisc_25 (by decide) ?_
        exact hret _ _ _ _ _ _ ⟨(by simp only [lt_i, le_i, Int.not_lt, Int.not_le] at c3 c10 c18 ⊢; (repeat' split) <;> first | rfl | omega), rfl, rfl, rfl⟩ dX5_judgedAsDisc_26
      · refine q_iconst (v := 2) hM dX5_judgedAsDisc_21 (by decide) ?_
        refine q_goto (tgt := 26) hM dX5_judgedAsDisc_22 (by decide) ?_
        exact hret _ _ _ _ _ _ ⟨(by simp only [lt_i, le_i, Int.not_lt, Int.not_le] at c3 c10 c18 ⊢; (repeat' split) <;> first | rfl | omega), rfl, rfl, rfl⟩ dX5_judgedAsDisc_26
    · refine q_iconst (v := 3) hM dX5_judgedAsDisc_13 (by decide) ?_
      exact hret _ _ _ _ _ _ ⟨(by simp only [lt_i, le_i, Int.not_lt, Int.not_le] at c3 c10 ⊢; (repeat' split) <;> first | rfl | omega), rfl, rfl, rfl⟩ dX5_judgedAsDisc_14
set_option maxHeartbeats 4000000 in
set_option maxRecDepth 100000 in
theorem c_X5_judged (l : Launch) (G : kG) {I : kI} {L : kL} {X : kX} (t : Nat) (ht : t < 16) (i o c p : Int32)  : Ki l yX5_judged cX5_judged 6 1 G [.ref (ad G (5 + t)), .int i, .int o, .int c, .int p] 153 153 I L X (pE (judC (I (5 + t) 1) i o c p) I L X) := by
  refine Ki_intro (own := RX5) (lv0 := [some (.ref (ad G (5 + t))), some (.int i), some (.int o), some (.int c), some (.int p), none]) 1 (by decide +kernel) rfl rfl (Nat.le_of_ble_eq_true rfl) (Nat.le_refl _) (fun J hM hret => ?_)
  refine q_bipush (v := 100) hM dX5_judged_0 (by decide) ?_
  refine q_bipush (v := 6) hM dX5_judged_2 (by decide) ?_
  refine q_iload hM dX5_judged_4 rfl ?_
  refine q_imul hM dX5_judged_6 ?_
  refine q_iadd hM dX5_judged_7 ?_
  refine si_6_5 hM dX5_judged_8 ?_
  refine q_iload_n hM dX5_judged_10 rfl ?_
  refine q_iload hM dX5_judged_11 rfl ?_
  refine q_iconst (v := 2) hM dX5_judged_13 (by decide) ?_
  refine q_idiv hM dX5_judged_14 (by decide) ?_
  refine q_icmp_ge (tgt := 20) hM dX5_judged_15 (by decide) (fun c15 => ?_) (fun c15 => ?_)
  · refine q_iload_n hM dX5_judged_20 rfl ?_
    refine q_if_ne (tgt := 34) hM dX5_judged_21 (by decide) (fun c21 => ?_) (fun c21 => ?_)
    · refine q_aload_n hM dX5_judged_34 rfl ?_
      refine g_X5_25 hM (ltT ht) (kdT ht) dX5_judged_35 ?_
      by_cases s38_0 : I (5 + t) 1 = 0
      · refine q_lookup (off := 26) (tgt := 64) hM dX5_judged_38 (by decide) (by rw [s38_0]; decide) (by decide) ?_
        refine q_iload_n hM dX5_judged_64 rfl ?_
        refine callSe_i hM mi_X5_judgedAsBucket lk_X5_37 (c_X5_judgedAsBucket l G _) rfl rfl (by decide) (Nat.le_refl _) (by omega) (Nat.le_of_ble_eq_true rfl) dX5_judged_65 ?_
        exact hret _ _ _ _ _ _ ⟨(by simp only [judC, ← Int32.not_le] at c15 c21 s38_0 ⊢; simp [c15, c21, s38_0]), rfl, rfl, rfl⟩ dX5_judged_68
      by_cases s38_1 : I (5 + t) 1 = 1
      · refine q_lookup (off := 31) (tgt := 69) hM dX5_judged_38 (by decide) (by rw [s38_1]; decide) (by decide) ?_
        refine q_iload_n hM dX5_judged_69 rfl ?_
        refine q_iload_n hM dX5_judged_70 rfl ?_
        refine callSe_i hM mi_X5_judgedAsThermostatic lk_X5_41 (c_X5_judgedAsThermostatic l G _ _) rfl rfl (by decide) (Nat.le_refl _) (by omega) (Nat.le_of_ble_eq_true rfl) dX5_judged_71 ?_
        exact hret _ _ _ _ _ _ ⟨(by simp only [judC, ← Int32.not_le] at c15 c21 s38_0 s38_1 ⊢; simp [c15, c21, s38_0, s38_1]), rfl, rfl, rfl⟩ dX5_judged_74
      refine q_lookup (off := 37) (tgt := 75) hM dX5_judged_38 (by decide) (by rw [show (#[(0, 26), (1, 31)] : Array (Int × Int)).toList = [(0, 26), (1, 31)] from rfl, lv_osw (k := 0) s38_0 (by decide), lv_osw (k := 1) s38_1 (by decide)]; rfl) (by decide) ?_
      refine q_iload_n hM dX5_judged_75 rfl ?_
      refine q_iload_n hM dX5_judged_76 rfl ?_
      refine q_iload_n hM dX5_judged_77 rfl ?_
      refine callSe_i hM mi_X5_judgedAsDisc lk_X5_45 (c_X5_judgedAsDisc l G _ _ _) rfl rfl (by decide) (Nat.le_refl _) (by omega) (Nat.le_of_ble_eq_true rfl) dX5_judged_78 ?_
      exact hret _ _ _ _ _ _ ⟨(by simp only [judC, ← Int32.not_le] at c15 c21 s38_0 s38_1 ⊢; simp [c15, c21, s38_0, s38_1]), rfl, rfl, rfl⟩ dX5_judged_81
    · refine q_iload_n hM dX5_judged_24 rfl ?_
      refine q_iload_n hM dX5_judged_25 rfl ?_
      refine q_bipush (v := 40) hM dX5_judged_26 (by decide) ?_
      refine q_isub hM dX5_judged_28 ?_
      refine q_icmp_gt (tgt := 34) hM dX5_judged_29 (by decide) (fun c29 => ?_) (fun c29 => ?_)
      · refine q_aload_n hM dX5_judged_34 rfl ?_
        refine g_X5_25 hM (ltT ht) (kdT ht) dX5_judged_35 ?_
        by_cases s38_0 : I (5 + t) 1 = 0
        · refine q_lookup (off := 26) (tgt := 64) hM dX5_judged_38 (by decide) (by rw [s38_0]; decide) (by decide) ?_
          refine q_iload_n hM dX5_judged_64 rfl ?_
          refine callSe_i hM mi_X5_judgedAsBucket lk_X5_37 (c_X5_judgedAsBucket l G _) rfl rfl (by decide) (Nat.le_refl _) (by omega) (Nat.le_of_ble_eq_true rfl) dX5_judged_65 ?_
          exact hret _ _ _ _ _ _ ⟨(by simp only [judC, ← Int32.not_le] at c15 c21 c29 s38_0 ⊢; simp [c15, c21, c29, s38_0]), rfl, rfl, rfl⟩ dX5_judged_68
        by_cases s38_1 : I (5 + t) 1 = 1
        · refine q_lookup (off := 31) (tgt := 69) hM dX5_judged_38 (by decide) (by rw [s38_1]; decide) (by decide) ?_
          refine q_iload_n hM dX5_judged_69 rfl ?_
          refine q_iload_n hM dX5_judged_70 rfl ?_
          refine callSe_i hM mi_X5_judgedAsThermostatic lk_X5_41 (c_X5_judgedAsThermostatic l G _ _) rfl rfl (by decide) (Nat.le_refl _) (by omega) (Nat.le_of_ble_eq_true rfl) dX5_judged_71 ?_
          exact hret _ _ _ _ _ _ ⟨(by simp only [judC, ← Int32.not_le] at c15 c21 c29 s38_0 s38_1 ⊢; simp [c15, c21, c29, s38_0, s38_1]), rfl, rfl, rfl⟩ dX5_judged_74
        refine q_lookup (off := 37) (tgt := 75) hM dX5_judged_38 (by decide) (by rw [show (#[(0, 26), (1, 31)] : Array (Int × Int)).toList = [(0, 26), (1, 31)] from rfl, lv_osw (k := 0) s38_0 (by decide), lv_osw (k := 1) s38_1 (by decide)]; rfl) (by decide) ?_
        refine q_iload_n hM dX5_judged_75 rfl ?_
        refine q_iload_n hM dX5_judged_76 rfl ?_
        refine q_iload_n hM dX5_judged_77 rfl ?_
        refine callSe_i hM mi_X5_judgedAsDisc lk_X5_45 (c_X5_judgedAsDisc l G _ _ _) rfl rfl (by decide) (Nat.le_refl _) (by omega) (Nat.le_of_ble_eq_true rfl) dX5_judged_78 ?_
        exact hret _ _ _ _ _ _ ⟨(by simp only [judC, ← Int32.not_le] at c15 c21 c29 s38_0 s38_1 ⊢; simp [c15, c21, c29, s38_0, s38_1]), rfl, rfl, rfl⟩ dX5_judged_81
      · refine q_iconst (v := 4) hM dX5_judged_32 (by decide) ?_
        exact hret _ _ _ _ _ _ ⟨(by simp only [judC, ← Int32.not_le] at c15 c21 c29 ⊢; simp [c15, c21, c29]), rfl, rfl, rfl⟩ dX5_judged_33
  · refine q_iconst (v := 5) hM dX5_judged_18 (by decide) ?_
    exact hret _ _ _ _ _ _ ⟨(by simp only [judC, ← Int32.not_le] at c15 ⊢; simp [c15]), rfl, rfl, rfl⟩ dX5_judged_19
set_option maxHeartbeats 4000000 in
set_option maxRecDepth 100000 in
theorem c_X5_lossUnder (l : Launch) (G : kG) {I : kI} {L : kL} {X : kX} (t : Nat) (ht : t < 16) (p : Int32)  : Ki l yX5_lossUnder cX5_lossUnder 3 0 G [.ref (ad G (5 + t)), .int p] 153 153 I L X (pE (lossQ (I (5 + t) 2) (I (5 + t) 5) p) I L X) := by
  refine Ki_intro (own := RX5) (lv0 := [some (.ref (ad G (5 + t))), some (.int p), none]) 1 (by decide +kernel) rfl rfl (Nat.le_of_ble_eq_true rfl) (Nat.le_refl _) (fun J hM hret => ?_)
  refine q_aload_n hM dX5_lossUnder_0 rfl ?_
  refine g_X5_28 hM (ltT ht) (kdT ht) dX5_lossUnder_1 ?_
  refine q_aload_n hM dX5_lossUnder_4 rfl ?_
  refine g_X5_28 hM (ltT ht) (kdT ht) dX5_lossUnder_5 ?_
  refine q_imul hM dX5_lossUnder_8 ?_
  refine q_iload_n hM dX5_lossUnder_9 rfl ?_
  refine q_iconst (v := 1) hM dX5_lossUnder_10 (by decide) ?_
  refine q_iadd hM dX5_lossUnder_11 ?_
  refine q_imul hM dX5_lossUnder_12 ?_
  refine q_bipush (v := 10) hM dX5_lossUnder_13 (by decide) ?_
  refine q_imul hM dX5_lossUnder_15 ?_
  refine si_3_2 hM dX5_lossUnder_16 ?_
  refine q_aload_n hM dX5_lossUnder_17 rfl ?_
  refine g_X5_9 hM (ltT ht) (kdT ht) dX5_lossUnder_18 ?_
  by_cases s21_2 : I (5 + t) 5 = 2
  · refine q_lookup (off := 27) (tgt := 48) hM dX5_lossUnder_21 (by decide) (by rw [s21_2]; decide) (by decide) ?_
    refine q_iload_n hM dX5_lossUnder_48 rfl ?_
    refine q_iconst (v := 4) hM dX5_lossUnder_49 (by decide) ?_
    refine q_idiv hM dX5_lossUnder_50 (by decide) ?_
    exact hret _ _ _ _ _ _ ⟨(by unfold lossQ; simp [*]), rfl, rfl, rfl⟩ dX5_lossUnder_51
  by_cases s21_3 : I (5 + t) 5 = 3
  · refine q_lookup (off := 31) (tgt := 52) hM dX5_lossUnder_21 (by decide) (by rw [s21_3]; decide) (by decide) ?_
    refine q_iload_n hM dX5_lossUnder_52 rfl ?_
    exact hret _ _ _ _ _ _ ⟨(by unfold lossQ; simp [*]), rfl, rfl, rfl⟩ dX5_lossUnder_53
  refine q_lookup (off := 33) (tgt := 54) hM dX5_lossUnder_21 (by decide) (by rw [show (#[(2, 27), (3, 31)] : Array (Int × Int)).toList = [(2, 27), (3, 31)] from rfl, lv_osw (k := 2) s21_2 (by decide), lv_osw (k := 3) s21_3 (by decide)]; rfl) (by decide) ?_
  refine q_iconst (v := 0) hM dX5_lossUnder_54 (by decide) ?_
  exact hret _ _ _ _ _ _ ⟨(by unfold lossQ; simp [*]), rfl, rfl, rfl⟩ dX5_lossUnder_55
set_option maxHeartbeats 4000000 in
set_option maxRecDepth 100000 in
theorem c_X5_costOfRepair (l : Launch) (G : kG) {I : kI} {L : kL} {X : kX} (t : Nat) (ht : t < 16)  : Ki l yX5_costOfRepair cX5_costOfRepair 1 0 G [.ref (ad G (5 + t))] 153 153 I L X (pE (costQ (I (5 + t) 1) (I (5 + t) 2)) I L X) := by
  refine Ki_intro (own := RX5) (lv0 := [some (.ref (ad G (5 + t)))]) 0 (by decide +kernel) rfl rfl (Nat.le_of_ble_eq_true rfl) (Nat.le_refl _) (fun J hM hret => ?_)
  refine q_aload_n hM dX5_costOfRepair_0 rfl ?_
  refine g_X5_25 hM (ltT ht) (kdT ht) dX5_costOfRepair_1 ?_
  refine q_iconst (v := 2) hM dX5_costOfRepair_4 (by decide) ?_
  refine q_icmp_ne (tgt := 21) hM dX5_costOfRepair_5 (by decide) (fun c5 => ?_) (fun c5 => ?_)
  · refine q_bipush (v := 50) hM dX5_costOfRepair_21 (by decide) ?_
    refine q_bipush (v := 20) hM dX5_costOfRepair_23 (by decide) ?_
    refine q_aload_n hM dX5_costOfRepair_25 rfl ?_
    refine g_X5_28 hM (ltT ht) (kdT ht) dX5_costOfRepair_26 ?_
    refine q_imul hM dX5_costOfRepair_29 ?_
    refine q_iadd hM dX5_costOfRepair_30 ?_
    exact hret _ _ _ _ _ _ ⟨(by unfold costQ; simp [*]), rfl, rfl, rfl⟩ dX5_costOfRepair_31
  · refine q_bipush (v := 30) hM dX5_costOfRepair_8 (by decide) ?_
    refine q_bipush (v := 10) hM dX5_costOfRepair_10 (by decide) ?_
    refine q_aload_n hM dX5_costOfRepair_12 rfl ?_
    refine g_X5_28 hM (ltT ht) (kdT ht) dX5_costOfRepair_13 ?_
    refine q_imul hM dX5_costOfRepair_16 ?_
    refine q_iadd hM dX5_costOfRepair_17 ?_
    refine q_goto (tgt := 31) hM dX5_costOfRepair_18 (by decide) ?_
    exact hret _ _ _ _ _ _ ⟨(by unfold costQ; simp [*]), rfl, rfl, rfl⟩ dX5_costOfRepair_31
set_option maxHeartbeats 4000000 in
set_option maxRecDepth 100000 in
theorem c_X5_wayFrom (l : Launch) (G : kG) {I : kI} {L : kL} {X : kX} (t : Nat) (ht : t < 16) (a b : Int32)  : Ki l yX5_wayFrom cX5_wayFrom 3 1 G [.ref (ad G (5 + t)), .int a, .int b] 153 153 I L X (pE ((if 0 ≤ I (5 + t) 3 - a then I (5 + t) 3 - a else 0 - (I (5 + t) 3 - a)) + (if 0 ≤ I (5 + t) 4 - b then I (5 + t) 4 - b else 0 - (I (5 + t) 4 - b))) I L X) := by
  refine Ki_intro (own := RX5) (lv0 := [some (.ref (ad G (5 + t))), some (.int a), some (.int b)]) 0 (by decide +kernel) rfl rfl (Nat.le_of_ble_eq_true rfl) (Nat.le_refl _) (fun J hM hret => ?_)
  refine q_aload_n hM dX5_wayFrom_0 rfl ?_
  refine g_X5_31 hM (ltT ht) (kdT ht) dX5_wayFrom_1 ?_
  refine q_iload_n hM dX5_wayFrom_4 rfl ?_
  refine q_isub hM dX5_wayFrom_5 ?_
  refine q_abs hM lk_X5_49 w_abs_s w_abs_i w_abs_c (by decide) (by omega) (Nat.le_of_ble_eq_true rfl) dX5_wayFrom_6 ?_
  refine q_aload_n hM dX5_wayFrom_9 rfl ?_
  refine g_X5_34 hM (ltT ht) (kdT ht) dX5_wayFrom_10 ?_
  refine q_iload_n hM dX5_wayFrom_13 rfl ?_
  refine q_isub hM dX5_wayFrom_14 ?_
  refine q_abs hM lk_X5_49 w_abs_s w_abs_i w_abs_c (by decide) (by omega) (Nat.le_of_ble_eq_true rfl) dX5_wayFrom_15 ?_
  refine q_iadd hM dX5_wayFrom_18 ?_
  exact hret _ _ _ _ _ _ ⟨rfl, rfl, rfl, rfl⟩ dX5_wayFrom_19
set_option maxHeartbeats 4000000 in
set_option maxRecDepth 100000 in
theorem c_X1_hasHeader (l : Launch) (G : kG) {I : kI} {L : kL} {X : kX} (h : Int32)  : Kz l yX1_hasHeader cX1_hasHeader 2 0 G [.ref (ad G 1), .int h] 153 153 I L X (pE (decide (0 ≤ h ∧ h < 3)) I L X) := by
  refine Kz_intro (own := RX1) (lv0 := [some (.ref (ad G 1)), some (.int h)]) 0 (by decide +kernel) rfl rfl (Nat.le_of_ble_eq_true rfl) (Nat.le_refl _) (fun J hM hret => ?_)
  refine q_iload_n hM dX1_hasHeader_0 rfl ?_
  refine q_if_lt (tgt := 13) hM dX1_hasHeader_1 (by decide) (fun c1 => ?_) (fun c1 => ?_)
  · refine q_iconst (v := 0) hM dX1_hasHeader_13 (by decide) ?_
    exact hret false _ _ _ _ _ _ rfl ⟨(by simp only [lt_i, le_i, Int.not_lt, Int.not_le] at c1 ⊢; first | (apply Eq.symm; apply decide_eq_true; omega) | (apply Eq.symm; apply decide_eq_false; omega)), rfl, rfl, rfl⟩ dX1_hasHeader_14
  · refine q_iload_n hM dX1_hasHeader_4 rfl ?_
    refine q_iconst (v := 3) hM dX1_hasHeader_5 (by decide) ?_
    refine q_icmp_ge (tgt := 13) hM dX1_hasHeader_6 (by decide) (fun c6 => ?_) (fun c6 => ?_)
    · refine q_iconst (v := 0) hM dX1_hasHeader_13 (by decide) ?_
      exact hret false _ _ _ _ _ _ rfl ⟨(by simp only [lt_i, le_i, Int.not_lt, Int.not_le] at c1 c6 ⊢; first | (apply Eq.symm; apply decide_eq_true; omega) | (apply Eq.symm; apply decide_eq_false; omega)), rfl, rfl, rfl⟩ dX1_hasHeader_14
    · refine q_iconst (v := 1) hM dX1_hasHeader_9 (by decide) ?_
      refine q_goto (tgt := 14) hM dX1_hasHeader_10 (by decide) ?_
      exact hret true _ _ _ _ _ _ rfl ⟨(by simp only [lt_i, le_i, Int.not_lt, Int.not_le] at c1 c6 ⊢; first | (apply Eq.symm; apply decide_eq_true; omega) | (apply Eq.symm; apply decide_eq_false; omega)), rfl, rfl, rfl⟩ dX1_hasHeader_14
set_option maxHeartbeats 4000000 in
set_option maxRecDepth 100000 in
theorem c_X1_hasLine (l : Launch) (G : kG) {I : kI} {L : kL} {X : kX} {pm : Nat → Nat} {f : Fr} {g : Gr} (hR : Refs X pm) (hS : Sm I L 1 f g) (hP : PInv f) (i : Int32)  : Kz l yX1_hasLine cX1_hasLine 2 0 G [.ref (ad G 1), .int i] 153 153 I L X (pE (decide (0 ≤ i ∧ i < f 0)) I L X) := by
  refine Kz_intro (own := RX1) (lv0 := [some (.ref (ad G 1)), some (.int i)]) 0 (by decide +kernel) rfl rfl (Nat.le_of_ble_eq_true rfl) (Nat.le_refl _) (fun J hM hret => ?_)
  refine q_iload_n hM dX1_hasLine_0 rfl ?_
  refine q_if_lt (tgt := 16) hM dX1_hasLine_1 (by decide) (fun c1 => ?_) (fun c1 => ?_)
  · refine q_iconst (v := 0) hM dX1_hasLine_16 (by decide) ?_
    exact hret false _ _ _ _ _ _ rfl ⟨(by simp only [lt_i, le_i, Int.not_lt, Int.not_le, hS.a0] at c1 ⊢; first | (apply Eq.symm; apply decide_eq_true; omega) | (apply Eq.symm; apply decide_eq_false; omega)), rfl, rfl, rfl⟩ dX1_hasLine_17
  · refine q_iload_n hM dX1_hasLine_4 rfl ?_
    refine q_aload_n hM dX1_hasLine_5 rfl ?_
    refine g_X1_24 hM (by decide) (by decide) dX1_hasLine_6 ?_
    refine q_icmp_ge (tgt := 16) hM dX1_hasLine_9 (by decide) (fun c9 => ?_) (fun c9 => ?_)
    · refine q_iconst (v := 0) hM dX1_hasLine_16 (by decide) ?_
      exact hret false _ _ _ _ _ _ rfl ⟨(by simp only [lt_i, le_i, Int.not_lt, Int.not_le, hS.a0] at c1 c9 ⊢; first | (apply Eq.symm; apply decide_eq_true; omega) | (apply Eq.symm; apply decide_eq_false; omega)), rfl, rfl, rfl⟩ dX1_hasLine_17
    · refine q_iconst (v := 1) hM dX1_hasLine_12 (by decide) ?_
      refine q_goto (tgt := 17) hM dX1_hasLine_13 (by decide) ?_
      exact hret true _ _ _ _ _ _ rfl ⟨(by simp only [lt_i, le_i, Int.not_lt, Int.not_le, hS.a0] at c1 c9 ⊢; first | (apply Eq.symm; apply decide_eq_true; omega) | (apply Eq.symm; apply decide_eq_false; omega)), rfl, rfl, rfl⟩ dX1_hasLine_17
set_option maxHeartbeats 4000000 in
set_option maxRecDepth 100000 in
theorem c_X1_trapAt (l : Launch) (G : kG) {I : kI} {L : kL} {X : kX} {pm : Nat → Nat} {f : Fr} {g : Gr} (hR : Refs X pm) (hS : Sm I L 1 f g) (hP : PInv f) (i : Int32)  : Kq l yX1_trapAt cX1_trapAt 2 "TrapSurvey$Trap" 0 G [.ref (ad G 1), .int i] 153 153 I L X (fun q I' L' X' => ((∃ j, j < cI (f 1) ∧ i = nI j ∧ q = some (5 + j)) ∨ (¬ (0 ≤ i ∧ i < f 1) ∧ q = none)) ∧ I = I' ∧ L = L' ∧ X = X') := by
  refine Kq_intro (own := RX1) (lv0 := [some (.ref (ad G 1)), some (.int i)]) 0 (by decide +kernel) rfl rfl (Nat.le_of_ble_eq_true rfl) (Nat.le_refl _) (fun J hM hret => ?_)
  refine q_iload_n hM dX1_trapAt_0 rfl ?_
  refine q_if_lt (tgt := 21) hM dX1_trapAt_1 (by decide) (fun c1 => ?_) (fun c1 => ?_)
  · refine q_null hM dX1_trapAt_21 ?_
    exact hret none _ _ _ _ _ ⟨Or.inr ⟨by simp only [hS.a1, lt_i, le_i, Int.not_lt, Int.not_le] at c1 ⊢; omega, rfl⟩, rfl, rfl, rfl⟩ dX1_trapAt_22
  · refine q_iload_n hM dX1_trapAt_4 rfl ?_
    refine q_aload_n hM dX1_trapAt_5 rfl ?_
    refine g_X1_28 hM (by decide) (by decide) dX1_trapAt_6 ?_
    refine q_icmp_ge (tgt := 21) hM dX1_trapAt_9 (by decide) (fun c9 => ?_) (fun c9 => ?_)
    · refine q_null hM dX1_trapAt_21 ?_
      exact hret none _ _ _ _ _ ⟨Or.inr ⟨by simp only [hS.a1, lt_i, le_i, Int.not_lt, Int.not_le] at c1 c9 ⊢; omega, rfl⟩, rfl, rfl, rfl⟩ dX1_trapAt_22
    · refine q_aload_n hM dX1_trapAt_12 rfl ?_
      refine g_X1_20 hM (by decide) (by decide) hR.p2 dX1_trapAt_13 ?_
      refine q_iload_n hM dX1_trapAt_16 rfl ?_
      have hn := hP.nT
      have h1 := hP.e1
      have hi0 : 0 ≤ i.toInt := by simp only [lt_i, Int.not_lt] at c1; exact c1
      have hij := nI_cI hi0
      have hlt : cI i < cI (f 1) := by
        have h2 := cI_int hi0
        have h3 := cI_int hP.1.2.1
        simp only [hS.a1, le_i, Int.not_le] at c9
        omega
      refine q_aald (r := 4) hM (by decide) 12 (by decide) (Or.inr (Or.inl rfl)) (cI i) hij (show cI i < 16 by omega) (hR.pt (by omega)) dX1_trapAt_17 ?_
      refine q_goto (tgt := 22) hM dX1_trapAt_18 (by decide) ?_
      exact hret (some (5 + cI i)) _ _ _ _ _ ⟨Or.inl ⟨cI i, hlt, hij, rfl⟩, rfl, rfl, rfl⟩ dX1_trapAt_22
set_option maxHeartbeats 4000000 in
set_option maxRecDepth 100000 in
theorem c_X1_headerOfLine (l : Launch) (G : kG) {I : kI} {L : kL} {X : kX} {pm : Nat → Nat} {f : Fr} {g : Gr} (hR : Refs X pm) (hS : Sm I L 1 f g) (hP : PInv f) (i : Int32)  : Ki l yX1_headerOfLine cX1_headerOfLine 2 1 G [.ref (ad G 1), .int i] 153 153 I L X (pE (if 0 ≤ i ∧ i < f 0 then f (11 + cI i) else -2) I L X) := by
  refine Ki_intro (own := RX1) (lv0 := [some (.ref (ad G 1)), some (.int i)]) 0 (by decide +kernel) rfl rfl (Nat.le_of_ble_eq_true rfl) (Nat.le_refl _) (fun J hM hret => ?_)
  refine q_aload_n hM dX1_headerOfLine_0 rfl ?_
  refine q_iload_n hM dX1_headerOfLine_1 rfl ?_
  refine callVe_z hM mi_X1_hasLine lk_X1_66 cf_X1 (by decide) (by decide) (c_X1_hasLine l G hR hS hP _) rfl rfl (by decide) (Nat.le_refl _) (by omega) (Nat.le_of_ble_eq_true rfl) dX1_headerOfLine_2 ?_
  refine q_ifd_eq (tgt := 17) hM dX1_headerOfLine_5 (by decide) (fun c5 => ?_) (fun c5 => ?_)
  · refine q_bipush (v := -2) hM dX1_headerOfLine_17 (by decide) ?_
    exact hret _ _ _ _ _ _ ⟨(by simp [c5]), rfl, rfl, rfl⟩ dX1_headerOfLine_19
  · refine q_aload_n hM dX1_headerOfLine_8 rfl ?_
    refine g_X1_15 hM (by decide) (by decide) hR.p1 dX1_headerOfLine_9 ?_
    refine q_iload_n hM dX1_headerOfLine_12 rfl ?_
    have hn := hP.nL
    have hi0 : 0 ≤ i.toInt := by have := c5.1; simp only [le_i] at this; exact this
    have hij := nI_cI hi0
    have hlt : cI i < cI (f 0) := by
      have h1 := c5.2
      have h2 := cI_int hi0
      have h3 := cI_int hP.1.1.1
      simp only [lt_i] at h1
      omega
    refine q_iald (r := 3) hM (by decide) (by decide) (cI i) hij (show cI i < 8 by omega) dX1_headerOfLine_13 ?_
    refine q_topi (f (11 + cI i)) (hS.li hlt) ?_
    refine q_goto (tgt := 19) hM dX1_headerOfLine_14 (by decide) ?_
    exact hret _ _ _ _ _ _ ⟨(by simp [c5]), rfl, rfl, rfl⟩ dX1_headerOfLine_19
set_option maxHeartbeats 4000000 in
set_option maxRecDepth 100000 in
theorem c_X1_pressureOfHeader (l : Launch) (G : kG) {I : kI} {L : kL} {X : kX} {pm : Nat → Nat} {f : Fr} {g : Gr} (hR : Refs X pm) (hS : Sm I L 1 f g) (hP : PInv f) (i : Int32)  : Ki l yX1_pressureOfHeader cX1_pressureOfHeader 2 1 G [.ref (ad G 1), .int i] 153 153 I L X (pE (if 0 ≤ i ∧ i < 3 then f (8 + cI i) else -2) I L X) := by
  refine Ki_intro (own := RX1) (lv0 := [some (.ref (ad G 1)), some (.int i)]) 0 (by decide +kernel) rfl rfl (Nat.le_of_ble_eq_true rfl) (Nat.le_refl _) (fun J hM hret => ?_)
  refine q_aload_n hM dX1_pressureOfHeader_0 rfl ?_
  refine q_iload_n hM dX1_pressureOfHeader_1 rfl ?_
  refine callVe_z hM mi_X1_hasHeader lk_X1_70 cf_X1 (by decide) (by decide) (c_X1_hasHeader l G _) rfl rfl (by decide) (Nat.le_refl _) (by omega) (Nat.le_of_ble_eq_true rfl) dX1_pressureOfHeader_2 ?_
  refine q_ifd_eq (tgt := 17) hM dX1_pressureOfHeader_5 (by decide) (fun c5 => ?_) (fun c5 => ?_)
  · refine q_bipush (v := -2) hM dX1_pressureOfHeader_17 (by decide) ?_
    exact hret _ _ _ _ _ _ ⟨(by simp [c5]), rfl, rfl, rfl⟩ dX1_pressureOfHeader_19
  · refine q_aload_n hM dX1_pressureOfHeader_8 rfl ?_
    refine g_X1_9 hM (by decide) (by decide) hR.p0 dX1_pressureOfHeader_9 ?_
    refine q_iload_n hM dX1_pressureOfHeader_12 rfl ?_
    have hi0 : 0 ≤ i.toInt := by have := c5.1; simp only [le_i] at this; exact this
    have hij := nI_cI hi0
    have hlt : cI i < 3 := by
      have h1 := c5.2
      have h2 := cI_int hi0
      simp only [lt_i] at h1
      have h3 : (3 : Int32).toInt = 3 := rfl
      omega
    refine q_iald (r := 2) hM (by decide) (by decide) (cI i) hij (show cI i < 3 by omega) dX1_pressureOfHeader_13 ?_
    refine q_topi (f (8 + cI i)) (hS.pr hlt) ?_
    refine q_goto (tgt := 19) hM dX1_pressureOfHeader_14 (by decide) ?_
    exact hret _ _ _ _ _ _ ⟨(by simp [c5]), rfl, rfl, rfl⟩ dX1_pressureOfHeader_19
set_option maxHeartbeats 4000000 in
set_option maxRecDepth 100000 in
theorem c_X1_pressureAt (l : Launch) (G : kG) {I : kI} {L : kL} {X : kX} {pm : Nat → Nat} {f : Fr} {g : Gr} (hR : Refs X pm) (hS : Sm I L 1 f g) (hP : PInv f) (t : Nat) (ht : t < cI (f 1))  : Ki l yX1_pressureAt cX1_pressureAt 2 2 G [.ref (ad G 1), .ref (ad G (5 + t))] 153 153 I L X (pE (sP f t) I L X) := by
  refine Ki_intro (own := RX1) (lv0 := [some (.ref (ad G 1)), some (.ref (ad G (5 + t)))]) 0 (by decide +kernel) rfl rfl (Nat.le_of_ble_eq_true rfl) (Nat.le_refl _) (fun J hM hret => ?_)
  have hn := hP.nT
  have hn8 := hP.nL
  refine q_aload_n hM dX1_pressureAt_0 rfl ?_
  refine q_aload_n hM dX1_pressureAt_1 rfl ?_
  refine q_aload_n hM dX1_pressureAt_2 rfl ?_
  refine g_X1_73 hM (ltT (by omega)) (kdT (by omega)) dX1_pressureAt_3 ?_
  refine callVe_i hM mi_X1_headerOfLine lk_X1_76 cf_X1 (by decide) (by decide) (c_X1_headerOfLine l G hR hS hP _) rfl rfl (by decide) (Nat.le_refl _) (by omega) (Nat.le_of_ble_eq_true rfl) dX1_pressureAt_6 ?_
  have h1 := hP.ln ht
  have h2 := hP.hd ht
  have h3 := (hP.t ht).1
  refine q_topi (nI (sH f t)) (by rw [hS.tr ht (by decide), if_pos (by simp only [le_i, lt_i]; exact h3), h2.2]) ?_
  refine callVe_i hM mi_X1_pressureOfHeader lk_X1_80 cf_X1 (by decide) (by decide) (c_X1_pressureOfHeader l G hR hS hP _) rfl rfl (by decide) (Nat.le_refl _) (by omega) (Nat.le_of_ble_eq_true rfl) dX1_pressureAt_9 ?_
  refine q_topi (sP f t) (by rw [if_pos (by simp only [le_i, lt_i]; rw [nI_toInt (by omega)]; simp; omega), cI_nI (by omega)]; rfl) ?_
  exact hret _ _ _ _ _ _ ⟨rfl, rfl, rfl, rfl⟩ dX1_pressureAt_12
set_option maxHeartbeats 4000000 in
set_option maxRecDepth 100000 in
theorem c_X1_lossOf (l : Launch) (G : kG) {I : kI} {L : kL} {X : kX} {pm : Nat → Nat} {f : Fr} {g : Gr} (hR : Refs X pm) (hS : Sm I L 1 f g) (hP : PInv f) (t : Nat) (ht : t < cI (f 1))  : Ki l yX1_lossOf cX1_lossOf 2 3 G [.ref (ad G 1), .ref (ad G (5 + t))] 153 153 I L X (pE (sLoss f t) I L X) := by
  refine Ki_intro (own := RX1) (lv0 := [some (.ref (ad G 1)), some (.ref (ad G (5 + t)))]) 0 (by decide +kernel) rfl rfl (Nat.le_of_ble_eq_true rfl) (Nat.le_refl _) (fun J hM hret => ?_)
  have hn := hP.nT
  have hn8 := hP.nL
  refine q_aload_n hM dX1_lossOf_0 rfl ?_
  refine q_aload_n hM dX1_lossOf_1 rfl ?_
  refine q_aload_n hM dX1_lossOf_2 rfl ?_
  refine callVe_i hM mi_X1_pressureAt lk_X1_87 cf_X1 (by decide) (by decide) (c_X1_pressureAt l G hR hS hP _ ht) rfl rfl (by decide) (Nat.le_refl _) (by omega) (Nat.le_of_ble_eq_true rfl) dX1_lossOf_3 ?_
  refine callVe_i hM mi_X5_lossUnder lk_X1_108 cf_X5 (ltT (by omega)) (kdT (by omega)) (c_X5_lossUnder l G _ (by omega) _) rfl rfl (by decide) (Nat.le_refl _) (by omega) (Nat.le_of_ble_eq_true rfl) dX1_lossOf_6 ?_
  exact hret _ _ _ _ _ _ ⟨(by rw [hS.tr ht (by decide), hS.tr ht (by decide)]; rfl), rfl, rfl, rfl⟩ dX1_lossOf_9
set_option maxHeartbeats 4000000 in
set_option maxRecDepth 100000 in
theorem c_X1_trapsInState (l : Launch) (G : kG) {I : kI} {L : kL} {X : kX} {pm : Nat → Nat} {f : Fr} {g : Gr} (hR : Refs X pm) (hS : Sm I L 1 f g) (hP : PInv f) (z : Int32)  : Ki l yX1_trapsInState cX1_trapsInState 4 0 G [.ref (ad G 1), .int z] 153 153 I L X (pE (sSum (fun t => if sOf f t 5 = z then 1 else 0) (cI (f 1))) I L X) := by
  refine Ki_intro (own := RX1) (lv0 := [some (.ref (ad G 1)), some (.int z), none, none]) 2 (by decide +kernel) rfl rfl (Nat.le_of_ble_eq_true rfl) (Nat.le_refl _) (fun J hM hret => ?_)
  have hn := hP.nT
  have hn8 := hP.nL
  generalize hh : (fun t => if sOf f t 5 = z then (1 : Int32) else 0) = h at hret
  refine q_iconst (v := 0) hM dX1_trapsInState_0 (by decide) ?_
  refine si_4_2 hM dX1_trapsInState_1 ?_
  refine q_iconst (v := 0) hM dX1_trapsInState_2 (by decide) ?_
  refine si_4_3 hM dX1_trapsInState_3 ?_
  have loop : ∀ (k i : Nat), i ≤ cI (f 1) → cI (f 1) < i + k → J 153 I L X 4 [some (.ref (ad G 1)), some (.int z), some (.int (sSum h i)), some (.int (nI i))] [] := by
    intro k
    induction k with
    | zero => intro i; intros; omega
    | succ k ih =>
      intro i h1 h2
      refine q_iload_n hM dX1_trapsInState_4 rfl ?_
      refine q_aload_n hM dX1_trapsInState_5 rfl ?_
      refine g_X1_28 hM (by decide) (by decide) dX1_trapsInState_6 ?_
      refine q_icmp_geN (tgt := 34) hM i (cI (f 1)) rfl (hS.a1.trans hP.e1) (by omega) (by omega) dX1_trapsInState_9 (by decide) (fun c9 => ?_) (fun c9 => ?_)
      · obtain rfl : i = cI (f 1) := by omega
        refine q_iload_n hM dX1_trapsInState_34 rfl ?_
        exact hret _ _ _ _ _ _ ⟨rfl, rfl, rfl, rfl⟩ dX1_trapsInState_35
      · refine q_aload_n hM dX1_trapsInState_12 rfl ?_
        refine g_X1_20 hM (by decide) (by decide) hR.p2 dX1_trapsInState_13 ?_
        refine q_iload_n hM dX1_trapsInState_16 rfl ?_
        refine q_aald (r := 4) hM (by decide) 12 (by decide) (Or.inr (Or.inl rfl)) (i) rfl (show i < 16 by omega) (hR.pt (by omega)) dX1_trapsInState_17 ?_
        refine g_X1_95 hM (ltT (by omega)) (kdT (by omega)) dX1_trapsInState_18 ?_
        refine q_iload_n hM dX1_trapsInState_21 rfl ?_
        refine q_icmp_ne (tgt := 28) hM dX1_trapsInState_22 (by decide) (fun c22 => ?_) (fun c22 => ?_)
        · have hs : sSum h (i + 1) = sSum h i := by rw [sSum, ← hh]; simp only; rw [← hS.tr c9 (by decide), if_neg c22, Int32.add_zero]
          rw [← hs]
          refine sinc_4_3 hM dX1_trapsInState_28 (inc1 i) ?_
          refine q_goto (tgt := 4) hM dX1_trapsInState_31 (by decide) ?_
          exact ih (i + 1) (by omega) (by omega)
        · have hs : sSum h (i + 1) = sSum h i + 1 := by rw [sSum, ← hh]; simp only; rw [← hS.tr c9 (by decide), if_pos c22]
          refine sinc_4_2 hM dX1_trapsInState_25 hs.symm ?_
          refine sinc_4_3 hM dX1_trapsInState_28 (inc1 i) ?_
          refine q_goto (tgt := 4) hM dX1_trapsInState_31 (by decide) ?_
          exact ih (i + 1) (by omega) (by omega)
  exact loop (cI (f 1) + 1) 0 (Nat.zero_le _) (by omega)
set_option maxHeartbeats 4000000 in
set_option maxRecDepth 100000 in
theorem c_X1_lossOfLine (l : Launch) (G : kG) {I : kI} {L : kL} {X : kX} {pm : Nat → Nat} {f : Fr} {g : Gr} (hR : Refs X pm) (hS : Sm I L 1 f g) (hP : PInv f) (z : Int32)  : Ki l yX1_lossOfLine cX1_lossOfLine 4 4 G [.ref (ad G 1), .int z] 153 153 I L X (pE (sSum (fun t => if sOf f t 0 = z then sLoss f t else 0) (cI (f 1))) I L X) := by
  refine Ki_intro (own := RX1) (lv0 := [some (.ref (ad G 1)), some (.int z), none, none]) 2 (by decide +kernel) rfl rfl (Nat.le_of_ble_eq_true rfl) (Nat.le_refl _) (fun J hM hret => ?_)
  have hn := hP.nT
  have hn8 := hP.nL
  generalize hh : (fun t => if sOf f t 0 = z then sLoss f t else 0) = h at hret
  refine q_iconst (v := 0) hM dX1_lossOfLine_0 (by decide) ?_
  refine si_4_2 hM dX1_lossOfLine_1 ?_
  refine q_iconst (v := 0) hM dX1_lossOfLine_2 (by decide) ?_
  refine si_4_3 hM dX1_lossOfLine_3 ?_
  have loop : ∀ (k i : Nat), i ≤ cI (f 1) → cI (f 1) < i + k → J 153 I L X 4 [some (.ref (ad G 1)), some (.int z), some (.int (sSum h i)), some (.int (nI i))] [] := by
    intro k
    induction k with
    | zero => intro i; intros; omega
    | succ k ih =>
      intro i h1 h2
      refine q_iload_n hM dX1_lossOfLine_4 rfl ?_
      refine q_aload_n hM dX1_lossOfLine_5 rfl ?_
      refine g_X1_28 hM (by decide) (by decide) dX1_lossOfLine_6 ?_
      refine q_icmp_geN (tgt := 44) hM i (cI (f 1)) rfl (hS.a1.trans hP.e1) (by omega) (by omega) dX1_lossOfLine_9 (by decide) (fun c9 => ?_) (fun c9 => ?_)
      · obtain rfl : i = cI (f 1) := by omega
        refine q_iload_n hM dX1_lossOfLine_44 rfl ?_
        exact hret _ _ _ _ _ _ ⟨rfl, rfl, rfl, rfl⟩ dX1_lossOfLine_45
      · refine q_aload_n hM dX1_lossOfLine_12 rfl ?_
        refine g_X1_20 hM (by decide) (by decide) hR.p2 dX1_lossOfLine_13 ?_
        refine q_iload_n hM dX1_lossOfLine_16 rfl ?_
        refine q_aald (r := 4) hM (by decide) 12 (by decide) (Or.inr (Or.inl rfl)) (i) rfl (show i < 16 by omega) (hR.pt (by omega)) dX1_lossOfLine_17 ?_
        refine g_X1_73 hM (ltT (by omega)) (kdT (by omega)) dX1_lossOfLine_18 ?_
        refine q_iload_n hM dX1_lossOfLine_21 rfl ?_
        refine q_icmp_ne (tgt := 38) hM dX1_lossOfLine_22 (by decide) (fun c22 => ?_) (fun c22 => ?_)
        · have hs : sSum h (i + 1) = sSum h i := by rw [sSum, ← hh]; simp only; rw [← hS.tr c9 (by decide), if_neg c22, Int32.add_zero]
          rw [← hs]
          refine sinc_4_3 hM dX1_lossOfLine_38 (inc1 i) ?_
          refine q_goto (tgt := 4) hM dX1_lossOfLine_41 (by decide) ?_
          exact ih (i + 1) (by omega) (by omega)
        · have hs : sSum h (i + 1) = sSum h i + sLoss f i := by rw [sSum, ← hh]; simp only; rw [← hS.tr c9 (by decide), if_pos c22]
          refine q_iload_n hM dX1_lossOfLine_25 rfl ?_
          refine q_aload_n hM dX1_lossOfLine_26 rfl ?_
          refine q_aload_n hM dX1_lossOfLine_27 rfl ?_
          refine g_X1_20 hM (by decide) (by decide) hR.p2 dX1_lossOfLine_28 ?_
          refine q_iload_n hM dX1_lossOfLine_31 rfl ?_
          refine q_aald (r := 4) hM (by decide) 12 (by decide) (Or.inr (Or.inl rfl)) (i) rfl (show i < 16 by omega) (hR.pt (by omega)) dX1_lossOfLine_32 ?_
          refine callVe_i hM mi_X1_lossOf lk_X1_105 cf_X1 (by decide) (by decide) (c_X1_lossOf l G hR hS hP i c9) rfl rfl (by decide) (Nat.le_refl _) (by omega) (Nat.le_of_ble_eq_true rfl) dX1_lossOfLine_33 ?_
          refine q_iadd hM dX1_lossOfLine_36 ?_
          rw [← hs]
          refine si_4_2 hM dX1_lossOfLine_37 ?_
          refine sinc_4_3 hM dX1_lossOfLine_38 (inc1 i) ?_
          refine q_goto (tgt := 4) hM dX1_lossOfLine_41 (by decide) ?_
          exact ih (i + 1) (by omega) (by omega)
  exact loop (cI (f 1) + 1) 0 (Nat.zero_le _) (by omega)
set_option maxHeartbeats 4000000 in
set_option maxRecDepth 100000 in
theorem c_X1_lostByAll (l : Launch) (G : kG) {I : kI} {L : kL} {X : kX} {pm : Nat → Nat} {f : Fr} {g : Gr} (hR : Refs X pm) (hS : Sm I L 1 f g) (hP : PInv f)  : Kl l yX1_lostByAll cX1_lostByAll 4 0 G [.ref (ad G 1)] 153 153 I L X (pE (sSumL g (cI (f 1))) I L X) := by
  refine Kl_intro (own := RX1) (lv0 := [some (.ref (ad G 1)), none, none, none]) 3 (by decide +kernel) rfl rfl (Nat.le_of_ble_eq_true rfl) (Nat.le_refl _) (fun J hM hret => ?_)
  have hn := hP.nT
  have hn8 := hP.nL
  refine q_lconst (v := 0) hM dX1_lostByAll_0 (by decide) ?_
  refine sl_4_1 hM dX1_lostByAll_1 ?_
  refine q_iconst (v := 0) hM dX1_lostByAll_2 (by decide) ?_
  refine si_4_3 hM dX1_lostByAll_3 ?_
  have loop : ∀ (k i : Nat), i ≤ cI (f 1) → cI (f 1) < i + k → J 153 I L X 4 [some (.ref (ad G 1)), some (.long (sSumL g i)), none, some (.int (nI i))] [] := by
    intro k
    induction k with
    | zero => intro i; intros; omega
    | succ k ih =>
      intro i h1 h2
      refine q_iload_n hM dX1_lostByAll_4 rfl ?_
      refine q_aload_n hM dX1_lostByAll_5 rfl ?_
      refine g_X1_28 hM (by decide) (by decide) dX1_lostByAll_6 ?_
      refine q_icmp_geN (tgt := 30) hM i (cI (f 1)) rfl (hS.a1.trans hP.e1) (by omega) (by omega) dX1_lostByAll_9 (by decide) (fun c9 => ?_) (fun c9 => ?_)
      · obtain rfl : i = cI (f 1) := by omega
        refine q_lload_n hM dX1_lostByAll_30 rfl ?_
        exact hret _ _ _ _ _ _ ⟨rfl, rfl, rfl, rfl⟩ dX1_lostByAll_31
      · refine q_lload_n hM dX1_lostByAll_12 rfl ?_
        refine q_aload_n hM dX1_lostByAll_13 rfl ?_
        refine g_X1_20 hM (by decide) (by decide) hR.p2 dX1_lostByAll_14 ?_
        refine q_iload_n hM dX1_lostByAll_17 rfl ?_
        refine q_aald (r := 4) hM (by decide) 12 (by decide) (Or.inr (Or.inl rfl)) (i) rfl (show i < 16 by omega) (hR.pt (by omega)) dX1_lostByAll_18 ?_
        refine g_X1_101 hM (ltT (by omega)) (kdT (by omega)) dX1_lostByAll_19 ?_
        rw [hS.lo c9]
        refine q_ladd hM dX1_lostByAll_22 ?_
        refine sl_4_1 hM dX1_lostByAll_23 ?_
        refine sinc_4_3 hM dX1_lostByAll_24 (inc1 i) ?_
        refine q_goto (tgt := 4) hM dX1_lostByAll_27 (by decide) ?_
        exact ih (i + 1) (by omega) (by omega)
  exact loop (cI (f 1) + 1) 0 (Nat.zero_le _) (by omega)
set_option maxHeartbeats 4000000 in
set_option maxRecDepth 100000 in
theorem c_X1_priceADay (l : Launch) (G : kG) {I : kI} {L : kL} {X : kX} {pm : Nat → Nat} {f : Fr} {g : Gr} (hR : Refs X pm) (hS : Sm I L 1 f g) (hP : PInv f) (x : Int32)  : Kl l yX1_priceADay cX1_priceADay 2 0 G [.ref (ad G 1), .int x] 153 153 I L X (pE (worthQ f x) I L X) := by
  refine Kl_intro (own := RX1) (lv0 := [some (.ref (ad G 1)), some (.int x)]) 0 (by decide +kernel) rfl rfl (Nat.le_of_ble_eq_true rfl) (Nat.le_refl _) (fun J hM hret => ?_)
  refine q_iload_n hM dX1_priceADay_0 rfl ?_
  refine q_i2l hM dX1_priceADay_1 ?_
  refine q_aload_n hM dX1_priceADay_2 rfl ?_
  refine g_X1_31 hM (by decide) (by decide) dX1_priceADay_3 ?_
  refine q_i2l hM dX1_priceADay_6 ?_
  refine q_lmul hM dX1_priceADay_7 ?_
  refine q_aload_n hM dX1_priceADay_8 rfl ?_
  refine g_X1_34 hM (by decide) (by decide) dX1_priceADay_9 ?_
  refine q_i2l hM dX1_priceADay_12 ?_
  refine q_lmul hM dX1_priceADay_13 ?_
  exact hret _ _ _ _ _ _ ⟨(by rw [hS.a2, hS.a3]; rfl), rfl, rfl, rfl⟩ dX1_priceADay_14
set_option maxHeartbeats 4000000 in
set_option maxRecDepth 100000 in
theorem c_X1_paybackOf (l : Launch) (G : kG) {I : kI} {L : kL} {X : kX} {pm : Nat → Nat} {f : Fr} {g : Gr} (hR : Refs X pm) (hS : Sm I L 1 f g) (hP : PInv f) (t : Nat) (ht : t < cI (f 1))  : Kl l yX1_paybackOf cX1_paybackOf 4 4 G [.ref (ad G 1), .ref (ad G (5 + t))] 153 153 I L X (pE (sPay f t) I L X) := by
  refine Kl_intro (own := RX1) (lv0 := [some (.ref (ad G 1)), some (.ref (ad G (5 + t))), none, none]) 2 (by decide +kernel) rfl rfl (Nat.le_of_ble_eq_true rfl) (Nat.le_refl _) (fun J hM hret => ?_)
  have hn := hP.nT
  have hn8 := hP.nL
  have hw := worth_nn hP ht
  refine q_aload_n hM dX1_paybackOf_0 rfl ?_
  refine q_aload_n hM dX1_paybackOf_1 rfl ?_
  refine q_aload_n hM dX1_paybackOf_2 rfl ?_
  refine callVe_i hM mi_X1_lossOf lk_X1_105 cf_X1 (by decide) (by decide) (c_X1_lossOf l G hR hS hP t ht) rfl rfl (by decide) (Nat.le_refl _) (by omega) (Nat.le_of_ble_eq_true rfl) dX1_paybackOf_3 ?_
  refine callVe_l hM mi_X1_priceADay lk_X1_111 cf_X1 (by decide) (by decide) (c_X1_priceADay l G hR hS hP _) rfl rfl (by decide) (Nat.le_refl _) (by omega) (Nat.le_of_ble_eq_true rfl) dX1_paybackOf_6 ?_
  refine sl_4_2 hM dX1_paybackOf_9 ?_
  refine q_lload_n hM dX1_paybackOf_10 rfl ?_
  refine q_lconst (v := 0) hM dX1_paybackOf_11 (by decide) ?_
  refine q_lcmp hM dX1_paybackOf_12 ?_
  refine q_if_gt (tgt := 20) hM dX1_paybackOf_13 (by decide) (fun c13 => ?_) (fun c13 => ?_)
  · have hw0 : ¬ sWorth f t = 0 := by intro q; rw [lgc_pos] at c13; change 0 < sWorth f t at c13; rw [q] at c13; exact absurd c13 (by decide)
    refine q_ldc2 hM cw_X1_117 dX1_paybackOf_20 ?_
    refine q_aload_n hM dX1_paybackOf_23 rfl ?_
    refine callVe_i hM mi_X5_costOfRepair lk_X1_119 cf_X5 (ltT (by omega)) (kdT (by omega)) (c_X5_costOfRepair l G _ (by omega)) rfl rfl (by decide) (Nat.le_refl _) (by omega) (Nat.le_of_ble_eq_true rfl) dX1_paybackOf_24 ?_
    refine q_i2l hM dX1_paybackOf_27 ?_
    refine q_lmul hM dX1_paybackOf_28 ?_
    refine q_lload_n hM dX1_paybackOf_29 rfl ?_
    refine q_ladd hM dX1_paybackOf_30 ?_
    refine q_lconst (v := 1) hM dX1_paybackOf_31 (by decide) ?_
    refine q_lsub hM dX1_paybackOf_32 ?_
    refine q_lload_n hM dX1_paybackOf_33 rfl ?_
    refine q_ldiv hM dX1_paybackOf_34 hw0 ?_
    exact hret _ _ _ _ _ _ ⟨by unfold sPay; rw [if_neg hw0, hS.tr ht (by decide), hS.tr ht (by decide)]; rfl, rfl, rfl, rfl⟩ dX1_paybackOf_35
  · have hw0 : sWorth f t = 0 := by rw [lgc_pos] at c13; change ¬ 0 < sWorth f t at c13; exact eq0_of hw c13
    refine q_ldc2 hM cw_X1_115 dX1_paybackOf_16 ?_
    exact hret _ _ _ _ _ _ ⟨by unfold sPay; rw [if_pos hw0], rfl, rfl, rfl⟩ dX1_paybackOf_19
set_option maxHeartbeats 4000000 in
set_option maxRecDepth 100000 in
theorem c_X1_needsVisit (l : Launch) (G : kG) {I : kI} {L : kL} {X : kX} {pm : Nat → Nat} {f : Fr} {g : Gr} (hR : Refs X pm) (hS : Sm I L 1 f g) (hP : PInv f) (t : Nat) (ht : t < cI (f 1))  : Kz l yX1_needsVisit cX1_needsVisit 2 0 G [.ref (ad G 1), .ref (ad G (5 + t))] 153 153 I L X (pE (decide (sDue f t)) I L X) := by
  refine Kz_intro (own := RX1) (lv0 := [some (.ref (ad G 1)), some (.ref (ad G (5 + t)))]) 0 (by decide +kernel) rfl rfl (Nat.le_of_ble_eq_true rfl) (Nat.le_refl _) (fun J hM hret => ?_)
  have hn := hP.nT
  have hn8 := hP.nL
  refine q_aload_n hM dX1_needsVisit_0 rfl ?_
  refine g_X1_98 hM (ltT (by omega)) (kdT (by omega)) dX1_needsVisit_1 ?_
  refine q_iconst (v := -1) hM dX1_needsVisit_4 (by decide) ?_
  refine q_icmp_eq (tgt := 32) hM dX1_needsVisit_5 (by decide) (fun c5 => ?_) (fun c5 => ?_)
  · refine q_iconst (v := 1) hM dX1_needsVisit_32 (by decide) ?_
    refine q_goto (tgt := 37) hM dX1_needsVisit_33 (by decide) ?_
    exact hret true _ _ _ _ _ _ rfl ⟨(by simp only [lt_i, le_i, Int.not_lt, Int.not_le, sDue, eq_i, hS.a5, hS.a4, hS.tr ht (show 5 < 7 by decide), hS.tr ht (show 6 < 7 by decide)] at c5 ⊢; first | (apply Eq.symm; apply decide_eq_true; omega) | (apply Eq.symm; apply decide_eq_false; omega)), rfl, rfl, rfl⟩ dX1_needsVisit_37
  · refine q_aload_n hM dX1_needsVisit_8 rfl ?_
    refine g_X1_95 hM (ltT (by omega)) (kdT (by omega)) dX1_needsVisit_9 ?_
    refine q_iconst (v := 1) hM dX1_needsVisit_12 (by decide) ?_
    refine q_icmp_ne (tgt := 32) hM dX1_needsVisit_13 (by decide) (fun c13 => ?_) (fun c13 => ?_)
    · refine q_iconst (v := 1) hM dX1_needsVisit_32 (by decide) ?_
      refine q_goto (tgt := 37) hM dX1_needsVisit_33 (by decide) ?_
      exact hret true _ _ _ _ _ _ rfl ⟨(by simp only [lt_i, le_i, Int.not_lt, Int.not_le, sDue, eq_i, hS.a5, hS.a4, hS.tr ht (show 5 < 7 by decide), hS.tr ht (show 6 < 7 by decide)] at c5 c13 ⊢; first | (apply Eq.symm; apply decide_eq_true; omega) | (apply Eq.symm; apply decide_eq_false; omega)), rfl, rfl, rfl⟩ dX1_needsVisit_37
    · refine q_aload_n hM dX1_needsVisit_16 rfl ?_
      refine g_X1_40 hM (by decide) (by decide) dX1_needsVisit_17 ?_
      refine q_aload_n hM dX1_needsVisit_20 rfl ?_
      refine g_X1_98 hM (ltT (by omega)) (kdT (by omega)) dX1_needsVisit_21 ?_
      refine q_isub hM dX1_needsVisit_24 ?_
      refine q_aload_n hM dX1_needsVisit_25 rfl ?_
      refine g_X1_37 hM (by decide) (by decide) dX1_needsVisit_26 ?_
      refine q_icmp_lt (tgt := 36) hM dX1_needsVisit_29 (by decide) (fun c29 => ?_) (fun c29 => ?_)
      · refine q_iconst (v := 0) hM dX1_needsVisit_36 (by decide) ?_
        exact hret false _ _ _ _ _ _ rfl ⟨(by simp only [lt_i, le_i, Int.not_lt, Int.not_le, sDue, eq_i, hS.a5, hS.a4, hS.tr ht (show 5 < 7 by decide), hS.tr ht (show 6 < 7 by decide)] at c5 c13 c29 ⊢; first | (apply Eq.symm; apply decide_eq_true; omega) | (apply Eq.symm; apply decide_eq_false; omega)), rfl, rfl, rfl⟩ dX1_needsVisit_37
      · refine q_iconst (v := 1) hM dX1_needsVisit_32 (by decide) ?_
        refine q_goto (tgt := 37) hM dX1_needsVisit_33 (by decide) ?_
        exact hret true _ _ _ _ _ _ rfl ⟨(by simp only [lt_i, le_i, Int.not_lt, Int.not_le, sDue, eq_i, hS.a5, hS.a4, hS.tr ht (show 5 < 7 by decide), hS.tr ht (show 6 < 7 by decide)] at c5 c13 c29 ⊢; first | (apply Eq.symm; apply decide_eq_true; omega) | (apply Eq.symm; apply decide_eq_false; omega)), rfl, rfl, rfl⟩ dX1_needsVisit_37
set_option maxHeartbeats 4000000 in
set_option maxRecDepth 100000 in
theorem c_X1_mend (l : Launch) (G : kG) {I : kI} {L : kL} {X : kX} {pm : Nat → Nat} {f : Fr} {g : Gr} (hR : Refs X pm) (hS : Sm I L 1 f g) (hP : PInv f) (t : Nat) (ht : t < cI (f 1))  : Kv l yX1_mend cX1_mend 2 1 G [.ref (ad G 1), .ref (ad G (5 + t))] 153 153 I L X (fun I' L' X' => Sm I' L' 1 (mendF f t) (g) ∧ Fr1 I I' L L' ∧ X = X') := by
  refine Kv_intro (own := RX1) (lv0 := [some (.ref (ad G 1)), some (.ref (ad G (5 + t)))]) 0 (by decide +kernel) rfl rfl (Nat.le_of_ble_eq_true rfl) (Nat.le_refl _) (fun J hM hret => ?_)
  have hn := hP.nT
  have hn8 := hP.nL
  refine q_aload_n hM dX1_mend_0 rfl ?_
  refine q_iconst (v := 1) hM dX1_mend_1 (by decide) ?_
  refine p_X1_95 hM (ltT (by omega)) (kdT (by omega)) dX1_mend_2 ?_
  refine q_aload_n hM dX1_mend_5 rfl ?_
  refine q_dup hM dX1_mend_6 rfl ?_
  have hS1 := hS.setT ht hn hn8 (show 5 < 7 by decide) 1
  refine g_X1_43 hM (by decide) (by decide) dX1_mend_7 ?_
  refine q_aload_n hM dX1_mend_10 rfl ?_
  refine callVe_i hM mi_X5_costOfRepair lk_X1_119 cf_X5 (ltT (by omega)) (kdT (by omega)) (c_X5_costOfRepair l G t (by omega)) rfl rfl (by decide) (Nat.le_refl _) (by omega) (Nat.le_of_ble_eq_true rfl) dX1_mend_11 ?_
  refine q_iadd hM dX1_mend_14 ?_
  refine q_topi (f 6 + sCost f t) (by rw [show up2 I (5 + t) 5 1 1 9 = I 1 9 from up2_ne (Or.inl (by omega)), hS.a6, up2_ne (Or.inr (by decide)), up2_ne (Or.inr (by decide)), hS.tr ht (by decide), hS.tr ht (by decide)]; rfl) ?_
  refine p_X1_43 hM (by decide) (by decide) dX1_mend_15 ?_
  refine q_aload_n hM dX1_mend_18 rfl ?_
  refine q_dup hM dX1_mend_19 rfl ?_
  refine g_X1_46 hM (by decide) (by decide) dX1_mend_20 ?_
  refine q_iconst (v := 1) hM dX1_mend_23 (by decide) ?_
  refine q_iadd hM dX1_mend_24 ?_
  have hS2 := hS1.setS (i := 6) (by decide) (by decide) (f 6 + sCost f t)
  refine q_topi (f 7 + 1) (by rw [show up2 (up2 I (5 + t) 5 1) 1 9 (f 6 + sCost f t) 1 10 = I 1 10 from (up2_ne (Or.inr (by decide))).trans (up2_ne (Or.inl (by omega))), hS.a7]) ?_
  refine p_X1_46 hM (by decide) (by decide) dX1_mend_25 ?_
  have hS3 := hS2.setS (i := 7) (by decide) (by decide) (f 7 + 1)
  exact hret _ _ _ _ _ ⟨hS3, ((Fr1.rf.put (by omega) (by omega)).put (by omega) (by omega)).put (by omega) (by omega), rfl⟩ dX1_mend_28
set_option maxHeartbeats 4000000 in
set_option maxRecDepth 100000 in
theorem c_X1_takeReading (l : Launch) (G : kG) {I : kI} {L : kL} {X : kX} {pm : Nat → Nat} {f : Fr} {g : Gr} (hR : Refs X pm) (hS : Sm I L 1 f g) (hP : PInv f) (t : Nat) (ht : t < cI (f 1)) (i o c : Int32)  : Kv l yX1_takeReading cX1_takeReading 6 3 G [.ref (ad G 1), .int (nI t), .int i, .int o, .int c] 153 153 I L X (fun I' L' X' => Sm I' L' 1 (readF f t (sJud f t i o c)) (g) ∧ Fr1 I I' L L' ∧ X = X') := by
  refine Kv_intro (own := RX1) (lv0 := [some (.ref (ad G 1)), some (.int (nI t)), some (.int i), some (.int o), some (.int c), none]) 1 (by decide +kernel) rfl rfl (Nat.le_of_ble_eq_true rfl) (Nat.le_refl _) (fun J hM hret => ?_)
  have hn := hP.nT
  have hn8 := hP.nL
  refine q_aload_n hM dX1_takeReading_0 rfl ?_
  refine q_iload_n hM dX1_takeReading_1 rfl ?_
  refine callV_q hM mi_X1_trapAt lk_X1_83 cf_X1 (by decide) (by decide) (c_X1_trapAt l G hR hS hP _) rfl rfl (by decide) (Nat.le_refl _) (by omega) (Nat.le_of_ble_eq_true rfl) dX1_takeReading_2 (fun qr I9 L9 X9 hp9 => ?_)
  obtain ⟨hp9, rfl, rfl, rfl⟩ := hp9
  rcases hp9 with ⟨j, hj, hjt, rfl⟩ | ⟨hno, rfl⟩
  · obtain rfl : t = j := (nI_eq (by omega) (by omega)).mp hjt
    refine sa_6_5 hM dX1_takeReading_5 ?_
    refine q_aload hM dX1_takeReading_7 rfl ?_
    refine q_ifnull hM dX1_takeReading_9 ?_
    refine q_aload hM dX1_takeReading_12 rfl ?_
    refine q_aload hM dX1_takeReading_14 rfl ?_
    refine q_iload_n hM dX1_takeReading_16 rfl ?_
    refine q_iload_n hM dX1_takeReading_17 rfl ?_
    refine q_iload hM dX1_takeReading_18 rfl ?_
    refine q_aload_n hM dX1_takeReading_20 rfl ?_
    refine q_aload hM dX1_takeReading_21 rfl ?_
    refine callVe_i hM mi_X1_pressureAt lk_X1_87 cf_X1 (by decide) (by decide) (c_X1_pressureAt l G hR hS hP t ht) rfl rfl (by decide) (Nat.le_refl _) (by omega) (Nat.le_of_ble_eq_true rfl) dX1_takeReading_23 ?_
    refine callVe_i hM mi_X5_judged lk_X1_91 cf_X5 (ltT (t := t) (by omega)) (kdT (t := t) (by omega)) (c_X5_judged l G t (by omega) _ _ _ _) rfl rfl (by decide) (Nat.le_refl _) (by omega) (Nat.le_of_ble_eq_true rfl) dX1_takeReading_26 ?_
    refine q_topi (sJud f t i o c) (by rw [hS.tr ht (by decide)]; rfl) ?_
    refine p_X1_95 hM (ltT (t := t) (by omega)) (kdT (t := t) (by omega)) dX1_takeReading_29 ?_
    refine q_aload hM dX1_takeReading_32 rfl ?_
    refine q_aload_n hM dX1_takeReading_34 rfl ?_
    refine g_X1_40 hM (by decide) (by decide) dX1_takeReading_35 ?_
    have hS1 := hS.setT ht hn hn8 (show 5 < 7 by decide) (sJud f t i o c)
    refine q_topi (f 5) (by rw [show up2 I (5 + t) 5 (sJud f t i o c) 1 8 = I 1 8 from up2_ne (Or.inl (by omega)), hS.a5]) ?_
    refine p_X1_98 hM (ltT (t := t) (by omega)) (kdT (t := t) (by omega)) dX1_takeReading_38 ?_
    have hS2 := hS1.setT (by rw [va_up_ne _ _ (by omega)]; exact ht) (by rw [va_up_ne _ _ (by omega)]; exact hn) (by rw [va_up_ne _ _ (by omega)]; exact hn8) (show 6 < 7 by decide) (f 5)
    exact hret _ _ _ _ _ ⟨hS2, (Fr1.rf.put (by omega) (by omega)).put (by omega) (by omega), rfl⟩ dX1_takeReading_41
  · exact absurd ⟨by simp only [le_i]; rw [nI_toInt (by omega)]; simp, by rw [hP.e1]; exact nI_lt ht (by omega)⟩ hno
set_option maxHeartbeats 4000000 in
set_option maxRecDepth 100000 in
theorem c_X1_letPass (l : Launch) (G : kG) {I : kI} {L : kL} {X : kX} {pm : Nat → Nat} {f : Fr} {g : Gr} (hR : Refs X pm) (hS : Sm I L 1 f g) (hP : PInv f) (d : Int32)  : Kv l yX1_letPass cX1_letPass 3 4 G [.ref (ad G 1), .int d] 153 153 I L X (fun I' L' X' => Sm I' L' 1 (va_up f 5 (f 5 + d)) (passG f g d) ∧ Fr1 I I' L L' ∧ X = X') := by
  refine Kv_intro (own := RX1) (lv0 := [some (.ref (ad G 1)), some (.int d), none]) 1 (by decide +kernel) rfl rfl (Nat.le_of_ble_eq_true rfl) (Nat.le_refl _) (fun J hM hret => ?_)
  have hn := hP.nT
  have hn8 := hP.nL
  refine q_iconst (v := 0) hM dX1_letPass_0 (by decide) ?_
  refine si_3_2 hM dX1_letPass_1 ?_
  have loop : ∀ (k i : Nat) (L' : kL) (g' : Gr), i ≤ cI (f 1) → cI (f 1) < i + k → Sm I L' 1 f g' → (∀ t, t < cI (f 1) → g' t = if t < i then passG f g d t else g t) → Fr1 I I L L' → J 153 I L' X 2 [some (.ref (ad G 1)), some (.int d), some (.int (nI i))] [] := by
    intro k
    induction k with
    | zero => intros; omega
    | succ k ih =>
      intro i L' g' h1 h2 hS' hg' hF'
      refine q_iload_n hM dX1_letPass_2 rfl ?_
      refine q_aload_n hM dX1_letPass_3 rfl ?_
      refine g_X1_28 hM (by decide) (by decide) dX1_letPass_4 ?_
      refine q_icmp_geN (tgt := 50) hM i (cI (f 1)) rfl (hS.a1.trans hP.e1) (by omega) (by omega) dX1_letPass_7 (by decide) (fun c7 => ?_) (fun c7 => ?_)
      · obtain rfl : i = cI (f 1) := by omega
        refine q_aload_n hM dX1_letPass_50 rfl ?_
        refine q_dup hM dX1_letPass_51 rfl ?_
        refine g_X1_40 hM (by decide) (by decide) dX1_letPass_52 ?_
        refine q_iload_n hM dX1_letPass_55 rfl ?_
        refine q_iadd hM dX1_letPass_56 ?_
        refine q_topi (f 5 + d) (by rw [hS.a5]) ?_
        refine p_X1_40 hM (by decide) (by decide) dX1_letPass_57 ?_
        have hS2 := (hS'.congr (fun t ht => by rw [hg' t ht, if_pos ht]) : Sm I L' 1 f (passG f g d)).setS (i := 5) (by decide) (by decide) (f 5 + d)
        exact hret _ _ _ _ _ ⟨hS2, hF'.put (by omega) (by omega), rfl⟩ dX1_letPass_60
      · refine q_aload_n hM dX1_letPass_10 rfl ?_
        refine g_X1_20 hM (by decide) (by decide) hR.p2 dX1_letPass_11 ?_
        refine q_iload_n hM dX1_letPass_14 rfl ?_
        refine q_aald (r := 4) hM (by decide) 12 (by decide) (Or.inr (Or.inl rfl)) (i) rfl (show i < 16 by omega) (hR.pt (by omega)) dX1_letPass_15 ?_
        refine q_dup hM dX1_letPass_16 rfl ?_
        refine g_X1_101 hM (ltT (by omega)) (kdT (by omega)) dX1_letPass_17 ?_
        refine q_aload_n hM dX1_letPass_20 rfl ?_
        refine q_aload_n hM dX1_letPass_21 rfl ?_
        refine g_X1_20 hM (by decide) (by decide) hR.p2 dX1_letPass_22 ?_
        refine q_iload_n hM dX1_letPass_25 rfl ?_
        refine q_aald (r := 4) hM (by decide) 12 (by decide) (Or.inr (Or.inl rfl)) (i) rfl (show i < 16 by omega) (hR.pt (by omega)) dX1_letPass_26 ?_
        refine callVe_i hM mi_X1_lossOf lk_X1_105 cf_X1 (by decide) (by decide) (c_X1_lossOf l G hR hS' hP i c7) rfl rfl (by decide) (Nat.le_refl _) (by omega) (Nat.le_of_ble_eq_true rfl) dX1_letPass_27 ?_
        refine q_i2l hM dX1_letPass_30 ?_
        refine q_aload_n hM dX1_letPass_31 rfl ?_
        refine g_X1_31 hM (by decide) (by decide) dX1_letPass_32 ?_
        refine q_i2l hM dX1_letPass_35 ?_
        refine q_lmul hM dX1_letPass_36 ?_
        refine q_iload_n hM dX1_letPass_37 rfl ?_
        refine q_i2l hM dX1_letPass_38 ?_
        refine q_lmul hM dX1_letPass_39 ?_
        refine q_ladd hM dX1_letPass_40 ?_
        refine q_topl (passG f g d i) (by unfold passG; rw [if_pos c7, hS'.lo c7, hg' i c7, if_neg (Nat.lt_irrefl i), hS.a2]) ?_
        refine p_X1_101 hM (ltT (by omega)) (kdT (by omega)) dX1_letPass_41 ?_
        refine sinc_3_2 hM dX1_letPass_44 (inc1 i) ?_
        refine q_goto (tgt := 2) hM dX1_letPass_47 (by decide) ?_
        refine ih (i + 1) _ _ (by omega) (by omega) (hS'.setG c7 (passG f g d i)) (fun t ht => ?_) (hF'.putL (by omega) (by omega))
        by_cases hti : t = i
        · subst hti; rw [va_up_self, if_pos (by omega)]
        · rw [va_up_ne _ _ hti, hg' t ht]
          by_cases h3 : t < i
          · rw [if_pos h3, if_pos (by omega)]
          · rw [if_neg h3, if_neg (by omega)]
  exact loop (cI (f 1) + 1) 0 L g (Nat.zero_le _) (by omega) hS (fun t _ => by rw [if_neg (Nat.not_lt_zero t)]) Fr1.rf
