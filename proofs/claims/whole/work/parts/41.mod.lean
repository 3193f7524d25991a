/-! ===== the reference's repair order ===== -/
abbrev AhP (f : Fr) (a b : Nat) : Prop := sPay f a < sPay f b ∨ (sPay f a = sPay f b ∧ (sLoss f b < sLoss f a ∨ (sLoss f a = sLoss f b ∧ a < b)))
theorem ahP_iff {f : Fr} {a b : Nat} : AhP f a b ↔ ahd f a b = true := by
  rw [ahd_iff]
  simp only [AhP, Int64.lt_iff_toInt_lt, ← Int64.toInt_inj, lt_i, eq_i]
theorem rkP_t {f : Fr} {a b : Nat} (h1 : ¬ nI b = nI a) (h2 : ¬ sLoss f b ≤ 0) (h3 : AhP f b a) : nI (rkF f a b) + 1 = nI (rkF f a (b + 1)) := by
  have e1 : (b == a) = false := beq_eq_false_iff_ne.mpr (fun q => h1 (by rw [q]))
  have e2 : pos f b = true := decide_eq_true (Int32.not_le.mp h2)
  have e3 := ahP_iff.mp h3
  rw [nI_1]
  unfold rkF
  rw [cnt, if_pos (by simp only [e1, e2, e3, Bool.not_false, Bool.and_self])]
theorem rkP_f {f : Fr} {a b : Nat} (h : nI b = nI a ∧ b < 16 ∧ a < 16 ∨ sLoss f b ≤ 0 ∨ ¬ AhP f b a) : nI (rkF f a b) + 0 = nI (rkF f a (b + 1)) := by
  rw [Int32.add_zero]
  unfold rkF
  rw [cnt, if_neg (fun q => ?_), Nat.add_zero]
  rw [Bool.and_eq_true, Bool.and_eq_true] at q
  obtain ⟨q1, q2, q3⟩ := q
  rcases h with ⟨h, hb, ha⟩ | h | h
  · have := (nI_eq (by omega) (by omega)).mp h
    subst this
    simp at q1
  · exact Int32.not_le.mpr (of_decide_eq_true q2) h
  · exact h (ahP_iff.mpr q3)

set_option maxHeartbeats 4000000 in
set_option maxRecDepth 100000 in
theorem c_X7_isAhead (l : Launch) (G : kG) {I : kI} {L : kL} {X : kX} {f : Fr} {g : Gr} (hR : RefM X) (hm : Mm I L f g) (hP : PInv f) (a b : Nat) (ha : a < cI (f 1)) (hb : b < cI (f 1))  : Kz l yX7_isAhead cX7_isAhead 3 5 G [.ref (ad G 153), .int (nI a), .int (nI b)] 159 159 I L X (pE (decide (AhP f a b)) I L X) := by
  refine Kz_intro (own := RX7) (lv0 := [some (.ref (ad G 153)), some (.int (nI a)), some (.int (nI b))]) 0 (by decide +kernel) rfl rfl (Nat.le_of_ble_eq_true rfl) (Nat.le_refl _) (fun J hM hret => ?_)
  have hn := hP.nT
  have hn8 := hP.nL
  refine q_aload_n hM dX7_isAhead_0 rfl ?_
  refine q_iload_n hM dX7_isAhead_1 rfl ?_
  refine callVe_l hM mi_X7_paysBack lk_X7_87 cf_X7 (by decide) (by decide) (c_X7_paysBack l G hR hm hP a ha) rfl rfl (by decide) (Nat.le_refl _) (by omega) (Nat.le_of_ble_eq_true rfl) dX7_isAhead_2 ?_
  refine q_aload_n hM dX7_isAhead_5 rfl ?_
  refine q_iload_n hM dX7_isAhead_6 rfl ?_
  refine callVe_l hM mi_X7_paysBack lk_X7_87 cf_X7 (by decide) (by decide) (c_X7_paysBack l G hR hm hP b hb) rfl rfl (by decide) (Nat.le_refl _) (by omega) (Nat.le_of_ble_eq_true rfl) dX7_isAhead_7 ?_
  refine q_lcmp hM dX7_isAhead_10 ?_
  refine q_if_eq (tgt := 34) hM dX7_isAhead_11 (by decide) (fun c11 => ?_) (fun c11 => ?_)
  · refine q_aload_n hM dX7_isAhead_34 rfl ?_
    refine q_iload_n hM dX7_isAhead_35 rfl ?_
    refine callVe_i hM mi_X7_lossOf lk_X7_71 cf_X7 (by decide) (by decide) (c_X7_lossOf l G hR hm hP a ha) rfl rfl (by decide) (Nat.le_refl _) (by omega) (Nat.le_of_ble_eq_true rfl) dX7_isAhead_36 ?_
    refine q_aload_n hM dX7_isAhead_39 rfl ?_
    refine q_iload_n hM dX7_isAhead_40 rfl ?_
    refine callVe_i hM mi_X7_lossOf lk_X7_71 cf_X7 (by decide) (by decide) (c_X7_lossOf l G hR hm hP b hb) rfl rfl (by decide) (Nat.le_refl _) (by omega) (Nat.le_of_ble_eq_true rfl) dX7_isAhead_41 ?_
    refine q_icmp_gt (tgt := 65) hM dX7_isAhead_44 (by decide) (fun c44 => ?_) (fun c44 => ?_)
    · refine q_iconst (v := 1) hM dX7_isAhead_65 (by decide) ?_
      refine q_goto (tgt := 70) hM dX7_isAhead_66 (by decide) ?_
      exact hret true _ _ _ _ _ _ rfl ⟨(by simp only [AhP, lgc_eq, ← Int32.not_lt, lgc_neg] at c11 c44 ⊢; simp only [Int64.lt_iff_toInt_lt, ← Int64.toInt_inj, lt_i, eq_i] at c11 c44 ⊢; first | (apply Eq.symm; apply decide_eq_true; omega) | (apply Eq.symm; apply decide_eq_false; omega)), rfl, rfl, rfl⟩ dX7_isAhead_70
    · refine q_aload_n hM dX7_isAhead_47 rfl ?_
      refine q_iload_n hM dX7_isAhead_48 rfl ?_
      refine callVe_i hM mi_X7_lossOf lk_X7_71 cf_X7 (by decide) (by decide) (c_X7_lossOf l G hR hm hP a ha) rfl rfl (by decide) (Nat.le_refl _) (by omega) (Nat.le_of_ble_eq_true rfl) dX7_isAhead_49 ?_
      refine q_aload_n hM dX7_isAhead_52 rfl ?_
      refine q_iload_n hM dX7_isAhead_53 rfl ?_
      refine callVe_i hM mi_X7_lossOf lk_X7_71 cf_X7 (by decide) (by decide) (c_X7_lossOf l G hR hm hP b hb) rfl rfl (by decide) (Nat.le_refl _) (by omega) (Nat.le_of_ble_eq_true rfl) dX7_isAhead_54 ?_
      refine q_icmp_ne (tgt := 69) hM dX7_isAhead_57 (by decide) (fun c57 => ?_) (fun c57 => ?_)
      · refine q_iconst (v := 0) hM dX7_isAhead_69 (by decide) ?_
        exact hret false _ _ _ _ _ _ rfl ⟨(by simp only [AhP, lgc_eq, ← Int32.not_lt, lgc_neg] at c11 c44 c57 ⊢; simp only [Int64.lt_iff_toInt_lt, ← Int64.toInt_inj, lt_i, eq_i] at c11 c44 c57 ⊢; first | (apply Eq.symm; apply decide_eq_true; omega) | (apply Eq.symm; apply decide_eq_false; omega)), rfl, rfl, rfl⟩ dX7_isAhead_70
      · refine q_iload_n hM dX7_isAhead_60 rfl ?_
        refine q_iload_n hM dX7_isAhead_61 rfl ?_
        refine q_icmp_geN (tgt := 69) hM a b rfl rfl (by omega) (by omega) dX7_isAhead_62 (by decide) (fun c62 => ?_) (fun c62 => ?_)
        · refine q_iconst (v := 0) hM dX7_isAhead_69 (by decide) ?_
          exact hret false _ _ _ _ _ _ rfl ⟨(by simp only [AhP, lgc_eq, ← Int32.not_lt, lgc_neg] at c11 c44 c57 c62 ⊢; simp only [Int64.lt_iff_toInt_lt, ← Int64.toInt_inj, lt_i, eq_i] at c11 c44 c57 c62 ⊢; first | (apply Eq.symm; apply decide_eq_true; omega) | (apply Eq.symm; apply decide_eq_false; omega)), rfl, rfl, rfl⟩ dX7_isAhead_70
        · refine q_iconst (v := 1) hM dX7_isAhead_65 (by decide) ?_
          refine q_goto (tgt := 70) hM dX7_isAhead_66 (by decide) ?_
          exact hret true _ _ _ _ _ _ rfl ⟨(by simp only [AhP, lgc_eq, ← Int32.not_lt, lgc_neg] at c11 c44 c57 c62 ⊢; simp only [Int64.lt_iff_toInt_lt, ← Int64.toInt_inj, lt_i, eq_i] at c11 c44 c57 c62 ⊢; first | (apply Eq.symm; apply decide_eq_true; omega) | (apply Eq.symm; apply decide_eq_false; omega)), rfl, rfl, rfl⟩ dX7_isAhead_70
  · refine q_aload_n hM dX7_isAhead_14 rfl ?_
    refine q_iload_n hM dX7_isAhead_15 rfl ?_
    refine callVe_l hM mi_X7_paysBack lk_X7_87 cf_X7 (by decide) (by decide) (c_X7_paysBack l G hR hm hP a ha) rfl rfl (by decide) (Nat.le_refl _) (by omega) (Nat.le_of_ble_eq_true rfl) dX7_isAhead_16 ?_
    refine q_aload_n hM dX7_isAhead_19 rfl ?_
    refine q_iload_n hM dX7_isAhead_20 rfl ?_
    refine callVe_l hM mi_X7_paysBack lk_X7_87 cf_X7 (by decide) (by decide) (c_X7_paysBack l G hR hm hP b hb) rfl rfl (by decide) (Nat.le_refl _) (by omega) (Nat.le_of_ble_eq_true rfl) dX7_isAhead_21 ?_
    refine q_lcmp hM dX7_isAhead_24 ?_
    refine q_if_ge (tgt := 32) hM dX7_isAhead_25 (by decide) (fun c25 => ?_) (fun c25 => ?_)
    · refine q_iconst (v := 0) hM dX7_isAhead_32 (by decide) ?_
      exact hret false _ _ _ _ _ _ rfl ⟨(by simp only [AhP, lgc_eq, ← Int32.not_lt, lgc_neg] at c11 c25 ⊢; simp only [Int64.lt_iff_toInt_lt, ← Int64.toInt_inj, lt_i, eq_i] at c11 c25 ⊢; first | (apply Eq.symm; apply decide_eq_true; omega) | (apply Eq.symm; apply decide_eq_false; omega)), rfl, rfl, rfl⟩ dX7_isAhead_33
    · refine q_iconst (v := 1) hM dX7_isAhead_28 (by decide) ?_
      refine q_goto (tgt := 33) hM dX7_isAhead_29 (by decide) ?_
      exact hret true _ _ _ _ _ _ rfl ⟨(by simp only [AhP, lgc_eq, ← Int32.not_lt, lgc_neg] at c11 c25 ⊢; simp only [Int64.lt_iff_toInt_lt, ← Int64.toInt_inj, lt_i, eq_i] at c11 c25 ⊢; first | (apply Eq.symm; apply decide_eq_true; omega) | (apply Eq.symm; apply decide_eq_false; omega)), rfl, rfl, rfl⟩ dX7_isAhead_33
set_option maxHeartbeats 4000000 in
set_option maxRecDepth 100000 in
theorem c_X7_ranked (l : Launch) (G : kG) {I : kI} {L : kL} {X : kX} {f : Fr} {g : Gr} (hR : RefM X) (hm : Mm I L f g) (hP : PInv f) (k : Int32)  : Ki l yX7_ranked cX7_ranked 5 6 G [.ref (ad G 153), .int k] 159 159 I L X (pE (sOrd f k) I L X) := by
  refine Ki_intro (own := RX7) (lv0 := [some (.ref (ad G 153)), some (.int k), none, none, none]) 3 (by decide +kernel) rfl rfl (Nat.le_of_ble_eq_true rfl) (Nat.le_refl _) (fun J hM hret => ?_)
  have hn := hP.nT
  have hn8 := hP.nL
  refine q_iconst (v := 0) hM dX7_ranked_0 (by decide) ?_
  refine si_5_2 hM dX7_ranked_1 ?_
  have loop : ∀ (m a : Nat) (v3 v4 : Option Value), a ≤ cI (f 1) → cI (f 1) < a + m → ordU f k (cI (f 1) - a) a = sOrd f k → J 159 I L X 2 [some (.ref (ad G 153)), some (.int k), some (.int (nI a)), v3, v4] [] := by
    intro m
    induction m with
    | zero => intros; omega
    | succ m ih =>
      intro a v3 v4 h1 h2 hq
      refine q_iload_n hM dX7_ranked_2 rfl ?_
      refine q_aload_n hM dX7_ranked_3 rfl ?_
      refine g_X7_7 hM (by decide) (by decide) hR.m0 dX7_ranked_4 ?_
      refine q_iconst (v := 1) hM dX7_ranked_7 (by decide) ?_
      refine q_row hM hm 1 rfl (by decide) (by decide) dX7_ranked_8 ?_
      refine q_icmp_geN (tgt := 88) hM a (cI (f 1)) rfl hP.e1 (by omega) (by omega) dX7_ranked_9 (by decide) (fun c9 => ?_) (fun c9 => ?_)
      · obtain rfl : a = cI (f 1) := by omega
        rw [Nat.sub_self] at hq
        refine q_iconst (v := -1) hM dX7_ranked_88 (by decide) ?_
        exact hret _ _ _ _ _ _ ⟨hq, rfl, rfl, rfl⟩ dX7_ranked_89
      · refine q_iconst (v := 0) hM dX7_ranked_12 (by decide) ?_
        refine si_5_3 hM dX7_ranked_13 ?_
        refine q_iconst (v := 0) hM dX7_ranked_14 (by decide) ?_
        refine si_5_4 hM dX7_ranked_15 ?_
        have loop2 : ∀ (m2 b : Nat), b ≤ cI (f 1) → cI (f 1) < b + m2 → J 159 I L X 17 [some (.ref (ad G 153)), some (.int k), some (.int (nI a)), some (.int (nI (rkF f a b))), some (.int (nI b))] [] := by
          intro m2
          induction m2 with
          | zero => intros; omega
          | succ m2 ih2 =>
            intro b h3 h4
            refine q_iload hM dX7_ranked_17 rfl ?_
            refine q_aload_n hM dX7_ranked_19 rfl ?_
            refine g_X7_7 hM (by decide) (by decide) hR.m0 dX7_ranked_20 ?_
            refine q_iconst (v := 1) hM dX7_ranked_23 (by decide) ?_
            refine q_row hM hm 1 rfl (by decide) (by decide) dX7_ranked_24 ?_
            refine q_icmp_geN (tgt := 67) hM b (cI (f 1)) rfl hP.e1 (by omega) (by omega) dX7_ranked_25 (by decide) (fun c25 => ?_) (fun c25 => ?_)
            · obtain rfl : b = cI (f 1) := by omega
              refine q_aload_n hM dX7_ranked_67 rfl ?_
              refine q_iload_n hM dX7_ranked_68 rfl ?_
              refine callVe_i hM mi_X7_lossOf lk_X7_71 cf_X7 (by decide) (by decide) (c_X7_lossOf l G hR hm hP a c9) rfl rfl (by decide) (Nat.le_refl _) (by omega) (Nat.le_of_ble_eq_true rfl) dX7_ranked_69 ?_
              refine q_if_le (tgt := 82) hM dX7_ranked_72 (by decide) (fun c72 => ?_) (fun c72 => ?_)
              · have hno : ¬ mtc f k a = true := by unfold mtc pos; rw [decide_eq_false (fun q => Int32.not_le.mpr q c72), Bool.false_and]; decide
                refine sinc_5_2 hM dX7_ranked_82 (inc1 a) ?_
                refine q_goto (tgt := 2) hM dX7_ranked_85 (by decide) ?_
                exact ih (a + 1) _ _ (by omega) (by omega) (by rw [← hq, show cI (f 1) - a = cI (f 1) - (a + 1) + 1 by omega, ordU, if_neg hno])
              · refine q_iload_n hM dX7_ranked_75 rfl ?_
                refine q_iload_n hM dX7_ranked_76 rfl ?_
                refine q_icmp_ne (tgt := 82) hM dX7_ranked_77 (by decide) (fun c77 => ?_) (fun c77 => ?_)
                · have hno : ¬ mtc f k a = true := by unfold mtc; rw [decide_eq_false c77, Bool.and_false]; decide
                  refine sinc_5_2 hM dX7_ranked_82 (inc1 a) ?_
                  refine q_goto (tgt := 2) hM dX7_ranked_85 (by decide) ?_
                  exact ih (a + 1) _ _ (by omega) (by omega) (by rw [← hq, show cI (f 1) - a = cI (f 1) - (a + 1) + 1 by omega, ordU, if_neg hno])
                · have hyes : mtc f k a = true := by unfold mtc pos; rw [decide_eq_true (Int32.not_le.mp c72), decide_eq_true c77]; rfl
                  refine q_iload_n hM dX7_ranked_80 rfl ?_
                  exact hret _ _ _ _ _ _ ⟨by rw [← hq, show cI (f 1) - a = cI (f 1) - (a + 1) + 1 by omega, ordU, if_pos hyes], rfl, rfl, rfl⟩ dX7_ranked_81
            · refine q_iload_n hM dX7_ranked_28 rfl ?_
              refine q_iload hM dX7_ranked_29 rfl ?_
              refine q_iload_n hM dX7_ranked_31 rfl ?_
              refine q_icmp_eq (tgt := 58) hM dX7_ranked_32 (by decide) (fun c32 => ?_) (fun c32 => ?_)
              · refine q_iconst (v := 0) hM dX7_ranked_58 (by decide) ?_
                refine q_iadd hM dX7_ranked_59 ?_
                refine q_topi (nI (rkF f a (b + 1))) (by first | exact rkP_f (Or.inl ⟨c32, by omega, by omega⟩) | exact rkP_f (Or.inr (Or.inl c41)) | exact rkP_f (Or.inr (Or.inr c51))) ?_
                refine si_5_3 hM dX7_ranked_60 ?_
                refine sinc_5_4 hM dX7_ranked_61 (inc1 b) ?_
                refine q_goto (tgt := 17) hM dX7_ranked_64 (by decide) ?_
                exact ih2 (b + 1) (by omega) (by omega)
              · refine q_aload_n hM dX7_ranked_35 rfl ?_
                refine q_iload hM dX7_ranked_36 rfl ?_
                refine callVe_i hM mi_X7_lossOf lk_X7_71 cf_X7 (by decide) (by decide) (c_X7_lossOf l G hR hm hP b c25) rfl rfl (by decide) (Nat.le_refl _) (by omega) (Nat.le_of_ble_eq_true rfl) dX7_ranked_38 ?_
                refine q_if_le (tgt := 58) hM dX7_ranked_41 (by decide) (fun c41 => ?_) (fun c41 => ?_)
                · refine q_iconst (v := 0) hM dX7_ranked_58 (by decide) ?_
                  refine q_iadd hM dX7_ranked_59 ?_
                  refine q_topi (nI (rkF f a (b + 1))) (by first | exact rkP_f (Or.inl ⟨c32, by omega, by omega⟩) | exact rkP_f (Or.inr (Or.inl c41)) | exact rkP_f (Or.inr (Or.inr c51))) ?_
                  refine si_5_3 hM dX7_ranked_60 ?_
                  refine sinc_5_4 hM dX7_ranked_61 (inc1 b) ?_
                  refine q_goto (tgt := 17) hM dX7_ranked_64 (by decide) ?_
                  exact ih2 (b + 1) (by omega) (by omega)
                · refine q_aload_n hM dX7_ranked_44 rfl ?_
                  refine q_iload hM dX7_ranked_45 rfl ?_
                  refine q_iload_n hM dX7_ranked_47 rfl ?_
                  refine callVe_z hM mi_X7_isAhead lk_X7_90 cf_X7 (by decide) (by decide) (c_X7_isAhead l G hR hm hP b a c25 c9) rfl rfl (by decide) (Nat.le_refl _) (by omega) (Nat.le_of_ble_eq_true rfl) dX7_ranked_48 ?_
                  refine q_ifd_eq (tgt := 58) hM dX7_ranked_51 (by decide) (fun c51 => ?_) (fun c51 => ?_)
                  · refine q_iconst (v := 0) hM dX7_ranked_58 (by decide) ?_
                    refine q_iadd hM dX7_ranked_59 ?_
                    refine q_topi (nI (rkF f a (b + 1))) (by first | exact rkP_f (Or.inl ⟨c32, by omega, by omega⟩) | exact rkP_f (Or.inr (Or.inl c41)) | exact rkP_f (Or.inr (Or.inr c51))) ?_
                    refine si_5_3 hM dX7_ranked_60 ?_
                    refine sinc_5_4 hM dX7_ranked_61 (inc1 b) ?_
                    refine q_goto (tgt := 17) hM dX7_ranked_64 (by decide) ?_
                    exact ih2 (b + 1) (by omega) (by omega)
                  · refine q_iconst (v := 1) hM dX7_ranked_54 (by decide) ?_
                    refine q_goto (tgt := 59) hM dX7_ranked_55 (by decide) ?_
                    refine q_iadd hM dX7_ranked_59 ?_
                    refine q_topi (nI (rkF f a (b + 1))) (rkP_t c32 c41 c51) ?_
                    refine si_5_3 hM dX7_ranked_60 ?_
                    refine sinc_5_4 hM dX7_ranked_61 (inc1 b) ?_
                    refine q_goto (tgt := 17) hM dX7_ranked_64 (by decide) ?_
                    exact ih2 (b + 1) (by omega) (by omega)
        exact loop2 (cI (f 1) + 1) 0 (Nat.zero_le _) (by omega)
  exact loop (cI (f 1) + 1) 0 none none (Nat.zero_le _) (by omega) rfl
set_option maxHeartbeats 4000000 in
set_option maxRecDepth 100000 in
theorem c_X7_order (l : Launch) (G : kG) {I : kI} {L : kL} {X : kX} {A : kA} (hr : RM I L X A) (hA : AInv A) (k : Int32)  : Ki l yX7_order cX7_order 2 7 G [.ref (ad G 153), .int k] 159 159 I L X (pE (rOrder A k) I L X) := by
  refine Ki_intro (own := RX7) (lv0 := [some (.ref (ad G 153)), some (.int k)]) 0 (by decide +kernel) rfl rfl (Nat.le_of_ble_eq_true rfl) (Nat.le_refl _) (fun J hM hret => ?_)
  have hR := hr.1
  have hm := hr.m
  have hP := hA.f
  have hn := hP.nT
  have hn8 := hP.nL
  refine q_iload_n hM dX7_order_0 rfl ?_
  refine q_if_ge (tgt := 9) hM dX7_order_1 (by decide) (fun c1 => ?_) (fun c1 => ?_)
  · refine q_aload_n hM dX7_order_9 rfl ?_
    refine q_iload_n hM dX7_order_10 rfl ?_
    refine callVe_i hM mi_X7_ranked lk_X7_94 cf_X7 (by decide) (by decide) (c_X7_ranked l G hR hm hP k) rfl rfl (by decide) (Nat.le_refl _) (by omega) (Nat.le_of_ble_eq_true rfl) dX7_order_11 ?_
    exact hret _ _ _ _ _ _ ⟨by unfold rOrder; rw [if_neg (Int32.not_lt.mpr c1)], rfl, rfl, rfl⟩ dX7_order_14
  · refine q_bipush (v := -3) hM dX7_order_4 (by decide) ?_
    refine q_goto (tgt := 14) hM dX7_order_6 (by decide) ?_
    exact hret _ _ _ _ _ _ ⟨by unfold rOrder; rw [if_pos (Int32.not_le.mp c1)], rfl, rfl, rfl⟩ dX7_order_14
set_option maxHeartbeats 4000000 in
set_option maxRecDepth 100000 in
theorem c_X7_repairAll (l : Launch) (G : kG) {I : kI} {L : kL} {X : kX} {A : kA} (hr : RM I L X A) (hA : AInv A) (a : Int32)  : Ki l yX7_repairAll cX7_repairAll 5 7 G [.ref (ad G 153), .int a] 159 159 I L X (fun v I' L' X' => v = rAll A a ∧ RM I' L' X' (sAll A a) ∧ FrC I I' L L' X X') := by
  refine Ki_intro (own := RX7) (lv0 := [some (.ref (ad G 153)), some (.int a), none, none, none]) 3 (by decide +kernel) rfl rfl (Nat.le_of_ble_eq_true rfl) (Nat.le_refl _) (fun J hM hret => ?_)
  have hR := hr.1
  have hm := hr.m
  have hP := hA.f
  have hn := hP.nT
  have hn8 := hP.nL
  refine q_iload_n hM dX7_repairAll_0 rfl ?_
  refine q_iconst (v := 0) hM dX7_repairAll_1 (by decide) ?_
  refine q_sipush (v := 10000) hM dX7_repairAll_2 (by decide) ?_
  refine callSe_z hM mi_X7_in lk_X7_35 (c_X7_in l G _ _ _) rfl rfl (by decide) (Nat.le_refl _) (by omega) (Nat.le_of_ble_eq_true rfl) dX7_repairAll_5 ?_
  refine q_ifd_ne (tgt := 14) hM dX7_repairAll_8 (by decide) (fun c8 => ?_) (fun c8 => ?_)
  · refine q_aload_n hM dX7_repairAll_14 rfl ?_
    refine callV_v hM mi_X7_keeps lk_X7_47 cf_X7 (by decide) (by decide) (c_X7_keeps l G hr hA) rfl rfl (by decide) (Nat.le_refl _) (by omega) (Nat.le_of_ble_eq_true rfl) dX7_repairAll_15 (fun I9 L9 X9 hp9 => ?_)
    obtain ⟨hr9, hF9, rfl⟩ := hp9
    have hk := RM.kept hr9
    have hm9 := hk.mf
    refine q_iload_n hM dX7_repairAll_18 rfl ?_
    refine si_5_2 hM dX7_repairAll_19 ?_
    refine q_iconst (v := 0) hM dX7_repairAll_20 (by decide) ?_
    refine si_5_3 hM dX7_repairAll_21 ?_
    refine q_aload_n hM dX7_repairAll_22 rfl ?_
    refine q_iconst (v := 0) hM dX7_repairAll_23 (by decide) ?_
    refine callVe_i hM mi_X7_ranked lk_X7_94 cf_X7 (by decide) (by decide) (c_X7_ranked l G hR hm9 hP 0) rfl rfl (by decide) (Nat.le_refl _) (by omega) (Nat.le_of_ble_eq_true rfl) dX7_repairAll_24 ?_
    refine si_5_4 hM dX7_repairAll_27 ?_
    have loop : ∀ (m : Nat) (left ct : Int32) (I1 : kI) (L1 : kL) (f1 : Fr), nLoss f1 < m → PInv f1 → RM I1 L1 X (setF (keepA A) f1 (aG A)) → FrC I I1 L L1 X X → repA m f1 left ct = repA 17 (aF A) a 0 → J 159 I1 L1 X 29 [some (.ref (ad G 153)), some (.int a), some (.int left), some (.int ct), some (.int (sOrd f1 0))] [] := by
      intro m
      induction m with
      | zero => intro left ct I1 L1 f1 h; omega
      | succ m ih =>
        intro left ct I1 L1 f1 hl hP1 hk1 hF1 hq
        have hm1 := hk1.mf
        refine q_iload hM dX7_repairAll_29 rfl ?_
        refine q_iconst (v := -1) hM dX7_repairAll_31 (by decide) ?_
        refine q_icmp_eq (tgt := 73) hM dX7_repairAll_32 (by decide) (fun c32 => ?_) (fun c32 => ?_)
        · refine q_iload_n hM dX7_repairAll_73 rfl ?_
          exact hret _ _ _ _ _ _ ⟨by unfold rAll; rw [if_pos c8, ← hq]; rw [repA, if_pos c32], by unfold sAll; rw [if_pos c8, ← hq]; rw [repA, if_pos c32]; exact hk1, hF1⟩ dX7_repairAll_74
        · obtain ⟨j, hj, hpj, hjt⟩ : ∃ j, j < cI (f1 1) ∧ pos f1 j = true ∧ sOrd f1 0 = nI j := (ord_cases f1 0).resolve_left c32
          have hne : ¬ sOrd f1 0 = -1 := c32
          have hj16 : j < 16 := by have := hP1.nT; omega
          have hcj : cI (sOrd f1 0) = j := by rw [hjt]; exact cI_nI (by omega)
          refine q_aload_n hM dX7_repairAll_35 rfl ?_
          refine q_iload hM dX7_repairAll_36 rfl ?_
          rw [hjt]
          refine callVe_i hM mi_X7_costOf lk_X7_82 cf_X7 (by decide) (by decide) (c_X7_costOf l G hR hm1 hP1 j hj) rfl rfl (by decide) (Nat.le_refl _) (by omega) (Nat.le_of_ble_eq_true rfl) dX7_repairAll_38 ?_
          refine q_iload_n hM dX7_repairAll_41 rfl ?_
          refine q_icmp_gt (tgt := 73) hM dX7_repairAll_42 (by decide) (fun c42 => ?_) (fun c42 => ?_)
          · have hgt : left < sCost f1 j := c42
            refine q_iload_n hM dX7_repairAll_73 rfl ?_
            exact hret _ _ _ _ _ _ ⟨by unfold rAll; rw [if_pos c8, ← hq]; rw [repA, if_neg hne, hcj, if_pos hgt], by unfold sAll; rw [if_pos c8, ← hq]; rw [repA, if_neg hne, hcj, if_pos hgt]; exact hk1, hF1⟩ dX7_repairAll_74
          · have hle : ¬ left < sCost f1 j := c42
            refine q_iload_n hM dX7_repairAll_45 rfl ?_
            refine q_aload_n hM dX7_repairAll_46 rfl ?_
            refine q_iload hM dX7_repairAll_47 rfl ?_
            refine callVe_i hM mi_X7_costOf lk_X7_82 cf_X7 (by decide) (by decide) (c_X7_costOf l G hR hm1 hP1 j hj) rfl rfl (by decide) (Nat.le_refl _) (by omega) (Nat.le_of_ble_eq_true rfl) dX7_repairAll_49 ?_
            refine q_isub hM dX7_repairAll_52 ?_
            refine si_5_2 hM dX7_repairAll_53 ?_
            refine q_aload_n hM dX7_repairAll_54 rfl ?_
            refine q_iload hM dX7_repairAll_55 rfl ?_
            refine callV_v hM mi_X7_repairs lk_X7_97 cf_X7 (by decide) (by decide) (c_X7_repairs l G hk1 hP1 j hj) rfl rfl (by decide) (Nat.le_refl _) (by omega) (Nat.le_of_ble_eq_true rfl) dX7_repairAll_57 (fun I9 L9 X9 hp9 => ?_)
            obtain ⟨hk2, hI2, rfl, rfl⟩ := hp9
            have hm2 := hk2.mf
            refine sinc_5_3 hM dX7_repairAll_60 rfl ?_
            refine q_aload_n hM dX7_repairAll_63 rfl ?_
            refine q_iconst (v := 0) hM dX7_repairAll_64 (by decide) ?_
            refine callVe_i hM mi_X7_ranked lk_X7_94 cf_X7 (by decide) (by decide) (c_X7_ranked l G hR hm2 (hP1.mend hj) 0) rfl rfl (by decide) (Nat.le_refl _) (by omega) (Nat.le_of_ble_eq_true rfl) dX7_repairAll_65 ?_
            refine si_5_4 hM dX7_repairAll_68 ?_
            refine q_goto (tgt := 29) hM dX7_repairAll_70 (by decide) ?_
            have hk2' : m + 1 = m + 1 := rfl
            exact ih _ _ _ _ (mendF f1 j) (by have := nLoss_mend hP1 hj hpj; omega) (hP1.mend hj) hk2 (fun r hx => ⟨by rw [hI2 r (by omega)]; exact (hF1 r hx).1, (hF1 r hx).2⟩) (by rw [← hq, repA, if_neg hne, hcj, if_neg hle]; rfl)
    exact loop 17 a 0 I9 L9 (aF A) (by have := cnt_le (pos (aF A)) (cI (aF A 1)); unfold nLoss; omega) hP hk hF9 rfl
  · refine q_bipush (v := -3) hM dX7_repairAll_11 (by decide) ?_
    exact hret _ _ _ _ _ _ ⟨by unfold rAll; skip; (try (first | rw [if_pos c8] | rw [if_neg c8])); try rfl, by unfold sAll; skip; (try (first | rw [if_pos c8] | rw [if_neg c8])); exact hr, FrC.rf⟩ dX7_repairAll_13
