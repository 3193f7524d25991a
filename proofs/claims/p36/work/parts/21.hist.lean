/-! ===== copies and the history ===== -/
set_option maxHeartbeats 4000000 in
set_option maxRecDepth 100000 in
theorem c_X1_lossOfHeader (l : Launch) (G : kG) {I : kI} {L : kL} {X : kX} {pm : Nat → Nat} {f : Fr} {g : Gr} (hR : Refs X pm) (hS : Sm I L 1 f g) (hP : PInv f) (z : Int32)  : Ki l yX1_lossOfHeader cX1_lossOfHeader 4 4 G [.ref (ad G 1), .int z] 153 153 I L X (pE (sSum (fun t => if nI (sH f t) = z then sLoss f t else 0) (cI (f 1))) I L X) := by
  refine Ki_intro (own := RX1) (lv0 := [some (.ref (ad G 1)), some (.int z), none, none]) 2 (by decide +kernel) rfl rfl (Nat.le_of_ble_eq_true rfl) (Nat.le_refl _) (fun J hM hret => ?_)
  have hn := hP.nT
  have hn8 := hP.nL
  generalize hh : (fun t => if nI (sH f t) = z then sLoss f t else 0) = h at hret
  refine q_iconst (v := 0) hM dX1_lossOfHeader_0 (by decide) ?_
  refine si_4_2 hM dX1_lossOfHeader_1 ?_
  refine q_iconst (v := 0) hM dX1_lossOfHeader_2 (by decide) ?_
  refine si_4_3 hM dX1_lossOfHeader_3 ?_
  have loop : ∀ (k i : Nat), i ≤ cI (f 1) → cI (f 1) < i + k → J 153 I L X 4 [some (.ref (ad G 1)), some (.int z), some (.int (sSum h i)), some (.int (nI i))] [] := by
    intro k
    induction k with
    | zero => intro i; intros; omega
    | succ k ih =>
      intro i h1 h2
      refine q_iload_n hM dX1_lossOfHeader_4 rfl ?_
      refine q_aload_n hM dX1_lossOfHeader_5 rfl ?_
      refine g_X1_28 hM (by decide) (by decide) dX1_lossOfHeader_6 ?_
      refine q_icmp_geN (tgt := 48) hM i (cI (f 1)) rfl (hS.a1.trans hP.e1) (by omega) (by omega) dX1_lossOfHeader_9 (by decide) (fun c9 => ?_) (fun c9 => ?_)
      · obtain rfl : i = cI (f 1) := by omega
        refine q_iload_n hM dX1_lossOfHeader_48 rfl ?_
        exact hret _ _ _ _ _ _ ⟨rfl, rfl, rfl, rfl⟩ dX1_lossOfHeader_49
      · refine q_aload_n hM dX1_lossOfHeader_12 rfl ?_
        refine q_aload_n hM dX1_lossOfHeader_13 rfl ?_
        refine g_X1_20 hM (by decide) (by decide) hR.p2 dX1_lossOfHeader_14 ?_
        refine q_iload_n hM dX1_lossOfHeader_17 rfl ?_
        refine q_aald (r := 4) hM (by decide) 12 (by decide) (Or.inr (Or.inl rfl)) (i) rfl (show i < 16 by omega) (hR.pt (by omega)) dX1_lossOfHeader_18 ?_
        refine g_X1_73 hM (ltT (by omega)) (kdT (by omega)) dX1_lossOfHeader_19 ?_
        refine callVe_i hM mi_X1_headerOfLine lk_X1_76 cf_X1 (by decide) (by decide) (c_X1_headerOfLine l G hR hS hP _) rfl rfl (by decide) (Nat.le_refl _) (by omega) (Nat.le_of_ble_eq_true rfl) dX1_lossOfHeader_22 ?_
        refine q_topi (nI (sH f i)) (by have h3 := (hP.t c9).1; rw [hS.tr c9 (by decide), if_pos (by simp only [le_i, lt_i]; exact h3), (hP.hd c9).2]) ?_
        refine q_iload_n hM dX1_lossOfHeader_25 rfl ?_
        refine q_icmp_ne (tgt := 42) hM dX1_lossOfHeader_26 (by decide) (fun c26 => ?_) (fun c26 => ?_)
        · have hs : sSum h (i + 1) = sSum h i := by rw [sSum, ← hh]; simp only; rw [if_neg c26, Int32.add_zero]
          rw [← hs]
          refine sinc_4_3 hM dX1_lossOfHeader_42 (inc1 i) ?_
          refine q_goto (tgt := 4) hM dX1_lossOfHeader_45 (by decide) ?_
          exact ih (i + 1) (by omega) (by omega)
        · have hs : sSum h (i + 1) = sSum h i + sLoss f i := by rw [sSum, ← hh]; simp only; rw [if_pos c26]
          refine q_iload_n hM dX1_lossOfHeader_29 rfl ?_
          refine q_aload_n hM dX1_lossOfHeader_30 rfl ?_
          refine q_aload_n hM dX1_lossOfHeader_31 rfl ?_
          refine g_X1_20 hM (by decide) (by decide) hR.p2 dX1_lossOfHeader_32 ?_
          refine q_iload_n hM dX1_lossOfHeader_35 rfl ?_
          refine q_aald (r := 4) hM (by decide) 12 (by decide) (Or.inr (Or.inl rfl)) (i) rfl (show i < 16 by omega) (hR.pt (by omega)) dX1_lossOfHeader_36 ?_
          refine callVe_i hM mi_X1_lossOf lk_X1_105 cf_X1 (by decide) (by decide) (c_X1_lossOf l G hR hS hP i c9) rfl rfl (by decide) (Nat.le_refl _) (by omega) (Nat.le_of_ble_eq_true rfl) dX1_lossOfHeader_37 ?_
          refine q_iadd hM dX1_lossOfHeader_40 ?_
          rw [← hs]
          refine si_4_2 hM dX1_lossOfHeader_41 ?_
          refine sinc_4_3 hM dX1_lossOfHeader_42 (inc1 i) ?_
          refine q_goto (tgt := 4) hM dX1_lossOfHeader_45 (by decide) ?_
          exact ih (i + 1) (by omega) (by omega)
  exact loop (cI (f 1) + 1) 0 (Nat.zero_le _) (by omega)
set_option maxHeartbeats 4000000 in
set_option maxRecDepth 100000 in
theorem c_X5_install (l : Launch) (G : kG) {I : kI} {L : kL} {X : kX} (t : Nat) (ht : t < 16) (a k z x y : Int32)  : Kv l yX5_install cX5_install 6 0 G [.ref (ad G (5 + t)), .int a, .int k, .int z, .int x, .int y] 153 153 I L X (fun I' L' X' => I' = up2 (up2 (up2 (up2 (up2 I (5 + t) 0 a) (5 + t) 1 k) (5 + t) 2 z) (5 + t) 3 x) (5 + t) 4 y ∧ L = L' ∧ X = X') := by
  refine Kv_intro (own := RX5) (lv0 := [some (.ref (ad G (5 + t))), some (.int a), some (.int k), some (.int z), some (.int x), some (.int y)]) 0 (by decide +kernel) rfl rfl (Nat.le_of_ble_eq_true rfl) (Nat.le_refl _) (fun J hM hret => ?_)
  refine q_aload_n hM dX5_install_0 rfl ?_
  refine q_iload_n hM dX5_install_1 rfl ?_
  refine p_X5_22 hM (ltT ht) (kdT ht) dX5_install_2 ?_
  refine q_aload_n hM dX5_install_5 rfl ?_
  refine q_iload_n hM dX5_install_6 rfl ?_
  refine p_X5_25 hM (ltT ht) (kdT ht) dX5_install_7 ?_
  refine q_aload_n hM dX5_install_10 rfl ?_
  refine q_iload_n hM dX5_install_11 rfl ?_
  refine p_X5_28 hM (ltT ht) (kdT ht) dX5_install_12 ?_
  refine q_aload_n hM dX5_install_15 rfl ?_
  refine q_iload hM dX5_install_16 rfl ?_
  refine p_X5_31 hM (ltT ht) (kdT ht) dX5_install_18 ?_
  refine q_aload_n hM dX5_install_21 rfl ?_
  refine q_iload hM dX5_install_22 rfl ?_
  refine p_X5_34 hM (ltT ht) (kdT ht) dX5_install_24 ?_
  exact hret _ _ _ _ _ ⟨rfl, rfl, rfl⟩ dX5_install_27
set_option maxHeartbeats 4000000 in
set_option maxRecDepth 100000 in
theorem c_X5_copyFrom (l : Launch) (G : kG) {I : kI} {L : kL} {X : kX} (a b : Nat) (ha1 : a < 153) (ha2 : kd a = 5) (hb1 : b < 153) (hb2 : kd b = 5) (hne : b ≠ a)  : Kv l yX5_copyFrom cX5_copyFrom 2 0 G [.ref (ad G a), .ref (ad G b)] 153 153 I L X (fun I' L' X' => (∀ w, w < 7 → I' a w = I b w) ∧ L' a 7 = L b 7 ∧ (∀ r, r ≠ a → I' r = I r ∧ L' r = L r) ∧ X = X') := by
  refine Kv_intro (own := RX5) (lv0 := [some (.ref (ad G a)), some (.ref (ad G b))]) 0 (by decide +kernel) rfl rfl (Nat.le_of_ble_eq_true rfl) (Nat.le_refl _) (fun J hM hret => ?_)
  refine q_aload_n hM dX5_copyFrom_0 rfl ?_
  refine q_aload_n hM dX5_copyFrom_1 rfl ?_
  refine g_X5_22 hM hb1 hb2 dX5_copyFrom_2 ?_
  refine p_X5_22 hM ha1 ha2 dX5_copyFrom_5 ?_
  refine q_aload_n hM dX5_copyFrom_8 rfl ?_
  refine q_aload_n hM dX5_copyFrom_9 rfl ?_
  refine g_X5_25 hM hb1 hb2 dX5_copyFrom_10 ?_
  refine q_topi (I b 1) (by simp only [up2_row hne]) ?_
  refine p_X5_25 hM ha1 ha2 dX5_copyFrom_13 ?_
  refine q_aload_n hM dX5_copyFrom_16 rfl ?_
  refine q_aload_n hM dX5_copyFrom_17 rfl ?_
  refine g_X5_28 hM hb1 hb2 dX5_copyFrom_18 ?_
  refine q_topi (I b 2) (by simp only [up2_row hne]) ?_
  refine p_X5_28 hM ha1 ha2 dX5_copyFrom_21 ?_
  refine q_aload_n hM dX5_copyFrom_24 rfl ?_
  refine q_aload_n hM dX5_copyFrom_25 rfl ?_
  refine g_X5_31 hM hb1 hb2 dX5_copyFrom_26 ?_
  refine q_topi (I b 3) (by simp only [up2_row hne]) ?_
  refine p_X5_31 hM ha1 ha2 dX5_copyFrom_29 ?_
  refine q_aload_n hM dX5_copyFrom_32 rfl ?_
  refine q_aload_n hM dX5_copyFrom_33 rfl ?_
  refine g_X5_34 hM hb1 hb2 dX5_copyFrom_34 ?_
  refine q_topi (I b 4) (by simp only [up2_row hne]) ?_
  refine p_X5_34 hM ha1 ha2 dX5_copyFrom_37 ?_
  refine q_aload_n hM dX5_copyFrom_40 rfl ?_
  refine q_aload_n hM dX5_copyFrom_41 rfl ?_
  refine g_X5_9 hM hb1 hb2 dX5_copyFrom_42 ?_
  refine q_topi (I b 5) (by simp only [up2_row hne]) ?_
  refine p_X5_9 hM ha1 ha2 dX5_copyFrom_45 ?_
  refine q_aload_n hM dX5_copyFrom_48 rfl ?_
  refine q_aload_n hM dX5_copyFrom_49 rfl ?_
  refine g_X5_15 hM hb1 hb2 dX5_copyFrom_50 ?_
  refine q_topi (I b 6) (by simp only [up2_row hne]) ?_
  refine p_X5_15 hM ha1 ha2 dX5_copyFrom_53 ?_
  refine q_aload_n hM dX5_copyFrom_56 rfl ?_
  refine q_aload_n hM dX5_copyFrom_57 rfl ?_
  refine g_X5_18 hM hb1 hb2 dX5_copyFrom_58 ?_
  refine p_X5_18 hM ha1 ha2 dX5_copyFrom_61 ?_
  refine hret _ _ _ _ _ ⟨fun w hw => ?_, up2_self _ _ _ _, fun r hr => ⟨by simp only [up2_row hr], up2_row hr⟩, rfl⟩ dX5_copyFrom_64
  rcases (show w = 0 ∨ w = 1 ∨ w = 2 ∨ w = 3 ∨ w = 4 ∨ w = 5 ∨ w = 6 by omega) with rfl | rfl | rfl | rfl | rfl | rfl | rfl <;> simp [up2]
set_option maxHeartbeats 4000000 in
set_option maxRecDepth 100000 in
theorem c_X1_copyFrom (l : Launch) (G : kG) {I : kI} {L : kL} {X : kX} {pm : Nat → Nat} (hR : Refs X pm) (q q' : Nat) (hq : isP q) (hq' : isP q') (hqq : q + 20 ≤ q' ∨ q' + 20 ≤ q)  : Kv l yX1_copyFrom cX1_copyFrom 3 1 G [.ref (ad G q), .ref (ad G q')] 153 153 I L X (fun I' L' X' => Cp I L q q' I' L' ∧ (∀ r, (r < q ∨ q + 20 ≤ r) → I' r = I r ∧ L' r = L r) ∧ X = X') := by
  refine Kv_intro (own := RX1) (lv0 := [some (.ref (ad G q)), some (.ref (ad G q')), none]) 1 (by decide +kernel) rfl rfl (Nat.le_of_ble_eq_true rfl) (Nat.le_refl _) (fun J hM hret => ?_)
  have hne : q' ≠ q := by omega
  refine q_aload_n hM dX1_copyFrom_0 rfl ?_
  refine g_X1_9 hM hq'.lt0 hq'.k0 (hR.q0 hq') dX1_copyFrom_1 ?_
  refine q_iconst (v := 0) hM dX1_copyFrom_4 (by decide) ?_
  refine q_aload_n hM dX1_copyFrom_5 rfl ?_
  refine g_X1_9 hM hq.lt0 hq.k0 (hR.q0 hq) dX1_copyFrom_6 ?_
  refine q_iconst (v := 0) hM dX1_copyFrom_9 (by decide) ?_
  refine q_iconst (v := 3) hM dX1_copyFrom_10 (by decide) ?_
  refine q_copyi hM lk_X1_56 (r := q' + 1) (r' := q + 1) (by have := hq'.lt; omega) (hq'.kj (j := 1) (by decide)).1 (by have := hq.lt; omega) (hq.kj (j := 1) (by decide)).1 0 0 3 rfl rfl rfl (by rw [(hq'.kj (j := 1) (by decide)).2]; decide) (by rw [(hq.kj (j := 1) (by decide)).2]; decide) (by decide) rfl dX1_copyFrom_11 ?_
  refine q_aload_n hM dX1_copyFrom_14 rfl ?_
  refine g_X1_15 hM hq'.lt0 hq'.k0 (hR.q1 hq') dX1_copyFrom_15 ?_
  refine q_iconst (v := 0) hM dX1_copyFrom_18 (by decide) ?_
  refine q_aload_n hM dX1_copyFrom_19 rfl ?_
  refine g_X1_15 hM hq.lt0 hq.k0 (hR.q1 hq) dX1_copyFrom_20 ?_
  refine q_iconst (v := 0) hM dX1_copyFrom_23 (by decide) ?_
  refine q_bipush (v := 8) hM dX1_copyFrom_24 (by decide) ?_
  refine q_copyi hM lk_X1_56 (r := q' + 2) (r' := q + 2) (by have := hq'.lt; omega) (hq'.kj (j := 2) (by decide)).1 (by have := hq.lt; omega) (hq.kj (j := 2) (by decide)).1 0 0 8 rfl rfl rfl (by rw [(hq'.kj (j := 2) (by decide)).2]; decide) (by rw [(hq.kj (j := 2) (by decide)).2]; decide) (by decide) rfl dX1_copyFrom_26 ?_
  generalize hI1 : (fun x => if x = q + 2 then va_cpy _ _ 0 0 8 else _) = I1
  refine q_iconst (v := 0) hM dX1_copyFrom_29 (by decide) ?_
  refine si_3_2 hM dX1_copyFrom_30 ?_
  have hI1a : (∀ h, h < 3 → I1 (q + 1) h = I (q' + 1) h) ∧ (∀ h, h < 8 → I1 (q + 2) h = I (q' + 2) h) ∧ (∀ r, r ≠ q + 1 → r ≠ q + 2 → I1 r = I r) := by
    subst hI1
    refine ⟨fun h hh => ?_, fun h hh => ?_, fun r r1 r2 => ?_⟩
    · simp [pk_cpy_in, hh]
    · have e : q' + 2 ≠ q + 1 := by omega
      simp [pk_cpy_in, hh, e]
    · simp [r1, r2]
  clear hI1
  obtain ⟨e1, e2, e3⟩ := hI1a
  have loop : ∀ (k i : Nat) (I2 : kI) (L2 : kL), i ≤ 16 → 16 < i + k → (∀ t, t < i → (∀ w, w < 7 → I2 (q + 4 + t) w = I (q' + 4 + t) w) ∧ L2 (q + 4 + t) 7 = L (q' + 4 + t) 7) → (∀ r, (r < q + 4 ∨ q + 20 ≤ r) → I2 r = I1 r ∧ L2 r = L r) → J 153 I2 L2 X 31 [some (.ref (ad G q)), some (.ref (ad G q')), some (.int (nI i))] [] := by
    intro k
    induction k with
    | zero => intros; omega
    | succ k ih =>
      intro i I2 L2 h1 h2 hc hf
      refine q_iload_n hM dX1_copyFrom_31 rfl ?_
      refine q_bipush (v := 16) hM dX1_copyFrom_32 (by decide) ?_
      refine q_icmp_geN (tgt := 58) hM i 16 rfl rfl (by omega) (by omega) dX1_copyFrom_34 (by decide) (fun c34 => ?_) (fun c34 => ?_)
      · have hi : i = 16 := by omega
        subst hi
        refine q_aload_n hM dX1_copyFrom_58 rfl ?_
        refine q_aload_n hM dX1_copyFrom_59 rfl ?_
        refine g_X1_24 hM hq'.lt0 hq'.k0 dX1_copyFrom_60 ?_
        refine p_X1_24 hM hq.lt0 hq.k0 dX1_copyFrom_63 ?_
        refine q_aload_n hM dX1_copyFrom_66 rfl ?_
        refine q_aload_n hM dX1_copyFrom_67 rfl ?_
        refine g_X1_28 hM hq'.lt0 hq'.k0 dX1_copyFrom_68 ?_
        refine q_topi (I2 q' 4) (by simp only [up2_row hne]) ?_
        refine p_X1_28 hM hq.lt0 hq.k0 dX1_copyFrom_71 ?_
        refine q_aload_n hM dX1_copyFrom_74 rfl ?_
        refine q_aload_n hM dX1_copyFrom_75 rfl ?_
        refine g_X1_31 hM hq'.lt0 hq'.k0 dX1_copyFrom_76 ?_
        refine q_topi (I2 q' 5) (by simp only [up2_row hne]) ?_
        refine p_X1_31 hM hq.lt0 hq.k0 dX1_copyFrom_79 ?_
        refine q_aload_n hM dX1_copyFrom_82 rfl ?_
        refine q_aload_n hM dX1_copyFrom_83 rfl ?_
        refine g_X1_34 hM hq'.lt0 hq'.k0 dX1_copyFrom_84 ?_
        refine q_topi (I2 q' 6) (by simp only [up2_row hne]) ?_
        refine p_X1_34 hM hq.lt0 hq.k0 dX1_copyFrom_87 ?_
        refine q_aload_n hM dX1_copyFrom_90 rfl ?_
        refine q_aload_n hM dX1_copyFrom_91 rfl ?_
        refine g_X1_37 hM hq'.lt0 hq'.k0 dX1_copyFrom_92 ?_
        refine q_topi (I2 q' 7) (by simp only [up2_row hne]) ?_
        refine p_X1_37 hM hq.lt0 hq.k0 dX1_copyFrom_95 ?_
        refine q_aload_n hM dX1_copyFrom_98 rfl ?_
        refine q_aload_n hM dX1_copyFrom_99 rfl ?_
        refine g_X1_40 hM hq'.lt0 hq'.k0 dX1_copyFrom_100 ?_
        refine q_topi (I2 q' 8) (by simp only [up2_row hne]) ?_
        refine p_X1_40 hM hq.lt0 hq.k0 dX1_copyFrom_103 ?_
        refine q_aload_n hM dX1_copyFrom_106 rfl ?_
        refine q_aload_n hM dX1_copyFrom_107 rfl ?_
        refine g_X1_43 hM hq'.lt0 hq'.k0 dX1_copyFrom_108 ?_
        refine q_topi (I2 q' 9) (by simp only [up2_row hne]) ?_
        refine p_X1_43 hM hq.lt0 hq.k0 dX1_copyFrom_111 ?_
        refine q_aload_n hM dX1_copyFrom_114 rfl ?_
        refine q_aload_n hM dX1_copyFrom_115 rfl ?_
        refine g_X1_46 hM hq'.lt0 hq'.k0 dX1_copyFrom_116 ?_
        refine q_topi (I2 q' 10) (by simp only [up2_row hne]) ?_
        refine p_X1_46 hM hq.lt0 hq.k0 dX1_copyFrom_119 ?_
        refine hret _ _ _ _ _ ⟨⟨fun i h3 h4 => ?_, fun h hh => ?_, fun h hh => ?_, fun t ht => ⟨fun w hw => ?_, ?_⟩⟩, fun r hr => ⟨?_, ?_⟩, rfl⟩ dX1_copyFrom_122
        · have e4 := (hf q' (by omega)).1
          rw [e3 q' (by omega) (by omega)] at e4
          rw [← e4]
          rcases (show i = 3 ∨ i = 4 ∨ i = 5 ∨ i = 6 ∨ i = 7 ∨ i = 8 ∨ i = 9 ∨ i = 10 by omega) with rfl | rfl | rfl | rfl | rfl | rfl | rfl | rfl <;> simp [up2]
        · simp only [up2_row (show q + 1 ≠ q by omega)]
          rw [(hf (q + 1) (by omega)).1]
          exact e1 h hh
        · simp only [up2_row (show q + 2 ≠ q by omega)]
          rw [(hf (q + 2) (by omega)).1]
          exact e2 h hh
        · simp only [up2_row (show q + 4 + t ≠ q by omega)]
          exact (hc t ht).1 w hw
        · exact (hc t ht).2
        · simp only [up2_row (show r ≠ q by omega)]
          rw [(hf r (by omega)).1]
          exact e3 r (by omega) (by omega)
        · exact (hf r (by omega)).2
      · refine q_aload_n hM dX1_copyFrom_37 rfl ?_
        refine g_X1_20 hM hq.lt0 hq.k0 (hR.q2 hq) dX1_copyFrom_38 ?_
        refine q_iload_n hM dX1_copyFrom_41 rfl ?_
        refine q_aald (r := q + 3) hM (by have := hq.lt; omega) 12 ((hq.kj (j := 3) (by decide)).1) (Or.inr (Or.inl rfl)) i rfl (by rw [(hq.kj (j := 3) (by decide)).2]; show i < 16; omega) (hR.qt hq (by omega)) dX1_copyFrom_42 ?_
        refine q_aload_n hM dX1_copyFrom_43 rfl ?_
        refine g_X1_20 hM hq'.lt0 hq'.k0 (hR.q2 hq') dX1_copyFrom_44 ?_
        refine q_iload_n hM dX1_copyFrom_47 rfl ?_
        refine q_aald (r := q' + 3) hM (by have := hq'.lt; omega) 12 ((hq'.kj (j := 3) (by decide)).1) (Or.inr (Or.inl rfl)) i rfl (by rw [(hq'.kj (j := 3) (by decide)).2]; show i < 16; omega) (hR.qt hq' (by omega)) dX1_copyFrom_48 ?_
        refine callV_v hM mi_X5_copyFrom lk_X1_62 cf_X5 (hq.ltt (by omega)) (hq.kt (by omega)) (c_X5_copyFrom l G (q + 4 + i) (q' + 4 + i) (hq.ltt (by omega)) (hq.kt (by omega)) (hq'.ltt (by omega)) (hq'.kt (by omega)) (by omega)) rfl rfl (by decide) (Nat.le_refl _) (by omega) (Nat.le_of_ble_eq_true rfl) dX1_copyFrom_49 (fun I9 L9 X9 hp9 => ?_)
        obtain ⟨p1, p2, p3, rfl⟩ := hp9
        refine sinc_3_2 hM dX1_copyFrom_52 (inc1 i) ?_
        refine q_goto (tgt := 31) hM dX1_copyFrom_55 (by decide) ?_
        refine ih (i + 1) _ _ (by omega) (by omega) (fun t ht => ?_) (fun r hr => ?_)
        · by_cases hti : t = i
          · subst hti
            refine ⟨fun w hw => ?_, ?_⟩
            · rw [p1 w hw, (hf (q' + 4 + t) (by omega)).1, e3 _ (by omega) (by omega)]
            · rw [p2, (hf (q' + 4 + t) (by omega)).2]
          · obtain ⟨p5, p6⟩ := p3 (q + 4 + t) (by omega)
            rw [p5, p6]
            exact hc t (by omega)
        · rw [(p3 r (by omega)).1, (p3 r (by omega)).2]
          exact hf r hr
  exact loop 17 0 I1 L (Nat.zero_le _) (by omega) (fun t ht => absurd ht (by omega)) (fun r _ => ⟨rfl, rfl⟩)
set_option maxHeartbeats 4000000 in
set_option maxRecDepth 100000 in
theorem c_X0_dropOldest (l : Launch) (G : kG) {I : kI} {L : kL} {X : kX} {pm : Nat → Nat} (hR : Refs X pm) (hp : PermOK pm)  : Kv l yX0_dropOldest cX0_dropOldest 3 0 G [.ref (ad G 21)] 153 153 I L X (fun I' L' X' => I' = up2 I 21 1 4 ∧ L = L' ∧ (∀ r, r ≠ 22 → X' r = X r) ∧ (∀ i, i < 5 → X' 22 i = some (rotP pm i))) := by
  refine Kv_intro (own := RX0) (lv0 := [some (.ref (ad G 21)), none, none]) 2 (by decide +kernel) rfl rfl (Nat.le_of_ble_eq_true rfl) (Nat.le_refl _) (fun J hM hret => ?_)
  refine q_aload_n hM dX0_dropOldest_0 rfl ?_
  refine g_X0_11 hM (by decide) (by decide) hR.h0 dX0_dropOldest_1 ?_
  refine q_iconst (v := 0) hM dX0_dropOldest_4 (by decide) ?_
  refine q_aald (r := 22) hM (by decide) 13 (by decide) (Or.inr (Or.inr rfl)) 0 rfl (by decide) (hR.hi (by decide)) dX0_dropOldest_5 ?_
  refine sa_3_1 hM dX0_dropOldest_6 ?_
  refine q_iconst (v := 1) hM dX0_dropOldest_7 (by decide) ?_
  refine si_3_2 hM dX0_dropOldest_8 ?_
  have loop : ∀ (k i : Nat) (X2 : kX), 1 ≤ i → i ≤ 5 → 5 < i + k → (∀ r, r ≠ 22 → X2 r = X r) → (∀ j, j < 5 → X2 22 j = some (if j + 1 < i then pm (j + 1) else pm j)) → J 153 I L X2 9 [some (.ref (ad G 21)), some (.ref (ad G (pm 0))), some (.int (nI i))] [] := by
    intro k
    induction k with
    | zero => intros; omega
    | succ k ih =>
      intro i X2 h0 h1 h2 hx1 hx2
      refine q_iload_n hM dX0_dropOldest_9 rfl ?_
      refine q_iconst (v := 5) hM dX0_dropOldest_10 (by decide) ?_
      refine q_icmp_geN (tgt := 34) hM i 5 rfl rfl (by omega) (by omega) dX0_dropOldest_11 (by decide) (fun c11 => ?_) (fun c11 => ?_)
      · have hi : i = 5 := by omega
        subst hi
        refine q_aload_n hM dX0_dropOldest_34 rfl ?_
        refine g_X0_11 hM (by decide) (by decide) ((congrFun (hx1 21 (by decide)) 0).trans hR.h0) dX0_dropOldest_35 ?_
        refine q_iconst (v := 4) hM dX0_dropOldest_38 (by decide) ?_
        refine q_aload_n hM dX0_dropOldest_39 rfl ?_
        refine q_aast (r := 22) (q := pm 0) hM (by decide) (hp.P (by omega)).lt0 (Or.inr ⟨by decide, (hp.P (by omega)).k0⟩) 4 rfl (by decide) dX0_dropOldest_40 ?_
        refine q_aload_n hM dX0_dropOldest_41 rfl ?_
        refine q_iconst (v := 4) hM dX0_dropOldest_42 (by decide) ?_
        refine p_X0_17 hM (by decide) (by decide) dX0_dropOldest_43 ?_
        refine hret _ _ _ _ _ ⟨rfl, rfl, fun r hr => (up2_row hr).trans (hx1 r hr), fun i hi => ?_⟩ dX0_dropOldest_46
        unfold rotP
        by_cases h4 : i = 4
        · subst h4
          rw [up2_self, if_neg (by decide)]
        · rw [up2_ne (by omega), hx2 i hi, if_pos (by omega), if_pos (by omega)]
      · refine q_aload_n hM dX0_dropOldest_14 rfl ?_
        refine g_X0_11 hM (by decide) (by decide) ((congrFun (hx1 21 (by decide)) 0).trans hR.h0) dX0_dropOldest_15 ?_
        refine q_iload_n hM dX0_dropOldest_18 rfl ?_
        refine q_iconst (v := 1) hM dX0_dropOldest_19 (by decide) ?_
        refine q_isub hM dX0_dropOldest_20 ?_
        refine q_topi (nI (i - 1)) (by rw [show (1 : Int32) = nI 1 from rfl, pk_sub (by omega)]) ?_
        refine q_aload_n hM dX0_dropOldest_21 rfl ?_
        refine g_X0_11 hM (by decide) (by decide) ((congrFun (hx1 21 (by decide)) 0).trans hR.h0) dX0_dropOldest_22 ?_
        refine q_iload_n hM dX0_dropOldest_25 rfl ?_
        refine q_aald (r := 22) hM (by decide) 13 (by decide) (Or.inr (Or.inr rfl)) i rfl (show i < 5 by omega) ((hx2 i (by omega)).trans (by rw [if_neg (by omega)])) dX0_dropOldest_26 ?_
        refine q_aast (r := 22) (q := pm i) hM (by decide) (hp.P (by omega)).lt0 (Or.inr ⟨by decide, (hp.P (by omega)).k0⟩) (i - 1) rfl (show i - 1 < 5 by omega) dX0_dropOldest_27 ?_
        refine sinc_3_2 hM dX0_dropOldest_28 (inc1 i) ?_
        refine q_goto (tgt := 9) hM dX0_dropOldest_31 (by decide) ?_
        refine ih (i + 1) _ (by omega) (by omega) (by omega) (fun r hr => (up2_row hr).trans (hx1 r hr)) (fun j hj => ?_)
        by_cases hji : j + 1 = i
        · subst hji
          rw [Nat.add_sub_cancel, up2_self, if_pos (by omega)]
        · rw [up2_ne (by omega), hx2 j hj]
          by_cases h3 : j + 1 < i
          · rw [if_pos h3, if_pos (by omega)]
          · rw [if_neg h3, if_neg (by omega)]
  exact loop 5 1 X (Nat.le_refl _) (by omega) (by omega) (fun _ _ => rfl) (fun j hj => by rw [if_neg (by omega)]; exact hR.hi hj)
set_option maxHeartbeats 4000000 in
set_option maxRecDepth 100000 in
theorem c_X0_keep (l : Launch) (G : kG) {I : kI} {L : kL} {X : kX} {pm : Nat → Nat} {A : kA} (hH : HC I L X pm A) (hS : Sm I L 1 (aF A) (aG A)) (hA : AInv A)  : Kv l yX0_keep cX0_keep 2 2 G [.ref (ad G 21), .ref (ad G 1)] 153 153 I L X (fun I' L' X' => KPost I L X A I' L' X') := by
  refine Kv_intro (own := RX0) (lv0 := [some (.ref (ad G 21)), some (.ref (ad G 1))]) 0 (by decide +kernel) rfl rfl (Nat.le_of_ble_eq_true rfl) (Nat.le_refl _) (fun J hM hret => ?_)
  obtain ⟨hR, hp, hn, hs⟩ := hH
  have hn5 := hA.1
  have tail : ∀ (m : Nat) (I1 : kI) (X1 : kX) (pm1 : Nat → Nat), m < 5 → Refs X1 pm1 → PermOK pm1 → I1 21 1 = nI m → (∀ r, r ≠ 21 → I1 r = I r) → (∀ r, r ≠ 22 → X1 r = X r) → m + 1 = aN (keepA A) → (∀ i, i < m → Sm I L (pm1 i) ((keepA A).1 (i + 1)) ((keepA A).2.1 (i + 1))) → (keepA A).1 (m + 1) = aF A → (keepA A).2.1 (m + 1) = aG A → J 153 I1 L X1 12 [some (.ref (ad G 21)), some (.ref (ad G 1))] [] := by
    intro m I1 X1 pm1 hm hR1 hp1 hn1 hI1 hX1 hmn hs1 hf1 hg1
    refine q_aload_n hM dX0_keep_12 rfl ?_
    refine g_X0_11 hM (by decide) (by decide) hR1.h0 dX0_keep_13 ?_
    refine q_aload_n hM dX0_keep_16 rfl ?_
    refine g_X0_17 hM (by decide) (by decide) dX0_keep_17 ?_
    refine q_topi (nI m) hn1 ?_
    refine q_aald (r := 22) hM (by decide) 13 (by decide) (Or.inr (Or.inr rfl)) m rfl (show m < 5 by omega) (hR1.hi hm) dX0_keep_20 ?_
    refine q_aload_n hM dX0_keep_21 rfl ?_
    refine callV_v hM mi_X1_copyFrom lk_X0_25 cf_X1 (hp1.P hm).lt0 (hp1.P hm).k0 (c_X1_copyFrom l G hR1 (pm1 m) 1 (hp1.P hm) isP_1 (Or.inr (by have := (hp1.rng hm).1; omega))) rfl rfl (by decide) (Nat.le_refl _) (by omega) (Nat.le_of_ble_eq_true rfl) dX0_keep_22 (fun I9 L9 X9 hp9 => ?_)
    obtain ⟨hc, hf, rfl⟩ := hp9
    refine q_aload_n hM dX0_keep_25 rfl ?_
    refine q_dup hM dX0_keep_26 rfl ?_
    refine g_X0_17 hM (by decide) (by decide) dX0_keep_27 ?_
    refine q_topi (nI m) (by rw [(hf 21 (Or.inl (by have := (hp1.rng hm).1; omega))).1]; exact hn1) ?_
    refine q_iconst (v := 1) hM dX0_keep_30 (by decide) ?_
    refine q_iadd hM dX0_keep_31 ?_
    refine q_topi (nI (m + 1)) (nI_1 m) ?_
    refine p_X0_17 hM (by decide) (by decide) dX0_keep_32 ?_
    have rg := hp1.rng hm
    refine hret _ _ _ _ _ ⟨⟨pm1, hR1, hp1, ?_, fun i hi => ?_⟩, fun r hr => ⟨?_, ?_, ?_⟩⟩ dX0_keep_35
    · rw [up2_self, hmn]
    · have hS1 : ∀ {f : Fr} {g : Gr}, cI (f 1) ≤ 16 → Sm I9 L9 (pm1 i) f g → Sm (up2 I9 21 1 (nI (m + 1))) L9 (pm1 i) f g := fun hN h => h.frame hN (fun r r1 r2 => ⟨up2_row (by have := hp1.rng (i := i) (by omega); omega), rfl⟩)
      have hPk : PInv ((keepA A).1 (i + 1)) := hA.keep.2.2 _ (by omega)
      refine hS1 hPk.nT ?_
      by_cases him : i = m
      · subst him
        rw [hf1, hg1]
        have hS9 : Sm I1 L 1 (aF A) (aG A) := hS.frame hA.f.nT (fun r r1 r2 => ⟨hI1 r (by omega), rfl⟩)
        exact hS9.copy hc hA.f.nT hA.f.nL
      · have ap := hp1.apart (i := i) (j := m) (by omega) hm him
        refine (hs1 i (by omega)).frame hPk.nT (fun r r1 r2 => ?_)
        have rgi := hp1.rng (i := i) (by omega)
        have h9 := hf r (by omega)
        exact ⟨h9.1.trans (hI1 r (by omega)), h9.2⟩
    · rw [up2_row (by omega), (hf r (by omega)).1]; exact hI1 r (by omega)
    · exact (hf r (by omega)).2
    · exact hX1 r (by omega)
  refine q_aload_n hM dX0_keep_0 rfl ?_
  refine g_X0_17 hM (by decide) (by decide) dX0_keep_1 ?_
  refine q_iconst (v := 5) hM dX0_keep_4 (by decide) ?_
  refine q_icmp_ltN (tgt := 12) hM (aN A) 5 hn rfl (by omega) (by omega) dX0_keep_5 (by decide) (fun c5 => ?_) (fun c5 => ?_)
  · refine tail (aN A) I X pm c5 hR hp hn (fun _ _ => rfl) (fun _ _ => rfl) ?_ (fun i hi => ?_) ?_ ?_
    · show aN A + 1 = (if aN A = 5 then 5 else aN A + 1)
      rw [if_neg (by omega)]
    · show Sm I L (pm i) (kpS A.1 (aN A) (i + 1)) (kpS A.2.1 (aN A) (i + 1))
      unfold kpS
      rw [if_neg (by omega), if_neg (by omega), if_neg (by omega), if_neg (by omega)]
      exact hs i hi
    · show kpS A.1 (aN A) (aN A + 1) = A.1 0
      unfold kpS
      rw [if_neg (by omega), if_pos rfl]
    · show kpS A.2.1 (aN A) (aN A + 1) = A.2.1 0
      unfold kpS
      rw [if_neg (by omega), if_pos rfl]
  · refine q_aload_n hM dX0_keep_8 rfl ?_
    refine callV_v hM mi_X0_dropOldest lk_X0_22 cf_X0 (by decide) (by decide) (c_X0_dropOldest l G hR hp) rfl rfl (by decide) (Nat.le_refl _) (by omega) (Nat.le_of_ble_eq_true rfl) dX0_keep_9 (fun I9 L9 X9 hp9 => ?_)
    obtain ⟨rfl, rfl, x1, x2⟩ := hp9
    have h5 : aN A = 5 := by omega
    refine tail 4 _ X9 (rotP pm) (by decide) (hR.perm x1 x2) hp.rot (up2_self _ _ _ _) (fun r hr => up2_row hr) x1 ?_ (fun i hi => ?_) ?_ ?_
    · show 5 = (if aN A = 5 then 5 else aN A + 1)
      rw [if_pos h5]
    · show Sm I L (rotP pm i) (kpS A.1 (aN A) (i + 1)) (kpS A.2.1 (aN A) (i + 1))
      unfold kpS rotP
      simp only [if_pos h5, if_neg (show ¬ i + 1 = 5 by omega), if_neg (show ¬ i + 1 = 0 by omega), if_pos (show i < 4 by omega)]
      exact hs (i + 1) (by omega)
    · show kpS A.1 (aN A) 5 = A.1 0
      unfold kpS
      rw [if_pos h5, if_pos rfl]
    · show kpS A.2.1 (aN A) 5 = A.2.1 0
      unfold kpS
      rw [if_pos h5, if_pos rfl]
set_option maxHeartbeats 4000000 in
set_option maxRecDepth 100000 in
theorem c_X0_takeBack (l : Launch) (G : kG) {I : kI} {L : kL} {X : kX} {pm : Nat → Nat} {A : kA} (hH : HC I L X pm A) (hA : AInv A)  : Kz l yX0_takeBack cX0_takeBack 2 2 G [.ref (ad G 21), .ref (ad G 1)] 153 153 I L X (fun z I' L' X' => X = X' ∧ (∀ r, (r = 0 ∨ 21 < r) → I' r = I r ∧ L' r = L r) ∧ ((z = false ∧ aN A = 0 ∧ I = I' ∧ L = L') ∨ (z = true ∧ 0 < aN A ∧ I' 21 1 = nI (aN A - 1) ∧ Sm I' L' 1 (A.1 (aN A)) (A.2.1 (aN A))))) := by
  refine Kz_intro (own := RX0) (lv0 := [some (.ref (ad G 21)), some (.ref (ad G 1))]) 0 (by decide +kernel) rfl rfl (Nat.le_of_ble_eq_true rfl) (Nat.le_refl _) (fun J hM hret => ?_)
  obtain ⟨hR, hp, hn, hs⟩ := hH
  have hn5 := hA.1
  refine q_aload_n hM dX0_takeBack_0 rfl ?_
  refine g_X0_17 hM (by decide) (by decide) dX0_takeBack_1 ?_
  refine q_if_gt (tgt := 9) hM dX0_takeBack_4 (by decide) (fun c4 => ?_) (fun c4 => ?_)
  · have hpos : 0 < aN A := by rcases Nat.eq_zero_or_pos (aN A) with q | q; exact absurd c4 (by rw [hn, q]; decide); exact q
    refine q_aload_n hM dX0_takeBack_9 rfl ?_
    refine q_dup hM dX0_takeBack_10 rfl ?_
    refine g_X0_17 hM (by decide) (by decide) dX0_takeBack_11 ?_
    refine q_iconst (v := 1) hM dX0_takeBack_14 (by decide) ?_
    refine q_isub hM dX0_takeBack_15 ?_
    refine q_topi (nI (aN A - 1)) (by rw [hn, show (1 : Int32) = nI 1 from rfl, pk_sub (by omega)]) ?_
    refine p_X0_17 hM (by decide) (by decide) dX0_takeBack_16 ?_
    refine q_aload_n hM dX0_takeBack_19 rfl ?_
    refine q_aload_n hM dX0_takeBack_20 rfl ?_
    refine g_X0_11 hM (by decide) (by decide) hR.h0 dX0_takeBack_21 ?_
    refine q_aload_n hM dX0_takeBack_24 rfl ?_
    refine g_X0_17 hM (by decide) (by decide) dX0_takeBack_25 ?_
    refine q_topi (nI (aN A - 1)) (up2_self _ _ _ _) ?_
    refine q_aald (r := 22) hM (by decide) 13 (by decide) (Or.inr (Or.inr rfl)) (aN A - 1) rfl (show aN A - 1 < 5 by omega) (hR.hi (by omega)) dX0_takeBack_28 ?_
    refine callV_v hM mi_X1_copyFrom lk_X0_25 cf_X1 (by decide) (by decide) (c_X1_copyFrom l G hR 1 (pm (aN A - 1)) isP_1 (hp.P (by omega)) (Or.inl (by have := (hp.rng (i := aN A - 1) (by omega)).1; omega))) rfl rfl (by decide) (Nat.le_refl _) (by omega) (Nat.le_of_ble_eq_true rfl) dX0_takeBack_29 (fun I9 L9 X9 hp9 => ?_)
    obtain ⟨hc, hf, rfl⟩ := hp9
    refine q_iconst (v := 1) hM dX0_takeBack_32 (by decide) ?_
    have rg := hp.rng (i := aN A - 1) (by omega)
    refine hret true _ _ _ _ _ _ rfl ⟨rfl, fun r hr => ⟨?_, ?_⟩, Or.inr ⟨rfl, hpos, ?_, ?_⟩⟩ dX0_takeBack_33
    · rw [(hf r (by omega)).1]; exact up2_row (by omega)
    · exact (hf r (by omega)).2
    · rw [(hf 21 (by omega)).1]; exact up2_self _ _ _ _
    · have hP1 : PInv (A.1 (aN A)) := hA.2.2 _ (Nat.le_refl _)
      have hs1 := hs (aN A - 1) (by omega)
      rw [show aN A - 1 + 1 = aN A by omega] at hs1
      have hs2 : Sm (up2 I 21 1 (nI (aN A - 1))) L (pm (aN A - 1)) (A.1 (aN A)) (A.2.1 (aN A)) := hs1.frame hP1.nT (fun r r1 r2 => ⟨up2_row (by omega), rfl⟩)
      exact hs2.copy hc hP1.nT hP1.nL
  · have hz0 : aN A = 0 := by rcases Nat.eq_zero_or_pos (aN A) with q | q; exact q; exact absurd (by rw [hn]; have := nI_lt (a := 0) q (by omega); exact this) c4
    refine q_iconst (v := 0) hM dX0_takeBack_7 (by decide) ?_
    exact hret false _ _ _ _ _ _ rfl ⟨rfl, fun _ _ => ⟨rfl, rfl⟩, Or.inl ⟨rfl, hz0, rfl, rfl⟩⟩ dX0_takeBack_8
