/-! ===== the class's text ===== -/
theorem up2_id {α : Type} {F : Nat → Nat → α} {r j : Nat} {v : α} (h : F r j = v) : up2 F r j v = F := by
  funext a b
  by_cases h' : a = r ∧ b = j
  · obtain ⟨rfl, rfl⟩ := h'
    rw [up2_self, h]
  · rw [up2_ne (by omega)]
theorem rowK' : ∀ i, i < 20 → kd (133 + i) = 8 ∧ kl (133 + i) = 4 := by decide
theorem rowK {i : Nat} (hi : i < 20) : kd (133 + i) = 8 ∧ kl (133 + i) = 4 := rowK' i hi
theorem w13 {j : Nat} (hj : j < 2 ^ 31) : (1 ≤ nI j ∧ nI j ≤ 3) ↔ (1 ≤ j ∧ j ≤ 3) := by
  have k1 : (1 : Int32).toInt = 1 := rfl
  have k3 : (3 : Int32).toInt = 3 := rfl
  rw [le_i, le_i, nI_toInt hj, k1, k3]
  omega
/-- the state while one reading is scanned -/
def Sc (I I1 : kI) (i p : Nat) : Prop := I1 130 4 = nI p ∧ (∀ r, r ≠ 130 → r ≠ 133 + i → I1 r = I r) ∧ ∀ j, j ≠ 4 → I1 130 j = I 130 j
theorem Sc.i2 {I I1 : kI} {i p k : Nat} (h : Sc I I1 i p) (h2 : I 130 2 = nI k) : I1 130 2 = nI k := (h.2.2 2 (by decide)).trans h2
theorem Sc.t {I I1 : kI} {i p k : Nat} {T : Nat → Int32} (h : Sc I I1 i p) (h2 : ∀ j, j < k → I 131 j = T j) (hi : i < 20) : ∀ j, j < k → I1 131 j = T j := fun j hj => by rw [h.2.1 131 (by decide) (by omega)]; exact h2 j hj
theorem Sc.num {I I1 : kI} {i p : Nat} (h : Sc I I1 i p) (q : Nat) (hi : i < 20) (w : Nat) (v : Int32) : ∃ I2, up2 (up2 I1 130 4 (nI q)) (133 + i) w v = I2 ∧ Sc I I2 i q ∧ I2 (133 + i) w = v ∧ ∀ w', w' ≠ w → I2 (133 + i) w' = I1 (133 + i) w' := by
  refine ⟨_, rfl, ⟨?_, fun r r1 r2 => ?_, fun j hj => ?_⟩, up2_self _ _ _ _, fun w' hw => ?_⟩
  · rw [up2_ne (by omega), up2_self]
  · rw [up2_row r2, up2_row r1]; exact h.2.1 r r1 r2
  · rw [up2_ne (by omega), up2_ne (by omega)]; exact h.2.2 j hj
  · rw [up2_ne (by omega), up2_ne (by omega)]
theorem Sc.sg {I I1 : kI} {i p : Nat} (h : Sc I I1 i p) (q : Nat) (hi : i < 20) : ∃ I2, up2 I1 130 4 (nI q) = I2 ∧ Sc I I2 i q ∧ ∀ w', I2 (133 + i) w' = I1 (133 + i) w' := by
  refine ⟨_, rfl, ⟨up2_self _ _ _ _, fun r r1 r2 => ?_, fun j hj => ?_⟩, fun w' => ?_⟩
  · rw [up2_row r1]; exact h.2.1 r r1 r2
  · rw [up2_ne (by omega)]; exact h.2.2 j hj
  · rw [up2_ne (by omega)]
theorem Sc.start {I : kI} {i p : Nat} (h : I 130 4 = nI p) (hi : i < 20) : ∃ I0, up2 I (133 + i) 3 0 = I0 ∧ Sc I I0 i p ∧ I0 (133 + i) 3 = 0 := by
  refine ⟨_, rfl, ⟨?_, fun r r1 r2 => up2_row r2, fun j hj => ?_⟩, up2_self _ _ _ _⟩
  · rw [up2_ne (by omega)]; exact h
  · rw [up2_ne (by omega)]

set_option maxHeartbeats 4000000 in
set_option maxRecDepth 100000 in
theorem c_X2_isDigit (l : Launch) (G : kG) {I : kI} {L : kL} {X : kX} (x : Int32)  : Kz l yX2_isDigit cX2_isDigit 1 1 G [.int x] 153 153 I L X (pE (decide (dg x)) I L X) := by
  refine Kz_intro (own := RX2) (lv0 := [some (.int x)]) 0 (by decide +kernel) rfl rfl (Nat.le_of_ble_eq_true rfl) (Nat.le_refl _) (fun J hM hret => ?_)
  refine q_iload_n hM dX2_isDigit_0 rfl ?_
  refine q_bipush (v := 48) hM dX2_isDigit_1 (by decide) ?_
  refine q_bipush (v := 57) hM dX2_isDigit_3 (by decide) ?_
  refine callSNe_z hM mi_X6_isWithin lk_X2_52 (c_X6_isWithin l G _ _ _) rfl rfl (by decide) (Nat.le_refl _) (by omega) (Nat.le_of_ble_eq_true rfl) dX2_isDigit_5 ?_
  exact hret _ _ _ _ _ _ _ rfl ⟨rfl, rfl, rfl, rfl⟩ dX2_isDigit_8
set_option maxHeartbeats 4000000 in
set_option maxRecDepth 100000 in
theorem c_X2_skipBlanks (l : Launch) (G : kG) {I : kI} {L : kL} {X : kX} {pm : Nat → Nat} (hR : Refs X pm) {T : Nat → Int32} {k : Nat} (hk : k ≤ 100) (hI2 : I 130 2 = nI k) (hT : ∀ j, j < k → I 131 j = T j) {p : Nat} (hp : p ≤ k) (hI4 : I 130 4 = nI p)  : Kv l yX2_skipBlanks cX2_skipBlanks 1 0 G [.ref (ad G 130)] 153 153 I L X (fun I' L' X' => I' = up2 I 130 4 (nI (sk T k p)) ∧ L = L' ∧ X = X') := by
  refine Kv_intro (own := RX2) (lv0 := [some (.ref (ad G 130))]) 0 (by decide +kernel) rfl rfl (Nat.le_of_ble_eq_true rfl) (Nat.le_refl _) (fun J hM hret => ?_)
  have loop : ∀ (m q : Nat), q ≤ k → k < q + m → sk T k q = sk T k p → J 153 (up2 I 130 4 (nI q)) L X 0 [some (.ref (ad G 130))] [] := by
    intro m
    induction m with
    | zero => intros; omega
    | succ m ih =>
      intro q h1 h2 hs
      refine q_aload_n hM dX2_skipBlanks_0 rfl ?_
      refine g_X2_27 hM (by decide) (by decide) dX2_skipBlanks_1 ?_
      refine q_topi (nI q) (up2_self _ _ _ _) ?_
      refine q_aload_n hM dX2_skipBlanks_4 rfl ?_
      refine g_X2_20 hM (by decide) (by decide) dX2_skipBlanks_5 ?_
      refine q_topi (nI k) ((up2_ne (Or.inr (by decide))).trans hI2) ?_
      refine q_icmp_geN (tgt := 38) hM q k rfl rfl (by omega) (by omega) dX2_skipBlanks_8 (by decide) (fun c8 => ?_) (fun c8 => ?_)
      · rw [← hs, sk_stop (fun z => by omega)] at hret
        exact hret _ _ _ _ _ ⟨rfl, rfl, rfl⟩ dX2_skipBlanks_38
      · refine q_aload_n hM dX2_skipBlanks_11 rfl ?_
        refine g_X2_9 hM (by decide) (by decide) hR.t0 dX2_skipBlanks_12 ?_
        refine q_aload_n hM dX2_skipBlanks_15 rfl ?_
        refine g_X2_27 hM (by decide) (by decide) dX2_skipBlanks_16 ?_
        refine q_topi (nI q) (up2_self _ _ _ _) ?_
        refine q_iald (r := 131) hM (by decide) (by decide) (q) rfl (show q < 100 by omega) dX2_skipBlanks_19 ?_
        refine q_topi (T (q)) ((congrFun (up2_row (show 131 ≠ 130 by decide)) _).trans (hT _ c8)) ?_
        refine q_bipush (v := 32) hM dX2_skipBlanks_20 (by decide) ?_
        refine q_icmp_ne (tgt := 38) hM dX2_skipBlanks_22 (by decide) (fun c22 => ?_) (fun c22 => ?_)
        · rw [← hs, sk_stop (fun z => c22 z.2)] at hret
          exact hret _ _ _ _ _ ⟨rfl, rfl, rfl⟩ dX2_skipBlanks_38
        · refine q_aload_n hM dX2_skipBlanks_25 rfl ?_
          refine q_dup hM dX2_skipBlanks_26 rfl ?_
          refine g_X2_27 hM (by decide) (by decide) dX2_skipBlanks_27 ?_
          refine q_topi (nI q) (up2_self _ _ _ _) ?_
          refine q_iconst (v := 1) hM dX2_skipBlanks_30 (by decide) ?_
          refine q_iadd hM dX2_skipBlanks_31 ?_
          refine q_topi (nI (q + 1)) (nI_1 _) ?_
          refine p_X2_27 hM (by decide) (by decide) dX2_skipBlanks_32 ?_
          rw [up2_up2]
          refine q_goto (tgt := 0) hM dX2_skipBlanks_35 (by decide) ?_
          exact ih (q + 1) (by omega) (by omega) ((sk_step c8 c22).symm.trans hs)
  have h0 := loop (k + 1) p hp (by omega) rfl
  rw [up2_id hI4] at h0
  exact h0
set_option maxHeartbeats 4000000 in
set_option maxRecDepth 100000 in
theorem c_X2_scanSign (l : Launch) (G : kG) {I : kI} {L : kL} {X : kX} {pm : Nat → Nat} (hR : Refs X pm) {T : Nat → Int32} {k : Nat} (hk : k ≤ 100) (hI2 : I 130 2 = nI k) (hT : ∀ j, j < k → I 131 j = T j) {p : Nat} (hp : p ≤ k) (hI4 : I 130 4 = nI p) (c : Int32)  : Kz l yX2_scanSign cX2_scanSign 2 1 G [.ref (ad G 130), .int c] 153 153 I L X (fun z I' L' X' => z = (sgn T k c p).1 ∧ I' = up2 I 130 4 (nI (sgn T k c p).2) ∧ L = L' ∧ X = X') := by
  refine Kz_intro (own := RX2) (lv0 := [some (.ref (ad G 130)), some (.int c)]) 0 (by decide +kernel) rfl rfl (Nat.le_of_ble_eq_true rfl) (Nat.le_refl _) (fun J hM hret => ?_)
  refine q_aload_n hM dX2_scanSign_0 rfl ?_
  refine callV_v hM mi_X2_skipBlanks lk_X2_46 cf_X2 (by decide) (by decide) (c_X2_skipBlanks l G hR hk hI2 hT hp hI4) rfl rfl (by decide) (Nat.le_refl _) (by omega) (Nat.le_of_ble_eq_true rfl) dX2_scanSign_1 (fun I9 L9 X9 hp9 => ?_)
  obtain ⟨rfl, rfl, rfl⟩ := hp9
  have hqk := sk_le (T := T) hp
  refine q_aload_n hM dX2_scanSign_4 rfl ?_
  refine g_X2_27 hM (by decide) (by decide) dX2_scanSign_5 ?_
  refine q_topi (nI (sk T k p)) (up2_self _ _ _ _) ?_
  refine q_aload_n hM dX2_scanSign_8 rfl ?_
  refine g_X2_20 hM (by decide) (by decide) dX2_scanSign_9 ?_
  refine q_topi (nI k) ((up2_ne (Or.inr (by decide))).trans hI2) ?_
  refine q_icmp_geN (tgt := 40) hM (sk T k p) k rfl rfl (by omega) (by omega) dX2_scanSign_12 (by decide) (fun c12 => ?_) (fun c12 => ?_)
  · have e : sgn T k c p = (false, sk T k p) := if_neg (fun z => by omega)
    refine q_iconst (v := 0) hM dX2_scanSign_40 (by decide) ?_
    exact hret false _ _ _ _ _ _ rfl ⟨by rw [e], by rw [e], rfl, rfl⟩ dX2_scanSign_41
  · refine q_aload_n hM dX2_scanSign_15 rfl ?_
    refine g_X2_9 hM (by decide) (by decide) hR.t0 dX2_scanSign_16 ?_
    refine q_aload_n hM dX2_scanSign_19 rfl ?_
    refine g_X2_27 hM (by decide) (by decide) dX2_scanSign_20 ?_
    refine q_topi (nI (sk T k p)) (up2_self _ _ _ _) ?_
    refine q_iald (r := 131) hM (by decide) (by decide) (sk T k p) rfl (show sk T k p < 100 by omega) dX2_scanSign_23 ?_
    refine q_topi (T (sk T k p)) ((congrFun (up2_row (show 131 ≠ 130 by decide)) _).trans (hT _ c12)) ?_
    refine q_iload_n hM dX2_scanSign_24 rfl ?_
    refine q_icmp_ne (tgt := 40) hM dX2_scanSign_25 (by decide) (fun c25 => ?_) (fun c25 => ?_)
    · have e : sgn T k c p = (false, sk T k p) := if_neg (fun z => c25 z.2)
      refine q_iconst (v := 0) hM dX2_scanSign_40 (by decide) ?_
      exact hret false _ _ _ _ _ _ rfl ⟨by rw [e], by rw [e], rfl, rfl⟩ dX2_scanSign_41
    · have e : sgn T k c p = (true, sk T k p + 1) := if_pos ⟨c12, c25⟩
      refine q_aload_n hM dX2_scanSign_28 rfl ?_
      refine q_dup hM dX2_scanSign_29 rfl ?_
      refine g_X2_27 hM (by decide) (by decide) dX2_scanSign_30 ?_
      refine q_topi (nI (sk T k p)) (up2_self _ _ _ _) ?_
      refine q_iconst (v := 1) hM dX2_scanSign_33 (by decide) ?_
      refine q_iadd hM dX2_scanSign_34 ?_
      refine q_topi (nI (sk T k p + 1)) (nI_1 _) ?_
      refine p_X2_27 hM (by decide) (by decide) dX2_scanSign_35 ?_
      rw [up2_up2]
      refine q_iconst (v := 1) hM dX2_scanSign_38 (by decide) ?_
      exact hret true _ _ _ _ _ _ rfl ⟨by rw [e], by rw [e], rfl, rfl⟩ dX2_scanSign_39
set_option maxHeartbeats 4000000 in
set_option maxRecDepth 100000 in
theorem c_X2_scanNumber (l : Launch) (G : kG) {I : kI} {L : kL} {X : kX} {pm : Nat → Nat} (hR : Refs X pm) {T : Nat → Int32} {k : Nat} (hk : k ≤ 100) (hI2 : I 130 2 = nI k) (hT : ∀ j, j < k → I 131 j = T j) {p : Nat} (hp : p ≤ k) (hI4 : I 130 4 = nI p) (i : Nat) (hi : i < 20) (w : Nat) (hw : w < 4) (mx : Int32)  : Kz l yX2_scanNumber cX2_scanNumber 7 2 G [.ref (ad G 130), .ref (ad G (133 + i)), .int (nI w), .int mx] 153 153 I L X (fun z I' L' X' => z = (nmb T k mx p).1 ∧ I' = (if (nmb T k mx p).1 = true then up2 (up2 I 130 4 (nI (nmb T k mx p).2.1)) (133 + i) w (nmb T k mx p).2.2 else up2 I 130 4 (nI (nmb T k mx p).2.1)) ∧ L = L' ∧ X = X') := by
  refine Kz_intro (own := RX2) (lv0 := [some (.ref (ad G 130)), some (.ref (ad G (133 + i))), some (.int (nI w)), some (.int mx), none, none, none]) 3 (by decide +kernel) rfl rfl (Nat.le_of_ble_eq_true rfl) (Nat.le_refl _) (fun J hM hret => ?_)
  refine q_aload_n hM dX2_scanNumber_0 rfl ?_
  refine callV_v hM mi_X2_skipBlanks lk_X2_46 cf_X2 (by decide) (by decide) (c_X2_skipBlanks l G hR hk hI2 hT hp hI4) rfl rfl (by decide) (Nat.le_refl _) (by omega) (Nat.le_of_ble_eq_true rfl) dX2_scanNumber_1 (fun I9 L9 X9 hp9 => ?_)
  obtain ⟨rfl, rfl, rfl⟩ := hp9
  have hqk := sk_le (T := T) hp
  obtain ⟨q, hq⟩ : ∃ q, sk T k p = q := ⟨_, rfl⟩
  rw [hq] at hqk ⊢
  unfold nmb at hret
  rw [hq] at hret
  refine q_aload_n hM dX2_scanNumber_4 rfl ?_
  refine g_X2_27 hM (by decide) (by decide) dX2_scanNumber_5 ?_
  refine q_topi (nI q) (up2_self _ _ _ _) ?_
  refine si_7_4 hM dX2_scanNumber_8 ?_
  refine q_iconst (v := 0) hM dX2_scanNumber_10 (by decide) ?_
  refine si_7_5 hM dX2_scanNumber_11 ?_
  have loop : ∀ (m j : Nat), q + j ≤ k → k < q + j + m → j + dC T k (q + j) = dC T k q → J 153 (up2 I 130 4 (nI (q + j))) L X 13 [some (.ref (ad G 130)), some (.ref (ad G (133 + i))), some (.int (nI w)), some (.int mx), some (.int (nI q)), some (.int (vl T q j)), none] [] := by
    intro m
    induction m with
    | zero => intros; omega
    | succ m ih =>
      intro j h1 h2 hd
      refine q_aload_n hM dX2_scanNumber_13 rfl ?_
      refine g_X2_27 hM (by decide) (by decide) dX2_scanNumber_14 ?_
      refine q_topi (nI (q + j)) (up2_self _ _ _ _) ?_
      refine q_aload_n hM dX2_scanNumber_17 rfl ?_
      refine g_X2_20 hM (by decide) (by decide) dX2_scanNumber_18 ?_
      refine q_topi (nI k) ((up2_ne (Or.inr (by decide))).trans hI2) ?_
      refine q_icmp_geN (tgt := 72) hM (q + j) k rfl rfl (by omega) (by omega) dX2_scanNumber_21 (by decide) (fun c21 => ?_) (fun c21 => ?_)
      · have hj : j = dC T k q := by rw [dC_stop (fun z => by omega)] at hd; omega
        refine q_aload_n hM dX2_scanNumber_72 rfl ?_
        refine g_X2_27 hM (by decide) (by decide) dX2_scanNumber_73 ?_
        refine q_topi (nI (q + j)) (up2_self _ _ _ _) ?_
        refine q_iload hM dX2_scanNumber_76 rfl ?_
        refine q_isub hM dX2_scanNumber_78 ?_
        refine q_topi (nI j) (by rw [pk_sub (by omega), Nat.add_sub_cancel_left]) ?_
        refine si_7_6 hM dX2_scanNumber_79 ?_
        refine q_iload hM dX2_scanNumber_81 rfl ?_
        refine q_iconst (v := 1) hM dX2_scanNumber_83 (by decide) ?_
        refine q_iconst (v := 3) hM dX2_scanNumber_84 (by decide) ?_
        refine callSNe_z hM mi_X6_isWithin lk_X2_52 (c_X6_isWithin l G _ _ _) rfl rfl (by decide) (Nat.le_refl _) (by omega) (Nat.le_of_ble_eq_true rfl) dX2_scanNumber_85 ?_
        refine q_ifd_eq (tgt := 97) hM dX2_scanNumber_88 (by decide) (fun c88 => ?_) (fun c88 => ?_)
        · have hno : ¬ ((1 ≤ dC T k q ∧ dC T k q ≤ 3) ∧ vl T q (dC T k q) ≤ mx) := fun z => c88 ((w13 (by omega)).mpr (by rw [hj]; exact z.1))
          refine q_aload_n hM dX2_scanNumber_97 rfl ?_
          refine q_iload hM dX2_scanNumber_98 rfl ?_
          refine p_X2_27 hM (by decide) (by decide) dX2_scanNumber_100 ?_
          rw [up2_up2]
          refine q_iconst (v := 0) hM dX2_scanNumber_103 (by decide) ?_
          rw [if_neg hno] at hret
          exact hret false _ _ _ _ _ _ rfl ⟨rfl, rfl, rfl, rfl⟩ dX2_scanNumber_104
        · have h13 : 1 ≤ dC T k q ∧ dC T k q ≤ 3 := by rw [← hj]; exact (w13 (by omega)).mp c88
          refine q_iload hM dX2_scanNumber_91 rfl ?_
          refine q_iload_n hM dX2_scanNumber_93 rfl ?_
          refine q_icmp_le (tgt := 105) hM dX2_scanNumber_94 (by decide) (fun c94 => ?_) (fun c94 => ?_)
          · have hyes : (1 ≤ dC T k q ∧ dC T k q ≤ 3) ∧ vl T q (dC T k q) ≤ mx := ⟨h13, by rw [← hj]; exact c94⟩
            refine q_aload_n hM dX2_scanNumber_105 rfl ?_
            refine q_iload_n hM dX2_scanNumber_106 rfl ?_
            refine q_iload hM dX2_scanNumber_107 rfl ?_
            refine q_iast (r := 133 + i) hM (by omega) (rowK hi).1 w rfl (by rw [(rowK hi).2]; exact hw) dX2_scanNumber_109 ?_
            refine q_iconst (v := 1) hM dX2_scanNumber_110 (by decide) ?_
            rw [if_pos hyes, ← hj] at hret
            exact hret true _ _ _ _ _ _ rfl ⟨rfl, rfl, rfl, rfl⟩ dX2_scanNumber_111
          · have hno : ¬ ((1 ≤ dC T k q ∧ dC T k q ≤ 3) ∧ vl T q (dC T k q) ≤ mx) := fun z => c94 (by rw [hj]; exact z.2)
            refine q_aload_n hM dX2_scanNumber_97 rfl ?_
            refine q_iload hM dX2_scanNumber_98 rfl ?_
            refine p_X2_27 hM (by decide) (by decide) dX2_scanNumber_100 ?_
            rw [up2_up2]
            refine q_iconst (v := 0) hM dX2_scanNumber_103 (by decide) ?_
            rw [if_neg hno] at hret
            exact hret false _ _ _ _ _ _ rfl ⟨rfl, rfl, rfl, rfl⟩ dX2_scanNumber_104
      · refine q_aload_n hM dX2_scanNumber_24 rfl ?_
        refine g_X2_9 hM (by decide) (by decide) hR.t0 dX2_scanNumber_25 ?_
        refine q_aload_n hM dX2_scanNumber_28 rfl ?_
        refine g_X2_27 hM (by decide) (by decide) dX2_scanNumber_29 ?_
        refine q_topi (nI (q + j)) (up2_self _ _ _ _) ?_
        refine q_iald (r := 131) hM (by decide) (by decide) (q + j) rfl (show q + j < 100 by omega) dX2_scanNumber_32 ?_
        refine q_topi (T (q + j)) ((congrFun (up2_row (show 131 ≠ 130 by decide)) _).trans (hT _ c21)) ?_
        refine callSe_z hM mi_X2_isDigit lk_X2_49 (c_X2_isDigit l G _) rfl rfl (by decide) (Nat.le_refl _) (by omega) (Nat.le_of_ble_eq_true rfl) dX2_scanNumber_33 ?_
        refine q_ifd_eq (tgt := 72) hM dX2_scanNumber_36 (by decide) (fun c36 => ?_) (fun c36 => ?_)
        · have hj : j = dC T k q := by rw [dC_stop (fun z => c36 z.2)] at hd; omega
          refine q_aload_n hM dX2_scanNumber_72 rfl ?_
          refine g_X2_27 hM (by decide) (by decide) dX2_scanNumber_73 ?_
          refine q_topi (nI (q + j)) (up2_self _ _ _ _) ?_
          refine q_iload hM dX2_scanNumber_76 rfl ?_
          refine q_isub hM dX2_scanNumber_78 ?_
          refine q_topi (nI j) (by rw [pk_sub (by omega), Nat.add_sub_cancel_left]) ?_
          refine si_7_6 hM dX2_scanNumber_79 ?_
          refine q_iload hM dX2_scanNumber_81 rfl ?_
          refine q_iconst (v := 1) hM dX2_scanNumber_83 (by decide) ?_
          refine q_iconst (v := 3) hM dX2_scanNumber_84 (by decide) ?_
          refine callSNe_z hM mi_X6_isWithin lk_X2_52 (c_X6_isWithin l G _ _ _) rfl rfl (by decide) (Nat.le_refl _) (by omega) (Nat.le_of_ble_eq_true rfl) dX2_scanNumber_85 ?_
          refine q_ifd_eq (tgt := 97) hM dX2_scanNumber_88 (by decide) (fun c88 => ?_) (fun c88 => ?_)
          · have hno : ¬ ((1 ≤ dC T k q ∧ dC T k q ≤ 3) ∧ vl T q (dC T k q) ≤ mx) := fun z => c88 ((w13 (by omega)).mpr (by rw [hj]; exact z.1))
            refine q_aload_n hM dX2_scanNumber_97 rfl ?_
            refine q_iload hM dX2_scanNumber_98 rfl ?_
            refine p_X2_27 hM (by decide) (by decide) dX2_scanNumber_100 ?_
            rw [up2_up2]
            refine q_iconst (v := 0) hM dX2_scanNumber_103 (by decide) ?_
            rw [if_neg hno] at hret
            exact hret false _ _ _ _ _ _ rfl ⟨rfl, rfl, rfl, rfl⟩ dX2_scanNumber_104
          · have h13 : 1 ≤ dC T k q ∧ dC T k q ≤ 3 := by rw [← hj]; exact (w13 (by omega)).mp c88
            refine q_iload hM dX2_scanNumber_91 rfl ?_
            refine q_iload_n hM dX2_scanNumber_93 rfl ?_
            refine q_icmp_le (tgt := 105) hM dX2_scanNumber_94 (by decide) (fun c94 => ?_) (fun c94 => ?_)
            · have hyes : (1 ≤ dC T k q ∧ dC T k q ≤ 3) ∧ vl T q (dC T k q) ≤ mx := ⟨h13, by rw [← hj]; exact c94⟩
              refine q_aload_n hM dX2_scanNumber_105 rfl ?_
              refine q_iload_n hM dX2_scanNumber_106 rfl ?_
              refine q_iload hM dX2_scanNumber_107 rfl ?_
              refine q_iast (r := 133 + i) hM (by omega) (rowK hi).1 w rfl (by rw [(rowK hi).2]; exact hw) dX2_scanNumber_109 ?_
              refine q_iconst (v := 1) hM dX2_scanNumber_110 (by decide) ?_
              rw [if_pos hyes, ← hj] at hret
              exact hret true _ _ _ _ _ _ rfl ⟨rfl, rfl, rfl, rfl⟩ dX2_scanNumber_111
            · have hno : ¬ ((1 ≤ dC T k q ∧ dC T k q ≤ 3) ∧ vl T q (dC T k q) ≤ mx) := fun z => c94 (by rw [hj]; exact z.2)
              refine q_aload_n hM dX2_scanNumber_97 rfl ?_
              refine q_iload hM dX2_scanNumber_98 rfl ?_
              refine p_X2_27 hM (by decide) (by decide) dX2_scanNumber_100 ?_
              rw [up2_up2]
              refine q_iconst (v := 0) hM dX2_scanNumber_103 (by decide) ?_
              rw [if_neg hno] at hret
              exact hret false _ _ _ _ _ _ rfl ⟨rfl, rfl, rfl, rfl⟩ dX2_scanNumber_104
        · refine q_bipush (v := 10) hM dX2_scanNumber_39 (by decide) ?_
          refine q_iload hM dX2_scanNumber_41 rfl ?_
          refine q_imul hM dX2_scanNumber_43 ?_
          refine q_aload_n hM dX2_scanNumber_44 rfl ?_
          refine g_X2_9 hM (by decide) (by decide) hR.t0 dX2_scanNumber_45 ?_
          refine q_aload_n hM dX2_scanNumber_48 rfl ?_
          refine g_X2_27 hM (by decide) (by decide) dX2_scanNumber_49 ?_
          refine q_topi (nI (q + j)) (up2_self _ _ _ _) ?_
          refine q_iald (r := 131) hM (by decide) (by decide) (q + j) rfl (show q + j < 100 by omega) dX2_scanNumber_52 ?_
          refine q_topi (T (q + j)) ((congrFun (up2_row (show 131 ≠ 130 by decide)) _).trans (hT _ c21)) ?_
          refine q_iadd hM dX2_scanNumber_53 ?_
          refine q_bipush (v := 48) hM dX2_scanNumber_54 (by decide) ?_
          refine q_isub hM dX2_scanNumber_56 ?_
          refine q_topi (vl T q (j + 1)) rfl ?_
          refine si_7_5 hM dX2_scanNumber_57 ?_
          refine q_aload_n hM dX2_scanNumber_59 rfl ?_
          refine q_dup hM dX2_scanNumber_60 rfl ?_
          refine g_X2_27 hM (by decide) (by decide) dX2_scanNumber_61 ?_
          refine q_topi (nI (q + j)) (up2_self _ _ _ _) ?_
          refine q_iconst (v := 1) hM dX2_scanNumber_64 (by decide) ?_
          refine q_iadd hM dX2_scanNumber_65 ?_
          refine q_topi (nI (q + (j + 1))) (nI_1 _) ?_
          refine p_X2_27 hM (by decide) (by decide) dX2_scanNumber_66 ?_
          rw [up2_up2]
          refine q_goto (tgt := 13) hM dX2_scanNumber_69 (by decide) ?_
          exact ih (j + 1) (by omega) (by omega) (by have := dC_step c21 c36; rw [show q + (j + 1) = q + j + 1 by omega]; omega)
  exact loop (k + 1) 0 hqk (by omega) (Nat.zero_add _)
set_option maxHeartbeats 4000000 in
set_option maxRecDepth 100000 in
theorem c_X2_scanReading (l : Launch) (G : kG) {I : kI} {L : kL} {X : kX} {pm : Nat → Nat} (hR : Refs X pm) {T : Nat → Int32} {k : Nat} (hk : k ≤ 100) (hI2 : I 130 2 = nI k) (hT : ∀ j, j < k → I 131 j = T j) {p : Nat} (hp : p ≤ k) (hI4 : I 130 4 = nI p) (i : Nat) (hi : i < 20) (n : Int32)  : Kz l yX2_scanReading cX2_scanReading 3 3 G [.ref (ad G 130), .ref (ad G (133 + i)), .int n] 153 153 I L X (fun z I' L' X' => z = (rdg T k n p).1 ∧ (I' 130 4 = nI (rdg T k n p).2.1 ∧ (z = true → I' (133 + i) 0 = (rdg T k n p).2.2.1 ∧ I' (133 + i) 1 = (rdg T k n p).2.2.2.1 ∧ I' (133 + i) 2 = (rdg T k n p).2.2.2.2.1 ∧ I' (133 + i) 3 = (rdg T k n p).2.2.2.2.2) ∧ (∀ r, r ≠ 130 → r ≠ 133 + i → I' r = I r) ∧ ∀ j, j ≠ 4 → I' 130 j = I 130 j) ∧ L = L' ∧ X = X') := by
  refine Kz_intro (own := RX2) (lv0 := [some (.ref (ad G 130)), some (.ref (ad G (133 + i))), some (.int n)]) 0 (by decide +kernel) rfl rfl (Nat.le_of_ble_eq_true rfl) (Nat.le_refl _) (fun J hM hret => ?_)
  refine q_aload_n hM dX2_scanReading_0 rfl ?_
  refine q_iconst (v := 3) hM dX2_scanReading_1 (by decide) ?_
  refine q_iconst (v := 0) hM dX2_scanReading_2 (by decide) ?_
  refine q_iast (r := 133 + i) hM (by omega) (rowK hi).1 3 rfl (by rw [(rowK hi).2]; decide) dX2_scanReading_3 ?_
  obtain ⟨I0, e0, s0, z3⟩ := Sc.start hI4 hi
  rw [e0]
  refine q_aload_n hM dX2_scanReading_4 rfl ?_
  refine q_aload_n hM dX2_scanReading_5 rfl ?_
  refine q_iconst (v := 0) hM dX2_scanReading_6 (by decide) ?_
  refine q_iload_n hM dX2_scanReading_7 rfl ?_
  refine q_iconst (v := 1) hM dX2_scanReading_8 (by decide) ?_
  refine q_isub hM dX2_scanReading_9 ?_
  refine callV_z hM mi_X2_scanNumber lk_X2_42 cf_X2 (by decide) (by decide) (c_X2_scanNumber l G hR hk (s0.i2 hI2) (s0.t hT hi) hp s0.1 i hi 0 (by decide) (n - 1)) rfl rfl (by decide) (Nat.le_refl _) (by omega) (Nat.le_of_ble_eq_true rfl) dX2_scanReading_10 (fun z9 I9 L9 X9 hp9 => ?_)
  obtain ⟨hz9, rfl, rfl, rfl⟩ := hp9
  refine q_topb ((nmb T k (n - 1) p).1 = true) (hz9.trans (bdec _)) ?_
  refine q_ifd_eq (tgt := 82) hM dX2_scanReading_13 (by decide) (fun c13 => ?_) (fun c13 => ?_)
  · rw [if_neg c13]
    obtain ⟨I1, e1, s1, f1⟩ := s0.sg (nmb T k (n - 1) p).2.1 hi
    rw [e1]
    refine q_iconst (v := 0) hM dX2_scanReading_82 (by decide) ?_
    have er : rdg T k n p = (false, (nmb T k (n - 1) p).2.1, 0, 0, 0, 0) := by unfold rdg; rw [if_neg c13]
    rw [er] at hret
    exact hret false _ _ _ _ _ _ rfl ⟨rfl, ⟨s1.1, fun q => absurd q Bool.false_ne_true, s1.2.1, s1.2.2⟩, rfl, rfl⟩ dX2_scanReading_83
  · rw [if_pos c13]
    obtain ⟨I1, e1, s1, r1, f1⟩ := s0.num (nmb T k (n - 1) p).2.1 hi 0 (nmb T k (n - 1) p).2.2
    rw [e1]
    have l1 := (nmb_ok hp c13).2.1
    refine q_aload_n hM dX2_scanReading_16 rfl ?_
    refine q_bipush (v := 58) hM dX2_scanReading_17 (by decide) ?_
    refine callV_z hM mi_X2_scanSign lk_X2_38 cf_X2 (by decide) (by decide) (c_X2_scanSign l G hR hk (s1.i2 hI2) (s1.t hT hi) l1 s1.1 58) rfl rfl (by decide) (Nat.le_refl _) (by omega) (Nat.le_of_ble_eq_true rfl) dX2_scanReading_19 (fun z9 I9 L9 X9 hp9 => ?_)
    obtain ⟨hz9, rfl, rfl, rfl⟩ := hp9
    refine q_topb ((sgn T k 58 (nmb T k (n - 1) p).2.1).1 = true) (hz9.trans (bdec _)) ?_
    refine q_ifd_eq (tgt := 82) hM dX2_scanReading_22 (by decide) (fun c22 => ?_) (fun c22 => ?_)
    · obtain ⟨I2, e2, s2, f2⟩ := s1.sg (sgn T k 58 (nmb T k (n - 1) p).2.1).2 hi
      rw [e2]
      have l2 := sgn_le (T := T) (c := 58) l1
      refine q_iconst (v := 0) hM dX2_scanReading_82 (by decide) ?_
      have er : rdg T k n p = (false, (sgn T k 58 (nmb T k (n - 1) p).2.1).2, 0, 0, 0, 0) := by unfold rdg; rw [if_pos c13]; unfold rdg2; rw [if_neg c22]
      rw [er] at hret
      exact hret false _ _ _ _ _ _ rfl ⟨rfl, ⟨s2.1, fun q => absurd q Bool.false_ne_true, s2.2.1, s2.2.2⟩, rfl, rfl⟩ dX2_scanReading_83
    · obtain ⟨I2, e2, s2, f2⟩ := s1.sg (sgn T k 58 (nmb T k (n - 1) p).2.1).2 hi
      rw [e2]
      have l2 := sgn_le (T := T) (c := 58) l1
      refine q_aload_n hM dX2_scanReading_25 rfl ?_
      refine q_aload_n hM dX2_scanReading_26 rfl ?_
      refine q_iconst (v := 1) hM dX2_scanReading_27 (by decide) ?_
      refine q_sipush (v := 300) hM dX2_scanReading_28 (by decide) ?_
      refine callV_z hM mi_X2_scanNumber lk_X2_42 cf_X2 (by decide) (by decide) (c_X2_scanNumber l G hR hk (s2.i2 hI2) (s2.t hT hi) l2 s2.1 i hi 1 (by decide) 300) rfl rfl (by decide) (Nat.le_refl _) (by omega) (Nat.le_of_ble_eq_true rfl) dX2_scanReading_31 (fun z9 I9 L9 X9 hp9 => ?_)
      obtain ⟨hz9, rfl, rfl, rfl⟩ := hp9
      refine q_topb ((nmb T k 300 (sgn T k 58 (nmb T k (n - 1) p).2.1).2).1 = true) (hz9.trans (bdec _)) ?_
      refine q_ifd_eq (tgt := 82) hM dX2_scanReading_34 (by decide) (fun c34 => ?_) (fun c34 => ?_)
      · rw [if_neg c34]
        obtain ⟨I3, e3, s3, f3⟩ := s2.sg (nmb T k 300 (sgn T k 58 (nmb T k (n - 1) p).2.1).2).2.1 hi
        rw [e3]
        refine q_iconst (v := 0) hM dX2_scanReading_82 (by decide) ?_
        have er : rdg T k n p = (false, (nmb T k 300 (sgn T k 58 (nmb T k (n - 1) p).2.1).2).2.1, 0, 0, 0, 0) := by unfold rdg; rw [if_pos c13]; unfold rdg2; rw [if_pos c22]; rw [if_neg c34]
        rw [er] at hret
        exact hret false _ _ _ _ _ _ rfl ⟨rfl, ⟨s3.1, fun q => absurd q Bool.false_ne_true, s3.2.1, s3.2.2⟩, rfl, rfl⟩ dX2_scanReading_83
      · rw [if_pos c34]
        obtain ⟨I3, e3, s3, r3, f3⟩ := s2.num (nmb T k 300 (sgn T k 58 (nmb T k (n - 1) p).2.1).2).2.1 hi 1 (nmb T k 300 (sgn T k 58 (nmb T k (n - 1) p).2.1).2).2.2
        rw [e3]
        have l3 := (nmb_ok l2 c34).2.1
        refine q_aload_n hM dX2_scanReading_37 rfl ?_
        refine q_bipush (v := 47) hM dX2_scanReading_38 (by decide) ?_
        refine callV_z hM mi_X2_scanSign lk_X2_38 cf_X2 (by decide) (by decide) (c_X2_scanSign l G hR hk (s3.i2 hI2) (s3.t hT hi) l3 s3.1 47) rfl rfl (by decide) (Nat.le_refl _) (by omega) (Nat.le_of_ble_eq_true rfl) dX2_scanReading_40 (fun z9 I9 L9 X9 hp9 => ?_)
        obtain ⟨hz9, rfl, rfl, rfl⟩ := hp9
        refine q_topb ((sgn T k 47 (nmb T k 300 (sgn T k 58 (nmb T k (n - 1) p).2.1).2).2.1).1 = true) (hz9.trans (bdec _)) ?_
        refine q_ifd_eq (tgt := 82) hM dX2_scanReading_43 (by decide) (fun c43 => ?_) (fun c43 => ?_)
        · obtain ⟨I4, e4, s4, f4⟩ := s3.sg (sgn T k 47 (nmb T k 300 (sgn T k 58 (nmb T k (n - 1) p).2.1).2).2.1).2 hi
          rw [e4]
          have l4 := sgn_le (T := T) (c := 47) l3
          refine q_iconst (v := 0) hM dX2_scanReading_82 (by decide) ?_
          have er : rdg T k n p = (false, (sgn T k 47 (nmb T k 300 (sgn T k 58 (nmb T k (n - 1) p).2.1).2).2.1).2, 0, 0, 0, 0) := by unfold rdg; rw [if_pos c13]; unfold rdg2; rw [if_pos c22]; rw [if_pos c34]; unfold rdg3; rw [if_neg c43]
          rw [er] at hret
          exact hret false _ _ _ _ _ _ rfl ⟨rfl, ⟨s4.1, fun q => absurd q Bool.false_ne_true, s4.2.1, s4.2.2⟩, rfl, rfl⟩ dX2_scanReading_83
        · obtain ⟨I4, e4, s4, f4⟩ := s3.sg (sgn T k 47 (nmb T k 300 (sgn T k 58 (nmb T k (n - 1) p).2.1).2).2.1).2 hi
          rw [e4]
          have l4 := sgn_le (T := T) (c := 47) l3
          refine q_aload_n hM dX2_scanReading_46 rfl ?_
          refine q_aload_n hM dX2_scanReading_47 rfl ?_
          refine q_iconst (v := 2) hM dX2_scanReading_48 (by decide) ?_
          refine q_sipush (v := 300) hM dX2_scanReading_49 (by decide) ?_
          refine callV_z hM mi_X2_scanNumber lk_X2_42 cf_X2 (by decide) (by decide) (c_X2_scanNumber l G hR hk (s4.i2 hI2) (s4.t hT hi) l4 s4.1 i hi 2 (by decide) 300) rfl rfl (by decide) (Nat.le_refl _) (by omega) (Nat.le_of_ble_eq_true rfl) dX2_scanReading_52 (fun z9 I9 L9 X9 hp9 => ?_)
          obtain ⟨hz9, rfl, rfl, rfl⟩ := hp9
          refine q_topb ((nmb T k 300 (sgn T k 47 (nmb T k 300 (sgn T k 58 (nmb T k (n - 1) p).2.1).2).2.1).2).1 = true) (hz9.trans (bdec _)) ?_
          refine q_ifd_eq (tgt := 82) hM dX2_scanReading_55 (by decide) (fun c55 => ?_) (fun c55 => ?_)
          · rw [if_neg c55]
            obtain ⟨I5, e5, s5, f5⟩ := s4.sg (nmb T k 300 (sgn T k 47 (nmb T k 300 (sgn T k 58 (nmb T k (n - 1) p).2.1).2).2.1).2).2.1 hi
            rw [e5]
            refine q_iconst (v := 0) hM dX2_scanReading_82 (by decide) ?_
            have er : rdg T k n p = (false, (nmb T k 300 (sgn T k 47 (nmb T k 300 (sgn T k 58 (nmb T k (n - 1) p).2.1).2).2.1).2).2.1, 0, 0, 0, 0) := by unfold rdg; rw [if_pos c13]; unfold rdg2; rw [if_pos c22]; rw [if_pos c34]; unfold rdg3; rw [if_pos c43]; rw [if_neg c55]
            rw [er] at hret
            exact hret false _ _ _ _ _ _ rfl ⟨rfl, ⟨s5.1, fun q => absurd q Bool.false_ne_true, s5.2.1, s5.2.2⟩, rfl, rfl⟩ dX2_scanReading_83
          · rw [if_pos c55]
            obtain ⟨I5, e5, s5, r5, f5⟩ := s4.num (nmb T k 300 (sgn T k 47 (nmb T k 300 (sgn T k 58 (nmb T k (n - 1) p).2.1).2).2.1).2).2.1 hi 2 (nmb T k 300 (sgn T k 47 (nmb T k 300 (sgn T k 58 (nmb T k (n - 1) p).2.1).2).2.1).2).2.2
            rw [e5]
            have l5 := (nmb_ok l4 c55).2.1
            refine q_aload_n hM dX2_scanReading_58 rfl ?_
            refine q_bipush (v := 64) hM dX2_scanReading_59 (by decide) ?_
            refine callV_z hM mi_X2_scanSign lk_X2_38 cf_X2 (by decide) (by decide) (c_X2_scanSign l G hR hk (s5.i2 hI2) (s5.t hT hi) l5 s5.1 64) rfl rfl (by decide) (Nat.le_refl _) (by omega) (Nat.le_of_ble_eq_true rfl) dX2_scanReading_61 (fun z9 I9 L9 X9 hp9 => ?_)
            obtain ⟨hz9, rfl, rfl, rfl⟩ := hp9
            refine q_topb ((sgn T k 64 (nmb T k 300 (sgn T k 47 (nmb T k 300 (sgn T k 58 (nmb T k (n - 1) p).2.1).2).2.1).2).2.1).1 = true) (hz9.trans (bdec _)) ?_
            refine q_ifd_eq (tgt := 78) hM dX2_scanReading_64 (by decide) (fun c64 => ?_) (fun c64 => ?_)
            · obtain ⟨I6, e6, s6, f6⟩ := s5.sg (sgn T k 64 (nmb T k 300 (sgn T k 47 (nmb T k 300 (sgn T k 58 (nmb T k (n - 1) p).2.1).2).2.1).2).2.1).2 hi
              rw [e6]
              have l6 := sgn_le (T := T) (c := 64) l5
              refine q_iconst (v := 1) hM dX2_scanReading_78 (by decide) ?_
              refine q_goto (tgt := 83) hM dX2_scanReading_79 (by decide) ?_
              have er : rdg T k n p = (true, (sgn T k 64 (nmb T k 300 (sgn T k 47 (nmb T k 300 (sgn T k 58 (nmb T k (n - 1) p).2.1).2).2.1).2).2.1).2, (nmb T k (n - 1) p).2.2, (nmb T k 300 (sgn T k 58 (nmb T k (n - 1) p).2.1).2).2.2, (nmb T k 300 (sgn T k 47 (nmb T k 300 (sgn T k 58 (nmb T k (n - 1) p).2.1).2).2.1).2).2.2, 0) := by unfold rdg; rw [if_pos c13]; unfold rdg2; rw [if_pos c22]; rw [if_pos c34]; unfold rdg3; rw [if_pos c43]; rw [if_pos c55]; unfold rdg4; rw [if_neg c64]
              rw [er] at hret
              exact hret true _ _ _ _ _ _ rfl ⟨rfl, ⟨s6.1, fun _ => ⟨(f6 0).trans ((f5 0 (by decide)).trans ((f4 0).trans ((f3 0 (by decide)).trans ((f2 0).trans r1)))), (f6 1).trans ((f5 1 (by decide)).trans ((f4 1).trans r3)), (f6 2).trans r5, (f6 3).trans ((f5 3 (by decide)).trans ((f4 3).trans ((f3 3 (by decide)).trans ((f2 3).trans ((f1 3 (by decide)).trans z3)))))⟩, s6.2.1, s6.2.2⟩, rfl, rfl⟩ dX2_scanReading_83
            · obtain ⟨I6, e6, s6, f6⟩ := s5.sg (sgn T k 64 (nmb T k 300 (sgn T k 47 (nmb T k 300 (sgn T k 58 (nmb T k (n - 1) p).2.1).2).2.1).2).2.1).2 hi
              rw [e6]
              have l6 := sgn_le (T := T) (c := 64) l5
              refine q_aload_n hM dX2_scanReading_67 rfl ?_
              refine q_aload_n hM dX2_scanReading_68 rfl ?_
              refine q_iconst (v := 3) hM dX2_scanReading_69 (by decide) ?_
              refine q_bipush (v := 60) hM dX2_scanReading_70 (by decide) ?_
              refine callV_z hM mi_X2_scanNumber lk_X2_42 cf_X2 (by decide) (by decide) (c_X2_scanNumber l G hR hk (s6.i2 hI2) (s6.t hT hi) l6 s6.1 i hi 3 (by decide) 60) rfl rfl (by decide) (Nat.le_refl _) (by omega) (Nat.le_of_ble_eq_true rfl) dX2_scanReading_72 (fun z9 I9 L9 X9 hp9 => ?_)
              obtain ⟨hz9, rfl, rfl, rfl⟩ := hp9
              refine q_topb ((nmb T k 60 (sgn T k 64 (nmb T k 300 (sgn T k 47 (nmb T k 300 (sgn T k 58 (nmb T k (n - 1) p).2.1).2).2.1).2).2.1).2).1 = true) (hz9.trans (bdec _)) ?_
              refine q_ifd_eq (tgt := 82) hM dX2_scanReading_75 (by decide) (fun c75 => ?_) (fun c75 => ?_)
              · rw [if_neg c75]
                obtain ⟨I7, e7, s7, f7⟩ := s6.sg (nmb T k 60 (sgn T k 64 (nmb T k 300 (sgn T k 47 (nmb T k 300 (sgn T k 58 (nmb T k (n - 1) p).2.1).2).2.1).2).2.1).2).2.1 hi
                rw [e7]
                refine q_iconst (v := 0) hM dX2_scanReading_82 (by decide) ?_
                have er : rdg T k n p = (false, (nmb T k 60 (sgn T k 64 (nmb T k 300 (sgn T k 47 (nmb T k 300 (sgn T k 58 (nmb T k (n - 1) p).2.1).2).2.1).2).2.1).2).2.1, 0, 0, 0, 0) := by unfold rdg; rw [if_pos c13]; unfold rdg2; rw [if_pos c22]; rw [if_pos c34]; unfold rdg3; rw [if_pos c43]; rw [if_pos c55]; unfold rdg4; rw [if_pos c64]; rw [if_neg c75]
                rw [er] at hret
                exact hret false _ _ _ _ _ _ rfl ⟨rfl, ⟨s7.1, fun q => absurd q Bool.false_ne_true, s7.2.1, s7.2.2⟩, rfl, rfl⟩ dX2_scanReading_83
              · rw [if_pos c75]
                obtain ⟨I7, e7, s7, r7, f7⟩ := s6.num (nmb T k 60 (sgn T k 64 (nmb T k 300 (sgn T k 47 (nmb T k 300 (sgn T k 58 (nmb T k (n - 1) p).2.1).2).2.1).2).2.1).2).2.1 hi 3 (nmb T k 60 (sgn T k 64 (nmb T k 300 (sgn T k 47 (nmb T k 300 (sgn T k 58 (nmb T k (n - 1) p).2.1).2).2.1).2).2.1).2).2.2
                rw [e7]
                have l7 := (nmb_ok l6 c75).2.1
                refine q_iconst (v := 1) hM dX2_scanReading_78 (by decide) ?_
                refine q_goto (tgt := 83) hM dX2_scanReading_79 (by decide) ?_
                have er : rdg T k n p = (true, (nmb T k 60 (sgn T k 64 (nmb T k 300 (sgn T k 47 (nmb T k 300 (sgn T k 58 (nmb T k (n - 1) p).2.1).2).2.1).2).2.1).2).2.1, (nmb T k (n - 1) p).2.2, (nmb T k 300 (sgn T k 58 (nmb T k (n - 1) p).2.1).2).2.2, (nmb T k 300 (sgn T k 47 (nmb T k 300 (sgn T k 58 (nmb T k (n - 1) p).2.1).2).2.1).2).2.2, (nmb T k 60 (sgn T k 64 (nmb T k 300 (sgn T k 47 (nmb T k 300 (sgn T k 58 (nmb T k (n - 1) p).2.1).2).2.1).2).2.1).2).2.2) := by unfold rdg; rw [if_pos c13]; unfold rdg2; rw [if_pos c22]; rw [if_pos c34]; unfold rdg3; rw [if_pos c43]; rw [if_pos c55]; unfold rdg4; rw [if_pos c64]; rw [if_pos c75]
                rw [er] at hret
                exact hret true _ _ _ _ _ _ rfl ⟨rfl, ⟨s7.1, fun _ => ⟨(f7 0 (by decide)).trans ((f6 0).trans ((f5 0 (by decide)).trans ((f4 0).trans ((f3 0 (by decide)).trans ((f2 0).trans r1))))), (f7 1 (by decide)).trans ((f6 1).trans ((f5 1 (by decide)).trans ((f4 1).trans r3))), (f7 2 (by decide)).trans ((f6 2).trans r5), r7⟩, s7.2.1, s7.2.2⟩, rfl, rfl⟩ dX2_scanReading_83
