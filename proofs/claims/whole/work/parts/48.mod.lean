/-! ===== the reference's text ===== -/
theorem nv_lt {T : Nat → Int32} {q j : Nat} (h : j < 4) : 10 * vl T q (min j 4) + T (q + j) - 48 = vl T q (min (j + 1) 4) := by
  rw [Nat.min_eq_left (by omega), Nat.min_eq_left (by omega), vl]
theorem nv_ge {T : Nat → Int32} {q j : Nat} (h : 4 ≤ j) : vl T q (min j 4) = vl T q (min (j + 1) 4) := by
  rw [Nat.min_eq_right (by omega), Nat.min_eq_right (by omega)]
theorem dg_neg {x : Int32} (h : dg x) (h2 : x < 0) : False := by
  have h1 := h.1
  rw [le_i, show (48 : Int32).toInt = 48 from rfl] at h1
  rw [lt_i, i0] at h2
  omega
def rdA (f : Fr) (d : Bool) (r : kRd) : Fr := if d = true ∧ r.1 = true then readF f (cI r.2.2.1) (sJud f (cI r.2.2.1) r.2.2.2.1 r.2.2.2.2.1 r.2.2.2.2.2) else f
theorem rdA_no {f : Fr} {d : Bool} {r : kRd} (h : r.1 = false) : rdA f d r = f := if_neg (fun z => by rw [h] at z; exact Bool.false_ne_true z.2)
def Rc (I I1 : kI) (q : Nat) : Prop := I1 153 9 = nI q ∧ (∀ r, r ≠ 153 → I1 r = I r) ∧ ∀ j, j ≠ 9 → j ≠ 10 → I1 153 j = I 153 j
theorem Rc.i8 {I I1 : kI} {p k : Nat} (h : Rc I I1 p) (h2 : I 153 8 = nI k) : I1 153 8 = nI k := (h.2.2 8 (by decide) (by decide)).trans h2
theorem Rc.t {I I1 : kI} {p k : Nat} {T : Nat → Int32} (h : Rc I I1 p) (h2 : ∀ j, j < k → I 158 j = T j) : ∀ j, j < k → I1 158 j = T j := fun j hj => by rw [h.2.1 158 (by decide)]; exact h2 j hj
theorem Rc.num {I I1 : kI} {p : Nat} (h : Rc I I1 p) (q : Nat) (v : Int32) : ∃ I2, up2 (up2 I1 153 9 (nI q)) 153 10 v = I2 ∧ Rc I I2 q ∧ I2 153 10 = v := by
  refine ⟨_, rfl, ⟨(up2_ne (Or.inr (by decide))).trans (up2_self _ _ _ _), fun r hr => ?_, fun j h1 h2 => ?_⟩, up2_self _ _ _ _⟩
  · rw [up2_row hr, up2_row hr]; exact h.2.1 r hr
  · rw [up2_ne (Or.inr h2), up2_ne (Or.inr h1)]; exact h.2.2 j h1 h2
theorem Rc.sg {I I1 : kI} {p : Nat} (h : Rc I I1 p) (q : Nat) : ∃ I2, up2 I1 153 9 (nI q) = I2 ∧ Rc I I2 q ∧ I2 153 10 = I1 153 10 := by
  refine ⟨_, rfl, ⟨up2_self _ _ _ _, fun r hr => ?_, fun j h1 h2 => ?_⟩, up2_ne (Or.inr (by decide))⟩
  · rw [up2_row hr]; exact h.2.1 r hr
  · rw [up2_ne (Or.inr h1)]; exact h.2.2 j h1 h2
theorem Rc.ten {I I1 : kI} {p : Nat} (h : Rc I I1 p) (v : Int32) : ∃ I2, up2 I1 153 10 v = I2 ∧ Rc I I2 p ∧ I2 153 10 = v := by
  refine ⟨_, rfl, ⟨(up2_ne (Or.inr (by decide))).trans h.1, fun r hr => ?_, fun j h1 h2 => ?_⟩, up2_self _ _ _ _⟩
  · rw [up2_row hr]; exact h.2.1 r hr
  · rw [up2_ne (Or.inr h2)]; exact h.2.2 j h1 h2
theorem RM.keep153 {I I' : kI} {L : kL} {X : kX} {A : kA} (hr : RM I L X A) (h : ∀ r, r ≠ 153 → I' r = I r) (h2 : I' 153 2 = I 153 2) (h8 : I' 153 8 = I 153 8) : RM I' L X A := by
  obtain ⟨h3, h4, h5, h6, h7⟩ := hr
  exact ⟨h3, ⟨fun k hk i hi => by rw [h 154 (by decide)]; exact h4.1 k hk i hi, h4.2⟩, h2.trans h5, h8.trans h6, fun j hj => by rw [h 158 (by decide)]; exact h7 j hj⟩
theorem Rc.rm {I I1 : kI} {L : kL} {X : kX} {A : kA} {p : Nat} (h : Rc I I1 p) (hr : RM I L X A) : RM I1 L X A := hr.keep153 h.2.1 (h.2.2 2 (by decide) (by decide)) (h.2.2 8 (by decide) (by decide))
theorem RM.put {I : kI} {L : kL} {X : kX} {A : kA} (hr : RM I L X A) {j : Nat} (h2 : 2 ≠ j) (h8 : 8 ≠ j) (v : Int32) : RM (up2 I 153 j v) L X A := hr.keep153 (fun r hr => up2_row hr) (up2_ne (Or.inr h2)) (up2_ne (Or.inr h8))

set_option maxHeartbeats 4000000 in
set_option maxRecDepth 100000 in
theorem c_X7_here (l : Launch) (G : kG) {I : kI} {L : kL} {X : kX} (hR : RefM X) {T : Nat → Int32} {k : Nat} (hk : k ≤ 100) (hI8 : I 153 8 = nI k) (hT : ∀ j, j < k → I 158 j = T j) {p : Nat} (hp : p ≤ k) (hI9 : I 153 9 = nI p)  : Ki l yX7_here cX7_here 1 0 G [.ref (ad G 153)] 159 159 I L X (fun v I' L' X' => v = (if sk T k p < k then T (sk T k p) else -1) ∧ I' = up2 I 153 9 (nI (sk T k p)) ∧ L = L' ∧ X = X') := by
  refine Ki_intro (own := RX7) (lv0 := [some (.ref (ad G 153))]) 0 (by decide +kernel) rfl rfl (Nat.le_of_ble_eq_true rfl) (Nat.le_refl _) (fun J hM hret => ?_)
  have loop : ∀ (m q : Nat), q ≤ k → k < q + m → sk T k q = sk T k p → J 159 (up2 I 153 9 (nI q)) L X 0 [some (.ref (ad G 153))] [] := by
    intro m
    induction m with
    | zero => intros; omega
    | succ m ih =>
      intro q h1 h2 hs
      refine q_aload_n hM dX7_here_0 rfl ?_
      refine g_X7_119 hM (by decide) (by decide) dX7_here_1 ?_
      refine q_topi (nI q) (up2_self _ _ _ _) ?_
      refine q_aload_n hM dX7_here_4 rfl ?_
      refine g_X7_116 hM (by decide) (by decide) dX7_here_5 ?_
      refine q_topi (nI k) ((up2_ne (Or.inr (by decide))).trans hI8) ?_
      refine q_icmp_geN (tgt := 38) hM q k rfl rfl (by omega) (by omega) dX7_here_8 (by decide) (fun c8 => ?_) (fun c8 => ?_)
      · rw [← hs, sk_stop (fun z => by omega)] at hret
        refine q_aload_n hM dX7_here_38 rfl ?_
        refine g_X7_119 hM (by decide) (by decide) dX7_here_39 ?_
        refine q_topi (nI q) (up2_self _ _ _ _) ?_
        refine q_aload_n hM dX7_here_42 rfl ?_
        refine g_X7_116 hM (by decide) (by decide) dX7_here_43 ?_
        refine q_topi (nI k) ((up2_ne (Or.inr (by decide))).trans hI8) ?_
        refine q_icmp_geN (tgt := 61) hM q k rfl rfl (by omega) (by omega) dX7_here_46 (by decide) (fun c46 => ?_) (fun c46 => ?_)
        · refine q_iconst (v := -1) hM dX7_here_61 (by decide) ?_
          exact hret _ _ _ _ _ _ ⟨(if_neg (by omega)).symm, rfl, rfl, rfl⟩ dX7_here_62
        · refine q_aload_n hM dX7_here_49 rfl ?_
          refine g_X7_24 hM (by decide) (by decide) hR.m7 dX7_here_50 ?_
          refine q_aload_n hM dX7_here_53 rfl ?_
          refine g_X7_119 hM (by decide) (by decide) dX7_here_54 ?_
          refine q_topi (nI q) (up2_self _ _ _ _) ?_
          refine q_iald (r := 158) hM (by decide) (by decide) (q) rfl (show q < 100 by omega) dX7_here_57 ?_
          refine q_topi (T (q)) ((congrFun (up2_row (show 158 ≠ 153 by decide)) _).trans (hT _ c46)) ?_
          refine q_goto (tgt := 62) hM dX7_here_58 (by decide) ?_
          exact hret _ _ _ _ _ _ ⟨(if_pos c46).symm, rfl, rfl, rfl⟩ dX7_here_62
      · refine q_aload_n hM dX7_here_11 rfl ?_
        refine g_X7_24 hM (by decide) (by decide) hR.m7 dX7_here_12 ?_
        refine q_aload_n hM dX7_here_15 rfl ?_
        refine g_X7_119 hM (by decide) (by decide) dX7_here_16 ?_
        refine q_topi (nI q) (up2_self _ _ _ _) ?_
        refine q_iald (r := 158) hM (by decide) (by decide) (q) rfl (show q < 100 by omega) dX7_here_19 ?_
        refine q_topi (T (q)) ((congrFun (up2_row (show 158 ≠ 153 by decide)) _).trans (hT _ c8)) ?_
        refine q_bipush (v := 32) hM dX7_here_20 (by decide) ?_
        refine q_icmp_ne (tgt := 38) hM dX7_here_22 (by decide) (fun c22 => ?_) (fun c22 => ?_)
        · rw [← hs, sk_stop (fun z => c22 z.2)] at hret
          refine q_aload_n hM dX7_here_38 rfl ?_
          refine g_X7_119 hM (by decide) (by decide) dX7_here_39 ?_
          refine q_topi (nI q) (up2_self _ _ _ _) ?_
          refine q_aload_n hM dX7_here_42 rfl ?_
          refine g_X7_116 hM (by decide) (by decide) dX7_here_43 ?_
          refine q_topi (nI k) ((up2_ne (Or.inr (by decide))).trans hI8) ?_
          refine q_icmp_geN (tgt := 61) hM q k rfl rfl (by omega) (by omega) dX7_here_46 (by decide) (fun c46 => ?_) (fun c46 => ?_)
          · refine q_iconst (v := -1) hM dX7_here_61 (by decide) ?_
            exact hret _ _ _ _ _ _ ⟨(if_neg (by omega)).symm, rfl, rfl, rfl⟩ dX7_here_62
          · refine q_aload_n hM dX7_here_49 rfl ?_
            refine g_X7_24 hM (by decide) (by decide) hR.m7 dX7_here_50 ?_
            refine q_aload_n hM dX7_here_53 rfl ?_
            refine g_X7_119 hM (by decide) (by decide) dX7_here_54 ?_
            refine q_topi (nI q) (up2_self _ _ _ _) ?_
            refine q_iald (r := 158) hM (by decide) (by decide) (q) rfl (show q < 100 by omega) dX7_here_57 ?_
            refine q_topi (T (q)) ((congrFun (up2_row (show 158 ≠ 153 by decide)) _).trans (hT _ c46)) ?_
            refine q_goto (tgt := 62) hM dX7_here_58 (by decide) ?_
            exact hret _ _ _ _ _ _ ⟨(if_pos c46).symm, rfl, rfl, rfl⟩ dX7_here_62
        · refine q_aload_n hM dX7_here_25 rfl ?_
          refine q_dup hM dX7_here_26 rfl ?_
          refine g_X7_119 hM (by decide) (by decide) dX7_here_27 ?_
          refine q_topi (nI q) (up2_self _ _ _ _) ?_
          refine q_iconst (v := 1) hM dX7_here_30 (by decide) ?_
          refine q_iadd hM dX7_here_31 ?_
          refine q_topi (nI (q + 1)) (nI_1 _) ?_
          refine p_X7_119 hM (by decide) (by decide) dX7_here_32 ?_
          rw [up2_up2]
          refine q_goto (tgt := 0) hM dX7_here_35 (by decide) ?_
          exact ih (q + 1) (by omega) (by omega) ((sk_step c8 c22).symm.trans hs)
  have h0 := loop (k + 1) p hp (by omega) rfl
  rw [up2_id hI9] at h0
  exact h0
set_option maxHeartbeats 4000000 in
set_option maxRecDepth 100000 in
theorem c_X7_sign (l : Launch) (G : kG) {I : kI} {L : kL} {X : kX} (hR : RefM X) {T : Nat → Int32} {k : Nat} (hk : k ≤ 100) (hI8 : I 153 8 = nI k) (hT : ∀ j, j < k → I 158 j = T j) {p : Nat} (hp : p ≤ k) (hI9 : I 153 9 = nI p) (c : Int32) (hc : ¬ c = -1)  : Kz l yX7_sign cX7_sign 3 1 G [.ref (ad G 153), .int c] 159 159 I L X (fun z I' L' X' => z = (sgn T k c p).1 ∧ I' = up2 I 153 9 (nI (sgn T k c p).2) ∧ L = L' ∧ X = X') := by
  refine Kz_intro (own := RX7) (lv0 := [some (.ref (ad G 153)), some (.int c), none]) 1 (by decide +kernel) rfl rfl (Nat.le_of_ble_eq_true rfl) (Nat.le_refl _) (fun J hM hret => ?_)
  refine q_aload_n hM dX7_sign_0 rfl ?_
  refine callV_i hM mi_X7_here lk_X7_122 cf_X7 (by decide) (by decide) (c_X7_here l G hR hk hI8 hT hp hI9) rfl rfl (by decide) (Nat.le_refl _) (by omega) (Nat.le_of_ble_eq_true rfl) dX7_sign_1 (fun v9 I9 L9 X9 hp9 => ?_)
  obtain ⟨rfl, rfl, rfl, rfl⟩ := hp9
  refine q_iload_n hM dX7_sign_4 rfl ?_
  refine q_icmp_ne (tgt := 12) hM dX7_sign_5 (by decide) (fun c5 => ?_) (fun c5 => ?_)
  · have e : sgn T k c p = (false, sk T k p) := if_neg (fun z => c5 (by rw [if_pos z.1]; exact z.2))
    refine q_iconst (v := 0) hM dX7_sign_12 (by decide) ?_
    refine si_3_2 hM dX7_sign_13 ?_
    refine q_aload_n hM dX7_sign_14 rfl ?_
    refine q_dup hM dX7_sign_15 rfl ?_
    refine g_X7_119 hM (by decide) (by decide) dX7_sign_16 ?_
    refine q_topi (nI (sk T k p)) (up2_self _ _ _ _) ?_
    refine q_iload_n hM dX7_sign_19 rfl ?_
    refine q_if_eq_t (tgt := 27) hM dX7_sign_20 (by decide) (by decide) ?_
    refine q_iconst (v := 0) hM dX7_sign_27 (by decide) ?_
    refine q_iadd hM dX7_sign_28 ?_
    refine q_topi (nI (sgn T k c p).2) (by rw [e, Int32.add_zero]) ?_
    refine p_X7_119 hM (by decide) (by decide) dX7_sign_29 ?_
    rw [up2_up2]
    refine q_iload_n hM dX7_sign_32 rfl ?_
    exact hret false _ _ _ _ _ _ rfl ⟨by rw [e], rfl, rfl, rfl⟩ dX7_sign_33
  · have hlt : sk T k p < k := Classical.byContradiction fun z => by rw [if_neg z] at c5; exact hc c5.symm
    have e : sgn T k c p = (true, sk T k p + 1) := if_pos ⟨hlt, by rw [if_pos hlt] at c5; exact c5⟩
    refine q_iconst (v := 1) hM dX7_sign_8 (by decide) ?_
    refine q_goto (tgt := 13) hM dX7_sign_9 (by decide) ?_
    refine si_3_2 hM dX7_sign_13 ?_
    refine q_aload_n hM dX7_sign_14 rfl ?_
    refine q_dup hM dX7_sign_15 rfl ?_
    refine g_X7_119 hM (by decide) (by decide) dX7_sign_16 ?_
    refine q_topi (nI (sk T k p)) (up2_self _ _ _ _) ?_
    refine q_iload_n hM dX7_sign_19 rfl ?_
    refine q_if_eq_f (tgt := 27) hM dX7_sign_20 (by decide) (by decide) ?_
    refine q_iconst (v := 1) hM dX7_sign_23 (by decide) ?_
    refine q_goto (tgt := 28) hM dX7_sign_24 (by decide) ?_
    refine q_iadd hM dX7_sign_28 ?_
    refine q_topi (nI (sgn T k c p).2) (by rw [e]; exact nI_1 _) ?_
    refine p_X7_119 hM (by decide) (by decide) dX7_sign_29 ?_
    rw [up2_up2]
    refine q_iload_n hM dX7_sign_32 rfl ?_
    exact hret true _ _ _ _ _ _ rfl ⟨by rw [e], rfl, rfl, rfl⟩ dX7_sign_33
set_option maxHeartbeats 4000000 in
set_option maxRecDepth 100000 in
theorem c_X7_readsNumber (l : Launch) (G : kG) {I : kI} {L : kL} {X : kX} (hR : RefM X) {T : Nat → Int32} {k : Nat} (hk : k ≤ 100) (hI8 : I 153 8 = nI k) (hT : ∀ j, j < k → I 158 j = T j) {p : Nat} (hp : p ≤ k) (hI9 : I 153 9 = nI p) (mx : Int32)  : Kz l yX7_readsNumber cX7_readsNumber 5 1 G [.ref (ad G 153), .int mx] 159 159 I L X (fun z I' L' X' => z = (nmb T k mx p).1 ∧ I' = (if (nmb T k mx p).1 = true then up2 (up2 I 153 9 (nI (nmb T k mx p).2.1)) 153 10 (nmb T k mx p).2.2 else up2 I 153 9 (nI (nmb T k mx p).2.1)) ∧ L = L' ∧ X = X') := by
  refine Kz_intro (own := RX7) (lv0 := [some (.ref (ad G 153)), some (.int mx), none, none, none]) 3 (by decide +kernel) rfl rfl (Nat.le_of_ble_eq_true rfl) (Nat.le_refl _) (fun J hM hret => ?_)
  refine q_aload_n hM dX7_readsNumber_0 rfl ?_
  refine callV_i hM mi_X7_here lk_X7_122 cf_X7 (by decide) (by decide) (c_X7_here l G hR hk hI8 hT hp hI9) rfl rfl (by decide) (Nat.le_refl _) (by omega) (Nat.le_of_ble_eq_true rfl) dX7_readsNumber_1 (fun v9 I9 L9 X9 hp9 => ?_)
  obtain ⟨rfl, rfl, rfl, rfl⟩ := hp9
  have hqk := sk_le (T := T) hp
  obtain ⟨q, hq⟩ : ∃ q, sk T k p = q := ⟨_, rfl⟩
  rw [hq] at hqk ⊢
  unfold nmb at hret
  rw [hq] at hret
  refine si_5_2 hM dX7_readsNumber_4 ?_
  refine q_aload_n hM dX7_readsNumber_5 rfl ?_
  refine g_X7_119 hM (by decide) (by decide) dX7_readsNumber_6 ?_
  refine q_topi (nI q) (up2_self _ _ _ _) ?_
  refine si_5_3 hM dX7_readsNumber_9 ?_
  refine q_iconst (v := 0) hM dX7_readsNumber_10 (by decide) ?_
  refine si_5_4 hM dX7_readsNumber_11 ?_
  have loop : ∀ (m j : Nat), q + j ≤ k → k < q + j + m → j + dC T k (q + j) = dC T k q → J 159 (up2 I 153 9 (nI q)) L X 13 [some (.ref (ad G 153)), some (.int mx), some (.int (if q < k then T q else -1)), some (.int (nI (q + j))), some (.int (vl T q (min j 4)))] [] := by
    intro m
    induction m with
    | zero => intros; omega
    | succ m ih =>
      intro j h1 h2 hd
      refine q_iload_n hM dX7_readsNumber_13 rfl ?_
      refine q_if_lt (tgt := 79) hM dX7_readsNumber_14 (by decide) (fun c14 => ?_) (fun c14 => ?_)
      · have hj : j = dC T k q := by
          have h0 : dC T k q = 0 := dC_stop (fun z => by rw [if_pos z.1] at c14; exact dg_neg z.2 c14)
          omega
        refine q_iload_n hM dX7_readsNumber_79 rfl ?_
        refine q_aload_n hM dX7_readsNumber_80 rfl ?_
        refine g_X7_119 hM (by decide) (by decide) dX7_readsNumber_81 ?_
        refine q_topi (nI q) (up2_self _ _ _ _) ?_
        refine q_icmp_eqN (tgt := 103) hM (q + j) q rfl rfl (by omega) (by omega) dX7_readsNumber_84 (by decide) (fun c84 => ?_) (fun c84 => ?_)
        · have hno : ¬ ((1 ≤ dC T k q ∧ dC T k q ≤ 3) ∧ vl T q (dC T k q) ≤ mx) := fun z => by have := z.1.1; omega
          refine q_iconst (v := 0) hM dX7_readsNumber_103 (by decide) ?_
          rw [if_neg hno] at hret
          exact hret false _ _ _ _ _ _ rfl ⟨rfl, rfl, rfl, rfl⟩ dX7_readsNumber_104
        · refine q_iload_n hM dX7_readsNumber_87 rfl ?_
          refine q_aload_n hM dX7_readsNumber_88 rfl ?_
          refine g_X7_119 hM (by decide) (by decide) dX7_readsNumber_89 ?_
          refine q_topi (nI q) (up2_self _ _ _ _) ?_
          refine q_isub hM dX7_readsNumber_92 ?_
          refine q_topi (nI j) (by rw [pk_sub (by omega), Nat.add_sub_cancel_left]) ?_
          refine q_iconst (v := 3) hM dX7_readsNumber_93 (by decide) ?_
          refine q_icmp_gtN (tgt := 103) hM j 3 rfl rfl (by omega) (by omega) dX7_readsNumber_94 (by decide) (fun c94 => ?_) (fun c94 => ?_)
          · have hno : ¬ ((1 ≤ dC T k q ∧ dC T k q ≤ 3) ∧ vl T q (dC T k q) ≤ mx) := fun z => by have := z.1.2; omega
            refine q_iconst (v := 0) hM dX7_readsNumber_103 (by decide) ?_
            rw [if_neg hno] at hret
            exact hret false _ _ _ _ _ _ rfl ⟨rfl, rfl, rfl, rfl⟩ dX7_readsNumber_104
          · refine q_iload hM dX7_readsNumber_97 rfl ?_
            refine q_topi (vl T q j) (by rw [Nat.min_eq_left (by omega)]) ?_
            refine q_iload_n hM dX7_readsNumber_99 rfl ?_
            refine q_icmp_le (tgt := 105) hM dX7_readsNumber_100 (by decide) (fun c100 => ?_) (fun c100 => ?_)
            · have hyes : (1 ≤ dC T k q ∧ dC T k q ≤ 3) ∧ vl T q (dC T k q) ≤ mx := ⟨⟨by omega, by omega⟩, by rw [← hj]; exact c100⟩
              refine q_aload_n hM dX7_readsNumber_105 rfl ?_
              refine q_iload_n hM dX7_readsNumber_106 rfl ?_
              refine p_X7_119 hM (by decide) (by decide) dX7_readsNumber_107 ?_
              rw [up2_up2]
              refine q_aload_n hM dX7_readsNumber_110 rfl ?_
              refine q_iload hM dX7_readsNumber_111 rfl ?_
              refine q_topi (vl T q j) (by rw [Nat.min_eq_left (by omega)]) ?_
              refine p_X7_126 hM (by decide) (by decide) dX7_readsNumber_113 ?_
              refine q_iconst (v := 1) hM dX7_readsNumber_116 (by decide) ?_
              rw [if_pos hyes, ← hj] at hret
              exact hret true _ _ _ _ _ _ rfl ⟨rfl, rfl, rfl, rfl⟩ dX7_readsNumber_117
            · have hno : ¬ ((1 ≤ dC T k q ∧ dC T k q ≤ 3) ∧ vl T q (dC T k q) ≤ mx) := fun z => c100 (by rw [hj]; exact z.2)
              refine q_iconst (v := 0) hM dX7_readsNumber_103 (by decide) ?_
              rw [if_neg hno] at hret
              exact hret false _ _ _ _ _ _ rfl ⟨rfl, rfl, rfl, rfl⟩ dX7_readsNumber_104
      · refine q_iload_n hM dX7_readsNumber_17 rfl ?_
        refine q_aload_n hM dX7_readsNumber_18 rfl ?_
        refine g_X7_116 hM (by decide) (by decide) dX7_readsNumber_19 ?_
        refine q_topi (nI k) ((up2_ne (Or.inr (by decide))).trans hI8) ?_
        refine q_icmp_geN (tgt := 79) hM (q + j) k rfl rfl (by omega) (by omega) dX7_readsNumber_22 (by decide) (fun c22 => ?_) (fun c22 => ?_)
        · have hj : j = dC T k q := by rw [dC_stop (fun z => by omega)] at hd; omega
          refine q_iload_n hM dX7_readsNumber_79 rfl ?_
          refine q_aload_n hM dX7_readsNumber_80 rfl ?_
          refine g_X7_119 hM (by decide) (by decide) dX7_readsNumber_81 ?_
          refine q_topi (nI q) (up2_self _ _ _ _) ?_
          refine q_icmp_eqN (tgt := 103) hM (q + j) q rfl rfl (by omega) (by omega) dX7_readsNumber_84 (by decide) (fun c84 => ?_) (fun c84 => ?_)
          · have hno : ¬ ((1 ≤ dC T k q ∧ dC T k q ≤ 3) ∧ vl T q (dC T k q) ≤ mx) := fun z => by have := z.1.1; omega
            refine q_iconst (v := 0) hM dX7_readsNumber_103 (by decide) ?_
            rw [if_neg hno] at hret
            exact hret false _ _ _ _ _ _ rfl ⟨rfl, rfl, rfl, rfl⟩ dX7_readsNumber_104
          · refine q_iload_n hM dX7_readsNumber_87 rfl ?_
            refine q_aload_n hM dX7_readsNumber_88 rfl ?_
            refine g_X7_119 hM (by decide) (by decide) dX7_readsNumber_89 ?_
            refine q_topi (nI q) (up2_self _ _ _ _) ?_
            refine q_isub hM dX7_readsNumber_92 ?_
            refine q_topi (nI j) (by rw [pk_sub (by omega), Nat.add_sub_cancel_left]) ?_
            refine q_iconst (v := 3) hM dX7_readsNumber_93 (by decide) ?_
            refine q_icmp_gtN (tgt := 103) hM j 3 rfl rfl (by omega) (by omega) dX7_readsNumber_94 (by decide) (fun c94 => ?_) (fun c94 => ?_)
            · have hno : ¬ ((1 ≤ dC T k q ∧ dC T k q ≤ 3) ∧ vl T q (dC T k q) ≤ mx) := fun z => by have := z.1.2; omega
              refine q_iconst (v := 0) hM dX7_readsNumber_103 (by decide) ?_
              rw [if_neg hno] at hret
              exact hret false _ _ _ _ _ _ rfl ⟨rfl, rfl, rfl, rfl⟩ dX7_readsNumber_104
            · refine q_iload hM dX7_readsNumber_97 rfl ?_
              refine q_topi (vl T q j) (by rw [Nat.min_eq_left (by omega)]) ?_
              refine q_iload_n hM dX7_readsNumber_99 rfl ?_
              refine q_icmp_le (tgt := 105) hM dX7_readsNumber_100 (by decide) (fun c100 => ?_) (fun c100 => ?_)
              · have hyes : (1 ≤ dC T k q ∧ dC T k q ≤ 3) ∧ vl T q (dC T k q) ≤ mx := ⟨⟨by omega, by omega⟩, by rw [← hj]; exact c100⟩
                refine q_aload_n hM dX7_readsNumber_105 rfl ?_
                refine q_iload_n hM dX7_readsNumber_106 rfl ?_
                refine p_X7_119 hM (by decide) (by decide) dX7_readsNumber_107 ?_
                rw [up2_up2]
                refine q_aload_n hM dX7_readsNumber_110 rfl ?_
                refine q_iload hM dX7_readsNumber_111 rfl ?_
                refine q_topi (vl T q j) (by rw [Nat.min_eq_left (by omega)]) ?_
                refine p_X7_126 hM (by decide) (by decide) dX7_readsNumber_113 ?_
                refine q_iconst (v := 1) hM dX7_readsNumber_116 (by decide) ?_
                rw [if_pos hyes, ← hj] at hret
                exact hret true _ _ _ _ _ _ rfl ⟨rfl, rfl, rfl, rfl⟩ dX7_readsNumber_117
              · have hno : ¬ ((1 ≤ dC T k q ∧ dC T k q ≤ 3) ∧ vl T q (dC T k q) ≤ mx) := fun z => c100 (by rw [hj]; exact z.2)
                refine q_iconst (v := 0) hM dX7_readsNumber_103 (by decide) ?_
                rw [if_neg hno] at hret
                exact hret false _ _ _ _ _ _ rfl ⟨rfl, rfl, rfl, rfl⟩ dX7_readsNumber_104
        · refine q_aload_n hM dX7_readsNumber_25 rfl ?_
          refine g_X7_24 hM (by decide) (by decide) hR.m7 dX7_readsNumber_26 ?_
          refine q_iload_n hM dX7_readsNumber_29 rfl ?_
          refine q_iald (r := 158) hM (by decide) (by decide) (q + j) rfl (show q + j < 100 by omega) dX7_readsNumber_30 ?_
          refine q_topi (T (q + j)) ((congrFun (up2_row (show 158 ≠ 153 by decide)) _).trans (hT _ c22)) ?_
          refine q_bipush (v := 48) hM dX7_readsNumber_31 (by decide) ?_
          refine q_bipush (v := 57) hM dX7_readsNumber_33 (by decide) ?_
          refine callSe_z hM mi_X7_in lk_X7_35 (c_X7_in l G _ _ _) rfl rfl (by decide) (Nat.le_refl _) (by omega) (Nat.le_of_ble_eq_true rfl) dX7_readsNumber_35 ?_
          refine q_ifd_eq (tgt := 79) hM dX7_readsNumber_38 (by decide) (fun c38 => ?_) (fun c38 => ?_)
          · have hj : j = dC T k q := by rw [dC_stop (fun z => c38 z.2)] at hd; omega
            refine q_iload_n hM dX7_readsNumber_79 rfl ?_
            refine q_aload_n hM dX7_readsNumber_80 rfl ?_
            refine g_X7_119 hM (by decide) (by decide) dX7_readsNumber_81 ?_
            refine q_topi (nI q) (up2_self _ _ _ _) ?_
            refine q_icmp_eqN (tgt := 103) hM (q + j) q rfl rfl (by omega) (by omega) dX7_readsNumber_84 (by decide) (fun c84 => ?_) (fun c84 => ?_)
            · have hno : ¬ ((1 ≤ dC T k q ∧ dC T k q ≤ 3) ∧ vl T q (dC T k q) ≤ mx) := fun z => by have := z.1.1; omega
              refine q_iconst (v := 0) hM dX7_readsNumber_103 (by decide) ?_
              rw [if_neg hno] at hret
              exact hret false _ _ _ _ _ _ rfl ⟨rfl, rfl, rfl, rfl⟩ dX7_readsNumber_104
            · refine q_iload_n hM dX7_readsNumber_87 rfl ?_
              refine q_aload_n hM dX7_readsNumber_88 rfl ?_
              refine g_X7_119 hM (by decide) (by decide) dX7_readsNumber_89 ?_
              refine q_topi (nI q) (up2_self _ _ _ _) ?_
              refine q_isub hM dX7_readsNumber_92 ?_
              refine q_topi (nI j) (by rw [pk_sub (by omega), Nat.add_sub_cancel_left]) ?_
              refine q_iconst (v := 3) hM dX7_readsNumber_93 (by decide) ?_
              refine q_icmp_gtN (tgt := 103) hM j 3 rfl rfl (by omega) (by omega) dX7_readsNumber_94 (by decide) (fun c94 => ?_) (fun c94 => ?_)
              · have hno : ¬ ((1 ≤ dC T k q ∧ dC T k q ≤ 3) ∧ vl T q (dC T k q) ≤ mx) := fun z => by have := z.1.2; omega
                refine q_iconst (v := 0) hM dX7_readsNumber_103 (by decide) ?_
                rw [if_neg hno] at hret
                exact hret false _ _ _ _ _ _ rfl ⟨rfl, rfl, rfl, rfl⟩ dX7_readsNumber_104
              · refine q_iload hM dX7_readsNumber_97 rfl ?_
                refine q_topi (vl T q j) (by rw [Nat.min_eq_left (by omega)]) ?_
                refine q_iload_n hM dX7_readsNumber_99 rfl ?_
                refine q_icmp_le (tgt := 105) hM dX7_readsNumber_100 (by decide) (fun c100 => ?_) (fun c100 => ?_)
                · have hyes : (1 ≤ dC T k q ∧ dC T k q ≤ 3) ∧ vl T q (dC T k q) ≤ mx := ⟨⟨by omega, by omega⟩, by rw [← hj]; exact c100⟩
                  refine q_aload_n hM dX7_readsNumber_105 rfl ?_
                  refine q_iload_n hM dX7_readsNumber_106 rfl ?_
                  refine p_X7_119 hM (by decide) (by decide) dX7_readsNumber_107 ?_
                  rw [up2_up2]
                  refine q_aload_n hM dX7_readsNumber_110 rfl ?_
                  refine q_iload hM dX7_readsNumber_111 rfl ?_
                  refine q_topi (vl T q j) (by rw [Nat.min_eq_left (by omega)]) ?_
                  refine p_X7_126 hM (by decide) (by decide) dX7_readsNumber_113 ?_
                  refine q_iconst (v := 1) hM dX7_readsNumber_116 (by decide) ?_
                  rw [if_pos hyes, ← hj] at hret
                  exact hret true _ _ _ _ _ _ rfl ⟨rfl, rfl, rfl, rfl⟩ dX7_readsNumber_117
                · have hno : ¬ ((1 ≤ dC T k q ∧ dC T k q ≤ 3) ∧ vl T q (dC T k q) ≤ mx) := fun z => c100 (by rw [hj]; exact z.2)
                  refine q_iconst (v := 0) hM dX7_readsNumber_103 (by decide) ?_
                  rw [if_neg hno] at hret
                  exact hret false _ _ _ _ _ _ rfl ⟨rfl, rfl, rfl, rfl⟩ dX7_readsNumber_104
          · refine q_iload_n hM dX7_readsNumber_41 rfl ?_
            refine q_aload_n hM dX7_readsNumber_42 rfl ?_
            refine g_X7_119 hM (by decide) (by decide) dX7_readsNumber_43 ?_
            refine q_topi (nI q) (up2_self _ _ _ _) ?_
            refine q_isub hM dX7_readsNumber_46 ?_
            refine q_topi (nI j) (by rw [pk_sub (by omega), Nat.add_sub_cancel_left]) ?_
            refine q_iconst (v := 4) hM dX7_readsNumber_47 (by decide) ?_
            refine q_icmp_geN (tgt := 69) hM j 4 rfl rfl (by omega) (by omega) dX7_readsNumber_48 (by decide) (fun c48 => ?_) (fun c48 => ?_)
            · refine q_iload hM dX7_readsNumber_69 rfl ?_
              refine q_topi (vl T q (min (j + 1) 4)) (by first | exact nv_lt c48 | exact nv_ge c48) ?_
              refine si_5_4 hM dX7_readsNumber_71 ?_
              refine sinc_5_3 hM dX7_readsNumber_73 (inc1 (q + j)) ?_
              refine q_goto (tgt := 13) hM dX7_readsNumber_76 (by decide) ?_
              exact ih (j + 1) (by omega) (by omega) (by have := dC_step c22 c38; rw [show q + (j + 1) = q + j + 1 by omega]; omega)
            · refine q_bipush (v := 10) hM dX7_readsNumber_51 (by decide) ?_
              refine q_iload hM dX7_readsNumber_53 rfl ?_
              refine q_imul hM dX7_readsNumber_55 ?_
              refine q_aload_n hM dX7_readsNumber_56 rfl ?_
              refine g_X7_24 hM (by decide) (by decide) hR.m7 dX7_readsNumber_57 ?_
              refine q_iload_n hM dX7_readsNumber_60 rfl ?_
              refine q_iald (r := 158) hM (by decide) (by decide) (q + j) rfl (show q + j < 100 by omega) dX7_readsNumber_61 ?_
              refine q_topi (T (q + j)) ((congrFun (up2_row (show 158 ≠ 153 by decide)) _).trans (hT _ c22)) ?_
              refine q_iadd hM dX7_readsNumber_62 ?_
              refine q_bipush (v := 48) hM dX7_readsNumber_63 (by decide) ?_
              refine q_isub hM dX7_readsNumber_65 ?_
              refine q_goto (tgt := 71) hM dX7_readsNumber_66 (by decide) ?_
              refine q_topi (vl T q (min (j + 1) 4)) (by first | exact nv_lt c48 | exact nv_ge c48) ?_
              refine si_5_4 hM dX7_readsNumber_71 ?_
              refine sinc_5_3 hM dX7_readsNumber_73 (inc1 (q + j)) ?_
              refine q_goto (tgt := 13) hM dX7_readsNumber_76 (by decide) ?_
              exact ih (j + 1) (by omega) (by omega) (by have := dC_step c22 c38; rw [show q + (j + 1) = q + j + 1 by omega]; omega)
  exact loop (k + 1) 0 hqk (by omega) (Nat.zero_add _)
set_option maxHeartbeats 4000000 in
set_option maxRecDepth 100000 in
theorem c_X7_readsReading (l : Launch) (G : kG) {I : kI} {L : kL} {X : kX} (hR : RefM X) {T : Nat → Int32} {k : Nat} (hk : k ≤ 100) (hI8 : I 153 8 = nI k) (hT : ∀ j, j < k → I 158 j = T j) {p : Nat} (hp : p ≤ k) (hI9 : I 153 9 = nI p) {A : kA} {f : Fr} {g : Gr} (hr : RM I L X (setF A f g)) (hP : PInv f) (d : Bool) (cnt : Nat) (hI11 : I 153 11 = nI cnt)  : Kz l yX7_readsReading cX7_readsReading 5 4 G [.ref (ad G 153), .int (bI d)] 159 159 I L X (fun z I' L' X' => z = (rdg T k (f 1) p).1 ∧ (I' 153 9 = nI (rdg T k (f 1) p).2.1 ∧ I' 153 11 = nI (if (rdg T k (f 1) p).1 = true then cnt + 1 else cnt) ∧ RM I' L' X' (setF A (rdA f d (rdg T k (f 1) p)) g) ∧ (∀ r, r ≠ 153 → r ≠ 154 → I' r = I r) ∧ I' 153 8 = I 153 8) ∧ L = L' ∧ X = X') := by
  refine Kz_intro (own := RX7) (lv0 := [some (.ref (ad G 153)), some (.int (bI d)), none, none, none]) 3 (by decide +kernel) rfl rfl (Nat.le_of_ble_eq_true rfl) (Nat.le_refl _) (fun J hM hret => ?_)
  have hm := hr.mf
  have hn := hP.nT
  have s0 : Rc I I p := ⟨hI9, fun _ _ => rfl, fun _ _ _ => rfl⟩
  refine q_aload_n hM dX7_readsReading_0 rfl ?_
  refine q_aload_n hM dX7_readsReading_1 rfl ?_
  refine g_X7_7 hM (by decide) (by decide) hR.m0 dX7_readsReading_2 ?_
  refine q_iconst (v := 1) hM dX7_readsReading_5 (by decide) ?_
  refine q_row hM hm 1 rfl (by decide) (by decide) dX7_readsReading_6 ?_
  refine q_iconst (v := 1) hM dX7_readsReading_7 (by decide) ?_
  refine q_isub hM dX7_readsReading_8 ?_
  refine callV_z hM mi_X7_readsNumber lk_X7_129 cf_X7 (by decide) (by decide) (c_X7_readsNumber l G hR hk (s0.i8 hI8) (s0.t hT) hp s0.1 (f 1 - 1)) rfl rfl (by decide) (Nat.le_refl _) (by omega) (Nat.le_of_ble_eq_true rfl) dX7_readsReading_9 (fun z9 I9 L9 X9 hp9 => ?_)
  obtain ⟨hz9, rfl, rfl, rfl⟩ := hp9
  refine q_topb ((nmb T k (f 1 - 1) p).1 = true) (hz9.trans (bdec _)) ?_
  refine q_ifd_ne (tgt := 17) hM dX7_readsReading_12 (by decide) (fun c12 => ?_) (fun c12 => ?_)
  · rw [if_pos c12]
    obtain ⟨I1, e1, s1, r1⟩ := s0.num (nmb T k (f 1 - 1) p).2.1 (nmb T k (f 1 - 1) p).2.2
    rw [e1]
    obtain ⟨-, l1, x1⟩ := nmb_ok hp c12
    refine q_aload_n hM dX7_readsReading_17 rfl ?_
    refine g_X7_126 hM (by decide) (by decide) dX7_readsReading_18 ?_
    refine q_topi ((nmb T k (f 1 - 1) p).2.2) (r1) ?_
    refine si_5_2 hM dX7_readsReading_21 ?_
    refine q_aload_n hM dX7_readsReading_22 rfl ?_
    refine q_bipush (v := 58) hM dX7_readsReading_23 (by decide) ?_
    refine callV_z hM mi_X7_sign lk_X7_132 cf_X7 (by decide) (by decide) (c_X7_sign l G hR hk (s1.i8 hI8) (s1.t hT) l1 s1.1 58 (by decide)) rfl rfl (by decide) (Nat.le_refl _) (by omega) (Nat.le_of_ble_eq_true rfl) dX7_readsReading_25 (fun z9 I9 L9 X9 hp9 => ?_)
    obtain ⟨hz9, rfl, rfl, rfl⟩ := hp9
    refine q_topb ((sgn T k 58 (nmb T k (f 1 - 1) p).2.1).1 = true) (hz9.trans (bdec _)) ?_
    refine q_ifd_eq (tgt := 41) hM dX7_readsReading_28 (by decide) (fun c28 => ?_) (fun c28 => ?_)
    · obtain ⟨I2, e2, s2, r2⟩ := s1.sg (sgn T k 58 (nmb T k (f 1 - 1) p).2.1).2
      rw [e2]
      have l2 := sgn_le (T := T) (c := 58) l1
      refine q_iconst (v := 0) hM dX7_readsReading_41 (by decide) ?_
      have er : rdg T k (f 1) p = (false, (sgn T k 58 (nmb T k (f 1 - 1) p).2.1).2, 0, 0, 0, 0) := by unfold rdg; rw [if_pos c12]; unfold rdg2; rw [if_neg c28]
      rw [er] at hret
      exact hret false _ _ _ _ _ _ rfl ⟨rfl, ⟨s2.1, (s2.2.2 11 (by decide) (by decide)).trans hI11, by rw [rdA_no rfl]; exact s2.rm hr, fun r r1 r2 => s2.2.1 r r1, s2.2.2 8 (by decide) (by decide)⟩, rfl, rfl⟩ dX7_readsReading_42
    · obtain ⟨I2, e2, s2, r2⟩ := s1.sg (sgn T k 58 (nmb T k (f 1 - 1) p).2.1).2
      rw [e2]
      have l2 := sgn_le (T := T) (c := 58) l1
      refine q_aload_n hM dX7_readsReading_31 rfl ?_
      refine q_sipush (v := 300) hM dX7_readsReading_32 (by decide) ?_
      refine callV_z hM mi_X7_readsNumber lk_X7_129 cf_X7 (by decide) (by decide) (c_X7_readsNumber l G hR hk (s2.i8 hI8) (s2.t hT) l2 s2.1 300) rfl rfl (by decide) (Nat.le_refl _) (by omega) (Nat.le_of_ble_eq_true rfl) dX7_readsReading_35 (fun z9 I9 L9 X9 hp9 => ?_)
      obtain ⟨hz9, rfl, rfl, rfl⟩ := hp9
      refine q_topb ((nmb T k 300 (sgn T k 58 (nmb T k (f 1 - 1) p).2.1).2).1 = true) (hz9.trans (bdec _)) ?_
      refine q_ifd_ne (tgt := 43) hM dX7_readsReading_38 (by decide) (fun c38 => ?_) (fun c38 => ?_)
      · rw [if_pos c38]
        obtain ⟨I3, e3, s3, r3⟩ := s2.num (nmb T k 300 (sgn T k 58 (nmb T k (f 1 - 1) p).2.1).2).2.1 (nmb T k 300 (sgn T k 58 (nmb T k (f 1 - 1) p).2.1).2).2.2
        rw [e3]
        obtain ⟨-, l3, x3⟩ := nmb_ok l2 c38
        refine q_aload_n hM dX7_readsReading_43 rfl ?_
        refine g_X7_126 hM (by decide) (by decide) dX7_readsReading_44 ?_
        refine q_topi ((nmb T k 300 (sgn T k 58 (nmb T k (f 1 - 1) p).2.1).2).2.2) (r3) ?_
        refine si_5_3 hM dX7_readsReading_47 ?_
        refine q_aload_n hM dX7_readsReading_48 rfl ?_
        refine q_bipush (v := 47) hM dX7_readsReading_49 (by decide) ?_
        refine callV_z hM mi_X7_sign lk_X7_132 cf_X7 (by decide) (by decide) (c_X7_sign l G hR hk (s3.i8 hI8) (s3.t hT) l3 s3.1 47 (by decide)) rfl rfl (by decide) (Nat.le_refl _) (by omega) (Nat.le_of_ble_eq_true rfl) dX7_readsReading_51 (fun z9 I9 L9 X9 hp9 => ?_)
        obtain ⟨hz9, rfl, rfl, rfl⟩ := hp9
        refine q_topb ((sgn T k 47 (nmb T k 300 (sgn T k 58 (nmb T k (f 1 - 1) p).2.1).2).2.1).1 = true) (hz9.trans (bdec _)) ?_
        refine q_ifd_eq (tgt := 67) hM dX7_readsReading_54 (by decide) (fun c54 => ?_) (fun c54 => ?_)
        · obtain ⟨I4, e4, s4, r4⟩ := s3.sg (sgn T k 47 (nmb T k 300 (sgn T k 58 (nmb T k (f 1 - 1) p).2.1).2).2.1).2
          rw [e4]
          have l4 := sgn_le (T := T) (c := 47) l3
          refine q_iconst (v := 0) hM dX7_readsReading_67 (by decide) ?_
          have er : rdg T k (f 1) p = (false, (sgn T k 47 (nmb T k 300 (sgn T k 58 (nmb T k (f 1 - 1) p).2.1).2).2.1).2, 0, 0, 0, 0) := by unfold rdg; rw [if_pos c12]; unfold rdg2; rw [if_pos c28]; rw [if_pos c38]; unfold rdg3; rw [if_neg c54]
          rw [er] at hret
          exact hret false _ _ _ _ _ _ rfl ⟨rfl, ⟨s4.1, (s4.2.2 11 (by decide) (by decide)).trans hI11, by rw [rdA_no rfl]; exact s4.rm hr, fun r r1 r2 => s4.2.1 r r1, s4.2.2 8 (by decide) (by decide)⟩, rfl, rfl⟩ dX7_readsReading_68
        · obtain ⟨I4, e4, s4, r4⟩ := s3.sg (sgn T k 47 (nmb T k 300 (sgn T k 58 (nmb T k (f 1 - 1) p).2.1).2).2.1).2
          rw [e4]
          have l4 := sgn_le (T := T) (c := 47) l3
          refine q_aload_n hM dX7_readsReading_57 rfl ?_
          refine q_sipush (v := 300) hM dX7_readsReading_58 (by decide) ?_
          refine callV_z hM mi_X7_readsNumber lk_X7_129 cf_X7 (by decide) (by decide) (c_X7_readsNumber l G hR hk (s4.i8 hI8) (s4.t hT) l4 s4.1 300) rfl rfl (by decide) (Nat.le_refl _) (by omega) (Nat.le_of_ble_eq_true rfl) dX7_readsReading_61 (fun z9 I9 L9 X9 hp9 => ?_)
          obtain ⟨hz9, rfl, rfl, rfl⟩ := hp9
          refine q_topb ((nmb T k 300 (sgn T k 47 (nmb T k 300 (sgn T k 58 (nmb T k (f 1 - 1) p).2.1).2).2.1).2).1 = true) (hz9.trans (bdec _)) ?_
          refine q_ifd_ne (tgt := 69) hM dX7_readsReading_64 (by decide) (fun c64 => ?_) (fun c64 => ?_)
          · rw [if_pos c64]
            obtain ⟨I5, e5, s5, r5⟩ := s4.num (nmb T k 300 (sgn T k 47 (nmb T k 300 (sgn T k 58 (nmb T k (f 1 - 1) p).2.1).2).2.1).2).2.1 (nmb T k 300 (sgn T k 47 (nmb T k 300 (sgn T k 58 (nmb T k (f 1 - 1) p).2.1).2).2.1).2).2.2
            rw [e5]
            obtain ⟨-, l5, x5⟩ := nmb_ok l4 c64
            refine q_aload_n hM dX7_readsReading_69 rfl ?_
            refine g_X7_126 hM (by decide) (by decide) dX7_readsReading_70 ?_
            refine q_topi ((nmb T k 300 (sgn T k 47 (nmb T k 300 (sgn T k 58 (nmb T k (f 1 - 1) p).2.1).2).2.1).2).2.2) (r5) ?_
            refine si_5_4 hM dX7_readsReading_73 ?_
            refine q_aload_n hM dX7_readsReading_75 rfl ?_
            refine q_iconst (v := 0) hM dX7_readsReading_76 (by decide) ?_
            refine p_X7_126 hM (by decide) (by decide) dX7_readsReading_77 ?_
            obtain ⟨Iz, ez, sz5, rz⟩ := s5.ten 0
            rw [ez]
            refine q_aload_n hM dX7_readsReading_80 rfl ?_
            refine q_bipush (v := 64) hM dX7_readsReading_81 (by decide) ?_
            refine callV_z hM mi_X7_sign lk_X7_132 cf_X7 (by decide) (by decide) (c_X7_sign l G hR hk (sz5.i8 hI8) (sz5.t hT) l5 sz5.1 64 (by decide)) rfl rfl (by decide) (Nat.le_refl _) (by omega) (Nat.le_of_ble_eq_true rfl) dX7_readsReading_83 (fun z9 I9 L9 X9 hp9 => ?_)
            obtain ⟨hz9, rfl, rfl, rfl⟩ := hp9
            refine q_topb ((sgn T k 64 (nmb T k 300 (sgn T k 47 (nmb T k 300 (sgn T k 58 (nmb T k (f 1 - 1) p).2.1).2).2.1).2).2.1).1 = true) (hz9.trans (bdec _)) ?_
            refine q_ifd_eq (tgt := 100) hM dX7_readsReading_86 (by decide) (fun c86 => ?_) (fun c86 => ?_)
            · obtain ⟨I6, e6, s6, r6⟩ := sz5.sg (sgn T k 64 (nmb T k 300 (sgn T k 47 (nmb T k 300 (sgn T k 58 (nmb T k (f 1 - 1) p).2.1).2).2.1).2).2.1).2
              rw [e6]
              have l6 := sgn_le (T := T) (c := 64) l5
              refine q_aload_n hM dX7_readsReading_100 rfl ?_
              refine q_dup hM dX7_readsReading_101 rfl ?_
              refine g_X7_135 hM (by decide) (by decide) dX7_readsReading_102 ?_
              refine q_topi (nI cnt) ((s6.2.2 11 (by decide) (by decide)).trans hI11) ?_
              refine q_iconst (v := 1) hM dX7_readsReading_105 (by decide) ?_
              refine q_iadd hM dX7_readsReading_106 ?_
              refine q_topi (nI (cnt + 1)) (nI_1 _) ?_
              refine p_X7_135 hM (by decide) (by decide) dX7_readsReading_107 ?_
              have hrz := (s6.rm hr).put (j := 11) (by decide) (by decide) (nI (cnt + 1))
              have hmz := hrz.mf
              refine q_iload_n hM dX7_readsReading_110 rfl ?_
              refine q_topb (d = true) (bdec _) ?_
              refine q_ifd_eq (tgt := 126) hM dX7_readsReading_111 (by decide) (fun c111 => ?_) (fun c111 => ?_)
              · refine q_iconst (v := 1) hM dX7_readsReading_126 (by decide) ?_
                have er : rdg T k (f 1) p = (true, (sgn T k 64 (nmb T k 300 (sgn T k 47 (nmb T k 300 (sgn T k 58 (nmb T k (f 1 - 1) p).2.1).2).2.1).2).2.1).2, (nmb T k (f 1 - 1) p).2.2, (nmb T k 300 (sgn T k 58 (nmb T k (f 1 - 1) p).2.1).2).2.2, (nmb T k 300 (sgn T k 47 (nmb T k 300 (sgn T k 58 (nmb T k (f 1 - 1) p).2.1).2).2.1).2).2.2, 0) := by unfold rdg; rw [if_pos c12]; unfold rdg2; rw [if_pos c28]; rw [if_pos c38]; unfold rdg3; rw [if_pos c54]; rw [if_pos c64]; unfold rdg4; rw [if_neg c86]
                rw [er] at hret
                exact hret true _ _ _ _ _ _ rfl ⟨rfl, ⟨(up2_ne (Or.inr (by decide))).trans s6.1, up2_self _ _ _ _, by unfold rdA; rw [if_neg (fun z => c111 z.1)]; exact hrz, fun r r1 r2 => (up2_row r1).trans (s6.2.1 r r1), (up2_ne (Or.inr (by decide))).trans (s6.2.2 8 (by decide) (by decide))⟩, rfl, rfl⟩ dX7_readsReading_127
              · obtain ⟨v, hv, hev, hle⟩ := x1
                have ht : v < cI (f 1) := lt_of_m1 hP hv hle
                have hcv : cI (nmb T k (f 1 - 1) p).2.2 = v := by rw [hev]; exact cI_nI (by omega)
                refine q_aload_n hM dX7_readsReading_114 rfl ?_
                refine q_iload_n hM dX7_readsReading_115 rfl ?_
                refine q_topi (nI v) hev ?_
                refine q_iload_n hM dX7_readsReading_116 rfl ?_
                refine q_iload hM dX7_readsReading_117 rfl ?_
                refine q_aload_n hM dX7_readsReading_119 rfl ?_
                refine g_X7_126 hM (by decide) (by decide) dX7_readsReading_120 ?_
                refine q_topi (0) ((up2_ne (Or.inr (by decide))).trans (r6.trans rz)) ?_
                refine callV_v hM mi_X7_reads lk_X7_67 cf_X7 (by decide) (by decide) (c_X7_reads l G hR hmz hP v ht _ _ _ (nn_of x3) (nn_of x5)) rfl rfl (by decide) (Nat.le_refl _) (by omega) (Nat.le_of_ble_eq_true rfl) dX7_readsReading_123 (fun I9 L9 X9 hp9 => ?_)
                obtain ⟨rfl, rfl, rfl⟩ := hp9
                refine q_iconst (v := 1) hM dX7_readsReading_126 (by decide) ?_
                have er : rdg T k (f 1) p = (true, (sgn T k 64 (nmb T k 300 (sgn T k 47 (nmb T k 300 (sgn T k 58 (nmb T k (f 1 - 1) p).2.1).2).2.1).2).2.1).2, (nmb T k (f 1 - 1) p).2.2, (nmb T k 300 (sgn T k 58 (nmb T k (f 1 - 1) p).2.1).2).2.2, (nmb T k 300 (sgn T k 47 (nmb T k 300 (sgn T k 58 (nmb T k (f 1 - 1) p).2.1).2).2.1).2).2.2, 0) := by unfold rdg; rw [if_pos c12]; unfold rdg2; rw [if_pos c28]; rw [if_pos c38]; unfold rdg3; rw [if_pos c54]; rw [if_pos c64]; unfold rdg4; rw [if_neg c86]
                rw [er] at hret
                have hd : d = true := c111
                exact hret true _ _ _ _ _ _ rfl ⟨rfl, ⟨by rw [up2_ne (Or.inl (by decide)), up2_ne (Or.inl (by decide))]; exact (up2_ne (Or.inr (by decide))).trans s6.1, by rw [up2_ne (Or.inl (by decide)), up2_ne (Or.inl (by decide))]; exact up2_self _ _ _ _, by unfold rdA; rw [if_pos ⟨hd, rfl⟩]; show RM _ _ _ (setF A (readF f (cI (nmb T k (f 1 - 1) p).2.2) (sJud f (cI (nmb T k (f 1 - 1) p).2.2) _ _ _)) g); rw [hcv]; exact (hrz.setI (i := 19 + 7 * v + 5) (by omega) _).setI (i := 19 + 7 * v + 6) (by omega) _, fun r r1 r2 => by rw [up2_row r2, up2_row r2, up2_row r1]; exact s6.2.1 r r1, by rw [up2_ne (Or.inl (by decide)), up2_ne (Or.inl (by decide)), up2_ne (Or.inr (by decide))]; exact s6.2.2 8 (by decide) (by decide)⟩, rfl, rfl⟩ dX7_readsReading_127
            · obtain ⟨I6, e6, s6, r6⟩ := sz5.sg (sgn T k 64 (nmb T k 300 (sgn T k 47 (nmb T k 300 (sgn T k 58 (nmb T k (f 1 - 1) p).2.1).2).2.1).2).2.1).2
              rw [e6]
              have l6 := sgn_le (T := T) (c := 64) l5
              refine q_aload_n hM dX7_readsReading_89 rfl ?_
              refine q_bipush (v := 60) hM dX7_readsReading_90 (by decide) ?_
              refine callV_z hM mi_X7_readsNumber lk_X7_129 cf_X7 (by decide) (by decide) (c_X7_readsNumber l G hR hk (s6.i8 hI8) (s6.t hT) l6 s6.1 60) rfl rfl (by decide) (Nat.le_refl _) (by omega) (Nat.le_of_ble_eq_true rfl) dX7_readsReading_92 (fun z9 I9 L9 X9 hp9 => ?_)
              obtain ⟨hz9, rfl, rfl, rfl⟩ := hp9
              refine q_topb ((nmb T k 60 (sgn T k 64 (nmb T k 300 (sgn T k 47 (nmb T k 300 (sgn T k 58 (nmb T k (f 1 - 1) p).2.1).2).2.1).2).2.1).2).1 = true) (hz9.trans (bdec _)) ?_
              refine q_ifd_ne (tgt := 100) hM dX7_readsReading_95 (by decide) (fun c95 => ?_) (fun c95 => ?_)
              · rw [if_pos c95]
                obtain ⟨I7, e7, s7, r7⟩ := s6.num (nmb T k 60 (sgn T k 64 (nmb T k 300 (sgn T k 47 (nmb T k 300 (sgn T k 58 (nmb T k (f 1 - 1) p).2.1).2).2.1).2).2.1).2).2.1 (nmb T k 60 (sgn T k 64 (nmb T k 300 (sgn T k 47 (nmb T k 300 (sgn T k 58 (nmb T k (f 1 - 1) p).2.1).2).2.1).2).2.1).2).2.2
                rw [e7]
                obtain ⟨-, l7, x7⟩ := nmb_ok l6 c95
                refine q_aload_n hM dX7_readsReading_100 rfl ?_
                refine q_dup hM dX7_readsReading_101 rfl ?_
                refine g_X7_135 hM (by decide) (by decide) dX7_readsReading_102 ?_
                refine q_topi (nI cnt) ((s7.2.2 11 (by decide) (by decide)).trans hI11) ?_
                refine q_iconst (v := 1) hM dX7_readsReading_105 (by decide) ?_
                refine q_iadd hM dX7_readsReading_106 ?_
                refine q_topi (nI (cnt + 1)) (nI_1 _) ?_
                refine p_X7_135 hM (by decide) (by decide) dX7_readsReading_107 ?_
                have hrz := (s7.rm hr).put (j := 11) (by decide) (by decide) (nI (cnt + 1))
                have hmz := hrz.mf
                refine q_iload_n hM dX7_readsReading_110 rfl ?_
                refine q_topb (d = true) (bdec _) ?_
                refine q_ifd_eq (tgt := 126) hM dX7_readsReading_111 (by decide) (fun c111 => ?_) (fun c111 => ?_)
                · refine q_iconst (v := 1) hM dX7_readsReading_126 (by decide) ?_
                  have er : rdg T k (f 1) p = (true, (nmb T k 60 (sgn T k 64 (nmb T k 300 (sgn T k 47 (nmb T k 300 (sgn T k 58 (nmb T k (f 1 - 1) p).2.1).2).2.1).2).2.1).2).2.1, (nmb T k (f 1 - 1) p).2.2, (nmb T k 300 (sgn T k 58 (nmb T k (f 1 - 1) p).2.1).2).2.2, (nmb T k 300 (sgn T k 47 (nmb T k 300 (sgn T k 58 (nmb T k (f 1 - 1) p).2.1).2).2.1).2).2.2, (nmb T k 60 (sgn T k 64 (nmb T k 300 (sgn T k 47 (nmb T k 300 (sgn T k 58 (nmb T k (f 1 - 1) p).2.1).2).2.1).2).2.1).2).2.2) := by unfold rdg; rw [if_pos c12]; unfold rdg2; rw [if_pos c28]; rw [if_pos c38]; unfold rdg3; rw [if_pos c54]; rw [if_pos c64]; unfold rdg4; rw [if_pos c86]; rw [if_pos c95]
                  rw [er] at hret
                  exact hret true _ _ _ _ _ _ rfl ⟨rfl, ⟨(up2_ne (Or.inr (by decide))).trans s7.1, up2_self _ _ _ _, by unfold rdA; rw [if_neg (fun z => c111 z.1)]; exact hrz, fun r r1 r2 => (up2_row r1).trans (s7.2.1 r r1), (up2_ne (Or.inr (by decide))).trans (s7.2.2 8 (by decide) (by decide))⟩, rfl, rfl⟩ dX7_readsReading_127
                · obtain ⟨v, hv, hev, hle⟩ := x1
                  have ht : v < cI (f 1) := lt_of_m1 hP hv hle
                  have hcv : cI (nmb T k (f 1 - 1) p).2.2 = v := by rw [hev]; exact cI_nI (by omega)
                  refine q_aload_n hM dX7_readsReading_114 rfl ?_
                  refine q_iload_n hM dX7_readsReading_115 rfl ?_
                  refine q_topi (nI v) hev ?_
                  refine q_iload_n hM dX7_readsReading_116 rfl ?_
                  refine q_iload hM dX7_readsReading_117 rfl ?_
                  refine q_aload_n hM dX7_readsReading_119 rfl ?_
                  refine g_X7_126 hM (by decide) (by decide) dX7_readsReading_120 ?_
                  refine q_topi ((nmb T k 60 (sgn T k 64 (nmb T k 300 (sgn T k 47 (nmb T k 300 (sgn T k 58 (nmb T k (f 1 - 1) p).2.1).2).2.1).2).2.1).2).2.2) ((up2_ne (Or.inr (by decide))).trans r7) ?_
                  refine callV_v hM mi_X7_reads lk_X7_67 cf_X7 (by decide) (by decide) (c_X7_reads l G hR hmz hP v ht _ _ _ (nn_of x3) (nn_of x5)) rfl rfl (by decide) (Nat.le_refl _) (by omega) (Nat.le_of_ble_eq_true rfl) dX7_readsReading_123 (fun I9 L9 X9 hp9 => ?_)
                  obtain ⟨rfl, rfl, rfl⟩ := hp9
                  refine q_iconst (v := 1) hM dX7_readsReading_126 (by decide) ?_
                  have er : rdg T k (f 1) p = (true, (nmb T k 60 (sgn T k 64 (nmb T k 300 (sgn T k 47 (nmb T k 300 (sgn T k 58 (nmb T k (f 1 - 1) p).2.1).2).2.1).2).2.1).2).2.1, (nmb T k (f 1 - 1) p).2.2, (nmb T k 300 (sgn T k 58 (nmb T k (f 1 - 1) p).2.1).2).2.2, (nmb T k 300 (sgn T k 47 (nmb T k 300 (sgn T k 58 (nmb T k (f 1 - 1) p).2.1).2).2.1).2).2.2, (nmb T k 60 (sgn T k 64 (nmb T k 300 (sgn T k 47 (nmb T k 300 (sgn T k 58 (nmb T k (f 1 - 1) p).2.1).2).2.1).2).2.1).2).2.2) := by unfold rdg; rw [if_pos c12]; unfold rdg2; rw [if_pos c28]; rw [if_pos c38]; unfold rdg3; rw [if_pos c54]; rw [if_pos c64]; unfold rdg4; rw [if_pos c86]; rw [if_pos c95]
                  rw [er] at hret
                  have hd : d = true := c111
                  exact hret true _ _ _ _ _ _ rfl ⟨rfl, ⟨by rw [up2_ne (Or.inl (by decide)), up2_ne (Or.inl (by decide))]; exact (up2_ne (Or.inr (by decide))).trans s7.1, by rw [up2_ne (Or.inl (by decide)), up2_ne (Or.inl (by decide))]; exact up2_self _ _ _ _, by unfold rdA; rw [if_pos ⟨hd, rfl⟩]; show RM _ _ _ (setF A (readF f (cI (nmb T k (f 1 - 1) p).2.2) (sJud f (cI (nmb T k (f 1 - 1) p).2.2) _ _ _)) g); rw [hcv]; exact (hrz.setI (i := 19 + 7 * v + 5) (by omega) _).setI (i := 19 + 7 * v + 6) (by omega) _, fun r r1 r2 => by rw [up2_row r2, up2_row r2, up2_row r1]; exact s7.2.1 r r1, by rw [up2_ne (Or.inl (by decide)), up2_ne (Or.inl (by decide)), up2_ne (Or.inr (by decide))]; exact s7.2.2 8 (by decide) (by decide)⟩, rfl, rfl⟩ dX7_readsReading_127
              · rw [if_neg c95]
                obtain ⟨I7, e7, s7, r7⟩ := s6.sg (nmb T k 60 (sgn T k 64 (nmb T k 300 (sgn T k 47 (nmb T k 300 (sgn T k 58 (nmb T k (f 1 - 1) p).2.1).2).2.1).2).2.1).2).2.1
                rw [e7]
                refine q_iconst (v := 0) hM dX7_readsReading_98 (by decide) ?_
                have er : rdg T k (f 1) p = (false, (nmb T k 60 (sgn T k 64 (nmb T k 300 (sgn T k 47 (nmb T k 300 (sgn T k 58 (nmb T k (f 1 - 1) p).2.1).2).2.1).2).2.1).2).2.1, 0, 0, 0, 0) := by unfold rdg; rw [if_pos c12]; unfold rdg2; rw [if_pos c28]; rw [if_pos c38]; unfold rdg3; rw [if_pos c54]; rw [if_pos c64]; unfold rdg4; rw [if_pos c86]; rw [if_neg c95]
                rw [er] at hret
                exact hret false _ _ _ _ _ _ rfl ⟨rfl, ⟨s7.1, (s7.2.2 11 (by decide) (by decide)).trans hI11, by rw [rdA_no rfl]; exact s7.rm hr, fun r r1 r2 => s7.2.1 r r1, s7.2.2 8 (by decide) (by decide)⟩, rfl, rfl⟩ dX7_readsReading_99
          · rw [if_neg c64]
            obtain ⟨I5, e5, s5, r5⟩ := s4.sg (nmb T k 300 (sgn T k 47 (nmb T k 300 (sgn T k 58 (nmb T k (f 1 - 1) p).2.1).2).2.1).2).2.1
            rw [e5]
            refine q_iconst (v := 0) hM dX7_readsReading_67 (by decide) ?_
            have er : rdg T k (f 1) p = (false, (nmb T k 300 (sgn T k 47 (nmb T k 300 (sgn T k 58 (nmb T k (f 1 - 1) p).2.1).2).2.1).2).2.1, 0, 0, 0, 0) := by unfold rdg; rw [if_pos c12]; unfold rdg2; rw [if_pos c28]; rw [if_pos c38]; unfold rdg3; rw [if_pos c54]; rw [if_neg c64]
            rw [er] at hret
            exact hret false _ _ _ _ _ _ rfl ⟨rfl, ⟨s5.1, (s5.2.2 11 (by decide) (by decide)).trans hI11, by rw [rdA_no rfl]; exact s5.rm hr, fun r r1 r2 => s5.2.1 r r1, s5.2.2 8 (by decide) (by decide)⟩, rfl, rfl⟩ dX7_readsReading_68
      · rw [if_neg c38]
        obtain ⟨I3, e3, s3, r3⟩ := s2.sg (nmb T k 300 (sgn T k 58 (nmb T k (f 1 - 1) p).2.1).2).2.1
        rw [e3]
        refine q_iconst (v := 0) hM dX7_readsReading_41 (by decide) ?_
        have er : rdg T k (f 1) p = (false, (nmb T k 300 (sgn T k 58 (nmb T k (f 1 - 1) p).2.1).2).2.1, 0, 0, 0, 0) := by unfold rdg; rw [if_pos c12]; unfold rdg2; rw [if_pos c28]; rw [if_neg c38]
        rw [er] at hret
        exact hret false _ _ _ _ _ _ rfl ⟨rfl, ⟨s3.1, (s3.2.2 11 (by decide) (by decide)).trans hI11, by rw [rdA_no rfl]; exact s3.rm hr, fun r r1 r2 => s3.2.1 r r1, s3.2.2 8 (by decide) (by decide)⟩, rfl, rfl⟩ dX7_readsReading_42
  · rw [if_neg c12]
    obtain ⟨I1, e1, s1, r1⟩ := s0.sg (nmb T k (f 1 - 1) p).2.1
    rw [e1]
    refine q_iconst (v := 0) hM dX7_readsReading_15 (by decide) ?_
    have er : rdg T k (f 1) p = (false, (nmb T k (f 1 - 1) p).2.1, 0, 0, 0, 0) := by unfold rdg; rw [if_neg c12]
    rw [er] at hret
    exact hret false _ _ _ _ _ _ rfl ⟨rfl, ⟨s1.1, (s1.2.2 11 (by decide) (by decide)).trans hI11, by rw [rdA_no rfl]; exact s1.rm hr, fun r r1 r2 => s1.2.1 r r1, s1.2.2 8 (by decide) (by decide)⟩, rfl, rfl⟩ dX7_readsReading_16
