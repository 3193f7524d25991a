/-! ===== the class's round ===== -/
theorem wk_at {I : kI} {n : Nat} {st : Nat → Int32} (hn : n ≤ 16) (h4 : ∀ p, p < n → I 128 p = st p) {k : Int32} (h0 : 0 ≤ k) : (if 0 ≤ k ∧ k < nI n then I 128 (cI k) else -1) = if k < nI n then st (cI k) else -1 := by
  by_cases h : k < nI n
  · rw [if_pos ⟨h0, h⟩, if_pos h]
    rw [le_i, i0] at h0
    rw [lt_i, nI_toInt (by omega)] at h
    have h3 := cI_int h0
    exact h4 _ (by omega)
  · rw [if_neg (fun q => h q.2), if_neg h]

set_option maxHeartbeats 4000000 in
set_option maxRecDepth 100000 in
theorem c_X4_nearestWaiting (l : Launch) (G : kG) {I : kI} {L : kL} {X : kX} {pm : Nat → Nat} {f : Fr} {g : Gr} (hR : Refs X pm) (hS : Sm I L 1 f g) (hP : PInv f) (w : Nat → Bool) (hw : ∀ t, t < cI (f 1) → I 129 t = bI (w t)) (a b : Int32) (ha : inR 0 a 50) (hb : inR 0 b 50)  : Ki l yX4_nearestWaiting cX4_nearestWaiting 8 2 G [.ref (ad G 127), .ref (ad G 1), .int a, .int b] 153 153 I L X (pE ((nrS f w a b (cI (f 1))).1) I L X) := by
  refine Ki_intro (own := RX4) (lv0 := [some (.ref (ad G 127)), some (.ref (ad G 1)), some (.int a), some (.int b), none, none, none, none]) 4 (by decide +kernel) rfl rfl (Nat.le_of_ble_eq_true rfl) (Nat.le_refl _) (fun J hM hret => ?_)
  have hn := hP.nT
  have hn8 := hP.nL
  refine q_iconst (v := -1) hM dX4_nearestWaiting_0 (by decide) ?_
  refine si_8_4 hM dX4_nearestWaiting_1 ?_
  refine q_iconst (v := 0) hM dX4_nearestWaiting_3 (by decide) ?_
  refine si_8_5 hM dX4_nearestWaiting_4 ?_
  refine q_iconst (v := 0) hM dX4_nearestWaiting_6 (by decide) ?_
  refine si_8_6 hM dX4_nearestWaiting_7 ?_
  have loop : ∀ (k i : Nat) (v7 : Option Value), i ≤ cI (f 1) → cI (f 1) < i + k → J 153 I L X 9 [some (.ref (ad G 127)), some (.ref (ad G 1)), some (.int a), some (.int b), some (.int (nrS f w a b i).1), some (.int (nrS f w a b i).2), some (.int (nI i)), v7] [] := by
    intro k
    induction k with
    | zero => intros; omega
    | succ k ih =>
      intro i v7 h1 h2
      refine q_iload hM dX4_nearestWaiting_9 rfl ?_
      refine q_aload_n hM dX4_nearestWaiting_11 rfl ?_
      refine g_X4_26 hM (by decide) (by decide) dX4_nearestWaiting_12 ?_
      refine q_icmp_geN (tgt := 69) hM i (cI (f 1)) rfl (hS.a1.trans hP.e1) (by omega) (by omega) dX4_nearestWaiting_15 (by decide) (fun c15 => ?_) (fun c15 => ?_)
      · obtain rfl : i = cI (f 1) := by omega
        refine q_iload hM dX4_nearestWaiting_69 rfl ?_
        exact hret _ _ _ _ _ _ ⟨rfl, rfl, rfl, rfl⟩ dX4_nearestWaiting_71
      · refine q_aload_n hM dX4_nearestWaiting_18 rfl ?_
        refine g_X4_31 hM (by decide) (by decide) hR.p2 dX4_nearestWaiting_19 ?_
        refine q_iload hM dX4_nearestWaiting_22 rfl ?_
        refine q_aald (r := 4) hM (by decide) 12 (by decide) (Or.inr (Or.inl rfl)) (i) rfl (show i < 16 by omega) (hR.pt (by omega)) dX4_nearestWaiting_24 ?_
        refine q_iload_n hM dX4_nearestWaiting_25 rfl ?_
        refine q_iload_n hM dX4_nearestWaiting_26 rfl ?_
        refine callVe_i hM mi_X5_wayFrom lk_X4_43 cf_X5 (ltT (t := i) (by omega)) (kdT (t := i) (by omega)) (c_X5_wayFrom l G i (by omega) a b) rfl rfl (by decide) (Nat.le_refl _) (by omega) (Nat.le_of_ble_eq_true rfl) dX4_nearestWaiting_27 ?_
        refine q_topi (wayF f i a b) (by rw [hS.tr c15 (by decide), hS.tr c15 (by decide)]; rfl) ?_
        refine si_8_7 hM dX4_nearestWaiting_30 ?_
        refine q_aload_n hM dX4_nearestWaiting_32 rfl ?_
        refine g_X4_15 hM (by decide) (by decide) hR.s1 dX4_nearestWaiting_33 ?_
        refine q_iload hM dX4_nearestWaiting_36 rfl ?_
        refine q_zald (r := 129) hM (by decide) (by decide) i rfl (show i < 16 by omega) dX4_nearestWaiting_38 ?_
        rw [hw i c15]
        refine q_topb (w i = true) (by cases w i <;> rfl) ?_
        refine q_ifd_eq (tgt := 63) hM dX4_nearestWaiting_39 (by decide) (fun c39 => ?_) (fun c39 => ?_)
        · refine sinc_8_6 hM dX4_nearestWaiting_63 (inc1 i) ?_
          refine q_goto (tgt := 9) hM dX4_nearestWaiting_66 (by decide) ?_
          have h0 := ih (i + 1) (some (.int (wayF f i a b))) (by omega) (by omega)
          first
            | (rw [nr_skip (f := f) (w := w) (a := a) (b := b) (i := i) (fun q => c39 q.1)] at h0; exact h0)
            | (rw [nr_take (f := f) (w := w) (a := a) (b := b) (i := i) ⟨c39, Or.inl c45⟩] at h0; exact h0)
            | (rw [nr_skip (f := f) (w := w) (a := a) (b := b) (i := i) (fun q => q.2.elim c45 (fun z => Int32.not_le.mpr z c52))] at h0; exact h0)
            | (rw [nr_take (f := f) (w := w) (a := a) (b := b) (i := i) ⟨c39, Or.inr (Int32.not_le.mp c52)⟩] at h0; exact h0)
        · refine q_iload hM dX4_nearestWaiting_42 rfl ?_
          refine q_iconst (v := -1) hM dX4_nearestWaiting_44 (by decide) ?_
          refine q_icmp_eq (tgt := 55) hM dX4_nearestWaiting_45 (by decide) (fun c45 => ?_) (fun c45 => ?_)
          · refine q_iload hM dX4_nearestWaiting_55 rfl ?_
            refine si_8_4 hM dX4_nearestWaiting_57 ?_
            refine q_iload hM dX4_nearestWaiting_59 rfl ?_
            refine si_8_5 hM dX4_nearestWaiting_61 ?_
            refine sinc_8_6 hM dX4_nearestWaiting_63 (inc1 i) ?_
            refine q_goto (tgt := 9) hM dX4_nearestWaiting_66 (by decide) ?_
            have h0 := ih (i + 1) (some (.int (wayF f i a b))) (by omega) (by omega)
            first
              | (rw [nr_skip (f := f) (w := w) (a := a) (b := b) (i := i) (fun q => c39 q.1)] at h0; exact h0)
              | (rw [nr_take (f := f) (w := w) (a := a) (b := b) (i := i) ⟨c39, Or.inl c45⟩] at h0; exact h0)
              | (rw [nr_skip (f := f) (w := w) (a := a) (b := b) (i := i) (fun q => q.2.elim c45 (fun z => Int32.not_le.mpr z c52))] at h0; exact h0)
              | (rw [nr_take (f := f) (w := w) (a := a) (b := b) (i := i) ⟨c39, Or.inr (Int32.not_le.mp c52)⟩] at h0; exact h0)
          · refine q_iload hM dX4_nearestWaiting_48 rfl ?_
            refine q_iload hM dX4_nearestWaiting_50 rfl ?_
            refine q_icmp_ge (tgt := 63) hM dX4_nearestWaiting_52 (by decide) (fun c52 => ?_) (fun c52 => ?_)
            · refine sinc_8_6 hM dX4_nearestWaiting_63 (inc1 i) ?_
              refine q_goto (tgt := 9) hM dX4_nearestWaiting_66 (by decide) ?_
              have h0 := ih (i + 1) (some (.int (wayF f i a b))) (by omega) (by omega)
              first
                | (rw [nr_skip (f := f) (w := w) (a := a) (b := b) (i := i) (fun q => c39 q.1)] at h0; exact h0)
                | (rw [nr_take (f := f) (w := w) (a := a) (b := b) (i := i) ⟨c39, Or.inl c45⟩] at h0; exact h0)
                | (rw [nr_skip (f := f) (w := w) (a := a) (b := b) (i := i) (fun q => q.2.elim c45 (fun z => Int32.not_le.mpr z c52))] at h0; exact h0)
                | (rw [nr_take (f := f) (w := w) (a := a) (b := b) (i := i) ⟨c39, Or.inr (Int32.not_le.mp c52)⟩] at h0; exact h0)
            · refine q_iload hM dX4_nearestWaiting_55 rfl ?_
              refine si_8_4 hM dX4_nearestWaiting_57 ?_
              refine q_iload hM dX4_nearestWaiting_59 rfl ?_
              refine si_8_5 hM dX4_nearestWaiting_61 ?_
              refine sinc_8_6 hM dX4_nearestWaiting_63 (inc1 i) ?_
              refine q_goto (tgt := 9) hM dX4_nearestWaiting_66 (by decide) ?_
              have h0 := ih (i + 1) (some (.int (wayF f i a b))) (by omega) (by omega)
              first
                | (rw [nr_skip (f := f) (w := w) (a := a) (b := b) (i := i) (fun q => c39 q.1)] at h0; exact h0)
                | (rw [nr_take (f := f) (w := w) (a := a) (b := b) (i := i) ⟨c39, Or.inl c45⟩] at h0; exact h0)
                | (rw [nr_skip (f := f) (w := w) (a := a) (b := b) (i := i) (fun q => q.2.elim c45 (fun z => Int32.not_le.mpr z c52))] at h0; exact h0)
                | (rw [nr_take (f := f) (w := w) (a := a) (b := b) (i := i) ⟨c39, Or.inr (Int32.not_le.mp c52)⟩] at h0; exact h0)
  exact loop (cI (f 1) + 1) 0 _ (Nat.zero_le _) (by omega)
set_option maxHeartbeats 4000000 in
set_option maxRecDepth 100000 in
theorem c_X4_stopAt (l : Launch) (G : kG) {I : kI} {L : kL} {X : kX} {pm : Nat → Nat} (hR : Refs X pm) (k : Int32) (c : Nat) (hc : c ≤ 16) (hI3 : I 127 2 = nI c)  : Ki l yX4_stopAt cX4_stopAt 2 0 G [.ref (ad G 127), .int k] 153 153 I L X (pE (if 0 ≤ k ∧ k < nI c then I 128 (cI k) else -1) I L X) := by
  refine Ki_intro (own := RX4) (lv0 := [some (.ref (ad G 127)), some (.int k)]) 0 (by decide +kernel) rfl rfl (Nat.le_of_ble_eq_true rfl) (Nat.le_refl _) (fun J hM hret => ?_)
  refine q_iload_n hM dX4_stopAt_0 rfl ?_
  refine q_if_lt (tgt := 21) hM dX4_stopAt_1 (by decide) (fun c1 => ?_) (fun c1 => ?_)
  · refine q_iconst (v := -1) hM dX4_stopAt_21 (by decide) ?_
    exact hret _ _ _ _ _ _ ⟨(if_neg (fun q => Int32.not_le.mpr c1 q.1)).symm, rfl, rfl, rfl⟩ dX4_stopAt_22
  · refine q_iload_n hM dX4_stopAt_4 rfl ?_
    refine q_aload_n hM dX4_stopAt_5 rfl ?_
    refine g_X4_19 hM (by decide) (by decide) dX4_stopAt_6 ?_
    refine q_topi (nI c) (hI3) ?_
    refine q_icmp_ge (tgt := 21) hM dX4_stopAt_9 (by decide) (fun c9 => ?_) (fun c9 => ?_)
    · refine q_iconst (v := -1) hM dX4_stopAt_21 (by decide) ?_
      exact hret _ _ _ _ _ _ ⟨(if_neg (fun q => Int32.not_le.mpr q.2 c9)).symm, rfl, rfl, rfl⟩ dX4_stopAt_22
    · refine q_aload_n hM dX4_stopAt_12 rfl ?_
      refine g_X4_9 hM (by decide) (by decide) hR.s0 dX4_stopAt_13 ?_
      refine q_iload_n hM dX4_stopAt_16 rfl ?_
      have hk0 : 0 ≤ k := Int32.not_lt.mp c1
      have hkc : k < nI c := Int32.not_le.mp c9
      have hki : k = nI (cI k) := nI_cI (by rw [le_i, i0] at hk0; exact hk0)
      have hkn : cI k < 16 := by
        have a := cI_int (x := k) (by rw [le_i, i0] at hk0; exact hk0)
        rw [lt_i, nI_toInt (by omega)] at hkc
        omega
      refine q_iald (r := 128) hM (by decide) (by decide) (cI k) hki (show cI k < 16 from hkn) dX4_stopAt_17 ?_
      refine q_goto (tgt := 22) hM dX4_stopAt_18 (by decide) ?_
      exact hret _ _ _ _ _ _ ⟨(if_pos ⟨hk0, hkc⟩).symm, rfl, rfl, rfl⟩ dX4_stopAt_22
set_option maxHeartbeats 4000000 in
set_option maxRecDepth 100000 in
theorem c_X4_plan (l : Launch) (G : kG) {I : kI} {L : kL} {X : kX} {pm : Nat → Nat} {f : Fr} {g : Gr} (hR : Refs X pm) (hS : Sm I L 1 f g) (hP : PInv f)  : Kv l yX4_plan cX4_plan 7 3 G [.ref (ad G 127), .ref (ad G 1)] 153 153 I L X (fun I' L' X' => (I' 127 2 = nI (wkF f).1 ∧ (∀ p, p < (wkF f).1 → I' 128 p = (wkF f).2.1 p) ∧ I' 127 3 = (wkF f).2.2 ∧ (wkF f).1 ≤ 16 ∧ FrW I I') ∧ L = L' ∧ X = X') := by
  refine Kv_intro (own := RX4) (lv0 := [some (.ref (ad G 127)), some (.ref (ad G 1)), none, none, none, none, none]) 5 (by decide +kernel) rfl rfl (Nat.le_of_ble_eq_true rfl) (Nat.le_refl _) (fun J hM hret => ?_)
  have hn := hP.nT
  have hn8 := hP.nL
  refine q_aload_n hM dX4_plan_0 rfl ?_
  refine q_iconst (v := 0) hM dX4_plan_1 (by decide) ?_
  refine p_X4_19 hM (by decide) (by decide) dX4_plan_2 ?_
  refine q_aload_n hM dX4_plan_5 rfl ?_
  refine q_iconst (v := 0) hM dX4_plan_6 (by decide) ?_
  refine p_X4_23 hM (by decide) (by decide) dX4_plan_7 ?_
  refine q_iconst (v := 0) hM dX4_plan_10 (by decide) ?_
  refine si_7_2 hM dX4_plan_11 ?_
  generalize hI0 : up2 (up2 I 127 2 0) 127 3 0 = I0
  have hF0 : FrW I I0 := fun r hr => by subst hI0; rw [up2_row (by omega), up2_row (by omega)]
  have h20 : I0 127 2 = 0 ∧ I0 127 3 = 0 := by subst hI0; exact ⟨(up2_ne (Or.inr (by decide))).trans (up2_self _ _ _ _), up2_self _ _ _ _⟩
  have loop : ∀ (k i : Nat) (I1 : kI), i ≤ cI (f 1) → cI (f 1) < i + k → (∀ r, r ≠ 129 → I1 r = I0 r) → (∀ t, t < i → I1 129 t = bI (decide (sDue f t))) → J 153 I1 L X 12 [some (.ref (ad G 127)), some (.ref (ad G 1)), some (.int (nI i)), none, none, none, none] [] := by
    intro k
    induction k with
    | zero => intros; omega
    | succ k ih =>
      intro i I1 h1 h2 hF1 hw1
      have hS1 := hS.frame (I' := I1) (L' := L) hn (fun r r1 r2 => ⟨by rw [hF1 r (by omega)]; exact hF0 r (by omega), rfl⟩)
      refine q_iload_n hM dX4_plan_12 rfl ?_
      refine q_aload_n hM dX4_plan_13 rfl ?_
      refine g_X4_26 hM (by decide) (by decide) dX4_plan_14 ?_
      refine q_topi (f 1) hS1.a1 ?_
      refine q_icmp_geN (tgt := 42) hM i (cI (f 1)) rfl hP.e1 (by omega) (by omega) dX4_plan_17 (by decide) (fun c17 => ?_) (fun c17 => ?_)
      · obtain rfl : i = cI (f 1) := by omega
        refine q_iconst (v := 0) hM dX4_plan_42 (by decide) ?_
        refine si_7_2 hM dX4_plan_43 ?_
        refine q_iconst (v := 0) hM dX4_plan_44 (by decide) ?_
        refine si_7_3 hM dX4_plan_45 ?_
        refine q_iconst (v := 0) hM dX4_plan_46 (by decide) ?_
        refine si_7_4 hM dX4_plan_47 ?_
        have loop2 : ∀ (k2 i : Nat) (I2 : kI) (w : Nat → Bool) (a b : Int32) (st : Nat → Int32) (len : Int32) (v5 v6 : Option Value), i ≤ cI (f 1) → cI (f 1) < i + k2 → FrW I I2 → I2 127 2 = nI i → (∀ p, p < i → I2 128 p = st p) → I2 127 3 = len → (∀ t, t < cI (f 1) → I2 129 t = bI (w t)) → i + cnt w (cI (f 1)) ≤ cI (f 1) → inR 0 a 50 → inR 0 b 50 → wk f (17 - i) w a b i st len = wkF f → J 153 I2 L X 49 [some (.ref (ad G 127)), some (.ref (ad G 1)), some (.int a), some (.int b), some (.int (nI i)), v5, v6] [] := by
          intro k2
          induction k2 with
          | zero => intros; omega
          | succ k2 ih2 =>
            intro i I2 w a b st len v5 v6 g1 g2 gF g3 g4 g5 gw gc ga gb gq
            have hS2 := hS.frame (I' := I2) (L' := L) hn (fun r r1 r2 => ⟨gF r (by omega), rfl⟩)
            refine q_iload hM dX4_plan_49 rfl ?_
            refine q_aload_n hM dX4_plan_51 rfl ?_
            refine g_X4_26 hM (by decide) (by decide) dX4_plan_52 ?_
            refine q_topi (f 1) hS2.a1 ?_
            refine q_icmp_geN (tgt := 146) hM i (cI (f 1)) rfl hP.e1 (by omega) (by omega) dX4_plan_55 (by decide) (fun c55 => ?_) (fun c55 => ?_)
            · have hstop : (nrS f w a b (cI (f 1))).1 = -1 := nr_none hn (cnt_none (by omega))
              refine q_aload_n hM dX4_plan_146 rfl ?_
              refine q_dup hM dX4_plan_147 rfl ?_
              refine g_X4_23 hM (by decide) (by decide) dX4_plan_148 ?_
              refine q_topi len g5 ?_
              refine q_iload_n hM dX4_plan_151 rfl ?_
              refine q_iconst (v := 0) hM dX4_plan_152 (by decide) ?_
              refine q_isub hM dX4_plan_153 ?_
              refine q_abs hM lk_X4_55 w_abs_s w_abs_i w_abs_c (by decide) (by omega) (Nat.le_of_ble_eq_true rfl) dX4_plan_154 ?_
              refine q_iload_n hM dX4_plan_157 rfl ?_
              refine q_iconst (v := 0) hM dX4_plan_158 (by decide) ?_
              refine q_isub hM dX4_plan_159 ?_
              refine q_abs hM lk_X4_55 w_abs_s w_abs_i w_abs_c (by decide) (by omega) (Nat.le_of_ble_eq_true rfl) dX4_plan_160 ?_
              refine q_iadd hM dX4_plan_163 ?_
              refine q_topi (a + b) (by have e1 := sz_self ga; have e2 := sz_self gb; unfold sz at e1 e2; rw [e1, e2]) ?_
              refine q_iadd hM dX4_plan_164 ?_
              refine p_X4_23 hM (by decide) (by decide) dX4_plan_165 ?_
              have hw9 := gq
              rw [wk_stop _ hstop] at hw9
              rw [← hw9] at hret
              exact hret _ _ _ _ _ ⟨⟨(up2_ne (Or.inr (by decide))).trans g3, fun p hp => (up2_ne (Or.inl (by decide))).trans (g4 p hp), up2_self _ _ _ _, by show i ≤ 16; omega, fun r hr => (up2_row (by omega)).trans (gF r hr)⟩, rfl, rfl⟩ dX4_plan_168
            · refine q_aload_n hM dX4_plan_58 rfl ?_
              refine q_aload_n hM dX4_plan_59 rfl ?_
              refine q_iload_n hM dX4_plan_60 rfl ?_
              refine q_iload_n hM dX4_plan_61 rfl ?_
              refine callVe_i hM mi_X4_nearestWaiting lk_X4_39 cf_X4 (by decide) (by decide) (c_X4_nearestWaiting l G hR hS2 hP w gw a b ga gb) rfl rfl (by decide) (Nat.le_refl _) (by omega) (Nat.le_of_ble_eq_true rfl) dX4_plan_62 ?_
              refine si_7_5 hM dX4_plan_65 ?_
              refine q_iload hM dX4_plan_67 rfl ?_
              refine q_iconst (v := -1) hM dX4_plan_69 (by decide) ?_
              refine q_icmp_ne (tgt := 76) hM dX4_plan_70 (by decide) (fun c70 => ?_) (fun c70 => ?_)
              · obtain ⟨t, ht, hwt, hnr⟩ := (nr_c (f := f) (w := w) (a := a) (b := b) hn).resolve_left (fun q => c70 q.1)
                have hn1 : (nrS f w a b (cI (f 1))).1 = nI t := by rw [hnr]
                rw [hn1]
                have ht16 : t < 16 := by omega
                refine q_aload_n hM dX4_plan_76 rfl ?_
                refine g_X4_31 hM (by decide) (by decide) hR.p2 dX4_plan_77 ?_
                refine q_iload hM dX4_plan_80 rfl ?_
                refine q_aald (r := 4) hM (by decide) 12 (by decide) (Or.inr (Or.inl rfl)) (t) rfl (show t < 16 by omega) (hR.pt (by omega)) dX4_plan_82 ?_
                refine sa_7_6 hM dX4_plan_83 ?_
                refine q_aload_n hM dX4_plan_85 rfl ?_
                refine q_dup hM dX4_plan_86 rfl ?_
                refine g_X4_23 hM (by decide) (by decide) dX4_plan_87 ?_
                refine q_topi len g5 ?_
                refine q_aload hM dX4_plan_90 rfl ?_
                refine q_iload_n hM dX4_plan_92 rfl ?_
                refine q_iload_n hM dX4_plan_93 rfl ?_
                refine callVe_i hM mi_X5_wayFrom lk_X4_43 cf_X5 (ltT (t := t) (by omega)) (kdT (t := t) (by omega)) (c_X5_wayFrom l G t (by omega) a b) rfl rfl (by decide) (Nat.le_refl _) (by omega) (Nat.le_of_ble_eq_true rfl) dX4_plan_94 ?_
                refine q_topi (wayF f t a b) (by rw [hS2.tr ht (by decide), hS2.tr ht (by decide)]; rfl) ?_
                refine q_iadd hM dX4_plan_97 ?_
                refine p_X4_23 hM (by decide) (by decide) dX4_plan_98 ?_
                refine q_aload hM dX4_plan_101 rfl ?_
                refine g_X4_49 hM (ltT (t := t) (by omega)) (kdT (t := t) (by omega)) dX4_plan_103 ?_
                refine q_topi (sOf f t 3) ((up2_ne (Or.inl (by omega))).trans (hS2.tr ht (by decide))) ?_
                refine si_7_2 hM dX4_plan_106 ?_
                refine q_aload hM dX4_plan_107 rfl ?_
                refine g_X4_52 hM (ltT (t := t) (by omega)) (kdT (t := t) (by omega)) dX4_plan_109 ?_
                refine q_topi (sOf f t 4) ((up2_ne (Or.inl (by omega))).trans (hS2.tr ht (by decide))) ?_
                refine si_7_3 hM dX4_plan_112 ?_
                refine q_aload_n hM dX4_plan_113 rfl ?_
                refine g_X4_15 hM (by decide) (by decide) hR.s1 dX4_plan_114 ?_
                refine q_iload hM dX4_plan_117 rfl ?_
                refine q_iconst (v := 0) hM dX4_plan_119 (by decide) ?_
                refine q_zast (r := 129) hM (by decide) (by decide) rfl t rfl (show t < 16 by omega) dX4_plan_120 ?_
                refine q_aload_n hM dX4_plan_121 rfl ?_
                refine g_X4_9 hM (by decide) (by decide) hR.s0 dX4_plan_122 ?_
                refine q_iload hM dX4_plan_125 rfl ?_
                refine q_iload hM dX4_plan_127 rfl ?_
                refine q_iast (r := 128) hM (by decide) (by decide) i rfl (show i < 16 by omega) dX4_plan_129 ?_
                refine q_aload_n hM dX4_plan_130 rfl ?_
                refine q_dup hM dX4_plan_131 rfl ?_
                refine g_X4_19 hM (by decide) (by decide) dX4_plan_132 ?_
                refine q_topi (nI i) ((up2_ne (Or.inl (by decide))).trans ((up2_ne (Or.inl (by decide))).trans ((up2_ne (Or.inr (by decide))).trans g3))) ?_
                refine q_iconst (v := 1) hM dX4_plan_135 (by decide) ?_
                refine q_iadd hM dX4_plan_136 ?_
                refine q_topi (nI (i + 1)) (nI_1 _) ?_
                refine p_X4_19 hM (by decide) (by decide) dX4_plan_137 ?_
                refine sinc_7_4 hM dX4_plan_140 (inc1 i) ?_
                refine q_goto (tgt := 49) hM dX4_plan_143 (by decide) ?_
                refine ih2 (i + 1) _ (va_up w t false) (sOf f t 3) (sOf f t 4) (va_up st i (nI t)) (len + wayF f t a b) _ _ (by omega) (by omega) (fun r hr => ?_) (up2_self _ _ _ _) (fun p hp => ?_) ?_ (fun t2 ht2 => ?_) (by have := cnt_off hwt ht; omega) (hP.t ht).2.2.2.1 (hP.t ht).2.2.2.2.1 (by rw [← gq, show 17 - i = 17 - (i + 1) + 1 by omega]; exact (wk_go _ (by omega) hnr).symm)
                · rw [up2_row (by omega), up2_row (by omega), up2_row (by omega), up2_row (by omega)]; exact gF r hr
                · rw [up2_ne (Or.inl (by decide))]
                  by_cases hpi : p = i
                  · subst hpi; rw [up2_self, va_up_self]
                  · rw [up2_ne (Or.inr hpi), va_up_ne _ _ hpi, up2_ne (Or.inl (by decide)), up2_ne (Or.inl (by decide))]; exact g4 p (by omega)
                · rw [up2_ne (Or.inr (by decide)), up2_ne (Or.inl (by decide)), up2_ne (Or.inl (by decide)), up2_self]
                · rw [up2_ne (Or.inl (by decide)), up2_ne (Or.inl (by decide))]
                  by_cases htt : t2 = t
                  · subst htt; rw [up2_self, va_up_self]; rfl
                  · rw [up2_ne (Or.inr htt), va_up_ne _ _ htt, up2_ne (Or.inl (by decide))]; exact gw t2 ht2
              · have hstop : (nrS f w a b (cI (f 1))).1 = -1 := c70
                refine q_goto (tgt := 146) hM dX4_plan_73 (by decide) ?_
                refine q_aload_n hM dX4_plan_146 rfl ?_
                refine q_dup hM dX4_plan_147 rfl ?_
                refine g_X4_23 hM (by decide) (by decide) dX4_plan_148 ?_
                refine q_topi len g5 ?_
                refine q_iload_n hM dX4_plan_151 rfl ?_
                refine q_iconst (v := 0) hM dX4_plan_152 (by decide) ?_
                refine q_isub hM dX4_plan_153 ?_
                refine q_abs hM lk_X4_55 w_abs_s w_abs_i w_abs_c (by decide) (by omega) (Nat.le_of_ble_eq_true rfl) dX4_plan_154 ?_
                refine q_iload_n hM dX4_plan_157 rfl ?_
                refine q_iconst (v := 0) hM dX4_plan_158 (by decide) ?_
                refine q_isub hM dX4_plan_159 ?_
                refine q_abs hM lk_X4_55 w_abs_s w_abs_i w_abs_c (by decide) (by omega) (Nat.le_of_ble_eq_true rfl) dX4_plan_160 ?_
                refine q_iadd hM dX4_plan_163 ?_
                refine q_topi (a + b) (by have e1 := sz_self ga; have e2 := sz_self gb; unfold sz at e1 e2; rw [e1, e2]) ?_
                refine q_iadd hM dX4_plan_164 ?_
                refine p_X4_23 hM (by decide) (by decide) dX4_plan_165 ?_
                have hw9 := gq
                rw [wk_stop _ hstop] at hw9
                rw [← hw9] at hret
                exact hret _ _ _ _ _ ⟨⟨(up2_ne (Or.inr (by decide))).trans g3, fun p hp => (up2_ne (Or.inl (by decide))).trans (g4 p hp), up2_self _ _ _ _, by show i ≤ 16; omega, fun r hr => (up2_row (by omega)).trans (gF r hr)⟩, rfl, rfl⟩ dX4_plan_168
        exact loop2 (cI (f 1) + 1) 0 I1 (fun t => decide (sDue f t)) 0 0 (fun _ => 0) 0 none none (Nat.zero_le _) (by omega) (fun r hr => by rw [hF1 r (by omega)]; exact hF0 r hr) (by rw [hF1 127 (by decide)]; exact h20.1) (fun p hp => absurd hp (Nat.not_lt_zero p)) (by rw [hF1 127 (by decide)]; exact h20.2) hw1 (by have := cnt_le (fun t => decide (sDue f t)) (cI (f 1)); omega) ⟨by decide, by decide⟩ ⟨by decide, by decide⟩ rfl
      · refine q_aload_n hM dX4_plan_20 rfl ?_
        refine g_X4_15 hM (by decide) (by decide) hR.s1 dX4_plan_21 ?_
        refine q_iload_n hM dX4_plan_24 rfl ?_
        refine q_aload_n hM dX4_plan_25 rfl ?_
        refine q_aload_n hM dX4_plan_26 rfl ?_
        refine g_X4_31 hM (by decide) (by decide) hR.p2 dX4_plan_27 ?_
        refine q_iload_n hM dX4_plan_30 rfl ?_
        refine q_aald (r := 4) hM (by decide) 12 (by decide) (Or.inr (Or.inl rfl)) (i) rfl (show i < 16 by omega) (hR.pt (by omega)) dX4_plan_31 ?_
        refine callVe_z hM mi_X1_needsVisit lk_X4_35 cf_X1 (by decide) (by decide) (c_X1_needsVisit l G hR hS1 hP i c17) rfl rfl (by decide) (Nat.le_refl _) (by omega) (Nat.le_of_ble_eq_true rfl) dX4_plan_32 ?_
        refine q_zast (r := 129) hM (by decide) (by decide) (nbI _) i rfl (show i < 16 by omega) dX4_plan_35 ?_
        refine sinc_7_2 hM dX4_plan_36 (inc1 i) ?_
        refine q_goto (tgt := 12) hM dX4_plan_39 (by decide) ?_
        refine ih (i + 1) _ (by omega) (by omega) (fun r hr => (up2_row hr).trans (hF1 r hr)) (fun t ht => ?_)
        by_cases hti : t = i
        · subst hti; exact up2_self _ _ _ _
        · rw [up2_ne (Or.inr hti)]; exact hw1 t (by omega)
  exact loop (cI (f 1) + 1) 0 I0 (Nat.zero_le _) (by omega) (fun _ _ => rfl) (fun t ht => absurd ht (Nat.not_lt_zero t))
set_option maxHeartbeats 4000000 in
set_option maxRecDepth 100000 in
theorem c_X6_round (l : Launch) (G : kG) {I : kI} {L : kL} {X : kX} {A : kA} (hC : RC I L X A) (hA : AInv A) (k : Int32)  : Ki l yX6_round cX6_round 2 4 G [.ref (ad G 0), .int k] 153 153 I L X (fun v I' L' X' => v = rRound A k ∧ RC I' L' X' A ∧ FrM I I' L L' X X') := by
  refine Ki_intro (own := RX6) (lv0 := [some (.ref (ad G 0)), some (.int k)]) 0 (by decide +kernel) rfl rfl (Nat.le_of_ble_eq_true rfl) (Nat.le_refl _) (fun J hM hret => ?_)
  obtain ⟨pm, hH, hS, hT⟩ := id hC
  have hR := hH.1
  have hP := hA.f
  have hn := hP.nT
  have hn8 := hP.nL
  refine q_iload_n hM dX6_round_0 rfl ?_
  refine q_if_ge (tgt := 7) hM dX6_round_1 (by decide) (fun c1 => ?_) (fun c1 => ?_)
  · refine q_aload_n hM dX6_round_7 rfl ?_
    refine g_X6_33 hM (by decide) (by decide) hR.x3 dX6_round_8 ?_
    refine q_aload_n hM dX6_round_11 rfl ?_
    refine g_X6_10 hM (by decide) (by decide) hR.x0 dX6_round_12 ?_
    refine callV_v hM mi_X4_plan lk_X6_202 cf_X4 (by decide) (by decide) (c_X4_plan l G hR hS hP) rfl rfl (by decide) (Nat.le_refl _) (by omega) (Nat.le_of_ble_eq_true rfl) dX6_round_15 (fun I9 L9 X9 hp9 => ?_)
    obtain ⟨⟨h3, h4, h5, h6, hF⟩, rfl, rfl⟩ := hp9
    refine q_aload_n hM dX6_round_18 rfl ?_
    refine g_X6_33 hM (by decide) (by decide) hR.x3 dX6_round_19 ?_
    refine q_iload_n hM dX6_round_22 rfl ?_
    refine callVe_i hM mi_X4_stopAt lk_X6_205 cf_X4 (by decide) (by decide) (c_X4_stopAt l G hR k (wkF (aF A)).1 h6 h3) rfl rfl (by decide) (Nat.le_refl _) (by omega) (Nat.le_of_ble_eq_true rfl) dX6_round_23 ?_
    exact hret _ _ _ _ _ _ ⟨by unfold rRound; rw [if_neg (fun q => Int32.not_le.mpr q c1)]; exact wk_at h6 h4 c1, hC.rowsW hA hF, fun r hr => ⟨hF r (by omega), rfl, rfl⟩⟩ dX6_round_26
  · refine q_bipush (v := -3) hM dX6_round_4 (by decide) ?_
    exact hret _ _ _ _ _ _ ⟨by unfold rRound; rw [if_pos (Int32.not_le.mp c1)], hC, FrM.rf⟩ dX6_round_6
set_option maxHeartbeats 4000000 in
set_option maxRecDepth 100000 in
theorem c_X6_roundLength (l : Launch) (G : kG) {I : kI} {L : kL} {X : kX} {A : kA} (hC : RC I L X A) (hA : AInv A)  : Ki l yX6_roundLength cX6_roundLength 1 4 G [.ref (ad G 0)] 153 153 I L X (fun v I' L' X' => v = rRoundLen A ∧ RC I' L' X' A ∧ FrM I I' L L' X X') := by
  refine Ki_intro (own := RX6) (lv0 := [some (.ref (ad G 0))]) 0 (by decide +kernel) rfl rfl (Nat.le_of_ble_eq_true rfl) (Nat.le_refl _) (fun J hM hret => ?_)
  obtain ⟨pm, hH, hS, hT⟩ := id hC
  have hR := hH.1
  have hP := hA.f
  have hn := hP.nT
  have hn8 := hP.nL
  refine q_aload_n hM dX6_roundLength_0 rfl ?_
  refine g_X6_33 hM (by decide) (by decide) hR.x3 dX6_roundLength_1 ?_
  refine q_aload_n hM dX6_roundLength_4 rfl ?_
  refine g_X6_10 hM (by decide) (by decide) hR.x0 dX6_roundLength_5 ?_
  refine callV_v hM mi_X4_plan lk_X6_202 cf_X4 (by decide) (by decide) (c_X4_plan l G hR hS hP) rfl rfl (by decide) (Nat.le_refl _) (by omega) (Nat.le_of_ble_eq_true rfl) dX6_roundLength_8 (fun I9 L9 X9 hp9 => ?_)
  obtain ⟨⟨h3, h4, h5, h6, hF⟩, rfl, rfl⟩ := hp9
  refine q_aload_n hM dX6_roundLength_11 rfl ?_
  refine g_X6_33 hM (by decide) (by decide) hR.x3 dX6_roundLength_12 ?_
  refine g_X6_208 hM (by decide) (by decide) dX6_roundLength_15 ?_
  exact hret _ _ _ _ _ _ ⟨h5, hC.rowsW hA hF, fun r hr => ⟨hF r (by omega), rfl, rfl⟩⟩ dX6_roundLength_18
