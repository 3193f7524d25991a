/-! ===== the class's repair order ===== -/
abbrev Bet (I : kI) (L : kL) (a b : Nat) : Prop := L 126 a < L 126 b ∨ (L 126 a = L 126 b ∧ I 125 b < I 125 a)
theorem dec1 {j : Nat} (h : 0 < j) : nI j + Int32.ofInt (-1) = nI (j - 1) := by
  have e : nI j - nI 1 = nI (j - 1) := pk_sub (show 1 ≤ j by omega)
  rw [← e, Int32.sub_eq_add_neg]
  rfl
theorem bet_ahd {f : Fr} {I : kI} {L : kL} {i x : Nat} (h1 : L 126 i = sPay f i) (h2 : L 126 x = sPay f x) (h3 : I 125 i = sLoss f i) (h4 : I 125 x = sLoss f x) : (Bet I L i x → ahd f i x = true) ∧ (x < i → ¬ Bet I L i x → ahd f x i = true) := by
  unfold Bet
  rw [h1, h2, h3, h4, ahd_iff, ahd_iff]
  simp only [Int64.lt_iff_toInt_lt, ← Int64.toInt_inj, lt_i]
  omega
/-- the rows of the repair order may change -/
def FrO (I I' : kI) (L L' : kL) : Prop := ∀ r, (r < 123 ∨ 127 ≤ r) → I' r = I r ∧ L' r = L r
def FrO1 (I I' : kI) (L L' : kL) : Prop := ∀ r, (r = 0 ∨ 21 ≤ r) → (r < 123 ∨ 127 ≤ r) → I' r = I r ∧ L' r = L r
theorem FrO.m {I I' : kI} {L L' : kL} {X : kX} (h : FrO I I' L L') : FrM I I' L L' X X := fun r hr => ⟨(h r (by omega)).1, (h r (by omega)).2, rfl⟩
theorem RC.rows {I I' : kI} {L L' : kL} {X : kX} {A : kA} (hC : RC I L X A) (hA : AInv A) (h : FrO I I' L L') : RC I' L' X A := by
  obtain ⟨pm, hH, hS, hT⟩ := hC
  exact ⟨pm, hH.frame hA (fun r r1 r2 => h r (by omega)) rfl, hS.frame hA.f.nT (fun r r1 r2 => h r (by omega)), by rw [(h 130 (by omega)).1]; exact hT.1, fun j hj => by rw [(h 131 (by omega)).1]; exact hT.2 j hj⟩
theorem RC.done2 {I I1 I2 : kI} {L L1 L2 : kL} {X X1 X2 : kX} {A : kA} {f : Fr} {g : Gr} (hk : KPost I L X A I1 L1 X1) (hA : AInv A) (hT : TC I A) (hS : Sm I2 L2 1 f g) (hF : FrO1 I1 I2 L1 L2) (hX : X1 = X2) : RC I2 L2 X2 (setF (keepA A) f g) ∧ FrM I I2 L L2 X X2 := by
  obtain ⟨⟨pm', hH⟩, hk2⟩ := hk
  subst hX
  refine ⟨⟨pm', (hH.frame hA.keep (fun r r1 r2 => hF r (by omega) (by omega)) rfl).setF (f := f) (g := g), ?_, ?_⟩, fun r hr => ⟨((hF r (by omega) (by omega)).1).trans (hk2 r (by omega)).1, ((hF r (by omega) (by omega)).2).trans (hk2 r (by omega)).2.1, (hk2 r (by omega)).2.2⟩⟩
  · show Sm I2 L2 1 (va_up (keepA A).1 0 f 0) (va_up (keepA A).2.1 0 g 0)
    rw [va_up_self, va_up_self]
    exact hS
  · refine ⟨?_, fun j hj => ?_⟩
    · rw [(hF 130 (by omega) (by omega)).1, (hk2 130 (by omega)).1]; exact hT.1
    · rw [(hF 131 (by omega) (by omega)).1, (hk2 131 (by omega)).1]; exact hT.2 j hj
def rOrder (A : kA) (k : Int32) : Int32 := if k < 0 then -3 else sOrd (aF A) k
theorem rk_at {f : Fr} {I : kI} {rL : Nat → Nat} {c : Nat} (hK : Rkd f (cI (f 1)) rL c) (hn : cI (f 1) ≤ 16) (h4 : ∀ p, p < c → I 124 p = nI (rL p)) (k : Int32) : (if 0 ≤ k ∧ k < nI c then I 124 (cI k) else -1) = if 0 ≤ k ∧ k < nI c then nI (rL (cI k)) else -1 := by
  by_cases h : 0 ≤ k ∧ k < nI c
  · rw [if_pos h, if_pos h]
    have hc := hK.2.2.2
    obtain ⟨h1, h2⟩ := h
    rw [le_i, i0] at h1
    rw [lt_i, nI_toInt (by omega)] at h2
    have h3 := cI_int h1
    exact h4 _ (by omega)
  · rw [if_neg h, if_neg h]
theorem rk_first {f : Fr} {I : kI} {rL : Nat → Nat} {c i : Nat} (hso : sOrd f 0 = if 0 ≤ (0 : Int32) ∧ 0 < nI (c - i) then nI (rL (cI 0 + i)) else -1) (h4 : ∀ p, p < c → I 124 p = nI (rL p)) (hi : i ≤ c) (hc : c ≤ 16) : (if 0 ≤ nI i ∧ nI i < nI c then I 124 (cI (nI i)) else -1) = sOrd f 0 := by
  rw [hso]
  have h0 : cI 0 = 0 := rfl
  by_cases h : i < c
  · have a : 0 ≤ nI i ∧ nI i < nI c := ⟨by rw [le_i, i0, nI_toInt (by omega)]; omega, nI_lt h (by omega)⟩
    have b : 0 ≤ (0 : Int32) ∧ 0 < nI (c - i) := ⟨by decide, by rw [lt_i, i0, nI_toInt (by omega)]; omega⟩
    rw [if_pos a, if_pos b, cI_nI (by omega), h0, Nat.zero_add]
    exact h4 i h
  · rw [if_neg (fun q => by have := q.2; rw [lt_i, nI_toInt (by omega), nI_toInt (by omega)] at this; omega), if_neg (fun q => by have := q.2; rw [show c - i = 0 by omega] at this; exact absurd this (by decide))]
theorem nI_ne {j : Nat} (h : j < 2 ^ 31) : ¬ nI j = -1 := by
  rw [eq_i, nI_toInt h, show (-1 : Int32).toInt = -1 from rfl]
  omega
theorem no_ord {f : Fr} (hP : PInv f) {k : Int32} (h : ¬ (0 ≤ sOrd f k ∧ sOrd f k < f 1)) : sOrd f k = -1 := by
  rcases ord_cases f k with h1 | ⟨t, h1, h2, h3⟩
  · exact h1
  · exact absurd (by rw [h3]; exact trapYes hP h1) h

set_option maxHeartbeats 4000000 in
set_option maxRecDepth 100000 in
theorem c_X3_isBetter (l : Launch) (G : kG) {I : kI} {L : kL} {X : kX} {pm : Nat → Nat} (hR : Refs X pm) (a b : Nat) (ha : a < 16) (hb : b < 16)  : Kz l yX3_isBetter cX3_isBetter 3 0 G [.ref (ad G 123), .int (nI a), .int (nI b)] 153 153 I L X (pE (decide (Bet I L a b)) I L X) := by
  refine Kz_intro (own := RX3) (lv0 := [some (.ref (ad G 123)), some (.int (nI a)), some (.int (nI b))]) 0 (by decide +kernel) rfl rfl (Nat.le_of_ble_eq_true rfl) (Nat.le_refl _) (fun J hM hret => ?_)
  refine q_aload_n hM dX3_isBetter_0 rfl ?_
  refine g_X3_18 hM (by decide) (by decide) hR.o2 dX3_isBetter_1 ?_
  refine q_iload_n hM dX3_isBetter_4 rfl ?_
  refine q_lald (r := 126) hM (by decide) (by decide) (a) rfl (show a < 16 by omega) dX3_isBetter_5 ?_
  refine q_aload_n hM dX3_isBetter_6 rfl ?_
  refine g_X3_18 hM (by decide) (by decide) hR.o2 dX3_isBetter_7 ?_
  refine q_iload_n hM dX3_isBetter_10 rfl ?_
  refine q_lald (r := 126) hM (by decide) (by decide) (b) rfl (show b < 16 by omega) dX3_isBetter_11 ?_
  refine q_lcmp hM dX3_isBetter_12 ?_
  refine q_if_eq (tgt := 38) hM dX3_isBetter_13 (by decide) (fun c13 => ?_) (fun c13 => ?_)
  · refine q_aload_n hM dX3_isBetter_38 rfl ?_
    refine g_X3_15 hM (by decide) (by decide) hR.o1 dX3_isBetter_39 ?_
    refine q_iload_n hM dX3_isBetter_42 rfl ?_
    refine q_iald (r := 125) hM (by decide) (by decide) (a) rfl (show a < 16 by omega) dX3_isBetter_43 ?_
    refine q_aload_n hM dX3_isBetter_44 rfl ?_
    refine g_X3_15 hM (by decide) (by decide) hR.o1 dX3_isBetter_45 ?_
    refine q_iload_n hM dX3_isBetter_48 rfl ?_
    refine q_iald (r := 125) hM (by decide) (by decide) (b) rfl (show b < 16 by omega) dX3_isBetter_49 ?_
    refine q_icmp_le (tgt := 57) hM dX3_isBetter_50 (by decide) (fun c50 => ?_) (fun c50 => ?_)
    · refine q_iconst (v := 0) hM dX3_isBetter_57 (by decide) ?_
      exact hret false _ _ _ _ _ _ rfl ⟨(by simp only [Bet, lgc_eq, ← Int32.not_lt, lgc_neg] at c13 c50 ⊢; simp only [Int64.lt_iff_toInt_lt, ← Int64.toInt_inj, lt_i] at c13 c50 ⊢; first | (apply Eq.symm; apply decide_eq_true; omega) | (apply Eq.symm; apply decide_eq_false; omega)), rfl, rfl, rfl⟩ dX3_isBetter_58
    · refine q_iconst (v := 1) hM dX3_isBetter_53 (by decide) ?_
      refine q_goto (tgt := 58) hM dX3_isBetter_54 (by decide) ?_
      exact hret true _ _ _ _ _ _ rfl ⟨(by simp only [Bet, lgc_eq, ← Int32.not_lt, lgc_neg] at c13 c50 ⊢; simp only [Int64.lt_iff_toInt_lt, ← Int64.toInt_inj, lt_i] at c13 c50 ⊢; first | (apply Eq.symm; apply decide_eq_true; omega) | (apply Eq.symm; apply decide_eq_false; omega)), rfl, rfl, rfl⟩ dX3_isBetter_58
  · refine q_aload_n hM dX3_isBetter_16 rfl ?_
    refine g_X3_18 hM (by decide) (by decide) hR.o2 dX3_isBetter_17 ?_
    refine q_iload_n hM dX3_isBetter_20 rfl ?_
    refine q_lald (r := 126) hM (by decide) (by decide) (a) rfl (show a < 16 by omega) dX3_isBetter_21 ?_
    refine q_aload_n hM dX3_isBetter_22 rfl ?_
    refine g_X3_18 hM (by decide) (by decide) hR.o2 dX3_isBetter_23 ?_
    refine q_iload_n hM dX3_isBetter_26 rfl ?_
    refine q_lald (r := 126) hM (by decide) (by decide) (b) rfl (show b < 16 by omega) dX3_isBetter_27 ?_
    refine q_lcmp hM dX3_isBetter_28 ?_
    refine q_if_ge (tgt := 36) hM dX3_isBetter_29 (by decide) (fun c29 => ?_) (fun c29 => ?_)
    · refine q_iconst (v := 0) hM dX3_isBetter_36 (by decide) ?_
      exact hret false _ _ _ _ _ _ rfl ⟨(by simp only [Bet, lgc_eq, ← Int32.not_lt, lgc_neg] at c13 c29 ⊢; simp only [Int64.lt_iff_toInt_lt, ← Int64.toInt_inj, lt_i] at c13 c29 ⊢; first | (apply Eq.symm; apply decide_eq_true; omega) | (apply Eq.symm; apply decide_eq_false; omega)), rfl, rfl, rfl⟩ dX3_isBetter_37
    · refine q_iconst (v := 1) hM dX3_isBetter_32 (by decide) ?_
      refine q_goto (tgt := 37) hM dX3_isBetter_33 (by decide) ?_
      exact hret true _ _ _ _ _ _ rfl ⟨(by simp only [Bet, lgc_eq, ← Int32.not_lt, lgc_neg] at c13 c29 ⊢; simp only [Int64.lt_iff_toInt_lt, ← Int64.toInt_inj, lt_i] at c13 c29 ⊢; first | (apply Eq.symm; apply decide_eq_true; omega) | (apply Eq.symm; apply decide_eq_false; omega)), rfl, rfl, rfl⟩ dX3_isBetter_37
set_option maxHeartbeats 4000000 in
set_option maxRecDepth 100000 in
theorem c_X3_insert (l : Launch) (G : kG) {I : kI} {L : kL} {X : kX} {pm : Nat → Nat} (hR : Refs X pm) (rL : Nat → Nat) (c t : Nat) (hc : c ≤ 15) (ht : t < 16) (hI3 : I 123 3 = nI c) (hI4 : ∀ p, p < c → I 124 p = nI (rL p)) (hrl : ∀ p, p < c → rL p < 16)  : Kv l yX3_insert cX3_insert 3 1 G [.ref (ad G 123), .int (nI t)] 153 153 I L X (fun I' L' X' => (∃ j, j ≤ c ∧ (∀ p, j ≤ p → p < c → Bet I L t (rL p)) ∧ (0 < j → ¬ Bet I L t (rL (j - 1))) ∧ (∀ p, p < c + 1 → I' 124 p = nI (insL rL j t p)) ∧ I' 123 3 = nI (c + 1) ∧ (∀ r, r ≠ 123 → r ≠ 124 → I' r = I r)) ∧ L = L' ∧ X = X') := by
  refine Kv_intro (own := RX3) (lv0 := [some (.ref (ad G 123)), some (.int (nI t)), none]) 1 (by decide +kernel) rfl rfl (Nat.le_of_ble_eq_true rfl) (Nat.le_refl _) (fun J hM hret => ?_)
  refine q_aload_n hM dX3_insert_0 rfl ?_
  refine g_X3_22 hM (by decide) (by decide) dX3_insert_1 ?_
  refine q_topi (nI c) (hI3) ?_
  refine si_3_2 hM dX3_insert_4 ?_
  have loop : ∀ (k j : Nat) (I1 : kI), j ≤ c → j < k → (∀ r, r ≠ 124 → I1 r = I r) → (∀ p, p < j → I1 124 p = nI (rL p)) → (∀ p, j ≤ p → p < c → I1 124 (p + 1) = nI (rL p) ∧ Bet I L t (rL p)) → J 153 I1 L X 5 [some (.ref (ad G 123)), some (.int (nI t)), some (.int (nI j))] [] := by
    intro k
    induction k with
    | zero => intros; omega
    | succ k ih =>
      intro j I1 hj hk h1 h2 h3
      refine q_iload_n hM dX3_insert_5 rfl ?_
      refine q_if_leN (tgt := 45) hM j rfl (by omega) dX3_insert_6 (by decide) (fun c6 => ?_) (fun c6 => ?_)
      · refine q_aload_n hM dX3_insert_45 rfl ?_
        refine g_X3_9 hM (by decide) (by decide) hR.o0 dX3_insert_46 ?_
        refine q_iload_n hM dX3_insert_49 rfl ?_
        refine q_iload_n hM dX3_insert_50 rfl ?_
        refine q_iast (r := 124) hM (by decide) (by decide) (j) (rfl) (show j < 16 by omega) dX3_insert_51 ?_
        refine q_aload_n hM dX3_insert_52 rfl ?_
        refine q_dup hM dX3_insert_53 rfl ?_
        refine g_X3_22 hM (by decide) (by decide) dX3_insert_54 ?_
        refine q_topi (nI c) ((up2_ne (Or.inl (by decide))).trans ((congrFun (h1 123 (by decide)) 3).trans hI3)) ?_
        refine q_iconst (v := 1) hM dX3_insert_57 (by decide) ?_
        refine q_iadd hM dX3_insert_58 ?_
        refine q_topi (nI (c + 1)) (nI_1 _) ?_
        refine p_X3_22 hM (by decide) (by decide) dX3_insert_59 ?_
        refine hret _ _ _ _ _ ⟨⟨j, hj, fun p a b => (h3 p a b).2, fun q => absurd q (by omega), fun p hp => ?_, up2_self _ _ _ _, fun r r1 r2 => ?_⟩, rfl, rfl⟩ dX3_insert_62
        · rw [up2_ne (Or.inl (by decide))]
          unfold insL
          by_cases q1 : p < j
          · rw [if_pos q1, up2_ne (by omega)]; exact h2 p q1
          · rw [if_neg q1]
            by_cases q2 : p = j
            · subst q2; rw [if_pos rfl, up2_self]
            · rw [if_neg q2, up2_ne (by omega)]
              have := (h3 (p - 1) (by omega) (by omega)).1
              rwa [show p - 1 + 1 = p by omega] at this
        · rw [up2_row r1, up2_row r2]; exact h1 r r2
      · have hj0 : 0 < j := c6
        refine q_aload_n hM dX3_insert_9 rfl ?_
        refine q_iload_n hM dX3_insert_10 rfl ?_
        refine q_aload_n hM dX3_insert_11 rfl ?_
        refine g_X3_9 hM (by decide) (by decide) hR.o0 dX3_insert_12 ?_
        refine q_iload_n hM dX3_insert_15 rfl ?_
        refine q_iconst (v := 1) hM dX3_insert_16 (by decide) ?_
        refine q_isub hM dX3_insert_17 ?_
        refine q_topi (nI (j - 1)) (pk_sub (show 1 ≤ j by omega)) ?_
        refine q_iald (r := 124) hM (by decide) (by decide) (j - 1) rfl (show j - 1 < 16 by omega) dX3_insert_18 ?_
        refine q_topi (nI (rL (j - 1))) (h2 _ (by omega)) ?_
        refine callVe_z hM mi_X3_isBetter lk_X3_47 cf_X3 (by decide) (by decide) (c_X3_isBetter l G hR t (rL (j - 1)) ht (hrl _ (by omega))) rfl rfl (by decide) (Nat.le_refl _) (by omega) (Nat.le_of_ble_eq_true rfl) dX3_insert_19 ?_
        refine q_ifd_eq (tgt := 45) hM dX3_insert_22 (by decide) (fun c22 => ?_) (fun c22 => ?_)
        · have hBt : ¬ Bet I L t (rL (j - 1)) := fun q => c22 (by unfold Bet; rw [h1 125 (by decide)]; exact q)
          refine q_aload_n hM dX3_insert_45 rfl ?_
          refine g_X3_9 hM (by decide) (by decide) hR.o0 dX3_insert_46 ?_
          refine q_iload_n hM dX3_insert_49 rfl ?_
          refine q_iload_n hM dX3_insert_50 rfl ?_
          refine q_iast (r := 124) hM (by decide) (by decide) (j) (rfl) (show j < 16 by omega) dX3_insert_51 ?_
          refine q_aload_n hM dX3_insert_52 rfl ?_
          refine q_dup hM dX3_insert_53 rfl ?_
          refine g_X3_22 hM (by decide) (by decide) dX3_insert_54 ?_
          refine q_topi (nI c) ((up2_ne (Or.inl (by decide))).trans ((congrFun (h1 123 (by decide)) 3).trans hI3)) ?_
          refine q_iconst (v := 1) hM dX3_insert_57 (by decide) ?_
          refine q_iadd hM dX3_insert_58 ?_
          refine q_topi (nI (c + 1)) (nI_1 _) ?_
          refine p_X3_22 hM (by decide) (by decide) dX3_insert_59 ?_
          refine hret _ _ _ _ _ ⟨⟨j, hj, fun p a b => (h3 p a b).2, fun _ => hBt, fun p hp => ?_, up2_self _ _ _ _, fun r r1 r2 => ?_⟩, rfl, rfl⟩ dX3_insert_62
          · rw [up2_ne (Or.inl (by decide))]
            unfold insL
            by_cases q1 : p < j
            · rw [if_pos q1, up2_ne (by omega)]; exact h2 p q1
            · rw [if_neg q1]
              by_cases q2 : p = j
              · subst q2; rw [if_pos rfl, up2_self]
              · rw [if_neg q2, up2_ne (by omega)]
                have := (h3 (p - 1) (by omega) (by omega)).1
                rwa [show p - 1 + 1 = p by omega] at this
          · rw [up2_row r1, up2_row r2]; exact h1 r r2
        · have hBt : Bet I L t (rL (j - 1)) := by have q := c22; unfold Bet at q; rw [h1 125 (by decide)] at q; exact q
          refine q_aload_n hM dX3_insert_25 rfl ?_
          refine g_X3_9 hM (by decide) (by decide) hR.o0 dX3_insert_26 ?_
          refine q_iload_n hM dX3_insert_29 rfl ?_
          refine q_aload_n hM dX3_insert_30 rfl ?_
          refine g_X3_9 hM (by decide) (by decide) hR.o0 dX3_insert_31 ?_
          refine q_iload_n hM dX3_insert_34 rfl ?_
          refine q_iconst (v := 1) hM dX3_insert_35 (by decide) ?_
          refine q_isub hM dX3_insert_36 ?_
          refine q_topi (nI (j - 1)) (pk_sub (show 1 ≤ j by omega)) ?_
          refine q_iald (r := 124) hM (by decide) (by decide) (j - 1) rfl (show j - 1 < 16 by omega) dX3_insert_37 ?_
          refine q_topi (nI (rL (j - 1))) (h2 _ (by omega)) ?_
          refine q_iast (r := 124) hM (by decide) (by decide) (j) (rfl) (show j < 16 by omega) dX3_insert_38 ?_
          refine sinc_3_2 hM dX3_insert_39 (dec1 (by omega)) ?_
          refine q_goto (tgt := 5) hM dX3_insert_42 (by decide) ?_
          refine ih (j - 1) _ (by omega) (by omega) (fun r hr => (up2_row hr).trans (h1 r hr)) (fun p hp => (up2_ne (by omega)).trans (h2 p (by omega))) (fun p p1 p2 => ?_)
          by_cases hpj : p = j - 1
          · subst hpj
            rw [show j - 1 + 1 = j by omega, up2_self]
            exact ⟨rfl, hBt⟩
          · rw [up2_ne (by omega)]; exact h3 p (by omega) p2
  exact loop (c + 1) c I (Nat.le_refl _) (by omega) (fun _ _ => rfl) hI4 (fun p a b => absurd b (by omega))
set_option maxHeartbeats 4000000 in
set_option maxRecDepth 100000 in
theorem c_X3_trapAtRank (l : Launch) (G : kG) {I : kI} {L : kL} {X : kX} {pm : Nat → Nat} (hR : Refs X pm) (k : Int32) (c : Nat) (hc : c ≤ 16) (hI3 : I 123 3 = nI c)  : Ki l yX3_trapAtRank cX3_trapAtRank 2 0 G [.ref (ad G 123), .int k] 153 153 I L X (pE (if 0 ≤ k ∧ k < nI c then I 124 (cI k) else -1) I L X) := by
  refine Ki_intro (own := RX3) (lv0 := [some (.ref (ad G 123)), some (.int k)]) 0 (by decide +kernel) rfl rfl (Nat.le_of_ble_eq_true rfl) (Nat.le_refl _) (fun J hM hret => ?_)
  refine q_iload_n hM dX3_trapAtRank_0 rfl ?_
  refine q_if_lt (tgt := 21) hM dX3_trapAtRank_1 (by decide) (fun c1 => ?_) (fun c1 => ?_)
  · refine q_iconst (v := -1) hM dX3_trapAtRank_21 (by decide) ?_
    exact hret _ _ _ _ _ _ ⟨(if_neg (fun q => Int32.not_le.mpr c1 q.1)).symm, rfl, rfl, rfl⟩ dX3_trapAtRank_22
  · refine q_iload_n hM dX3_trapAtRank_4 rfl ?_
    refine q_aload_n hM dX3_trapAtRank_5 rfl ?_
    refine g_X3_22 hM (by decide) (by decide) dX3_trapAtRank_6 ?_
    refine q_topi (nI c) (hI3) ?_
    refine q_icmp_ge (tgt := 21) hM dX3_trapAtRank_9 (by decide) (fun c9 => ?_) (fun c9 => ?_)
    · refine q_iconst (v := -1) hM dX3_trapAtRank_21 (by decide) ?_
      exact hret _ _ _ _ _ _ ⟨(if_neg (fun q => Int32.not_le.mpr q.2 c9)).symm, rfl, rfl, rfl⟩ dX3_trapAtRank_22
    · refine q_aload_n hM dX3_trapAtRank_12 rfl ?_
      refine g_X3_9 hM (by decide) (by decide) hR.o0 dX3_trapAtRank_13 ?_
      refine q_iload_n hM dX3_trapAtRank_16 rfl ?_
      have hk0 : 0 ≤ k := Int32.not_lt.mp c1
      have hkc : k < nI c := Int32.not_le.mp c9
      have hki : k = nI (cI k) := nI_cI (by rw [le_i, i0] at hk0; exact hk0)
      have hkn : cI k < 16 := by
        have a := cI_int (x := k) (by rw [le_i, i0] at hk0; exact hk0)
        rw [lt_i, nI_toInt (by omega)] at hkc
        omega
      refine q_iald (r := 124) hM (by decide) (by decide) (cI k) hki (show cI k < 16 from hkn) dX3_trapAtRank_17 ?_
      refine q_goto (tgt := 22) hM dX3_trapAtRank_18 (by decide) ?_
      exact hret _ _ _ _ _ _ ⟨(if_pos ⟨hk0, hkc⟩).symm, rfl, rfl, rfl⟩ dX3_trapAtRank_22
set_option maxHeartbeats 4000000 in
set_option maxRecDepth 100000 in
theorem c_X3_rankTraps (l : Launch) (G : kG) {I : kI} {L : kL} {X : kX} {pm : Nat → Nat} {f : Fr} {g : Gr} (hR : Refs X pm) (hS : Sm I L 1 f g) (hP : PInv f)  : Kv l yX3_rankTraps cX3_rankTraps 3 5 G [.ref (ad G 123), .ref (ad G 1)] 153 153 I L X (fun I' L' X' => (∃ rL c, Rkd f (cI (f 1)) rL c ∧ I' 123 3 = nI c ∧ (∀ p, p < c → I' 124 p = nI (rL p)) ∧ FrO I I' L L') ∧ X = X') := by
  refine Kv_intro (own := RX3) (lv0 := [some (.ref (ad G 123)), some (.ref (ad G 1)), none]) 1 (by decide +kernel) rfl rfl (Nat.le_of_ble_eq_true rfl) (Nat.le_refl _) (fun J hM hret => ?_)
  have hn := hP.nT
  have hn8 := hP.nL
  refine q_aload_n hM dX3_rankTraps_0 rfl ?_
  refine q_iconst (v := 0) hM dX3_rankTraps_1 (by decide) ?_
  refine p_X3_22 hM (by decide) (by decide) dX3_rankTraps_2 ?_
  refine q_iconst (v := 0) hM dX3_rankTraps_5 (by decide) ?_
  refine si_3_2 hM dX3_rankTraps_6 ?_
  have loop : ∀ (k i : Nat) (I1 : kI) (L1 : kL) (rL : Nat → Nat) (c : Nat), i ≤ cI (f 1) → cI (f 1) < i + k → Rkd f i rL c → I1 123 3 = nI c → (∀ p, p < c → I1 124 p = nI (rL p)) → (∀ t, t < i → I1 125 t = sLoss f t ∧ L1 126 t = sPay f t) → FrO I I1 L L1 → J 153 I1 L1 X 7 [some (.ref (ad G 123)), some (.ref (ad G 1)), some (.int (nI i))] [] := by
    intro k
    induction k with
    | zero => intros; omega
    | succ k ih =>
      intro i I1 L1 rL c h1 h2 hK h3 h4 h5 hF
      have hS1 := hS.frame hn (fun r r1 r2 => hF r (by omega))
      refine q_iload_n hM dX3_rankTraps_7 rfl ?_
      refine q_aload_n hM dX3_rankTraps_8 rfl ?_
      refine g_X3_26 hM (by decide) (by decide) dX3_rankTraps_9 ?_
      refine q_icmp_geN (tgt := 67) hM i (cI (f 1)) rfl (hS1.a1.trans hP.e1) (by omega) (by omega) dX3_rankTraps_12 (by decide) (fun c12 => ?_) (fun c12 => ?_)
      · obtain rfl : i = cI (f 1) := by omega
        exact hret _ _ _ _ _ ⟨⟨rL, c, hK, h3, h4, hF⟩, rfl⟩ dX3_rankTraps_67
      · refine q_aload_n hM dX3_rankTraps_15 rfl ?_
        refine g_X3_15 hM (by decide) (by decide) hR.o1 dX3_rankTraps_16 ?_
        refine q_iload_n hM dX3_rankTraps_19 rfl ?_
        refine q_aload_n hM dX3_rankTraps_20 rfl ?_
        refine q_aload_n hM dX3_rankTraps_21 rfl ?_
        refine g_X3_31 hM (by decide) (by decide) hR.p2 dX3_rankTraps_22 ?_
        refine q_iload_n hM dX3_rankTraps_25 rfl ?_
        refine q_aald (r := 4) hM (by decide) 12 (by decide) (Or.inr (Or.inl rfl)) (i) rfl (show i < 16 by omega) (hR.pt (by omega)) dX3_rankTraps_26 ?_
        refine callVe_i hM mi_X1_lossOf lk_X3_35 cf_X1 (by decide) (by decide) (c_X1_lossOf l G hR hS1 hP i c12) rfl rfl (by decide) (Nat.le_refl _) (by omega) (Nat.le_of_ble_eq_true rfl) dX3_rankTraps_27 ?_
        refine q_iast (r := 125) hM (by decide) (by decide) (i) (rfl) (show i < 16 by omega) dX3_rankTraps_30 ?_
        have hS2 := hS1.frame (I' := up2 I1 125 i (sLoss f i)) (L' := L1) hn (fun r r1 r2 => ⟨up2_row (by omega), rfl⟩)
        refine q_aload_n hM dX3_rankTraps_31 rfl ?_
        refine g_X3_18 hM (by decide) (by decide) hR.o2 dX3_rankTraps_32 ?_
        refine q_iload_n hM dX3_rankTraps_35 rfl ?_
        refine q_aload_n hM dX3_rankTraps_36 rfl ?_
        refine q_aload_n hM dX3_rankTraps_37 rfl ?_
        refine g_X3_31 hM (by decide) (by decide) hR.p2 dX3_rankTraps_38 ?_
        refine q_iload_n hM dX3_rankTraps_41 rfl ?_
        refine q_aald (r := 4) hM (by decide) 12 (by decide) (Or.inr (Or.inl rfl)) (i) rfl (show i < 16 by omega) (hR.pt (by omega)) dX3_rankTraps_42 ?_
        refine callVe_l hM mi_X1_paybackOf lk_X3_39 cf_X1 (by decide) (by decide) (c_X1_paybackOf l G hR hS2 hP i c12) rfl rfl (by decide) (Nat.le_refl _) (by omega) (Nat.le_of_ble_eq_true rfl) dX3_rankTraps_43 ?_
        refine q_last (r := 126) hM (by decide) (by decide) (i) (rfl) (show i < 16 by omega) dX3_rankTraps_46 ?_
        refine q_aload_n hM dX3_rankTraps_47 rfl ?_
        refine g_X3_15 hM (by decide) (by decide) hR.o1 dX3_rankTraps_48 ?_
        refine q_iload_n hM dX3_rankTraps_51 rfl ?_
        refine q_iald (r := 125) hM (by decide) (by decide) (i) rfl (show i < 16 by omega) dX3_rankTraps_52 ?_
        refine q_topi (sLoss f i) (up2_self _ _ _ _) ?_
        refine q_if_le (tgt := 61) hM dX3_rankTraps_53 (by decide) (fun c53 => ?_) (fun c53 => ?_)
        · have hp : pos f i = false := decide_eq_false (fun q => Int32.not_le.mpr q c53)
          refine sinc_3_2 hM dX3_rankTraps_61 (inc1 i) ?_
          refine q_goto (tgt := 7) hM dX3_rankTraps_64 (by decide) ?_
          refine ih (i + 1) _ _ rL c (by omega) (by omega) (hK.skip hp) ((up2_ne (Or.inl (by decide))).trans h3) (fun p hp' => (up2_ne (Or.inl (by decide))).trans (h4 p hp')) (fun t ht => ?_) (fun r hr => ⟨(up2_row (by omega)).trans (hF r hr).1, (up2_row (by omega)).trans (hF r hr).2⟩)
          by_cases hti : t = i
          · subst hti; exact ⟨up2_self _ _ _ _, up2_self _ _ _ _⟩
          · rw [up2_ne (by omega), up2_ne (by omega)]; exact h5 t (by omega)
        · have hp : pos f i = true := decide_eq_true (Int32.not_le.mp c53)
          have hcn := hK.2.2.2
          have e5 : ∀ t, t < i + 1 → up2 I1 125 i (sLoss f i) 125 t = sLoss f t ∧ up2 L1 126 i (sPay f i) 126 t = sPay f t := fun t ht => by
            by_cases hti : t = i
            · subst hti; exact ⟨up2_self _ _ _ _, up2_self _ _ _ _⟩
            · rw [up2_ne (by omega), up2_ne (by omega)]; exact h5 t (by omega)
          refine q_aload_n hM dX3_rankTraps_56 rfl ?_
          refine q_iload_n hM dX3_rankTraps_57 rfl ?_
          refine callV_v hM mi_X3_insert lk_X3_43 cf_X3 (by decide) (by decide) (c_X3_insert l G hR rL c i (by omega) (by omega) ((up2_ne (Or.inl (by decide))).trans h3) (fun p hp => (up2_ne (Or.inl (by decide))).trans (h4 p hp)) (fun p hp => by have := (hK.2.2.1 p hp).1; omega)) rfl rfl (by decide) (Nat.le_refl _) (by omega) (Nat.le_of_ble_eq_true rfl) dX3_rankTraps_58 (fun I9 L9 X9 hp9 => ?_)
          obtain ⟨⟨j, b1, b2, b3, b4, b5, b6⟩, rfl, rfl⟩ := hp9
          refine sinc_3_2 hM dX3_rankTraps_61 (inc1 i) ?_
          refine q_goto (tgt := 7) hM dX3_rankTraps_64 (by decide) ?_
          have bt : ∀ x, x < i → _ := fun x hx => bet_ahd (f := f) (e5 i (by omega)).2 (e5 x (by omega)).2 (e5 i (by omega)).1 (e5 x (by omega)).1
          refine ih (i + 1) _ _ (insL rL j i) (c + 1) (by omega) (by omega) (hK.ins hp b1 (fun p p1 p2 => (bt _ (hK.2.2.1 p p2).1).1 (b2 p p1 p2)) (fun p hp' => ?_)) b5 b4 (fun t ht => ?_) (fun r hr => ⟨?_, (up2_row (by omega)).trans (hF r hr).2⟩)
          · have hl := (bt _ (hK.2.2.1 (j - 1) (by omega)).1).2 (hK.2.2.1 (j - 1) (by omega)).1 (b3 (by omega))
            by_cases hpj : p = j - 1
            · rw [hpj]; exact hl
            · exact ahd_trans (hK.2.1 p (j - 1) (by omega) (by omega)) hl
          · rw [b6 125 (by decide) (by decide)]; exact e5 t ht
          · rw [b6 r (by omega) (by omega)]; exact (up2_row (by omega)).trans (hF r hr).1
  exact loop (cI (f 1) + 1) 0 _ L (fun _ => 0) 0 (Nat.zero_le _) (by omega) Rkd.nil (up2_self _ _ _ _) (fun p hp => absurd hp (Nat.not_lt_zero p)) (fun p hp => absurd hp (Nat.not_lt_zero p)) (fun r hr => ⟨up2_row (by omega), rfl⟩)
set_option maxHeartbeats 4000000 in
set_option maxRecDepth 100000 in
theorem c_X6_order (l : Launch) (G : kG) {I : kI} {L : kL} {X : kX} {A : kA} (hC : RC I L X A) (hA : AInv A) (k : Int32)  : Ki l yX6_order cX6_order 2 6 G [.ref (ad G 0), .int k] 153 153 I L X (fun v I' L' X' => v = rOrder A k ∧ RC I' L' X' A ∧ FrM I I' L L' X X') := by
  refine Ki_intro (own := RX6) (lv0 := [some (.ref (ad G 0)), some (.int k)]) 0 (by decide +kernel) rfl rfl (Nat.le_of_ble_eq_true rfl) (Nat.le_refl _) (fun J hM hret => ?_)
  obtain ⟨pm, hH, hS, hT⟩ := id hC
  have hR := hH.1
  have hP := hA.f
  have hn := hP.nT
  have hn8 := hP.nL
  refine q_iload_n hM dX6_order_0 rfl ?_
  refine q_if_ge (tgt := 7) hM dX6_order_1 (by decide) (fun c1 => ?_) (fun c1 => ?_)
  · refine q_aload_n hM dX6_order_7 rfl ?_
    refine g_X6_26 hM (by decide) (by decide) hR.x2 dX6_order_8 ?_
    refine q_aload_n hM dX6_order_11 rfl ?_
    refine g_X6_10 hM (by decide) (by decide) hR.x0 dX6_order_12 ?_
    refine callV_v hM mi_X3_rankTraps lk_X6_188 cf_X3 (by decide) (by decide) (c_X3_rankTraps l G hR hS hP) rfl rfl (by decide) (Nat.le_refl _) (by omega) (Nat.le_of_ble_eq_true rfl) dX6_order_15 (fun I9 L9 X9 hp9 => ?_)
    obtain ⟨⟨rL, c, hK, h3, h4, hF⟩, rfl⟩ := hp9
    have hcn := hK.2.2.2
    refine q_aload_n hM dX6_order_18 rfl ?_
    refine g_X6_26 hM (by decide) (by decide) hR.x2 dX6_order_19 ?_
    refine q_iload_n hM dX6_order_22 rfl ?_
    refine callVe_i hM mi_X3_trapAtRank lk_X6_191 cf_X3 (by decide) (by decide) (c_X3_trapAtRank l G hR k c (by omega) h3) rfl rfl (by decide) (Nat.le_refl _) (by omega) (Nat.le_of_ble_eq_true rfl) dX6_order_23 ?_
    exact hret _ _ _ _ _ _ ⟨by unfold rOrder; rw [if_neg (fun q => Int32.not_le.mpr q c1), hK.ord hn k]; exact rk_at hK hn h4 k, RC.rows hC hA hF, FrO.m hF⟩ dX6_order_26
  · refine q_bipush (v := -3) hM dX6_order_4 (by decide) ?_
    exact hret _ _ _ _ _ _ ⟨by unfold rOrder; rw [if_pos (Int32.not_le.mp c1)], hC, FrM.rf⟩ dX6_order_6
set_option maxHeartbeats 4000000 in
set_option maxRecDepth 100000 in
theorem c_X6_repairAll (l : Launch) (G : kG) {I : kI} {L : kL} {X : kX} {A : kA} (hC : RC I L X A) (hA : AInv A) (a : Int32)  : Ki l yX6_repairAll cX6_repairAll 6 6 G [.ref (ad G 0), .int a] 153 153 I L X (fun v I' L' X' => v = rAll A a ∧ RC I' L' X' (sAll A a) ∧ FrM I I' L L' X X') := by
  refine Ki_intro (own := RX6) (lv0 := [some (.ref (ad G 0)), some (.int a), none, none, none, none]) 4 (by decide +kernel) rfl rfl (Nat.le_of_ble_eq_true rfl) (Nat.le_refl _) (fun J hM hret => ?_)
  obtain ⟨pm, hH, hS, hT⟩ := id hC
  have hR := hH.1
  have hP := hA.f
  have hn := hP.nT
  have hn8 := hP.nL
  refine q_iload_n hM dX6_repairAll_0 rfl ?_
  refine q_iconst (v := 0) hM dX6_repairAll_1 (by decide) ?_
  refine q_sipush (v := 10000) hM dX6_repairAll_2 (by decide) ?_
  refine callSe_z hM mi_X6_isWithin lk_X6_48 (c_X6_isWithin l G _ _ _) rfl rfl (by decide) (Nat.le_refl _) (by omega) (Nat.le_of_ble_eq_true rfl) dX6_repairAll_5 ?_
  refine q_ifd_ne (tgt := 14) hM dX6_repairAll_8 (by decide) (fun c8 => ?_) (fun c8 => ?_)
  · refine q_aload_n hM dX6_repairAll_14 rfl ?_
    refine g_X6_19 hM (by decide) (by decide) hR.x1 dX6_repairAll_15 ?_
    refine q_aload_n hM dX6_repairAll_18 rfl ?_
    refine g_X6_10 hM (by decide) (by decide) hR.x0 dX6_repairAll_19 ?_
    refine callV_v hM mi_X0_keep lk_X6_52 cf_X0 (by decide) (by decide) (c_X0_keep l G hH hS hA) rfl rfl (by decide) (Nat.le_refl _) (by omega) (Nat.le_of_ble_eq_true rfl) dX6_repairAll_22 (fun I9 L9 X9 hp9 => ?_)
    have hk := hp9
    have hS9 := hk.sm hA hS
    have hR9 := hk.1.choose_spec.1
    obtain ⟨Ik, hIk⟩ : ∃ q, q = I9 := ⟨_, rfl⟩
    obtain ⟨Lk, hLk⟩ : ∃ q, q = L9 := ⟨_, rfl⟩
    subst hIk hLk
    refine q_aload_n hM dX6_repairAll_25 rfl ?_
    refine g_X6_26 hM (by decide) (by decide) hR9.x2 dX6_repairAll_26 ?_
    refine q_aload_n hM dX6_repairAll_29 rfl ?_
    refine g_X6_10 hM (by decide) (by decide) hR9.x0 dX6_repairAll_30 ?_
    refine callV_v hM mi_X3_rankTraps lk_X6_188 cf_X3 (by decide) (by decide) (c_X3_rankTraps l G hR9 hS9 hP) rfl rfl (by decide) (Nat.le_refl _) (by omega) (Nat.le_of_ble_eq_true rfl) dX6_repairAll_33 (fun I9 L9 X9 hp9 => ?_)
    obtain ⟨⟨rL, c, hK, h3, h4, hF⟩, rfl⟩ := hp9
    have hcn := hK.2.2.2
    refine q_iload_n hM dX6_repairAll_36 rfl ?_
    refine si_6_2 hM dX6_repairAll_37 ?_
    refine q_iconst (v := 0) hM dX6_repairAll_38 (by decide) ?_
    refine si_6_3 hM dX6_repairAll_39 ?_
    refine q_iconst (v := 0) hM dX6_repairAll_40 (by decide) ?_
    refine si_6_4 hM dX6_repairAll_41 ?_
    have loop : ∀ (k i : Nat) (left ct : Int32) (v5 : Option Value) (I1 : kI) (L1 : kL) (f1 : Fr), i ≤ c → c < i + k → PInv f1 → f1 1 = aF A 1 → Sm I1 L1 1 f1 (aG A) → Rkd f1 (cI (f1 1)) (fun p => rL (p + i)) (c - i) → I1 123 3 = nI c → (∀ p, p < c → I1 124 p = nI (rL p)) → FrO1 Ik I1 Lk L1 → repA (17 - i) f1 left ct = repA 17 (aF A) a 0 → J 153 I1 L1 X9 43 [some (.ref (ad G 0)), some (.int a), some (.int left), some (.int ct), some (.int (nI i)), v5] [] := by
      intro k
      induction k with
      | zero => intros; omega
      | succ k ih =>
        intro i left ct v5 I1 L1 f1 hi1 hi2 hP1 e1 hS1 hK1 h31 h41 hF1 hq
        have hso := hK1.ord (by rw [e1]; exact hn) 0
        refine q_iload hM dX6_repairAll_43 rfl ?_
        refine q_bipush (v := 16) hM dX6_repairAll_45 (by decide) ?_
        refine q_icmp_geN (tgt := 111) hM i 16 rfl rfl (by omega) (by omega) dX6_repairAll_47 (by decide) (fun c47 => ?_) (fun c47 => ?_)
        · refine q_iload_n hM dX6_repairAll_111 rfl ?_
          have hd := RC.done2 hk hA hT hS1 hF1 rfl
          exact hret _ _ _ _ _ _ ⟨by unfold rAll; rw [if_pos c8, ← hq]; rw [show 17 - i = 16 - i + 1 by omega, repA, if_pos (hso.trans (if_neg (fun z => by have := z.2; rw [show c - i = 0 by omega] at this; exact absurd this (by decide))))], by unfold sAll; rw [if_pos c8, ← hq]; rw [show 17 - i = 16 - i + 1 by omega, repA, if_pos (hso.trans (if_neg (fun z => by have := z.2; rw [show c - i = 0 by omega] at this; exact absurd this (by decide))))]; exact hd.1, hd.2⟩ dX6_repairAll_112
        · refine q_aload_n hM dX6_repairAll_50 rfl ?_
          refine g_X6_10 hM (by decide) (by decide) hR9.x0 dX6_repairAll_51 ?_
          refine q_aload_n hM dX6_repairAll_54 rfl ?_
          refine g_X6_26 hM (by decide) (by decide) hR9.x2 dX6_repairAll_55 ?_
          refine q_iload hM dX6_repairAll_58 rfl ?_
          refine callVe_i hM mi_X3_trapAtRank lk_X6_191 cf_X3 (by decide) (by decide) (c_X3_trapAtRank l G hR9 (nI i) c (by omega) h31) rfl rfl (by decide) (Nat.le_refl _) (by omega) (Nat.le_of_ble_eq_true rfl) dX6_repairAll_60 ?_
          refine q_topi (sOrd f1 0) (rk_first hso h41 hi1 (by omega)) ?_
          refine callV_q hM mi_X1_trapAt lk_X6_101 cf_X1 (by decide) (by decide) (c_X1_trapAt l G hR9 hS1 hP1 _) rfl rfl (by decide) (Nat.le_refl _) (by omega) (Nat.le_of_ble_eq_true rfl) dX6_repairAll_63 (fun qr I9 L9 X9 hp9 => ?_)
          obtain ⟨hp9, rfl, rfl, rfl⟩ := hp9
          rcases hp9 with ⟨j, hj, hjt, rfl⟩ | ⟨hno, rfl⟩
          · have hj' : j < cI (aF A 1) := by rw [← e1]; exact hj
            have hj16 : j < 16 := by omega
            have hne : ¬ sOrd f1 0 = -1 := by rw [hjt]; exact nI_ne (by omega)
            have hcj : cI (sOrd f1 0) = j := by rw [hjt]; exact cI_nI (by omega)
            refine sa_6_5 hM dX6_repairAll_66 ?_
            refine q_aload hM dX6_repairAll_68 rfl ?_
            refine q_ifnull hM dX6_repairAll_70 ?_
            refine q_aload hM dX6_repairAll_73 rfl ?_
            refine callVe_i hM mi_X5_costOfRepair lk_X6_180 cf_X5 (ltT (t := j) (by omega)) (kdT (t := j) (by omega)) (c_X5_costOfRepair l G j (by omega)) rfl rfl (by decide) (Nat.le_refl _) (by omega) (Nat.le_of_ble_eq_true rfl) dX6_repairAll_75 ?_
            refine q_topi (sCost f1 j) (by rw [hS1.tr hj (by decide), hS1.tr hj (by decide)]; rfl) ?_
            refine q_iload_n hM dX6_repairAll_78 rfl ?_
            refine q_icmp_le (tgt := 85) hM dX6_repairAll_79 (by decide) (fun c79 => ?_) (fun c79 => ?_)
            · have hle : ¬ left < sCost f1 j := Int32.not_lt.mpr c79
              refine q_iload_n hM dX6_repairAll_85 rfl ?_
              refine q_aload hM dX6_repairAll_86 rfl ?_
              refine callVe_i hM mi_X5_costOfRepair lk_X6_180 cf_X5 (ltT (t := j) (by omega)) (kdT (t := j) (by omega)) (c_X5_costOfRepair l G j (by omega)) rfl rfl (by decide) (Nat.le_refl _) (by omega) (Nat.le_of_ble_eq_true rfl) dX6_repairAll_88 ?_
              refine q_topi (sCost f1 j) (by rw [hS1.tr hj (by decide), hS1.tr hj (by decide)]; rfl) ?_
              refine q_isub hM dX6_repairAll_91 ?_
              refine si_6_2 hM dX6_repairAll_92 ?_
              refine q_aload_n hM dX6_repairAll_93 rfl ?_
              refine g_X6_10 hM (by decide) (by decide) hR9.x0 dX6_repairAll_94 ?_
              refine q_aload hM dX6_repairAll_97 rfl ?_
              refine callV_v hM mi_X1_mend lk_X6_194 cf_X1 (by decide) (by decide) (c_X1_mend l G hR9 hS1 hP1 j hj) rfl rfl (by decide) (Nat.le_refl _) (by omega) (Nat.le_of_ble_eq_true rfl) dX6_repairAll_99 (fun I9 L9 X9 hp9 => ?_)
              obtain ⟨hS2, hF2, rfl⟩ := hp9
              refine sinc_6_3 hM dX6_repairAll_102 rfl ?_
              refine sinc_6_4 hM dX6_repairAll_105 (inc1 i) ?_
              refine q_goto (tgt := 43) hM dX6_repairAll_108 (by decide) ?_
              have hic : i < c := by
                rcases Nat.lt_or_ge i c with q | q
                · exact q
                · exact absurd (hso.trans (if_neg (fun z => by have := z.2; rw [show c - i = 0 by omega] at this; exact absurd this (by decide)))) hne
              have hrj : rL (0 + i) = j := by
                have e := hso
                rw [if_pos ⟨by decide, by exact nI_lt (a := 0) (by omega) (by omega)⟩, hjt] at e
                have e2 : nI j = nI (rL (0 + i)) := e
                have hb := (hK1.2.2.1 0 (by omega)).1
                rw [e1] at hb
                have hb2 : rL (0 + i) < cI (aF A 1) := hb
                exact ((nI_eq (by omega) (by omega)).mp e2).symm
              have hK2 : Rkd (mendF f1 j) (cI (mendF f1 j 1)) (fun p => rL (p + (i + 1))) (c - (i + 1)) := by
                have hKx : Rkd f1 (cI (f1 1)) (fun p => rL (p + i)) (c - (i + 1) + 1) := by rw [show c - (i + 1) + 1 = c - i by omega]; exact hK1
                have hm := hKx.mend hP1
                simp only [hrj] at hm
                have ef : (fun p => rL (p + 1 + i)) = fun p => rL (p + (i + 1)) := by funext p; rw [show p + 1 + i = p + (i + 1) by omega]
                rw [ef] at hm
                exact hm
              refine ih (i + 1) _ _ _ _ _ (mendF f1 j) (by omega) (by omega) (hP1.mend hj) (mendF_1.trans e1) hS2 hK2 ?_ (fun p hp => ?_) (fun r r1 r2 => ?_) ?_
              · rw [(hF2 123 (by omega)).1]; exact h31
              · rw [(hF2 124 (by omega)).1]; exact h41 p hp
              · rw [(hF2 r r1).1, (hF2 r r1).2]; exact hF1 r r1 r2
              · rw [← hq, show 17 - i = 17 - (i + 1) + 1 by omega, repA, if_neg hne, hcj, if_neg hle]; rfl
            · have hgt : left < sCost f1 j := Int32.not_le.mp c79
              refine q_goto (tgt := 111) hM dX6_repairAll_82 (by decide) ?_
              refine q_iload_n hM dX6_repairAll_111 rfl ?_
              have hd := RC.done2 hk hA hT hS1 hF1 rfl
              exact hret _ _ _ _ _ _ ⟨by unfold rAll; rw [if_pos c8, ← hq]; rw [show 17 - i = 16 - i + 1 by omega, repA, if_neg hne, hcj, if_pos hgt], by unfold sAll; rw [if_pos c8, ← hq]; rw [show 17 - i = 16 - i + 1 by omega, repA, if_neg hne, hcj, if_pos hgt]; exact hd.1, hd.2⟩ dX6_repairAll_112
          · refine saN_6_5 hM dX6_repairAll_66 ?_
            refine q_aloadN hM dX6_repairAll_68 rfl ?_
            refine q_ifnullN (tgt := 111) hM dX6_repairAll_70 (by decide) ?_
            refine q_iload_n hM dX6_repairAll_111 rfl ?_
            have hd := RC.done2 hk hA hT hS1 hF1 rfl
            exact hret _ _ _ _ _ _ ⟨by unfold rAll; rw [if_pos c8, ← hq]; rw [show 17 - i = 16 - i + 1 by omega, repA, if_pos (no_ord hP1 hno)], by unfold sAll; rw [if_pos c8, ← hq]; rw [show 17 - i = 16 - i + 1 by omega, repA, if_pos (no_ord hP1 hno)]; exact hd.1, hd.2⟩ dX6_repairAll_112
    exact loop (c + 1) 0 a 0 none _ _ (aF A) (Nat.zero_le _) (by omega) hP rfl (hS9.frame hn (fun r r1 r2 => hF r (by omega))) hK h3 h4 (fun r hr h2 => hF r h2) rfl
  · refine q_bipush (v := -3) hM dX6_repairAll_11 (by decide) ?_
    exact hret _ _ _ _ _ _ ⟨by unfold rAll; rw [if_neg c8], by unfold sAll; rw [if_neg c8]; exact hC, FrM.rf⟩ dX6_repairAll_13
