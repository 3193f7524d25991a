/-! ===== the history's constructor ===== -/
def PRf (X : kX) (q : Nat) : Prop := X q 0 = some (q + 1) ∧ X q 1 = some (q + 2) ∧ X q 2 = some (q + 3) ∧ ∀ t, t < 16 → X (q + 3) t = some (q + 4 + t)
theorem PRf.row {X X' : kX} {q : Nat} (h : PRf X q) (e : ∀ r, (q ≤ r ∧ r < q + 20) → X' r = X r) : PRf X' q := ⟨by rw [e q (by omega)]; exact h.1, by rw [e q (by omega)]; exact h.2.1, by rw [e q (by omega)]; exact h.2.2.1, fun t ht => by rw [e (q + 3) (by omega)]; exact h.2.2.2 t ht⟩
theorem def_X1 : ∀ j, j < 11 → defaultValue (tyX1 j) = fv0 1 j := by
  intro j hj
  rcases (show j = 0 ∨ j = 1 ∨ j = 2 ∨ j = 3 ∨ j = 4 ∨ j = 5 ∨ j = 6 ∨ j = 7 ∨ j = 8 ∨ j = 9 ∨ j = 10 by omega) with rfl | rfl | rfl | rfl | rfl | rfl | rfl | rfl | rfl | rfl | rfl <;> rfl

set_option maxHeartbeats 4000000 in
set_option maxRecDepth 100000 in
theorem c_X0_init (l : Launch) (G : kG) {I : kI} {L : kL} {X : kX} (hz : ∀ r, 22 ≤ r → Zr I L X r)  : Kv l yX0_init cX0_init 2 3 G [.ref (ad G 21)] 22 123 I L X (fun I' L' X' => (I' 21 1 = 0 ∧ X' 21 0 = some 22 ∧ ∀ t, t < 5 → X' 22 t = some (23 + 20 * t) ∧ PRf X' (23 + 20 * t)) ∧ ∀ r, (r < 21 ∨ 123 ≤ r) → I' r = I r ∧ L' r = L r ∧ X' r = X r) := by
  refine KvC_intro (own := RX0) (lv0 := [some (.ref (ad G 21)), none]) 1 rfl (by decide +kernel) rfl rfl (Nat.le_of_ble_eq_true rfl) (by decide) (fun J hM hret => ?_)
  have hMC := hM
  replace hM := hM.to
  refine q_aload_n hM dX0_init_0 rfl ?_
  refine q_objInit hM lk_X0_3 w_oi_i w_oi_c (by decide) dX0_init_1 (Nat.le_of_ble_eq_true rfl) ?_
  refine q_aload_n hM dX0_init_4 rfl ?_
  refine q_iconst (v := 5) hM dX0_init_5 (by decide) ?_
  refine q_newq hM (t0 := 5) rfl (fun s h => h.2.1) kl_X0_9 (by decide) (by decide) (hz 22 (by decide)) rfl (by omega) dX0_init_6 ?_
  refine q_putF hMC cf_X0 (j := 0) (by decide) flF_X0_11 (by omega) (by decide) rfl rfl rfl rfl rfl dX0_init_9 ?_
  refine q_aload_n hM dX0_init_12 rfl ?_
  refine q_iconst (v := 0) hM dX0_init_13 (by decide) ?_
  refine p_X0_17 hM (by decide) (by decide) dX0_init_14 ?_
  refine q_iconst (v := 0) hM dX0_init_17 (by decide) ?_
  refine si_2_1 hM dX0_init_18 ?_
  have loop : ∀ (k i : Nat) (I1 : kI) (L1 : kL) (X1 : kX), i ≤ 5 → 5 < i + k → I1 21 1 = 0 → X1 21 0 = some 22 → (∀ t, t < i → X1 22 t = some (23 + 20 * t) ∧ PRf X1 (23 + 20 * t)) → (∀ r, (r < 21 ∨ 23 + 20 * i ≤ r) → I1 r = I r ∧ L1 r = L r ∧ X1 r = X r) → J (23 + 20 * i) I1 L1 X1 19 [some (.ref (ad G 21)), some (.int (nI i))] [] := by
    intro k
    induction k with
    | zero => intros; omega
    | succ k ih =>
      intro i I1 L1 X1 h1 h2 h3 h4 h5 h6
      refine q_iload_n hM dX0_init_19 rfl ?_
      refine q_aload_n hM dX0_init_20 rfl ?_
      refine g_X0_11 hM (by omega) (by decide) h4 dX0_init_21 ?_
      refine q_alenq hM (by omega) (Or.inr (by decide)) dX0_init_24 ?_
      refine q_topi (nI 5) rfl ?_
      refine q_icmp_geN (tgt := 47) hM i 5 rfl rfl (by omega) (by omega) dX0_init_25 (by decide) (fun c25 => ?_) (fun c25 => ?_)
      · obtain rfl : i = 5 := by omega
        exact hret _ _ _ _ _ ⟨⟨h3, h4, h5⟩, fun r hr => h6 r (by omega)⟩ dX0_init_47
      · refine q_aload_n hM dX0_init_28 rfl ?_
        refine g_X0_11 hM (by omega) (by decide) h4 dX0_init_29 ?_
        refine q_iload_n hM dX0_init_32 rfl ?_
        have hq : isP (23 + 20 * i) := isP_h (by omega)
        have hzr : ∀ r, 23 + 20 * i ≤ r → Zr I1 L1 X1 r := fun r hr j => by obtain ⟨e1, e2, e3⟩ := h6 r (by omega); rw [e1, e2, e3]; exact hz r (by omega) j
        refine q_new hM cf_X1 kl_X0_9 in_X1 (by decide) def_X1 hq.k0 (hzr _ (Nat.le_refl _)) (by omega) dX0_init_33 ?_
        refine q_dup hM dX0_init_36 rfl ?_
        refine callI_v hM mi_X1_init lk_X0_21 (c_X1_init l G (23 + 20 * i) hq (fun r hr => hzr r (by omega))) rfl rfl (by decide) (by omega) (by omega) (Nat.le_of_ble_eq_true rfl) dX0_init_37 (fun I8 L8 X8 hp8 => ?_)
        obtain ⟨b1, b2, b3⟩ := hp8
        refine q_aast (r := 22) (q := 23 + 20 * i) hM (by omega) (by omega) (Or.inr ⟨by decide, hq.k0⟩) i rfl (show i < 5 by omega) dX0_init_40 ?_
        refine sinc_2_1 hM dX0_init_41 (inc1 i) ?_
        refine q_goto (tgt := 19) hM dX0_init_44 (by decide) ?_
        rw [show 23 + 20 * i + 20 = 23 + 20 * (i + 1) by omega]
        refine ih (i + 1) _ _ _ (by omega) (by omega) (by rw [(b3 21 (by omega)).1]; exact h3) (by rw [up2_row (by omega), (b3 21 (by omega)).2.2]; exact h4) (fun t ht => ?_) (fun r hr => ⟨(b3 r (by omega)).1.trans (h6 r (by omega)).1, (b3 r (by omega)).2.1.trans (h6 r (by omega)).2.1, by rw [up2_row (by omega), (b3 r (by omega)).2.2]; exact (h6 r (by omega)).2.2⟩)
        by_cases hti : t = i
        · subst hti; exact ⟨up2_self _ _ _ _, PRf.row b2 (fun r hr => up2_row (by omega))⟩
        · refine ⟨by rw [up2_ne (Or.inr hti), (b3 22 (by omega)).2.2]; exact (h5 t (by omega)).1, PRf.row (h5 t (by omega)).2 (fun r hr => by rw [up2_row (by omega), (b3 r (by omega)).2.2])⟩
  exact loop 6 0 _ L _ (Nat.zero_le _) (by omega) (up2_self _ _ _ _) (up2_self _ _ _ _) (fun t ht => absurd ht (Nat.not_lt_zero t)) (fun r hr => ⟨up2_row (by omega), rfl, up2_row (by omega)⟩)
