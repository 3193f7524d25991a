/-! ===== the plant's constructor ===== -/
theorem def_X5 : ∀ j, j < 8 → defaultValue (tyX5 j) = fv0 5 j := by
  intro j hj
  rcases (show j = 0 ∨ j = 1 ∨ j = 2 ∨ j = 3 ∨ j = 4 ∨ j = 5 ∨ j = 6 ∨ j = 7 by omega) with rfl | rfl | rfl | rfl | rfl | rfl | rfl | rfl <;> rfl

set_option maxHeartbeats 4000000 in
set_option maxRecDepth 100000 in
theorem c_X1_init (l : Launch) (G : kG) {I : kI} {L : kL} {X : kX} (q : Nat) (hq : isP q) (hz : ∀ r, q + 1 ≤ r → Zr I L X r)  : Kv l yX1_init cX1_init 2 2 G [.ref (ad G q)] (q + 1) (q + 20) I L X (fun I' L' X' => (Sm I' L' q f00 (fun _ => 0) ∧ (X' q 0 = some (q + 1) ∧ X' q 1 = some (q + 2) ∧ X' q 2 = some (q + 3) ∧ ∀ t, t < 16 → X' (q + 3) t = some (q + 4 + t)) ∧ (∀ r, (r < q ∨ q + 20 ≤ r) → I' r = I r ∧ L' r = L r ∧ X' r = X r))) := by
  refine KvC_intro (own := RX1) (lv0 := [some (.ref (ad G q)), none]) 1 rfl (by decide +kernel) rfl rfl (Nat.le_of_ble_eq_true rfl) (by omega) (fun J hM hret => ?_)
  have hMC := hM
  replace hM := hM.to
  refine q_aload_n hM dX1_init_0 rfl ?_
  refine q_objInit hM lk_X1_3 w_oi_i w_oi_c (by decide) dX1_init_1 (Nat.le_of_ble_eq_true rfl) ?_
  refine q_aload_n hM dX1_init_4 rfl ?_
  refine q_iconst (v := 3) hM dX1_init_5 (by decide) ?_
  refine q_newi hM (hq.kj (j := 1) (by decide)).1 (hz (q + 1) (by omega)) (by rw [(hq.kj (j := 1) (by decide)).2]; rfl) (by omega) dX1_init_6 ?_
  refine q_putF hMC cf_X1 (j := 0) (by decide) flF_X1_9 (by omega) hq.k0 rfl rfl rfl rfl rfl dX1_init_8 ?_
  refine q_aload_n hM dX1_init_11 rfl ?_
  refine q_bipush (v := 8) hM dX1_init_12 (by decide) ?_
  refine q_newi hM (hq.kj (j := 2) (by decide)).1 ((hz (q + 2) (by omega)).upX (by omega)) (by rw [(hq.kj (j := 2) (by decide)).2]; rfl) (by omega) dX1_init_14 ?_
  refine q_putF hMC cf_X1 (j := 1) (by decide) flF_X1_15 (by omega) hq.k0 rfl rfl rfl rfl rfl dX1_init_16 ?_
  refine q_aload_n hM dX1_init_19 rfl ?_
  refine q_bipush (v := 16) hM dX1_init_20 (by decide) ?_
  refine q_newq hM (t0 := 4) rfl (fun s h => h.1) kl_X1_18 (hq.kj (j := 3) (by decide)).1 (by decide) (((hz (q + 3) (by omega)).upX (by omega)).upX (by omega)) (by rw [(hq.kj (j := 3) (by decide)).2]; rfl) (by omega) dX1_init_22 ?_
  refine q_putF hMC cf_X1 (j := 2) (by decide) flF_X1_20 (by omega) hq.k0 rfl rfl rfl rfl rfl dX1_init_25 ?_
  refine q_aload_n hM dX1_init_28 rfl ?_
  refine q_iconst (v := 0) hM dX1_init_29 (by decide) ?_
  refine p_X1_24 hM (by omega) hq.k0 dX1_init_30 ?_
  refine q_aload_n hM dX1_init_33 rfl ?_
  refine q_iconst (v := 0) hM dX1_init_34 (by decide) ?_
  refine p_X1_28 hM (by omega) hq.k0 dX1_init_35 ?_
  refine q_aload_n hM dX1_init_38 rfl ?_
  refine q_bipush (v := 24) hM dX1_init_39 (by decide) ?_
  refine p_X1_31 hM (by omega) hq.k0 dX1_init_41 ?_
  refine q_aload_n hM dX1_init_44 rfl ?_
  refine q_bipush (v := 20) hM dX1_init_45 (by decide) ?_
  refine p_X1_34 hM (by omega) hq.k0 dX1_init_47 ?_
  refine q_aload_n hM dX1_init_50 rfl ?_
  refine q_bipush (v := 90) hM dX1_init_51 (by decide) ?_
  refine p_X1_37 hM (by omega) hq.k0 dX1_init_53 ?_
  refine q_aload_n hM dX1_init_56 rfl ?_
  refine q_iconst (v := 0) hM dX1_init_57 (by decide) ?_
  refine p_X1_40 hM (by omega) hq.k0 dX1_init_58 ?_
  refine q_aload_n hM dX1_init_61 rfl ?_
  refine q_iconst (v := 0) hM dX1_init_62 (by decide) ?_
  refine p_X1_43 hM (by omega) hq.k0 dX1_init_63 ?_
  refine q_aload_n hM dX1_init_66 rfl ?_
  refine q_iconst (v := 0) hM dX1_init_67 (by decide) ?_
  refine p_X1_46 hM (by omega) hq.k0 dX1_init_68 ?_
  obtain ⟨X1, hX1⟩ : ∃ z, up2 (up2 (up2 X q 0 (some (q + 1))) q 1 (some (q + 2))) q 2 (some (q + 3)) = z := ⟨_, rfl⟩
  rw [hX1]
  have hx : X1 q 0 = some (q + 1) ∧ X1 q 1 = some (q + 2) ∧ X1 q 2 = some (q + 3) := by subst hX1; exact ⟨by simp [up2], by simp [up2], by simp [up2]⟩
  have hXr : ∀ r, r ≠ q → X1 r = X r := fun r hr => by subst hX1; simp only [up2_row hr]
  obtain ⟨I0, hI0⟩ : ∃ z, up2 (up2 (up2 (up2 (up2 (up2 (up2 (up2 I q 3 0) q 4 0) q 5 24) q 6 20) q 7 90) q 8 0) q 9 0) q 10 0 = z := ⟨_, rfl⟩
  rw [hI0]
  have hi0 : ∀ j, j < 8 → I0 q (3 + j) = f00 j := by
    subst hI0
    intro j hj
    rcases (show j = 0 ∨ j = 1 ∨ j = 2 ∨ j = 3 ∨ j = 4 ∨ j = 5 ∨ j = 6 ∨ j = 7 by omega) with rfl | rfl | rfl | rfl | rfl | rfl | rfl | rfl <;> simp [up2, f00]
  have hIr : ∀ r, r ≠ q → I0 r = I r := fun r hr => by subst hI0; simp only [up2_row hr]
  refine q_aload_n hM dX1_init_71 rfl ?_
  refine g_X1_9 hM (by omega) hq.k0 hx.1 dX1_init_72 ?_
  refine q_bipush (v := 10) hM dX1_init_75 (by decide) ?_
  refine callS_v hM mi_J7_fill_53178 lk_X1_49 (c_J7_fill_53178 l G (q + 1 + 1 + 1 + 1) (q + 1) (by omega) (hq.kj (j := 1) (by decide)).1 10) rfl rfl (by decide) (Nat.le_refl _) (by omega) (Nat.le_of_ble_eq_true rfl) dX1_init_77 (fun I9 L9 X9 hp9 => ?_)
  obtain ⟨a1, a2, rfl, rfl⟩ := hp9
  refine q_iconst (v := 0) hM dX1_init_80 (by decide) ?_
  refine si_2_1 hM dX1_init_81 ?_
  have loop : ∀ (k i : Nat) (I1 : kI) (L1 : kL) (X2 : kX), i ≤ 16 → 16 < i + k → (∀ t, t < i → I1 (q + 4 + t) 5 = 0 ∧ I1 (q + 4 + t) 6 = -1 ∧ L1 (q + 4 + t) 7 = 0 ∧ X2 (q + 3) t = some (q + 4 + t)) → (∀ r, r < q + 4 ∨ q + 4 + i ≤ r → I1 r = I9 r ∧ L1 r = L r) → (∀ r, r ≠ q + 3 → X2 r = X1 r) → J (q + 4 + i) I1 L1 X2 82 [some (.ref (ad G q)), some (.int (nI i))] [] := by
    intro k
    induction k with
    | zero => intros; omega
    | succ k ih =>
      intro i I1 L1 X2 h1 h2 h3 h4 h5
      refine q_iload_n hM dX1_init_82 rfl ?_
      refine q_aload_n hM dX1_init_83 rfl ?_
      refine g_X1_20 hM (by omega) hq.k0 ((congrFun (h5 q (by omega)) 2).trans hx.2.2) dX1_init_84 ?_
      refine q_alenq hM (by omega) (Or.inl (hq.kj (j := 3) (by decide)).1) dX1_init_87 ?_
      refine q_topi (nI 16) (by rw [(hq.kj (j := 3) (by decide)).2]; rfl) ?_
      refine q_icmp_geN (tgt := 110) hM i 16 rfl rfl (by omega) (by omega) dX1_init_88 (by decide) (fun c88 => ?_) (fun c88 => ?_)
      · obtain rfl : i = 16 := by omega
        refine hret _ _ _ _ _ ⟨⟨fun i hi => ?_, fun h hh => ?_, fun i hi => absurd hi (Nat.not_lt_zero i), fun t ht => absurd ht (Nat.not_lt_zero t), fun t _ ht => ⟨(h3 t ht).1, (h3 t ht).2.1, (h3 t ht).2.2.1⟩⟩, ⟨by rw [h5 q (by omega)]; exact hx.1, by rw [h5 q (by omega)]; exact hx.2.1, by rw [h5 q (by omega)]; exact hx.2.2, fun t ht => (h3 t ht).2.2.2⟩, fun r hr => ⟨by rw [(h4 r (by omega)).1, a2 r (by omega), hIr r (by omega)], (h4 r (by omega)).2, by rw [h5 r (by omega), hXr r (by omega)]⟩⟩ dX1_init_110
        · rw [(h4 q (by omega)).1, a2 q (by omega)]; exact hi0 i hi
        · rw [(h4 (q + 1) (by omega)).1, a1 h (by rw [(hq.kj (j := 1) (by decide)).2]; exact hh)]
          rcases (show h = 0 ∨ h = 1 ∨ h = 2 by omega) with rfl | rfl | rfl <;> rfl
      · refine q_aload_n hM dX1_init_91 rfl ?_
        refine g_X1_20 hM (by omega) hq.k0 ((congrFun (h5 q (by omega)) 2).trans hx.2.2) dX1_init_92 ?_
        refine q_iload_n hM dX1_init_95 rfl ?_
        have hzi : Zr I1 L1 X2 (q + 4 + i) := fun j => ⟨by rw [(h4 _ (by omega)).1, a2 _ (by omega), hIr _ (by omega)]; exact (hz _ (by omega) j).1, by rw [(h4 _ (by omega)).2]; exact (hz _ (by omega) j).2.1, by rw [h5 _ (by omega), hXr _ (by omega)]; exact (hz _ (by omega) j).2.2⟩
        refine q_new hM cf_X5 kl_X1_18 in_X5 (by decide) def_X5 (hq.kt (by omega)) hzi (by omega) dX1_init_96 ?_
        refine q_dup hM dX1_init_99 rfl ?_
        refine callIN_v hM mi_X5_init lk_X1_55 (c_X5_init l G (q + 4 + i + 1) (q + 4 + i) (by omega) (hq.kt (by omega))) rfl rfl (by decide) (Nat.le_refl _) (by omega) (Nat.le_of_ble_eq_true rfl) dX1_init_100 (fun I8 L8 X8 hp8 => ?_)
        obtain ⟨rfl, rfl, rfl⟩ := hp8
        refine q_aast (r := q + 3) (q := q + 4 + i) hM (by omega) (by omega) (Or.inl ⟨(hq.kj (j := 3) (by decide)).1, hq.kt (by omega)⟩) i rfl (by rw [(hq.kj (j := 3) (by decide)).2]; show i < 16; omega) dX1_init_103 ?_
        refine sinc_2_1 hM dX1_init_104 (inc1 i) ?_
        refine q_goto (tgt := 82) hM dX1_init_107 (by decide) ?_
        refine ih (i + 1) _ _ _ (by omega) (by omega) (fun t ht => ?_) (fun r hr => ?_) (fun r hr => (up2_row hr).trans (h5 r hr))
        · by_cases hti : t = i
          · subst hti; exact ⟨(up2_ne (Or.inr (by decide))).trans (up2_self _ _ _ _), up2_self _ _ _ _, up2_self _ _ _ _, up2_self _ _ _ _⟩
          · rw [up2_row (by omega), up2_row (by omega), up2_row (by omega), up2_ne (Or.inr hti)]; exact h3 t (by omega)
        · rw [up2_row (by omega), up2_row (by omega), up2_row (by omega)]; exact h4 r (by omega)
  exact loop 17 0 I9 L X1 (Nat.zero_le _) (by omega) (fun t ht => absurd ht (Nat.not_lt_zero t)) (fun _ _ => ⟨rfl, rfl⟩) (fun _ _ => rfl)
