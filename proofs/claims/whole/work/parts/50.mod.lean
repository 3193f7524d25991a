/-! ===== the reference's text: the calls ===== -/
theorem RM.unstart {I : kI} {L : kL} {X : kX} {A : kA} (h : RM I L X (setF A (aF A) (aG A))) : RM I L X A := by
  obtain ⟨h1, h2, h3⟩ := h
  refine ⟨h1, h2.congr (fun k _ => ?_) (fun k _ => ?_), h3⟩
  · show va_up A.1 0 (A.1 0) k = A.1 k
    by_cases hk : k = 0
    · subst hk; rw [va_up_self]
    · rw [va_up_ne _ _ hk]
  · show va_up A.2.1 0 (A.2.1 0) k = A.2.1 k
    by_cases hk : k = 0
    · subst hk; rw [va_up_self]
    · rw [va_up_ne _ _ hk]

set_option maxHeartbeats 4000000 in
set_option maxRecDepth 100000 in
theorem c_X7_textFault (l : Launch) (G : kG) {I : kI} {L : kL} {X : kX} {A : kA} (hr : RM I L X A) (hA : AInv A) (hTx : ∀ j, j < aK A → ¬ aT A j = -1)  : Ki l yX7_textFault cX7_textFault 1 6 G [.ref (ad G 153)] 159 159 I L X (fun v I' L' X' => v = rFault A ∧ RM I' L' X' (A) ∧ FrC I I' L L' X X') := by
  refine Ki_intro (own := RX7) (lv0 := [some (.ref (ad G 153))]) 0 (by decide +kernel) rfl rfl (Nat.le_of_ble_eq_true rfl) (Nat.le_refl _) (fun J hM hret => ?_)
  have hR := hr.1
  have hm := hr.m
  have hP := hA.f
  have hn := hP.nT
  have hn8 := hP.nL
  refine q_aload_n hM dX7_textFault_0 rfl ?_
  refine q_iconst (v := 0) hM dX7_textFault_1 (by decide) ?_
  refine callV_z hM mi_X7_readsText lk_X7_142 cf_X7 (by decide) (by decide) (c_X7_readsText l G hR hA.2.1 hr.2.2.2.1 hr.2.2.2.2 hTx (RM.start hr) hP false) rfl rfl (by decide) (Nat.le_refl _) (by omega) (Nat.le_of_ble_eq_true rfl) dX7_textFault_2 (fun z9 I9 L9 X9 hp9 => ?_)
  obtain ⟨hz9, ⟨b1, b2, b3, b4, b5⟩, rfl, rfl⟩ := hp9
  rw [if_neg Bool.false_ne_true] at b3
  have hr1 := b3.unstart
  refine q_topb ((lsR (aT A) (aK A) (aF A 1)).1 = true) (hz9.trans (bdec _)) ?_
  refine q_ifd_eq (tgt := 12) hM dX7_textFault_5 (by decide) (fun c5 => ?_) (fun c5 => ?_)
  · refine q_aload_n hM dX7_textFault_12 rfl ?_
    refine g_X7_119 hM (by decide) (by decide) dX7_textFault_13 ?_
    refine q_topi (nI (lsR (aT A) (aK A) (aF A 1)).2.1) (b1) ?_
    exact hret _ _ _ _ _ _ ⟨by unfold rFault; rw [if_neg c5], hr1, fun r hr => ⟨b4 r (by omega) (by omega), rfl, rfl⟩⟩ dX7_textFault_16
  · refine q_iconst (v := -1) hM dX7_textFault_8 (by decide) ?_
    refine q_goto (tgt := 16) hM dX7_textFault_9 (by decide) ?_
    exact hret _ _ _ _ _ _ ⟨by unfold rFault; rw [if_pos c5], hr1, fun r hr => ⟨b4 r (by omega) (by omega), rfl, rfl⟩⟩ dX7_textFault_16
set_option maxHeartbeats 4000000 in
set_option maxRecDepth 100000 in
theorem c_X7_readAll (l : Launch) (G : kG) {I : kI} {L : kL} {X : kX} {A : kA} (hr : RM I L X A) (hA : AInv A) (hTx : ∀ j, j < aK A → ¬ aT A j = -1)  : Ki l yX7_readAll cX7_readAll 2 6 G [.ref (ad G 153)] 159 159 I L X (fun v I' L' X' => v = rReadAll A ∧ RM I' L' X' (sReadAll A) ∧ FrC I I' L L' X X') := by
  refine Ki_intro (own := RX7) (lv0 := [some (.ref (ad G 153)), none]) 1 (by decide +kernel) rfl rfl (Nat.le_of_ble_eq_true rfl) (Nat.le_refl _) (fun J hM hret => ?_)
  have hR := hr.1
  have hm := hr.m
  have hP := hA.f
  have hn := hP.nT
  have hn8 := hP.nL
  refine q_aload_n hM dX7_readAll_0 rfl ?_
  refine q_iconst (v := 0) hM dX7_readAll_1 (by decide) ?_
  refine callV_z hM mi_X7_readsText lk_X7_142 cf_X7 (by decide) (by decide) (c_X7_readsText l G hR hA.2.1 hr.2.2.2.1 hr.2.2.2.2 hTx (RM.start hr) hP false) rfl rfl (by decide) (Nat.le_refl _) (by omega) (Nat.le_of_ble_eq_true rfl) dX7_readAll_2 (fun z9 I9 L9 X9 hp9 => ?_)
  obtain ⟨hz9, ⟨b1, b2, b3, b4, b5⟩, rfl, rfl⟩ := hp9
  rw [if_neg Bool.false_ne_true] at b3
  have hr1 := b3.unstart
  refine q_topb ((lsR (aT A) (aK A) (aF A 1)).1 = true) (hz9.trans (bdec _)) ?_
  refine q_ifd_ne (tgt := 11) hM dX7_readAll_5 (by decide) (fun c5 => ?_) (fun c5 => ?_)
  · refine q_aload_n hM dX7_readAll_11 rfl ?_
    have b6 : FrC I I9 L L X X := fun r hr => ⟨b4 r (by omega) (by omega), rfl, rfl⟩
    obtain ⟨Ia, hIa⟩ : ∃ q, q = I9 := ⟨_, rfl⟩
    subst hIa
    refine callV_v hM mi_X7_keeps lk_X7_47 cf_X7 (by decide) (by decide) (c_X7_keeps l G hr1 hA) rfl rfl (by decide) (Nat.le_refl _) (by omega) (Nat.le_of_ble_eq_true rfl) dX7_readAll_12 (fun I9 L9 X9 hp9 => ?_)
    obtain ⟨hr9, hF9, rfl⟩ := hp9
    have hk := RM.kept hr9
    have hm9 := hk.mf
    refine q_aload_n hM dX7_readAll_15 rfl ?_
    refine q_iconst (v := 1) hM dX7_readAll_16 (by decide) ?_
    refine callV_z hM mi_X7_readsText lk_X7_142 cf_X7 (by decide) (by decide) (c_X7_readsText l G hR (T := aT A) (k := aK A) hA.2.1 hk.2.2.2.1 hk.2.2.2.2 hTx hk hP true) rfl rfl (by decide) (Nat.le_refl _) (by omega) (Nat.le_of_ble_eq_true rfl) dX7_readAll_17 (fun z9 I9 L9 X9 hp9 => ?_)
    obtain ⟨hz8, ⟨d1, d2, d3, d4, d5⟩, rfl, rfl⟩ := hp9
    rw [if_pos rfl] at d3
    refine si_2_1 hM dX7_readAll_20 ?_
    refine q_aload_n hM dX7_readAll_21 rfl ?_
    refine g_X7_135 hM (by decide) (by decide) dX7_readAll_22 ?_
    refine q_topi (nI (lsR (aT A) (aK A) (aF A 1)).2.2) (d2) ?_
    exact hret _ _ _ _ _ _ ⟨by unfold rReadAll; rw [if_pos c5], by unfold sReadAll; rw [if_pos c5]; exact d3, (b6.trans hF9).trans (fun r hr => ⟨d4 r (by omega) (by omega), rfl, rfl⟩)⟩ dX7_readAll_25
  · refine q_bipush (v := -4) hM dX7_readAll_8 (by decide) ?_
    exact hret _ _ _ _ _ _ ⟨by unfold rReadAll; rw [if_neg c5], by unfold sReadAll; rw [if_neg c5]; exact hr1, fun r hr => ⟨b4 r (by omega) (by omega), rfl, rfl⟩⟩ dX7_readAll_10
