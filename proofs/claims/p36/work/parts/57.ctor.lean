/-! ===== the text's constructor; the class's constructor ===== -/
theorem def_X0 : ∀ j, j < 2 → defaultValue (tyX0 j) = fv0 0 j := by
  intro j hj
  rcases (show j = 0 ∨ j = 1 by omega) with rfl | rfl <;> rfl
theorem def_X2 : ∀ j, j < 5 → defaultValue (tyX2 j) = fv0 2 j := by
  intro j hj
  rcases (show j = 0 ∨ j = 1 ∨ j = 2 ∨ j = 3 ∨ j = 4 by omega) with rfl | rfl | rfl | rfl | rfl <;> rfl
theorem def_X3 : ∀ j, j < 4 → defaultValue (tyX3 j) = fv0 3 j := by
  intro j hj
  rcases (show j = 0 ∨ j = 1 ∨ j = 2 ∨ j = 3 by omega) with rfl | rfl | rfl | rfl <;> rfl
theorem def_X4 : ∀ j, j < 4 → defaultValue (tyX4 j) = fv0 4 j := by
  intro j hj
  rcases (show j = 0 ∨ j = 1 ∨ j = 2 ∨ j = 3 by omega) with rfl | rfl | rfl | rfl <;> rfl
theorem def_X6 : ∀ j, j < 5 → defaultValue (tyX6 j) = fv0 6 j := by
  intro j hj
  rcases (show j = 0 ∨ j = 1 ∨ j = 2 ∨ j = 3 ∨ j = 4 by omega) with rfl | rfl | rfl | rfl | rfl <;> rfl
set_option maxHeartbeats 4000000 in
set_option maxRecDepth 100000 in
theorem c_X2_init (l : Launch) (G : kG) {I : kI} {L : kL} {X : kX} (hz : ∀ r, 131 ≤ r → Zr I L X r)  : Kv l yX2_init cX2_init 1 1 G [.ref (ad G 130)] 131 153 I L X (fun I' L' X' => I' = up2 (up2 (up2 I 130 2 0) 130 3 0) 130 4 0 ∧ L = L' ∧ X' = up2 (mulX (up2 X 130 0 (some 131)) 132) 130 1 (some 132)) := by
  refine KvC_intro (own := RX2) (lv0 := [some (.ref (ad G 130))]) 0 rfl (by decide +kernel) rfl rfl (Nat.le_of_ble_eq_true rfl) (by decide) (fun J hM hret => ?_)
  have hMC := hM
  replace hM := hM.to
  refine q_aload_n hM dX2_init_0 rfl ?_
  refine q_objInit hM lk_X2_3 w_oi_i w_oi_c (by decide) dX2_init_1 (Nat.le_of_ble_eq_true rfl) ?_
  refine q_aload_n hM dX2_init_4 rfl ?_
  refine q_bipush (v := 100) hM dX2_init_5 (by decide) ?_
  refine q_newi hM (by decide) (hz 131 (by decide)) rfl (by omega) dX2_init_7 ?_
  refine q_putF hMC cf_X2 (j := 0) (by decide) flF_X2_9 (by omega) (by decide) rfl rfl rfl rfl rfl dX2_init_9 ?_
  refine q_aload_n hM dX2_init_12 rfl ?_
  refine q_bipush (v := 20) hM dX2_init_13 (by decide) ?_
  refine q_iconst (v := 4) hM dX2_init_15 (by decide) ?_
  refine q_multi hM kl_X2_15 (by decide) (by decide) (by decide) (fun r hr => (hz r (by omega)).upX (by omega)) (by omega) dX2_init_16 ?_
  refine q_putF hMC cf_X2 (j := 1) (by decide) flF_X2_17 (by omega) (by decide) rfl rfl rfl rfl rfl dX2_init_20 ?_
  refine q_aload_n hM dX2_init_23 rfl ?_
  refine q_iconst (v := 0) hM dX2_init_24 (by decide) ?_
  refine p_X2_20 hM (by decide) (by decide) dX2_init_25 ?_
  refine q_aload_n hM dX2_init_28 rfl ?_
  refine q_iconst (v := 0) hM dX2_init_29 (by decide) ?_
  refine p_X2_24 hM (by decide) (by decide) dX2_init_30 ?_
  refine q_aload_n hM dX2_init_33 rfl ?_
  refine q_iconst (v := 0) hM dX2_init_34 (by decide) ?_
  refine p_X2_27 hM (by decide) (by decide) dX2_init_35 ?_
  exact hret _ _ _ _ _ ⟨rfl, rfl, rfl⟩ dX2_init_38
theorem pm0_ok : PermOK (fun i => 23 + 20 * i) := ⟨fun i hi => ⟨i, hi, rfl⟩, fun i j _ _ h => by dsimp only at h; omega⟩
/-- the class's references behind its constructor: what the parts' constructors left, and the five of the object itself -/
def refs5 (X : kX) : kX := up2 (up2 (mulX (up2 (up2 (up2 (up2 (up2 (up2 (up2 (up2 (up2 X 0 1 (some 21)) 123 0 (some 124)) 123 1 (some 125)) 123 2 (some 126)) 0 2 (some 123)) 127 0 (some 128)) 127 1 (some 129)) 0 3 (some 127)) 130 0 (some 131)) 132) 130 1 (some 132)) 0 4 (some 130)
theorem refs5_row {X : kX} {r : Nat} (h0 : r ≠ 0) (h1 : r ≠ 123) (h2 : r ≠ 127) (h3 : r ≠ 130) (h4 : r ≠ 132) : refs5 X r = X r := by
  have hm : ∀ Y : kX, mulX Y 132 r = Y r := fun Y => by funext j; unfold mulX; rw [if_neg (by omega)]
  unfold refs5
  rw [up2_row h0, up2_row h3, hm]
  simp only [up2_row h0, up2_row h1, up2_row h2, up2_row h3]
theorem refs5_ok {X : kX} (h0 : X 0 0 = some 1) (h1 : PRf X 1) (h2 : X 21 0 = some 22) (h3 : ∀ t, t < 5 → X 22 t = some (23 + 20 * t) ∧ PRf X (23 + 20 * t)) : Refs (refs5 X) (fun i => 23 + 20 * i) := by
  refine ⟨⟨?_, ?_, ?_, ?_, ?_⟩, fun q hq => ?_, ⟨?_, fun i hi => ?_⟩, ⟨?_, ?_, ?_⟩, ⟨?_, ?_⟩, ?_, ?_, fun i hi => ?_⟩
  · simp [refs5, up2, mulX, h0]
  · simp [refs5, up2, mulX]
  · simp [refs5, up2, mulX]
  · simp [refs5, up2, mulX]
  · simp [refs5, up2, mulX]
  · have hp : PRf X q := by
      rcases hq with rfl | ⟨i, hi, rfl⟩
      · exact h1
      · exact (h3 i hi).2
    have hr : ∀ r, q ≤ r ∧ r < q + 20 → r ≠ 0 ∧ r ≠ 123 ∧ r ≠ 127 ∧ r ≠ 130 ∧ r ≠ 132 := fun r hr => by
      rcases hq with rfl | ⟨i, hi, rfl⟩ <;> omega
    exact PRf.row hp (fun r h => refs5_row (hr r h).1 (hr r h).2.1 (hr r h).2.2.1 (hr r h).2.2.2.1 (hr r h).2.2.2.2)
  · rw [refs5_row (by decide) (by decide) (by decide) (by decide) (by decide)]; exact h2
  · rw [refs5_row (by decide) (by decide) (by decide) (by decide) (by decide)]; exact (h3 i hi).1
  · simp [refs5, up2, mulX]
  · simp [refs5, up2, mulX]
  · simp [refs5, up2, mulX]
  · simp [refs5, up2, mulX]
  · simp [refs5, up2, mulX]
  · simp [refs5, up2, mulX]
  · simp [refs5, up2, mulX]
  · have e : refs5 X 132 i = mulX (fun _ _ => none) 132 132 i := by
      unfold refs5
      rw [up2_row (by decide), up2_row (by decide)]
      unfold mulX
      rw [if_pos ⟨rfl, hi⟩, if_pos ⟨rfl, hi⟩]
    rw [e]
    unfold mulX
    rw [if_pos ⟨rfl, hi⟩]
theorem RC_new {I : kI} {L : kL} {X : kX} (h1 : Sm I L 1 f00 (fun _ => 0)) (h2 : I 21 1 = 0) (h3 : I 130 2 = 0) (h4 : Refs X (fun i => 23 + 20 * i)) : RC I L X A00 :=
  ⟨_, ⟨h4, pm0_ok, h2, fun i hi => absurd hi (Nat.not_lt_zero i)⟩, h1, h3, fun j hj => absurd hj (Nat.not_lt_zero j)⟩

set_option maxHeartbeats 4000000 in
set_option maxRecDepth 100000 in
theorem c_X6_init (l : Launch) (G : kG) {I : kI} {L : kL} {X : kX} (hz : ∀ r, 1 ≤ r → Zr I L X r)  : Kv l yX6_init cX6_init 1 4 G [.ref (ad G 0)] 1 153 I L X (fun I' L' X' => RC I' L' X' A00 ∧ FrM I I' L L' X X') := by
  refine KvC_intro (own := RX6) (lv0 := [some (.ref (ad G 0))]) 0 rfl (by decide +kernel) rfl rfl (Nat.le_of_ble_eq_true rfl) (by decide) (fun J hM hret => ?_)
  have hMC := hM
  replace hM := hM.to
  refine q_aload_n hM dX6_init_0 rfl ?_
  refine q_objInit hM lk_X6_1 w_oi_i w_oi_c (by decide) dX6_init_1 (Nat.le_of_ble_eq_true rfl) ?_
  refine q_aload_n hM dX6_init_4 rfl ?_
  refine q_new hM cf_X1 kl_X6_7 in_X1 (by decide) def_X1 (by decide) (hz 1 (by decide)) (by omega) dX6_init_5 ?_
  refine q_dup hM dX6_init_8 rfl ?_
  refine callI_v hM mi_X1_init lk_X6_9 (c_X1_init l G 1 isP_1 (fun r hr => hz r (by omega))) rfl rfl (by decide) (by decide) (by omega) (Nat.le_of_ble_eq_true rfl) dX6_init_9 (fun I1 L1 X1 hp1 => ?_)
  obtain ⟨a1, a2, a3⟩ := hp1
  refine q_putF hMC cf_X6 (j := 0) (by decide) flF_X6_10 (by omega) (by decide) rfl rfl rfl rfl rfl dX6_init_12 ?_
  have z1 : ∀ r, 21 ≤ r → Zr I1 L1 (up2 X1 0 0 (some 1)) r := fun r hr j => by
    obtain ⟨e1, e2, e3⟩ := a3 r (Or.inr (by omega))
    rw [e1, e2, up2_row (by omega), e3]
    exact hz r (by omega) j
  refine q_aload_n hM dX6_init_15 rfl ?_
  refine q_new hM cf_X0 kl_X6_16 in_X0 (by decide) def_X0 (by decide) (z1 21 (by decide)) (by omega) dX6_init_16 ?_
  refine q_dup hM dX6_init_19 rfl ?_
  refine callI_v hM mi_X0_init lk_X6_18 (c_X0_init l G (fun r hr => z1 r (by omega))) rfl rfl (by decide) (by decide) (by omega) (Nat.le_of_ble_eq_true rfl) dX6_init_20 (fun I2 L2 X2 hp2 => ?_)
  obtain ⟨⟨b1, b2, b3⟩, b4⟩ := hp2
  refine q_putF hMC cf_X6 (j := 1) (by decide) flF_X6_19 (by omega) (by decide) rfl rfl rfl rfl rfl dX6_init_23 ?_
  have z2 : ∀ r, 123 ≤ r → Zr I2 L2 (up2 X2 0 1 (some 21)) r := fun r hr j => by
    obtain ⟨e1, e2, e3⟩ := b4 r (Or.inr (by omega))
    rw [e1, e2, up2_row (by omega), e3]
    exact z1 r (by omega) j
  refine q_aload_n hM dX6_init_26 rfl ?_
  refine q_new hM cf_X3 kl_X6_23 in_X3 (by decide) def_X3 (by decide) (z2 123 (by decide)) (by omega) dX6_init_27 ?_
  refine q_dup hM dX6_init_30 rfl ?_
  refine callIN_v hM mi_X3_init lk_X6_25 (c_X3_init l G (fun r hr => z2 r (by omega))) rfl rfl (by decide) (by decide) (by omega) (Nat.le_of_ble_eq_true rfl) dX6_init_31 (fun I3 L3 X3 hp3 => ?_)
  obtain ⟨c1, c2, c3⟩ := hp3
  subst c1 c2 c3
  refine q_putF hMC cf_X6 (j := 2) (by decide) flF_X6_26 (by omega) (by decide) rfl rfl rfl rfl rfl dX6_init_34 ?_
  refine q_aload_n hM dX6_init_37 rfl ?_
  have z3 : ∀ r, 127 ≤ r → Zr (up2 I2 123 3 0) L2 (up2 (up2 (up2 (up2 (up2 X2 0 1 (some 21)) 123 0 (some 124)) 123 1 (some 125)) 123 2 (some 126)) 0 2 (some 123)) r := fun r hr =>
    ((((((z2 r (by omega)).upI (by omega)).upX (by omega)).upX (by omega)).upX (by omega)).upX (by omega))
  refine q_new hM cf_X4 kl_X6_30 in_X4 (by decide) def_X4 (by decide) (z3 127 (by decide)) (by omega) dX6_init_38 ?_
  refine q_dup hM dX6_init_41 rfl ?_
  refine callIN_v hM mi_X4_init lk_X6_32 (c_X4_init l G (fun r hr => z3 r (by omega))) rfl rfl (by decide) (by decide) (by omega) (Nat.le_of_ble_eq_true rfl) dX6_init_42 (fun I4 L4 X4 hp4 => ?_)
  obtain ⟨c1, c2, c3⟩ := hp4
  subst c1 c2 c3
  refine q_putF hMC cf_X6 (j := 3) (by decide) flF_X6_33 (by omega) (by decide) rfl rfl rfl rfl rfl dX6_init_45 ?_
  refine q_aload_n hM dX6_init_48 rfl ?_
  have z4 : ∀ r, 130 ≤ r → Zr (up2 (up2 (up2 I2 123 3 0) 127 2 0) 127 3 0) L2 (up2 (up2 (up2 (up2 (up2 (up2 (up2 (up2 X2 0 1 (some 21)) 123 0 (some 124)) 123 1 (some 125)) 123 2 (some 126)) 0 2 (some 123)) 127 0 (some 128)) 127 1 (some 129)) 0 3 (some 127)) r := fun r hr =>
    (((((z3 r (by omega)).upI (by omega)).upI (by omega)).upX (by omega)).upX (by omega)).upX (by omega)
  refine q_new hM cf_X2 kl_X6_37 in_X2 (by decide) def_X2 (by decide) (z4 130 (by decide)) (by omega) dX6_init_49 ?_
  refine q_dup hM dX6_init_52 rfl ?_
  refine callIN_v hM mi_X2_init lk_X6_39 (c_X2_init l G (fun r hr => z4 r (by omega))) rfl rfl (by decide) (by decide) (by omega) (Nat.le_of_ble_eq_true rfl) dX6_init_53 (fun I5 L5 X5 hp5 => ?_)
  obtain ⟨c1, c2, c3⟩ := hp5
  subst c1 c2 c3
  refine q_putF hMC cf_X6 (j := 4) (by decide) flF_X6_40 (by omega) (by decide) rfl rfl rfl rfl rfl dX6_init_56 ?_
  refine hret _ _ _ _ _ ⟨RC_new ?_ ?_ ?_ (refs5_ok (X := X2) ?_ ?_ b2 b3), fun r hr => ⟨?_, ?_, ?_⟩⟩ dX6_init_59
  · refine a1.frame (by decide) (fun r h1 h2 => ⟨?_, (b4 r (Or.inl (by omega))).2.1⟩)
    simp only [up2_row (show r ≠ 130 by omega), up2_row (show r ≠ 127 by omega), up2_row (show r ≠ 123 by omega)]
    exact (b4 r (Or.inl (by omega))).1
  · simp only [up2_row (show (21 : Nat) ≠ 130 by decide), up2_row (show (21 : Nat) ≠ 127 by decide), up2_row (show (21 : Nat) ≠ 123 by decide)]
    exact b1
  · simp [up2]
  · rw [(b4 0 (Or.inl (by decide))).2.2]; exact up2_self _ _ _ _
  · exact PRf.row a2 (fun r h => by rw [(b4 r (Or.inl (by omega))).2.2, up2_row (by omega)])
  · simp only [up2_row (show r ≠ 130 by omega), up2_row (show r ≠ 127 by omega), up2_row (show r ≠ 123 by omega)]
    rw [(b4 r (Or.inr (by omega))).1, (a3 r (Or.inr (by omega))).1]
  · rw [(b4 r (Or.inr (by omega))).2.1, (a3 r (Or.inr (by omega))).2.1]
  · have e := refs5_row (X := X2) (r := r) (by omega) (by omega) (by omega) (by omega) (by omega)
    refine e.trans ?_
    rw [(b4 r (Or.inr (by omega))).2.2, up2_row (by omega), (a3 r (Or.inr (by omega))).2.2]
