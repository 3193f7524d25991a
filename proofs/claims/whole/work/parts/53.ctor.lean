/-! ===== the reference's constructor ===== -/
/-- a new plant, as numbers -/
def f00 : Fr := fun j => if j = 2 then 24 else if j = 3 then 20 else if j = 4 then 90 else if 8 ≤ j ∧ j < 11 then 10 else 0
def A00 : kA := (fun k => if k = 0 then f00 else fun _ => 0, fun _ _ => 0, 0, fun _ => 0, 0)
theorem f00_inv : PInv f00 := by
  refine ⟨⟨⟨by decide, by decide⟩, ⟨by decide, by decide⟩⟩, ⟨⟨by decide, by decide⟩, ⟨by decide, by decide⟩, ⟨by decide, by decide⟩, ⟨by decide, by decide⟩⟩, fun h hh => ?_, fun i hi => absurd hi (by decide +revert), fun t ht => absurd ht (by decide +revert)⟩
  rcases (show h = 0 ∨ h = 1 ∨ h = 2 by omega) with rfl | rfl | rfl <;> exact ⟨by decide, by decide⟩
theorem A00_inv : AInv A00 := by
  refine ⟨by decide, by decide, fun k hk => ?_⟩
  have hk0 : k = 0 := Nat.le_zero.mp hk
  subst hk0
  exact f00_inv

set_option maxHeartbeats 4000000 in
set_option maxRecDepth 100000 in
theorem c_X7_init (l : Launch) (G : kG) {I : kI} {L : kL} {X : kX} (hz : ∀ r, 154 ≤ r → Zr I L X r)  : Kv l yX7_init cX7_init 2 1 G [.ref (ad G 153)] 154 159 I L X (fun I' L' X' => (RefM X' ∧ (∀ r, r ≠ 154 → I' r = I r) ∧ (∀ j, I' 154 j = f00 j) ∧ ∀ r, r ≠ 153 → X' r = X r) ∧ L = L') := by
  refine KvC_intro (own := RX7) (lv0 := [some (.ref (ad G 153)), none]) 1 rfl (by decide +kernel) rfl rfl (Nat.le_of_ble_eq_true rfl) (by decide) (fun J hM hret => ?_)
  have hMC := hM
  replace hM := hM.to
  refine q_aload_n hM dX7_init_0 rfl ?_
  refine q_objInit hM lk_X7_1 w_oi_i w_oi_c (by decide) dX7_init_1 (Nat.le_of_ble_eq_true rfl) ?_
  refine q_aload_n hM dX7_init_4 rfl ?_
  refine q_sipush (v := 786) hM dX7_init_5 (by decide) ?_
  refine q_newi hM (by decide) (hz 154 (by decide)) rfl (by omega) dX7_init_8 ?_
  refine q_putF hMC cf_X7 (j := 0) (by decide) flF_X7_7 (by omega) (by decide) rfl rfl rfl rfl rfl dX7_init_10 ?_
  refine q_aload_n hM dX7_init_13 rfl ?_
  refine q_bipush (v := 96) hM dX7_init_14 (by decide) ?_
  refine q_newl hM (by decide) ((hz 155 (by decide)).upX (by decide)) rfl (by omega) dX7_init_16 ?_
  refine q_putF hMC cf_X7 (j := 1) (by decide) flF_X7_13 (by omega) (by decide) rfl rfl rfl rfl rfl dX7_init_18 ?_
  refine q_aload_n hM dX7_init_21 rfl ?_
  refine q_bipush (v := 16) hM dX7_init_22 (by decide) ?_
  refine q_newz hM (by decide) (((hz 156 (by decide)).upX (by decide)).upX (by decide)) rfl (by omega) dX7_init_24 ?_
  refine q_putF hMC cf_X7 (j := 3) (by decide) flF_X7_17 (by omega) (by decide) rfl rfl rfl rfl rfl dX7_init_26 ?_
  refine q_aload_n hM dX7_init_29 rfl ?_
  refine q_bipush (v := 16) hM dX7_init_30 (by decide) ?_
  refine q_newi hM (by decide) ((((hz 157 (by decide)).upX (by decide)).upX (by decide)).upX (by decide)) rfl (by omega) dX7_init_32 ?_
  refine q_putF hMC cf_X7 (j := 4) (by decide) flF_X7_21 (by omega) (by decide) rfl rfl rfl rfl rfl dX7_init_34 ?_
  refine q_aload_n hM dX7_init_37 rfl ?_
  refine q_bipush (v := 100) hM dX7_init_38 (by decide) ?_
  refine q_newi hM (by decide) (((((hz 158 (by decide)).upX (by decide)).upX (by decide)).upX (by decide)).upX (by decide)) rfl (by omega) dX7_init_40 ?_
  refine q_putF hMC cf_X7 (j := 7) (by decide) flF_X7_24 (by omega) (by decide) rfl rfl rfl rfl rfl dX7_init_42 ?_
  obtain ⟨X1, hX1⟩ : ∃ q, up2 (up2 (up2 (up2 (up2 X 153 0 (some 154)) 153 1 (some 155)) 153 3 (some 156)) 153 4 (some 157)) 153 7 (some 158) = q := ⟨_, rfl⟩
  rw [hX1]
  have hR : RefM X1 := by subst hX1; exact ⟨by simp [up2], by simp [up2], by simp [up2], by simp [up2], by simp [up2]⟩
  have hXr : ∀ r, r ≠ 153 → X1 r = X r := fun r hr => by subst hX1; simp only [up2_row hr]
  refine q_aload_n hM dX7_init_45 rfl ?_
  refine g_X7_7 hM (by decide) (by decide) hR.m0 dX7_init_46 ?_
  refine q_iconst (v := 2) hM dX7_init_49 (by decide) ?_
  refine q_bipush (v := 24) hM dX7_init_50 (by decide) ?_
  refine q_rowst hM 2 rfl (by decide) (by decide) dX7_init_52 ?_
  refine q_aload_n hM dX7_init_53 rfl ?_
  refine g_X7_7 hM (by decide) (by decide) hR.m0 dX7_init_54 ?_
  refine q_iconst (v := 3) hM dX7_init_57 (by decide) ?_
  refine q_bipush (v := 20) hM dX7_init_58 (by decide) ?_
  refine q_rowst hM 3 rfl (by decide) (by decide) dX7_init_60 ?_
  refine q_aload_n hM dX7_init_61 rfl ?_
  refine g_X7_7 hM (by decide) (by decide) hR.m0 dX7_init_62 ?_
  refine q_iconst (v := 4) hM dX7_init_65 (by decide) ?_
  refine q_bipush (v := 90) hM dX7_init_66 (by decide) ?_
  refine q_rowst hM 4 rfl (by decide) (by decide) dX7_init_68 ?_
  refine q_iconst (v := 0) hM dX7_init_69 (by decide) ?_
  refine si_2_1 hM dX7_init_70 ?_
  have loop : ∀ (k i : Nat) (I1 : kI), i ≤ 3 → 3 < i + k → (∀ r, r ≠ 154 → I1 r = I r) → (∀ j, I1 154 j = if 8 ≤ j ∧ j < 8 + i then 10 else up2 (up2 (up2 I 154 2 24) 154 3 20) 154 4 90 154 j) → J 159 I1 L X1 71 [some (.ref (ad G 153)), some (.int (nI i))] [] := by
    intro k
    induction k with
    | zero => intros; omega
    | succ k ih =>
      intro i I1 h1 h2 h3 h4
      refine q_iload_n hM dX7_init_71 rfl ?_
      refine q_iconst (v := 3) hM dX7_init_72 (by decide) ?_
      refine q_icmp_geN (tgt := 93) hM i 3 rfl rfl (by omega) (by omega) dX7_init_73 (by decide) (fun c73 => ?_) (fun c73 => ?_)
      · obtain rfl : i = 3 := by omega
        refine hret _ _ _ _ _ ⟨⟨hR, h3, fun j => ?_, hXr⟩, rfl⟩ dX7_init_93
        rw [h4 j]
        unfold f00
        by_cases h5 : 8 ≤ j ∧ j < 8 + 3
        · rw [if_pos h5, if_neg (by omega), if_neg (by omega), if_neg (by omega), if_pos (by omega)]
        · rw [if_neg h5]
          by_cases j2 : j = 2
          · subst j2; simp [up2]
          · by_cases j3 : j = 3
            · subst j3; simp [up2]
            · by_cases j4 : j = 4
              · subst j4; simp [up2]
              · rw [up2_ne (Or.inr j4), up2_ne (Or.inr j3), up2_ne (Or.inr j2), if_neg j2, if_neg j3, if_neg j4, if_neg (by omega)]; exact (hz 154 (by decide) j).1
      · refine q_aload_n hM dX7_init_76 rfl ?_
        refine g_X7_7 hM (by decide) (by decide) hR.m0 dX7_init_77 ?_
        refine q_bipush (v := 8) hM dX7_init_80 (by decide) ?_
        refine q_iload_n hM dX7_init_82 rfl ?_
        refine q_iadd hM dX7_init_83 ?_
        refine q_bipush (v := 10) hM dX7_init_84 (by decide) ?_
        refine q_rowst hM (8 + i) (nI_add 8 _) (by omega) (by decide) dX7_init_86 ?_
        refine sinc_2_1 hM dX7_init_87 (inc1 i) ?_
        refine q_goto (tgt := 71) hM dX7_init_90 (by decide) ?_
        refine ih (i + 1) _ (by omega) (by omega) (fun r hr => (up2_row hr).trans (h3 r hr)) (fun j => ?_)
        by_cases hj : j = 8 + i
        · subst hj; rw [up2_self, if_pos (by omega)]
        · rw [up2_ne (Or.inr hj), h4 j]
          by_cases h5 : 8 ≤ j ∧ j < 8 + i
          · rw [if_pos h5, if_pos (by omega)]
          · rw [if_neg h5, if_neg (by omega)]
  exact loop 4 0 _ (Nat.zero_le _) (by omega) (fun r hr => by rw [up2_row hr, up2_row hr, up2_row hr]) (fun j => by rw [if_neg (by omega)])
