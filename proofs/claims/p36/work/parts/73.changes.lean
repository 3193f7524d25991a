/-! ===== a change ===== -/
def Chg (A : kA) (y v : Int32) (A' : kA) : Prop := AInv A' ∧ Sp A v A' ∧ (lowN y 14 = 6 → 0 < v.toInt → aF A' 6 = aF A 6 + v ∧ aF A' 7 = aF A 7 + 1) ∧ (lowN y 14 = 7 → 0 ≤ v.toInt ∧ aF A' 7 = aF A 7 + v ∧ aF A' 6 - aF A 6 ≤ nI (lowN (y >>> (4 &&& 31)) 700))
theorem chg_of {A A' : kA} {y v : Int32} (h : AInv A') (hs : Sp A v A') (h6 : lowN y 14 ≠ 6) (h7 : lowN y 14 ≠ 7) : Chg A y v A' := ⟨h, hs, fun q => absurd q h6, fun q => absurd q h7⟩
theorem low_in (d : Nat) (h0 : 0 < d) (hd : d ≤ 10000) {v : Int32} : inR 0 (nI (lowN v d)) 10000 := by
  have := lowN_lt v h0
  unfold inR
  rw [nI_toInt (by omega)]
  omega
theorem low_d40 (v : Int32) : (1 + nI (lowN v 40)).toInt ≤ 40 := by
  have := lowN_lt v (d := 40) (by decide)
  rw [show (1 : Int32) = nI 1 from rfl, nI_add, nI_toInt (by omega)]
  omega

set_option maxHeartbeats 4000000 in
set_option maxRecDepth 100000 in
theorem c_L_changes (l : Launch) (G : kG) {I : kI} {L : kL} {X : kX} {A : kA} (hC : RC I L X A) (hA : AInv A) (hQ : QI (aF A)) (z : Int32)  : Ki l yL_changes cL_changes 3 7 G [.ref (ad G 0), .int z] 153 153 I L X (fun v I' L' X' => ∃ A', RC I' L' X' A' ∧ Chg A z v A') := by
  refine Ki_intro (own := RL) (lv0 := [some (.ref (ad G 0)), some (.int z), none]) 1 (by decide +kernel) rfl rfl (Nat.le_of_ble_eq_true rfl) (Nat.le_refl _) (fun J hM hret => ?_)
  refine q_iload_n hM dL_changes_0 rfl ?_
  refine q_iconst (v := 4) hM dL_changes_1 (by decide) ?_
  refine q_ishr hM dL_changes_2 ?_
  refine q_bipush (v := 10) hM dL_changes_3 (by decide) ?_
  refine callSe_i hM mi_L_low lk_L_75 (c_L_low l G _ 10 (by decide) (by decide)) rfl rfl (by decide) (Nat.le_refl _) (by omega) (Nat.le_of_ble_eq_true rfl) dL_changes_5 ?_
  refine si_3_2 hM dL_changes_8 ?_
  refine q_iload_n hM dL_changes_9 rfl ?_
  refine q_bipush (v := 14) hM dL_changes_10 (by decide) ?_
  refine callSe_i hM mi_L_low lk_L_75 (c_L_low l G _ 14 (by decide) (by decide)) rfl rfl (by decide) (Nat.le_refl _) (by omega) (Nat.le_of_ble_eq_true rfl) dL_changes_12 ?_
  have hlt := lowN_lt z (d := 14) (by decide)
  obtain ⟨q, hq⟩ : ∃ q, lowN z 14 = q := ⟨_, rfl⟩
  rw [hq] at hlt ⊢
  rcases (show q = 0 ∨ q = 1 ∨ q = 2 ∨ q = 3 ∨ q = 4 ∨ q = 5 ∨ q = 6 ∨ q = 7 ∨ q = 8 ∨ q = 9 ∨ 10 ≤ q by omega) with rfl | rfl | rfl | rfl | rfl | rfl | rfl | rfl | rfl | rfl | hge
  · refine q_tableIn (off := 53) (tgt := 68) hM dL_changes_15 (by decide) (by decide) (by decide) (by decide) ?_
    refine q_aload_n hM dL_changes_68 rfl ?_
    refine q_iload_n hM dL_changes_69 rfl ?_
    refine q_iconst (v := 4) hM dL_changes_70 (by decide) ?_
    refine q_ishr hM dL_changes_71 ?_
    refine q_iconst (v := 3) hM dL_changes_72 (by decide) ?_
    refine callSe_i hM mi_L_low lk_L_75 (c_L_low l G _ 3 (by decide) (by decide)) rfl rfl (by decide) (Nat.le_refl _) (by omega) (Nat.le_of_ble_eq_true rfl) dL_changes_73 ?_
    refine q_iconst (v := 1) hM dL_changes_76 (by decide) ?_
    refine q_iload_n hM dL_changes_77 rfl ?_
    refine q_bipush (v := 6) hM dL_changes_78 (by decide) ?_
    refine q_ishr hM dL_changes_80 ?_
    refine q_bipush (v := 20) hM dL_changes_81 (by decide) ?_
    refine callSe_i hM mi_L_low lk_L_75 (c_L_low l G _ 20 (by decide) (by decide)) rfl rfl (by decide) (Nat.le_refl _) (by omega) (Nat.le_of_ble_eq_true rfl) dL_changes_83 ?_
    refine q_iadd hM dL_changes_86 ?_
    refine callV_i hM mi_X6_setPressure lk_L_78 cf_X6 (by decide) (by decide) (c_X6_setPressure l G hC hA _ _) rfl rfl (by decide) (Nat.le_refl _) (by omega) (Nat.le_of_ble_eq_true rfl) dL_changes_87 (fun v9 I9 L9 X9 hp9 => ?_)
    obtain ⟨hv9, hC9, -⟩ := hp9
    subst hv9
    exact hret _ _ _ _ _ _ ⟨_, hC9, chg_of (inv_setPressure hA _ _) (sp_setPressure hA hQ _ _) (by omega) (by omega)⟩ dL_changes_90
  · refine q_tableIn (off := 76) (tgt := 91) hM dL_changes_15 (by decide) (by decide) (by decide) (by decide) ?_
    refine q_aload_n hM dL_changes_91 rfl ?_
    refine q_iload_n hM dL_changes_92 rfl ?_
    refine q_iconst (v := 4) hM dL_changes_93 (by decide) ?_
    refine q_ishr hM dL_changes_94 ?_
    refine q_iconst (v := 4) hM dL_changes_95 (by decide) ?_
    refine callSe_i hM mi_L_low lk_L_75 (c_L_low l G _ 4 (by decide) (by decide)) rfl rfl (by decide) (Nat.le_refl _) (by omega) (Nat.le_of_ble_eq_true rfl) dL_changes_96 ?_
    refine callV_i hM mi_X6_addLine lk_L_81 cf_X6 (by decide) (by decide) (c_X6_addLine l G hC hA _) rfl rfl (by decide) (Nat.le_refl _) (by omega) (Nat.le_of_ble_eq_true rfl) dL_changes_99 (fun v9 I9 L9 X9 hp9 => ?_)
    obtain ⟨hv9, hC9, -⟩ := hp9
    subst hv9
    exact hret _ _ _ _ _ _ ⟨_, hC9, chg_of (inv_addLine hA _) (sp_addLine hA hQ _) (by omega) (by omega)⟩ dL_changes_102
  · refine q_tableIn (off := 88) (tgt := 103) hM dL_changes_15 (by decide) (by decide) (by decide) (by decide) ?_
    refine q_aload_n hM dL_changes_103 rfl ?_
    refine q_iload_n hM dL_changes_104 rfl ?_
    refine q_iconst (v := 4) hM dL_changes_105 (by decide) ?_
    refine q_ishr hM dL_changes_106 ?_
    refine q_iconst (v := 4) hM dL_changes_107 (by decide) ?_
    refine callSe_i hM mi_L_low lk_L_75 (c_L_low l G _ 4 (by decide) (by decide)) rfl rfl (by decide) (Nat.le_refl _) (by omega) (Nat.le_of_ble_eq_true rfl) dL_changes_108 ?_
    refine q_iload_n hM dL_changes_111 rfl ?_
    refine q_bipush (v := 6) hM dL_changes_112 (by decide) ?_
    refine q_ishr hM dL_changes_114 ?_
    refine q_iconst (v := 3) hM dL_changes_115 (by decide) ?_
    refine callSe_i hM mi_L_low lk_L_75 (c_L_low l G _ 3 (by decide) (by decide)) rfl rfl (by decide) (Nat.le_refl _) (by omega) (Nat.le_of_ble_eq_true rfl) dL_changes_116 ?_
    refine q_iconst (v := 1) hM dL_changes_119 (by decide) ?_
    refine q_iload_n hM dL_changes_120 rfl ?_
    refine q_bipush (v := 8) hM dL_changes_121 (by decide) ?_
    refine q_ishr hM dL_changes_123 ?_
    refine q_bipush (v := 9) hM dL_changes_124 (by decide) ?_
    refine callSe_i hM mi_L_low lk_L_75 (c_L_low l G _ 9 (by decide) (by decide)) rfl rfl (by decide) (Nat.le_refl _) (by omega) (Nat.le_of_ble_eq_true rfl) dL_changes_126 ?_
    refine q_iadd hM dL_changes_129 ?_
    refine q_iload_n hM dL_changes_130 rfl ?_
    refine q_bipush (v := 12) hM dL_changes_131 (by decide) ?_
    refine q_ishr hM dL_changes_133 ?_
    refine q_bipush (v := 51) hM dL_changes_134 (by decide) ?_
    refine callSe_i hM mi_L_low lk_L_75 (c_L_low l G _ 51 (by decide) (by decide)) rfl rfl (by decide) (Nat.le_refl _) (by omega) (Nat.le_of_ble_eq_true rfl) dL_changes_136 ?_
    refine q_iload_n hM dL_changes_139 rfl ?_
    refine q_bipush (v := 18) hM dL_changes_140 (by decide) ?_
    refine q_ishr hM dL_changes_142 ?_
    refine q_bipush (v := 51) hM dL_changes_143 (by decide) ?_
    refine callSe_i hM mi_L_low lk_L_75 (c_L_low l G _ 51 (by decide) (by decide)) rfl rfl (by decide) (Nat.le_refl _) (by omega) (Nat.le_of_ble_eq_true rfl) dL_changes_145 ?_
    refine callV_i hM mi_X6_addTrap lk_L_84 cf_X6 (by decide) (by decide) (c_X6_addTrap l G hC hA _ _ _ _ _) rfl rfl (by decide) (Nat.le_refl _) (by omega) (Nat.le_of_ble_eq_true rfl) dL_changes_148 (fun v9 I9 L9 X9 hp9 => ?_)
    obtain ⟨hv9, hC9, -⟩ := hp9
    subst hv9
    exact hret _ _ _ _ _ _ ⟨_, hC9, chg_of (inv_addTrap hA _ _ _ _ _) (sp_addTrap hA hQ _ _ _ _ _) (by omega) (by omega)⟩ dL_changes_151
  · refine q_tableIn (off := 88) (tgt := 103) hM dL_changes_15 (by decide) (by decide) (by decide) (by decide) ?_
    refine q_aload_n hM dL_changes_103 rfl ?_
    refine q_iload_n hM dL_changes_104 rfl ?_
    refine q_iconst (v := 4) hM dL_changes_105 (by decide) ?_
    refine q_ishr hM dL_changes_106 ?_
    refine q_iconst (v := 4) hM dL_changes_107 (by decide) ?_
    refine callSe_i hM mi_L_low lk_L_75 (c_L_low l G _ 4 (by decide) (by decide)) rfl rfl (by decide) (Nat.le_refl _) (by omega) (Nat.le_of_ble_eq_true rfl) dL_changes_108 ?_
    refine q_iload_n hM dL_changes_111 rfl ?_
    refine q_bipush (v := 6) hM dL_changes_112 (by decide) ?_
    refine q_ishr hM dL_changes_114 ?_
    refine q_iconst (v := 3) hM dL_changes_115 (by decide) ?_
    refine callSe_i hM mi_L_low lk_L_75 (c_L_low l G _ 3 (by decide) (by decide)) rfl rfl (by decide) (Nat.le_refl _) (by omega) (Nat.le_of_ble_eq_true rfl) dL_changes_116 ?_
    refine q_iconst (v := 1) hM dL_changes_119 (by decide) ?_
    refine q_iload_n hM dL_changes_120 rfl ?_
    refine q_bipush (v := 8) hM dL_changes_121 (by decide) ?_
    refine q_ishr hM dL_changes_123 ?_
    refine q_bipush (v := 9) hM dL_changes_124 (by decide) ?_
    refine callSe_i hM mi_L_low lk_L_75 (c_L_low l G _ 9 (by decide) (by decide)) rfl rfl (by decide) (Nat.le_refl _) (by omega) (Nat.le_of_ble_eq_true rfl) dL_changes_126 ?_
    refine q_iadd hM dL_changes_129 ?_
    refine q_iload_n hM dL_changes_130 rfl ?_
    refine q_bipush (v := 12) hM dL_changes_131 (by decide) ?_
    refine q_ishr hM dL_changes_133 ?_
    refine q_bipush (v := 51) hM dL_changes_134 (by decide) ?_
    refine callSe_i hM mi_L_low lk_L_75 (c_L_low l G _ 51 (by decide) (by decide)) rfl rfl (by decide) (Nat.le_refl _) (by omega) (Nat.le_of_ble_eq_true rfl) dL_changes_136 ?_
    refine q_iload_n hM dL_changes_139 rfl ?_
    refine q_bipush (v := 18) hM dL_changes_140 (by decide) ?_
    refine q_ishr hM dL_changes_142 ?_
    refine q_bipush (v := 51) hM dL_changes_143 (by decide) ?_
    refine callSe_i hM mi_L_low lk_L_75 (c_L_low l G _ 51 (by decide) (by decide)) rfl rfl (by decide) (Nat.le_refl _) (by omega) (Nat.le_of_ble_eq_true rfl) dL_changes_145 ?_
    refine callV_i hM mi_X6_addTrap lk_L_84 cf_X6 (by decide) (by decide) (c_X6_addTrap l G hC hA _ _ _ _ _) rfl rfl (by decide) (Nat.le_refl _) (by omega) (Nat.le_of_ble_eq_true rfl) dL_changes_148 (fun v9 I9 L9 X9 hp9 => ?_)
    obtain ⟨hv9, hC9, -⟩ := hp9
    subst hv9
    exact hret _ _ _ _ _ _ ⟨_, hC9, chg_of (inv_addTrap hA _ _ _ _ _) (sp_addTrap hA hQ _ _ _ _ _) (by omega) (by omega)⟩ dL_changes_151
  · refine q_tableIn (off := 137) (tgt := 152) hM dL_changes_15 (by decide) (by decide) (by decide) (by decide) ?_
    refine q_aload_n hM dL_changes_152 rfl ?_
    refine q_iload_n hM dL_changes_153 rfl ?_
    refine q_iconst (v := 4) hM dL_changes_154 (by decide) ?_
    refine q_ishr hM dL_changes_155 ?_
    refine q_iconst (v := 4) hM dL_changes_156 (by decide) ?_
    refine callSe_i hM mi_L_low lk_L_75 (c_L_low l G _ 4 (by decide) (by decide)) rfl rfl (by decide) (Nat.le_refl _) (by omega) (Nat.le_of_ble_eq_true rfl) dL_changes_157 ?_
    refine q_iload_n hM dL_changes_160 rfl ?_
    refine q_bipush (v := 6) hM dL_changes_161 (by decide) ?_
    refine q_ishr hM dL_changes_163 ?_
    refine q_iconst (v := 3) hM dL_changes_164 (by decide) ?_
    refine callSe_i hM mi_L_low lk_L_75 (c_L_low l G _ 3 (by decide) (by decide)) rfl rfl (by decide) (Nat.le_refl _) (by omega) (Nat.le_of_ble_eq_true rfl) dL_changes_165 ?_
    refine callV_i hM mi_X6_moveLine lk_L_88 cf_X6 (by decide) (by decide) (c_X6_moveLine l G hC hA _ _) rfl rfl (by decide) (Nat.le_refl _) (by omega) (Nat.le_of_ble_eq_true rfl) dL_changes_168 (fun v9 I9 L9 X9 hp9 => ?_)
    obtain ⟨hv9, hC9, -⟩ := hp9
    subst hv9
    exact hret _ _ _ _ _ _ ⟨_, hC9, chg_of (inv_moveLine hA _ _) (sp_moveLine hA hQ _ _) (by omega) (by omega)⟩ dL_changes_171
  · refine q_tableIn (off := 157) (tgt := 172) hM dL_changes_15 (by decide) (by decide) (by decide) (by decide) ?_
    refine q_aload_n hM dL_changes_172 rfl ?_
    refine q_iconst (v := 1) hM dL_changes_173 (by decide) ?_
    refine q_iload_n hM dL_changes_174 rfl ?_
    refine q_iconst (v := 4) hM dL_changes_175 (by decide) ?_
    refine q_ishr hM dL_changes_176 ?_
    refine q_bipush (v := 24) hM dL_changes_177 (by decide) ?_
    refine callSe_i hM mi_L_low lk_L_75 (c_L_low l G _ 24 (by decide) (by decide)) rfl rfl (by decide) (Nat.le_refl _) (by omega) (Nat.le_of_ble_eq_true rfl) dL_changes_179 ?_
    refine q_iadd hM dL_changes_182 ?_
    refine q_iconst (v := 1) hM dL_changes_183 (by decide) ?_
    refine q_iload_n hM dL_changes_184 rfl ?_
    refine q_bipush (v := 9) hM dL_changes_185 (by decide) ?_
    refine q_ishr hM dL_changes_187 ?_
    refine q_sipush (v := 1000) hM dL_changes_188 (by decide) ?_
    refine callSe_i hM mi_L_low lk_L_75 (c_L_low l G _ 1000 (by decide) (by decide)) rfl rfl (by decide) (Nat.le_refl _) (by omega) (Nat.le_of_ble_eq_true rfl) dL_changes_191 ?_
    refine q_iadd hM dL_changes_194 ?_
    refine q_iconst (v := 1) hM dL_changes_195 (by decide) ?_
    refine q_iload_n hM dL_changes_196 rfl ?_
    refine q_bipush (v := 19) hM dL_changes_197 (by decide) ?_
    refine q_ishr hM dL_changes_199 ?_
    refine q_bipush (v := 60) hM dL_changes_200 (by decide) ?_
    refine callSe_i hM mi_L_low lk_L_75 (c_L_low l G _ 60 (by decide) (by decide)) rfl rfl (by decide) (Nat.le_refl _) (by omega) (Nat.le_of_ble_eq_true rfl) dL_changes_202 ?_
    refine q_iadd hM dL_changes_205 ?_
    refine callV_i hM mi_X6_setWork lk_L_91 cf_X6 (by decide) (by decide) (c_X6_setWork l G hC hA _ _ _) rfl rfl (by decide) (Nat.le_refl _) (by omega) (Nat.le_of_ble_eq_true rfl) dL_changes_206 (fun v9 I9 L9 X9 hp9 => ?_)
    obtain ⟨hv9, hC9, -⟩ := hp9
    subst hv9
    exact hret _ _ _ _ _ _ ⟨_, hC9, chg_of (inv_setWork hA _ _ _) (sp_setWork hA hQ _ _ _) (by omega) (by omega)⟩ dL_changes_209
  · refine q_tableIn (off := 195) (tgt := 210) hM dL_changes_15 (by decide) (by decide) (by decide) (by decide) ?_
    refine q_aload_n hM dL_changes_210 rfl ?_
    refine q_iload_n hM dL_changes_211 rfl ?_
    refine callV_i hM mi_X6_repair lk_L_95 cf_X6 (by decide) (by decide) (c_X6_repair l G hC hA _) rfl rfl (by decide) (Nat.le_refl _) (by omega) (Nat.le_of_ble_eq_true rfl) dL_changes_212 (fun v9 I9 L9 X9 hp9 => ?_)
    obtain ⟨hv9, hC9, -⟩ := hp9
    subst hv9
    exact hret _ _ _ _ _ _ ⟨_, hC9, ⟨inv_repair hA _, (sp_repair hA hQ _).1, fun _ => (sp_repair hA hQ _).2, fun q => absurd (hq.symm.trans q) (by decide)⟩⟩ dL_changes_215
  · refine q_tableIn (off := 201) (tgt := 216) hM dL_changes_15 (by decide) (by decide) (by decide) (by decide) ?_
    refine q_aload_n hM dL_changes_216 rfl ?_
    refine q_iload_n hM dL_changes_217 rfl ?_
    refine q_iconst (v := 4) hM dL_changes_218 (by decide) ?_
    refine q_ishr hM dL_changes_219 ?_
    refine q_sipush (v := 700) hM dL_changes_220 (by decide) ?_
    refine callSe_i hM mi_L_low lk_L_75 (c_L_low l G _ 700 (by decide) (by decide)) rfl rfl (by decide) (Nat.le_refl _) (by omega) (Nat.le_of_ble_eq_true rfl) dL_changes_223 ?_
    refine callV_i hM mi_X6_repairAll lk_L_98 cf_X6 (by decide) (by decide) (c_X6_repairAll l G hC hA _) rfl rfl (by decide) (Nat.le_refl _) (by omega) (Nat.le_of_ble_eq_true rfl) dL_changes_226 (fun v9 I9 L9 X9 hp9 => ?_)
    obtain ⟨hv9, hC9, -⟩ := hp9
    subst hv9
    exact hret _ _ _ _ _ _ ⟨_, hC9, ⟨inv_all hA _, (sp_all hA hQ (low_in 700 (by decide) (by decide))).1, fun q => absurd (hq.symm.trans q) (by decide), fun _ => (sp_all hA hQ (low_in 700 (by decide) (by decide))).2⟩⟩ dL_changes_229
  · refine q_tableIn (off := 215) (tgt := 230) hM dL_changes_15 (by decide) (by decide) (by decide) (by decide) ?_
    refine q_aload_n hM dL_changes_230 rfl ?_
    refine q_iconst (v := 1) hM dL_changes_231 (by decide) ?_
    refine q_iload_n hM dL_changes_232 rfl ?_
    refine q_iconst (v := 4) hM dL_changes_233 (by decide) ?_
    refine q_ishr hM dL_changes_234 ?_
    refine q_bipush (v := 40) hM dL_changes_235 (by decide) ?_
    refine callSe_i hM mi_L_low lk_L_75 (c_L_low l G _ 40 (by decide) (by decide)) rfl rfl (by decide) (Nat.le_refl _) (by omega) (Nat.le_of_ble_eq_true rfl) dL_changes_237 ?_
    refine q_iadd hM dL_changes_240 ?_
    refine callV_i hM mi_X6_pass lk_L_101 cf_X6 (by decide) (by decide) (c_X6_pass l G hC hA _) rfl rfl (by decide) (Nat.le_refl _) (by omega) (Nat.le_of_ble_eq_true rfl) dL_changes_241 (fun v9 I9 L9 X9 hp9 => ?_)
    obtain ⟨hv9, hC9, -⟩ := hp9
    subst hv9
    exact hret _ _ _ _ _ _ ⟨_, hC9, chg_of (inv_pass hA _) (sp_pass hA hQ (low_d40 _)) (by omega) (by omega)⟩ dL_changes_244
  · refine q_tableIn (off := 215) (tgt := 230) hM dL_changes_15 (by decide) (by decide) (by decide) (by decide) ?_
    refine q_aload_n hM dL_changes_230 rfl ?_
    refine q_iconst (v := 1) hM dL_changes_231 (by decide) ?_
    refine q_iload_n hM dL_changes_232 rfl ?_
    refine q_iconst (v := 4) hM dL_changes_233 (by decide) ?_
    refine q_ishr hM dL_changes_234 ?_
    refine q_bipush (v := 40) hM dL_changes_235 (by decide) ?_
    refine callSe_i hM mi_L_low lk_L_75 (c_L_low l G _ 40 (by decide) (by decide)) rfl rfl (by decide) (Nat.le_refl _) (by omega) (Nat.le_of_ble_eq_true rfl) dL_changes_237 ?_
    refine q_iadd hM dL_changes_240 ?_
    refine callV_i hM mi_X6_pass lk_L_101 cf_X6 (by decide) (by decide) (c_X6_pass l G hC hA _) rfl rfl (by decide) (Nat.le_refl _) (by omega) (Nat.le_of_ble_eq_true rfl) dL_changes_241 (fun v9 I9 L9 X9 hp9 => ?_)
    obtain ⟨hv9, hC9, -⟩ := hp9
    subst hv9
    exact hret _ _ _ _ _ _ ⟨_, hC9, chg_of (inv_pass hA _) (sp_pass hA hQ (low_d40 _)) (by omega) (by omega)⟩ dL_changes_244
  · refine q_tableOut (tgt := 245) hM dL_changes_15 (Or.inr (by rw [nI_toInt (by omega)]; omega)) (by decide) ?_
    refine q_aload_n hM dL_changes_245 rfl ?_
    refine q_iload_n hM dL_changes_246 rfl ?_
    refine q_bipush (v := 80) hM dL_changes_247 (by decide) ?_
    refine q_iload_n hM dL_changes_249 rfl ?_
    refine q_bipush (v := 8) hM dL_changes_250 (by decide) ?_
    refine q_ishr hM dL_changes_252 ?_
    refine q_sipush (v := 140) hM dL_changes_253 (by decide) ?_
    refine callSe_i hM mi_L_low lk_L_75 (c_L_low l G _ 140 (by decide) (by decide)) rfl rfl (by decide) (Nat.le_refl _) (by omega) (Nat.le_of_ble_eq_true rfl) dL_changes_256 ?_
    refine q_iadd hM dL_changes_259 ?_
    refine q_bipush (v := 60) hM dL_changes_260 (by decide) ?_
    refine q_iload_n hM dL_changes_262 rfl ?_
    refine q_bipush (v := 13) hM dL_changes_263 (by decide) ?_
    refine q_ishr hM dL_changes_265 ?_
    refine q_sipush (v := 160) hM dL_changes_266 (by decide) ?_
    refine callSe_i hM mi_L_low lk_L_75 (c_L_low l G _ 160 (by decide) (by decide)) rfl rfl (by decide) (Nat.le_refl _) (by omega) (Nat.le_of_ble_eq_true rfl) dL_changes_269 ?_
    refine q_iadd hM dL_changes_272 ?_
    refine q_iload_n hM dL_changes_273 rfl ?_
    refine q_bipush (v := 19) hM dL_changes_274 (by decide) ?_
    refine q_ishr hM dL_changes_276 ?_
    refine q_bipush (v := 61) hM dL_changes_277 (by decide) ?_
    refine callSe_i hM mi_L_low lk_L_75 (c_L_low l G _ 61 (by decide) (by decide)) rfl rfl (by decide) (Nat.le_refl _) (by omega) (Nat.le_of_ble_eq_true rfl) dL_changes_279 ?_
    refine callV_i hM mi_X6_read lk_L_104 cf_X6 (by decide) (by decide) (c_X6_read l G hC hA _ _ _ _) rfl rfl (by decide) (Nat.le_refl _) (by omega) (Nat.le_of_ble_eq_true rfl) dL_changes_282 (fun v9 I9 L9 X9 hp9 => ?_)
    obtain ⟨hv9, hC9, -⟩ := hp9
    subst hv9
    exact hret _ _ _ _ _ _ ⟨_, hC9, chg_of (inv_read hA _ _ _ _) (sp_read hA hQ _ _ _ _) (by omega) (by omega)⟩ dL_changes_285
