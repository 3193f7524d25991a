/-! ===== the digest ===== -/
def dgf (x : Nat → Int64) : Nat → Int64 → Int64
  | 0, h => h
  | n + 1, h => 31 * dgf x n h + x n
def dgT (f : Fr) (g : Gr) (h : Int64) : Nat → Int64
  | 0 => h
  | t + 1 => 31 * dgf (fun w => (sOf f t w).toInt64) 7 (dgT f g h t) + g t
def rDigest (A : kA) : Int64 := dgT (aF A) (aG A) (dgf (fun i => (aF A i).toInt64) (11 + cI (aF A 0)) 17) (cI (aF A 1))
theorem nI_0le {i : Nat} (h : i < 2 ^ 31) : 0 ≤ nI i := by rw [le_i, i0, nI_toInt h]; omega
theorem rCount_at (A : kA) {i : Nat} (h : i < 8) : rCount A (nI i) = aF A i := by
  unfold rCount
  rw [if_pos ⟨nI_0le (by omega), nI_le (b := 7) (by omega) (by decide)⟩, cI_nI (by omega)]
theorem rPressure_at (A : kA) {i : Nat} (h : i < 3) : rPressure A (nI i) = aF A (8 + i) := by
  unfold rPressure
  rw [if_pos ⟨nI_0le (by omega), nI_lt (b := 3) h (by decide)⟩, cI_nI (by omega)]
theorem rHeaderOf_at {A : kA} (hP : PInv (aF A)) {i : Nat} (h : i < cI (aF A 0)) : rHeaderOf A (nI i) = aF A (11 + i) := by
  have hn := hP.nL
  unfold rHeaderOf
  rw [if_pos ⟨nI_0le (by omega), by rw [hP.e0]; exact nI_lt h (by omega)⟩, cI_nI (by omega)]
theorem rTrap_at {A : kA} (hP : PInv (aF A)) {t w : Nat} (h : t < cI (aF A 1)) (hw : w < 7) : rTrap A (nI t) (nI w) = sOf (aF A) t w := by
  have hn := hP.nT
  unfold rTrap
  rw [if_pos (trapYes hP h), if_pos ⟨nI_0le (by omega), nI_le (b := 7) (by omega) (by decide)⟩, if_neg (fun q => by have := (nI_eq (a := w) (b := 7) (by omega) (by decide)).mp q; omega), cI_nI (by omega), cI_nI (by omega)]
theorem rLost_at {A : kA} (hP : PInv (aF A)) {t : Nat} (h : t < cI (aF A 1)) : rLost A (nI t) = aG A t := by
  have hn := hP.nT
  unfold rLost
  rw [if_neg (nI_ne (by omega)), if_pos (trapYes hP h), cI_nI (by omega)]

set_option maxHeartbeats 4000000 in
set_option maxRecDepth 100000 in
theorem c_X6_digest (l : Launch) (G : kG) {I : kI} {L : kL} {X : kX} {A : kA} (hC : RC I L X A) (hA : AInv A)  : Kl l yX6_digest cX6_digest 5 3 G [.ref (ad G 0)] 153 153 I L X (pE (rDigest A) I L X) := by
  refine Kl_intro (own := RX6) (lv0 := [some (.ref (ad G 0)), none, none, none, none]) 4 (by decide +kernel) rfl rfl (Nat.le_of_ble_eq_true rfl) (Nat.le_refl _) (fun J hM hret => ?_)
  obtain ⟨pm, hH, hS, hT⟩ := id hC
  have hR := hH.1
  have hP := hA.f
  have hn := hP.nT
  have hn8 := hP.nL
  refine q_ldc2 hM cw_X6_230 dX6_digest_0 ?_
  refine sl_5_1 hM dX6_digest_3 ?_
  refine q_iconst (v := 0) hM dX6_digest_4 (by decide) ?_
  refine si_5_3 hM dX6_digest_5 ?_
  have loop : ∀ (k i : Nat), i ≤ 8 → 8 < i + k → J 153 I L X 6 [some (.ref (ad G 0)), some (.long (dgf (fun i => (aF A i).toInt64) i 17)), none, some (.int (nI i)), none] [] := by
    intro k
    induction k with
    | zero => intro i; intros; omega
    | succ k ih =>
      intro i h1 h2
      refine q_iload_n hM dX6_digest_6 rfl ?_
      refine q_bipush (v := 7) hM dX6_digest_7 (by decide) ?_
      refine q_icmp_gtN (tgt := 31) hM i 7 rfl rfl (by omega) (by omega) dX6_digest_9 (by decide) (fun c9 => ?_) (fun c9 => ?_)
      · obtain rfl : i = 8 := by omega
        refine q_iconst (v := 0) hM dX6_digest_31 (by decide) ?_
        refine si_5_3 hM dX6_digest_32 ?_
        have loop2 : ∀ (k i : Nat), i ≤ 3 → 3 < i + k → J 153 I L X 33 [some (.ref (ad G 0)), some (.long (dgf (fun i => (aF A i).toInt64) (8 + i) 17)), none, some (.int (nI i)), none] [] := by
          intro k
          induction k with
          | zero => intro i; intros; omega
          | succ k ih =>
            intro i h1 h2
            refine q_iload_n hM dX6_digest_33 rfl ?_
            refine q_iconst (v := 3) hM dX6_digest_34 (by decide) ?_
            refine q_icmp_geN (tgt := 57) hM i 3 rfl rfl (by omega) (by omega) dX6_digest_35 (by decide) (fun c35 => ?_) (fun c35 => ?_)
            · obtain rfl : i = 3 := by omega
              refine q_iconst (v := 0) hM dX6_digest_57 (by decide) ?_
              refine si_5_3 hM dX6_digest_58 ?_
              have loop3 : ∀ (k i : Nat), i ≤ cI (aF A 0) → cI (aF A 0) < i + k → J 153 I L X 59 [some (.ref (ad G 0)), some (.long (dgf (fun i => (aF A i).toInt64) (11 + i) 17)), none, some (.int (nI i)), none] [] := by
                intro k
                induction k with
                | zero => intro i; intros; omega
                | succ k ih =>
                  intro i h1 h2
                  refine q_iload_n hM dX6_digest_59 rfl ?_
                  refine q_aload_n hM dX6_digest_60 rfl ?_
                  refine g_X6_10 hM (by decide) (by decide) hR.x0 dX6_digest_61 ?_
                  refine g_X6_60 hM (by decide) (by decide) dX6_digest_64 ?_
                  refine q_topi (aF A 0) hS.a0 ?_
                  refine q_icmp_geN (tgt := 89) hM i (cI (aF A 0)) rfl hP.e0 (by omega) (by omega) dX6_digest_67 (by decide) (fun c67 => ?_) (fun c67 => ?_)
                  · obtain rfl : i = cI (aF A 0) := by omega
                    refine q_iconst (v := 0) hM dX6_digest_89 (by decide) ?_
                    refine si_5_3 hM dX6_digest_90 ?_
                    have loop4 : ∀ (k i : Nat) (v4 : Option Value), i ≤ cI (aF A 1) → cI (aF A 1) < i + k → J 153 I L X 91 [some (.ref (ad G 0)), some (.long (dgT (aF A) (aG A) (dgf (fun i => (aF A i).toInt64) (11 + cI (aF A 0)) 17) i)), none, some (.int (nI i)), v4] [] := by
                      intro k
                      induction k with
                      | zero => intro i; intros; omega
                      | succ k ih =>
                        intro i v4 h1 h2
                        refine q_iload_n hM dX6_digest_91 rfl ?_
                        refine q_aload_n hM dX6_digest_92 rfl ?_
                        refine g_X6_10 hM (by decide) (by decide) hR.x0 dX6_digest_93 ?_
                        refine g_X6_70 hM (by decide) (by decide) dX6_digest_96 ?_
                        refine q_topi (aF A 1) hS.a1 ?_
                        refine q_icmp_geN (tgt := 151) hM i (cI (aF A 1)) rfl hP.e1 (by omega) (by omega) dX6_digest_99 (by decide) (fun c99 => ?_) (fun c99 => ?_)
                        · obtain rfl : i = cI (aF A 1) := by omega
                          refine q_lload_n hM dX6_digest_151 rfl ?_
                          exact hret _ _ _ _ _ _ ⟨rfl, rfl, rfl, rfl⟩ dX6_digest_152
                        · refine q_iconst (v := 0) hM dX6_digest_102 (by decide) ?_
                          refine si_5_4 hM dX6_digest_103 ?_
                          have loop5 : ∀ (k5 j : Nat), j ≤ 7 → 7 < j + k5 → J 153 I L X 105 [some (.ref (ad G 0)), some (.long (dgf (fun w => (sOf (aF A) i w).toInt64) j (dgT (aF A) (aG A) (dgf (fun i => (aF A i).toInt64) (11 + cI (aF A 0)) 17) i))), none, some (.int (nI i)), some (.int (nI j))] [] := by
                            intro k5
                            induction k5 with
                            | zero => intro j; intros; omega
                            | succ k5 ih5 =>
                              intro j h3 h4
                              refine q_iload hM dX6_digest_105 rfl ?_
                              refine q_bipush (v := 6) hM dX6_digest_107 (by decide) ?_
                              refine q_icmp_gtN (tgt := 133) hM j 6 rfl rfl (by omega) (by omega) dX6_digest_109 (by decide) (fun c109 => ?_) (fun c109 => ?_)
                              · obtain rfl : j = 7 := by omega
                                refine q_ldc2 hM cw_X6_232 dX6_digest_133 ?_
                                refine q_lload_n hM dX6_digest_136 rfl ?_
                                refine q_lmul hM dX6_digest_137 ?_
                                refine q_aload_n hM dX6_digest_138 rfl ?_
                                refine q_iload_n hM dX6_digest_139 rfl ?_
                                refine callVe_l hM mi_X6_lost lk_X6_247 cf_X6 (by decide) (by decide) (c_X6_lost l G hC hA (nI i)) rfl rfl (by decide) (Nat.le_refl _) (by omega) (Nat.le_of_ble_eq_true rfl) dX6_digest_140 ?_
                                refine q_topl (aG A i) (rLost_at hP c99) ?_
                                refine q_ladd hM dX6_digest_143 ?_
                                refine sl_5_1 hM dX6_digest_144 ?_
                                refine sinc_5_3 hM dX6_digest_145 (inc1 i) ?_
                                refine q_goto (tgt := 91) hM dX6_digest_148 (by decide) ?_
                                exact ih (i + 1) _ (by omega) (by omega)
                              · refine q_ldc2 hM cw_X6_232 dX6_digest_112 ?_
                                refine q_lload_n hM dX6_digest_115 rfl ?_
                                refine q_lmul hM dX6_digest_116 ?_
                                refine q_aload_n hM dX6_digest_117 rfl ?_
                                refine q_iload_n hM dX6_digest_118 rfl ?_
                                refine q_iload hM dX6_digest_119 rfl ?_
                                refine callVe_i hM mi_X6_trap lk_X6_243 cf_X6 (by decide) (by decide) (c_X6_trap l G hC hA (nI i) (nI j)) rfl rfl (by decide) (Nat.le_refl _) (by omega) (Nat.le_of_ble_eq_true rfl) dX6_digest_121 ?_
                                refine q_topi (sOf (aF A) i j) (rTrap_at hP c99 (by omega)) ?_
                                refine q_i2l hM dX6_digest_124 ?_
                                refine q_ladd hM dX6_digest_125 ?_
                                refine sl_5_1 hM dX6_digest_126 ?_
                                refine sinc_5_4 hM dX6_digest_127 (inc1 j) ?_
                                refine q_goto (tgt := 105) hM dX6_digest_130 (by decide) ?_
                                exact ih5 (j + 1) (by omega) (by omega)
                          exact loop5 8 0 (Nat.zero_le _) (by omega)
                    exact loop4 (cI (aF A 1) + 1) 0 _ (Nat.zero_le _) (by omega)
                  · refine q_ldc2 hM cw_X6_232 dX6_digest_70 ?_
                    refine q_lload_n hM dX6_digest_73 rfl ?_
                    refine q_lmul hM dX6_digest_74 ?_
                    refine q_aload_n hM dX6_digest_75 rfl ?_
                    refine q_iload_n hM dX6_digest_76 rfl ?_
                    refine callVe_i hM mi_X6_headerOf lk_X6_240 cf_X6 (by decide) (by decide) (c_X6_headerOf l G hC hA (nI i)) rfl rfl (by decide) (Nat.le_refl _) (by omega) (Nat.le_of_ble_eq_true rfl) dX6_digest_77 ?_
                    refine q_topi (aF A (11 + i)) (rHeaderOf_at hP c67) ?_
                    refine q_i2l hM dX6_digest_80 ?_
                    refine q_ladd hM dX6_digest_81 ?_
                    refine sl_5_1 hM dX6_digest_82 ?_
                    refine sinc_5_3 hM dX6_digest_83 (inc1 i) ?_
                    refine q_goto (tgt := 59) hM dX6_digest_86 (by decide) ?_
                    exact ih (i + 1) (by omega) (by omega)
              exact loop3 (cI (aF A 0) + 1) 0 (Nat.zero_le _) (by omega)
            · refine q_ldc2 hM cw_X6_232 dX6_digest_38 ?_
              refine q_lload_n hM dX6_digest_41 rfl ?_
              refine q_lmul hM dX6_digest_42 ?_
              refine q_aload_n hM dX6_digest_43 rfl ?_
              refine q_iload_n hM dX6_digest_44 rfl ?_
              refine callVe_i hM mi_X6_pressure lk_X6_237 cf_X6 (by decide) (by decide) (c_X6_pressure l G hC hA (nI i)) rfl rfl (by decide) (Nat.le_refl _) (by omega) (Nat.le_of_ble_eq_true rfl) dX6_digest_45 ?_
              refine q_topi (aF A (8 + i)) (rPressure_at A c35) ?_
              refine q_i2l hM dX6_digest_48 ?_
              refine q_ladd hM dX6_digest_49 ?_
              refine sl_5_1 hM dX6_digest_50 ?_
              refine sinc_5_3 hM dX6_digest_51 (inc1 i) ?_
              refine q_goto (tgt := 33) hM dX6_digest_54 (by decide) ?_
              exact ih (i + 1) (by omega) (by omega)
        exact loop2 (3 + 1) 0 (Nat.zero_le _) (by omega)
      · refine q_ldc2 hM cw_X6_232 dX6_digest_12 ?_
        refine q_lload_n hM dX6_digest_15 rfl ?_
        refine q_lmul hM dX6_digest_16 ?_
        refine q_aload_n hM dX6_digest_17 rfl ?_
        refine q_iload_n hM dX6_digest_18 rfl ?_
        refine callVe_i hM mi_X6_count lk_X6_234 cf_X6 (by decide) (by decide) (c_X6_count l G hC hA (nI i)) rfl rfl (by decide) (Nat.le_refl _) (by omega) (Nat.le_of_ble_eq_true rfl) dX6_digest_19 ?_
        refine q_topi (aF A i) (rCount_at A (by omega)) ?_
        refine q_i2l hM dX6_digest_22 ?_
        refine q_ladd hM dX6_digest_23 ?_
        refine sl_5_1 hM dX6_digest_24 ?_
        refine sinc_5_3 hM dX6_digest_25 (inc1 i) ?_
        refine q_goto (tgt := 6) hM dX6_digest_28 (by decide) ?_
        exact ih (i + 1) (by omega) (by omega)
  exact loop (8 + 1) 0 (Nat.zero_le _) (by omega)
