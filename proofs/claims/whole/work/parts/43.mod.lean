/-! ===== the reference: the round ===== -/
set_option maxHeartbeats 4000000 in
set_option maxRecDepth 100000 in
theorem c_X7_size (l : Launch) (G : kG) {I : kI} {L : kL} {X : kX} (x : Int32)  : Ki l yX7_size cX7_size 1 0 G [.int x] 159 159 I L X (pE (sz x) I L X) := by
  refine Ki_intro (own := RX7) (lv0 := [some (.int x)]) 0 (by decide +kernel) rfl rfl (Nat.le_of_ble_eq_true rfl) (Nat.le_refl _) (fun J hM hret => ?_)
  refine q_iload_n hM dX7_size_0 rfl ?_
  refine q_if_ge (tgt := 9) hM dX7_size_1 (by decide) (fun c1 => ?_) (fun c1 => ?_)
  · refine q_iload_n hM dX7_size_9 rfl ?_
    exact hret _ _ _ _ _ _ ⟨(by unfold sz; first | rw [if_pos c1] | rw [if_neg c1]), rfl, rfl, rfl⟩ dX7_size_10
  · refine q_iload_n hM dX7_size_4 rfl ?_
    refine q_ineg hM dX7_size_5 ?_
    refine q_topi (0 - x) (by rw [Int32.sub_eq_add_neg, Int32.zero_add]) ?_
    refine q_goto (tgt := 10) hM dX7_size_6 (by decide) ?_
    exact hret _ _ _ _ _ _ ⟨(by unfold sz; first | rw [if_pos c1] | rw [if_neg c1]), rfl, rfl, rfl⟩ dX7_size_10
set_option maxHeartbeats 4000000 in
set_option maxRecDepth 100000 in
theorem c_X7_walks (l : Launch) (G : kG) {I : kI} {L : kL} {X : kX} {f : Fr} {g : Gr} (hR : RefM X) (hm : Mm I L f g) (hP : PInv f)  : Kv l yX7_walks cX7_walks 7 2 G [.ref (ad G 153)] 159 159 I L X (fun I' L' X' => (I' 153 5 = nI (wkF f).1 ∧ (∀ p, p < (wkF f).1 → I' 157 p = (wkF f).2.1 p) ∧ I' 153 6 = (wkF f).2.2 ∧ (wkF f).1 ≤ 16 ∧ (∀ r, r ≠ 153 → r ≠ 156 → r ≠ 157 → I' r = I r) ∧ (∀ j, j ≠ 5 → j ≠ 6 → I' 153 j = I 153 j)) ∧ L = L' ∧ X = X') := by
  refine Kv_intro (own := RX7) (lv0 := [some (.ref (ad G 153)), none, none, none, none, none, none]) 6 (by decide +kernel) rfl rfl (Nat.le_of_ble_eq_true rfl) (Nat.le_refl _) (fun J hM hret => ?_)
  have hn := hP.nT
  have hn8 := hP.nL
  refine q_iconst (v := 0) hM dX7_walks_0 (by decide) ?_
  refine si_7_1 hM dX7_walks_1 ?_
  refine q_iconst (v := 0) hM dX7_walks_2 (by decide) ?_
  refine si_7_2 hM dX7_walks_3 ?_
  refine q_aload_n hM dX7_walks_4 rfl ?_
  refine q_iconst (v := 0) hM dX7_walks_5 (by decide) ?_
  refine p_X7_104 hM (by decide) (by decide) dX7_walks_6 ?_
  refine q_aload_n hM dX7_walks_9 rfl ?_
  refine q_iconst (v := 0) hM dX7_walks_10 (by decide) ?_
  refine p_X7_107 hM (by decide) (by decide) dX7_walks_11 ?_
  refine q_iconst (v := 0) hM dX7_walks_14 (by decide) ?_
  refine si_7_3 hM dX7_walks_15 ?_
  generalize hI0 : up2 (up2 I 153 6 0) 153 5 0 = I0
  have hF0 : ∀ r, r ≠ 153 → I0 r = I r := fun r hr => by subst hI0; rw [up2_row hr, up2_row hr]
  have h20 : I0 153 5 = 0 ∧ I0 153 6 = 0 ∧ ∀ j, j ≠ 5 → j ≠ 6 → I0 153 j = I 153 j := by subst hI0; exact ⟨up2_self _ _ _ _, (up2_ne (Or.inr (by decide))).trans (up2_self _ _ _ _), fun j j1 j2 => (up2_ne (Or.inr j1)).trans (up2_ne (Or.inr j2))⟩
  have loop : ∀ (k i : Nat) (I1 : kI), i ≤ cI (f 1) → cI (f 1) < i + k → (∀ r, r ≠ 156 → I1 r = I0 r) → (∀ t, t < i → I1 156 t = bI (!(decide (sDue f t)))) → J 159 I1 L X 16 [some (.ref (ad G 153)), some (.int 0), some (.int 0), some (.int (nI i)), none, none, none] [] := by
    intro k
    induction k with
    | zero => intros; omega
    | succ k ih =>
      intro i I1 h1 h2 hF1 hw1
      have hm1 := (⟨fun i hi => by rw [hF1 154 (by decide), hF0 154 (by decide)]; exact hm.1 i hi, hm.2⟩ : Mm I1 L f g)
      refine q_iload_n hM dX7_walks_16 rfl ?_
      refine q_aload_n hM dX7_walks_17 rfl ?_
      refine g_X7_7 hM (by decide) (by decide) hR.m0 dX7_walks_18 ?_
      refine q_iconst (v := 1) hM dX7_walks_21 (by decide) ?_
      refine q_row hM hm1 (1) (rfl) (by decide) (by decide) dX7_walks_22 ?_
      refine q_icmp_geN (tgt := 51) hM i (cI (f 1)) rfl hP.e1 (by omega) (by omega) dX7_walks_23 (by decide) (fun c23 => ?_) (fun c23 => ?_)
      · obtain rfl : i = cI (f 1) := by omega
        refine q_iconst (v := 0) hM dX7_walks_51 (by decide) ?_
        refine si_7_3 hM dX7_walks_52 ?_
        have loop2 : ∀ (M : Nat) (I2 : kI) (w : Nat → Bool) (a b x : Int32) (kk : Nat) (st : Nat → Int32) (len : Int32) (v4 v5 v6 : Option Value), 0 < M → (∀ r, r ≠ 153 → r ≠ 156 → r ≠ 157 → I2 r = I r) → (∀ j, j ≠ 5 → j ≠ 6 → I2 153 j = I 153 j) → I2 153 5 = nI kk → (∀ p, p < kk → I2 157 p = st p) → I2 153 6 = len → (∀ t, t < cI (f 1) → I2 156 t = bI (!(w t))) → kk + cnt w (cI (f 1)) ≤ cI (f 1) → (x = -1 → (kk, st, len + (a + b)) = wkF f) → (¬ x = -1 → cnt w (cI (f 1)) + 1 < M ∧ wk f (M - 1) w a b kk st len = wkF f) → J 159 I2 L X 53 [some (.ref (ad G 153)), some (.int a), some (.int b), some (.int x), v4, v5, v6] [] := by
          intro M
          induction M with
          | zero => intros; omega
          | succ M ihM =>
            intro I2 w a b x kk st len v4 v5 v6 gM gF gF2 g3 g4 g5 gw gc gx gy
            have hm2 := (⟨fun i hi => by rw [gF 154 (by decide) (by decide) (by decide)]; exact hm.1 i hi, hm.2⟩ : Mm I2 L f g)
            refine q_iload_n hM dX7_walks_53 rfl ?_
            refine q_iconst (v := -1) hM dX7_walks_54 (by decide) ?_
            refine q_icmp_eq (tgt := 199) hM dX7_walks_55 (by decide) (fun c55 => ?_) (fun c55 => ?_)
            · refine q_aload_n hM dX7_walks_199 rfl ?_
              refine q_dup hM dX7_walks_200 rfl ?_
              refine g_X7_104 hM (by decide) (by decide) dX7_walks_201 ?_
              refine q_topi (len) (g5) ?_
              refine q_iload_n hM dX7_walks_204 rfl ?_
              refine q_iload_n hM dX7_walks_205 rfl ?_
              refine q_iadd hM dX7_walks_206 ?_
              refine q_iadd hM dX7_walks_207 ?_
              refine p_X7_104 hM (by decide) (by decide) dX7_walks_208 ?_
              rw [← gx c55] at hret
              exact hret _ _ _ _ _ ⟨⟨(up2_ne (Or.inr (by decide))).trans g3, fun p hp => (up2_ne (Or.inl (by decide))).trans (g4 p hp), up2_self _ _ _ _, by show kk ≤ 16; omega, fun r r1 r2 r3 => (up2_row r1).trans (gF r r1 r2 r3), fun j j1 j2 => (up2_ne (Or.inr j2)).trans (gF2 j j1 j2)⟩, rfl, rfl⟩ dX7_walks_211
            · obtain ⟨gy1, gy2⟩ := gy c55
              obtain ⟨M', rfl⟩ : ∃ M', M = M' + 1 := ⟨M - 1, by omega⟩
              rw [Nat.add_sub_cancel] at gy2
              refine q_iconst (v := -1) hM dX7_walks_58 (by decide) ?_
              refine si_7_3 hM dX7_walks_59 ?_
              refine q_iconst (v := 0) hM dX7_walks_60 (by decide) ?_
              refine si_7_4 hM dX7_walks_61 ?_
              refine q_iconst (v := 0) hM dX7_walks_63 (by decide) ?_
              refine si_7_5 hM dX7_walks_64 ?_
              have loop3 : ∀ (k3 i : Nat) (v6 : Option Value), i ≤ cI (f 1) → cI (f 1) < i + k3 → J 159 I2 L X 66 [some (.ref (ad G 153)), some (.int a), some (.int b), some (.int (nrS f w a b i).1), some (.int (nrS f w a b i).2), some (.int (nI i)), v6] [] := by
                intro k3
                induction k3 with
                | zero => intros; omega
                | succ k3 ih3 =>
                  intro i v6 h3 h4
                  refine q_iload hM dX7_walks_66 rfl ?_
                  refine q_aload_n hM dX7_walks_68 rfl ?_
                  refine g_X7_7 hM (by decide) (by decide) hR.m0 dX7_walks_69 ?_
                  refine q_iconst (v := 1) hM dX7_walks_72 (by decide) ?_
                  refine q_row hM hm2 (1) (rfl) (by decide) (by decide) dX7_walks_73 ?_
                  refine q_icmp_geN (tgt := 139) hM i (cI (f 1)) rfl hP.e1 (by omega) (by omega) dX7_walks_74 (by decide) (fun c74 => ?_) (fun c74 => ?_)
                  · obtain rfl : i = cI (f 1) := by omega
                    refine q_iload_n hM dX7_walks_139 rfl ?_
                    refine q_iconst (v := -1) hM dX7_walks_140 (by decide) ?_
                    refine q_icmp_eq (tgt := 196) hM dX7_walks_141 (by decide) (fun c141 => ?_) (fun c141 => ?_)
                    · refine q_goto (tgt := 53) hM dX7_walks_196 (by decide) ?_
                      exact ihM I2 w a b _ kk st len _ _ _ (by omega) gF gF2 g3 g4 g5 gw gc (fun q => by rw [← gy2]; exact (wk_stop _ q).symm) (fun q => absurd c141 q)
                    · obtain ⟨t, ht, hwt, hnr⟩ := (nr_c (f := f) (w := w) (a := a) (b := b) hn).resolve_left (fun q => c141 q.1)
                      have hn1 : (nrS f w a b (cI (f 1))).1 = nI t := by rw [hnr]
                      have hn2 : (nrS f w a b (cI (f 1))).2 = wayF f t a b := by rw [hnr]
                      rw [hn1, hn2]
                      have hcw := cnt_pos hwt ht
                      refine q_aload_n hM dX7_walks_144 rfl ?_
                      refine g_X7_17 hM (by decide) (by decide) hR.m3 dX7_walks_145 ?_
                      refine q_iload_n hM dX7_walks_148 rfl ?_
                      refine q_iconst (v := 1) hM dX7_walks_149 (by decide) ?_
                      refine q_zast (r := 156) hM (by decide) (by decide) rfl t rfl (show t < 16 by omega) dX7_walks_150 ?_
                      refine q_aload_n hM dX7_walks_151 rfl ?_
                      refine g_X7_21 hM (by decide) (by decide) hR.m4 dX7_walks_152 ?_
                      refine q_aload_n hM dX7_walks_155 rfl ?_
                      refine g_X7_107 hM (by decide) (by decide) dX7_walks_156 ?_
                      refine q_topi (nI kk) ((up2_ne (Or.inl (by decide))).trans g3) ?_
                      refine q_iload_n hM dX7_walks_159 rfl ?_
                      refine q_iast (r := 157) hM (by decide) (by decide) kk rfl (show kk < 16 by omega) dX7_walks_160 ?_
                      refine q_aload_n hM dX7_walks_161 rfl ?_
                      refine q_dup hM dX7_walks_162 rfl ?_
                      refine g_X7_107 hM (by decide) (by decide) dX7_walks_163 ?_
                      refine q_topi (nI kk) ((up2_ne (Or.inl (by decide))).trans ((up2_ne (Or.inl (by decide))).trans g3)) ?_
                      refine q_iconst (v := 1) hM dX7_walks_166 (by decide) ?_
                      refine q_iadd hM dX7_walks_167 ?_
                      refine q_topi (nI (kk + 1)) (nI_1 _) ?_
                      refine p_X7_107 hM (by decide) (by decide) dX7_walks_168 ?_
                      refine q_aload_n hM dX7_walks_171 rfl ?_
                      refine q_dup hM dX7_walks_172 rfl ?_
                      refine g_X7_104 hM (by decide) (by decide) dX7_walks_173 ?_
                      refine q_topi (len) ((up2_ne (Or.inr (by decide))).trans ((up2_ne (Or.inl (by decide))).trans ((up2_ne (Or.inl (by decide))).trans g5))) ?_
                      refine q_iload hM dX7_walks_176 rfl ?_
                      refine q_iadd hM dX7_walks_178 ?_
                      refine p_X7_104 hM (by decide) (by decide) dX7_walks_179 ?_
                      have hm4 : Mm (up2 (up2 (up2 (up2 I2 156 t 1) 157 kk (nI t)) 153 5 (nI (kk + 1))) 153 6 (len + wayF f t a b)) L f g := ⟨fun i hi => by rw [up2_ne (Or.inl (by decide)), up2_ne (Or.inl (by decide)), up2_ne (Or.inl (by decide)), up2_ne (Or.inl (by decide))]; exact hm2.1 i hi, hm2.2⟩
                      refine q_aload_n hM dX7_walks_182 rfl ?_
                      refine q_iload_n hM dX7_walks_183 rfl ?_
                      refine q_iconst (v := 3) hM dX7_walks_184 (by decide) ?_
                      refine callVe_i hM mi_X7_of lk_X7_39 cf_X7 (by decide) (by decide) (c_X7_of l G hR hm4 t 3 (by omega) (by decide)) rfl rfl (by decide) (Nat.le_refl _) (by omega) (Nat.le_of_ble_eq_true rfl) dX7_walks_185 ?_
                      refine si_7_1 hM dX7_walks_188 ?_
                      refine q_aload_n hM dX7_walks_189 rfl ?_
                      refine q_iload_n hM dX7_walks_190 rfl ?_
                      refine q_iconst (v := 4) hM dX7_walks_191 (by decide) ?_
                      refine callVe_i hM mi_X7_of lk_X7_39 cf_X7 (by decide) (by decide) (c_X7_of l G hR hm4 t 4 (by omega) (by decide)) rfl rfl (by decide) (Nat.le_refl _) (by omega) (Nat.le_of_ble_eq_true rfl) dX7_walks_192 ?_
                      refine si_7_2 hM dX7_walks_195 ?_
                      refine q_goto (tgt := 53) hM dX7_walks_196 (by decide) ?_
                      refine ihM _ (va_up w t false) (sOf f t 3) (sOf f t 4) (nI t) (kk + 1) (va_up st kk (nI t)) (len + wayF f t a b) _ _ _ (by omega) (fun r r1 r2 r3 => ?_) (fun j j1 j2 => ?_) ((up2_ne (Or.inr (by decide))).trans (up2_self _ _ _ _)) (fun p hp => ?_) (up2_self _ _ _ _) (fun t2 ht2 => ?_) (by have := cnt_off hwt ht; omega) (fun q => absurd q (nI_neg1 (by omega))) (fun _ => ⟨by have := cnt_off hwt ht; omega, by rw [← gy2]; exact (wk_go _ (by omega) hnr).symm⟩)
                      · rw [up2_row r1, up2_row r1, up2_row r3, up2_row r2]; exact gF r r1 r2 r3
                      · rw [up2_ne (Or.inr j2), up2_ne (Or.inr j1), up2_ne (Or.inl (by decide)), up2_ne (Or.inl (by decide))]; exact gF2 j j1 j2
                      · rw [up2_ne (Or.inl (by decide)), up2_ne (Or.inl (by decide))]
                        by_cases hpk : p = kk
                        · subst hpk; rw [up2_self, va_up_self]
                        · rw [up2_ne (Or.inr hpk), va_up_ne _ _ hpk, up2_ne (Or.inl (by decide))]; exact g4 p (by omega)
                      · rw [up2_ne (Or.inl (by decide)), up2_ne (Or.inl (by decide)), up2_ne (Or.inl (by decide))]
                        by_cases htt : t2 = t
                        · subst htt; rw [up2_self, va_up_self]; rfl
                        · rw [up2_ne (Or.inr htt), va_up_ne _ _ htt]; exact gw t2 ht2
                  · refine q_aload_n hM dX7_walks_77 rfl ?_
                    refine q_iload hM dX7_walks_78 rfl ?_
                    refine q_iconst (v := 3) hM dX7_walks_80 (by decide) ?_
                    refine callVe_i hM mi_X7_of lk_X7_39 cf_X7 (by decide) (by decide) (c_X7_of l G hR hm2 i 3 (by omega) (by decide)) rfl rfl (by decide) (Nat.le_refl _) (by omega) (Nat.le_of_ble_eq_true rfl) dX7_walks_81 ?_
                    refine q_iload_n hM dX7_walks_84 rfl ?_
                    refine q_isub hM dX7_walks_85 ?_
                    refine callSe_i hM mi_X7_size lk_X7_110 (c_X7_size l G _) rfl rfl (by decide) (Nat.le_refl _) (by omega) (Nat.le_of_ble_eq_true rfl) dX7_walks_86 ?_
                    refine q_aload_n hM dX7_walks_89 rfl ?_
                    refine q_iload hM dX7_walks_90 rfl ?_
                    refine q_iconst (v := 4) hM dX7_walks_92 (by decide) ?_
                    refine callVe_i hM mi_X7_of lk_X7_39 cf_X7 (by decide) (by decide) (c_X7_of l G hR hm2 i 4 (by omega) (by decide)) rfl rfl (by decide) (Nat.le_refl _) (by omega) (Nat.le_of_ble_eq_true rfl) dX7_walks_93 ?_
                    refine q_iload_n hM dX7_walks_96 rfl ?_
                    refine q_isub hM dX7_walks_97 ?_
                    refine callSe_i hM mi_X7_size lk_X7_110 (c_X7_size l G _) rfl rfl (by decide) (Nat.le_refl _) (by omega) (Nat.le_of_ble_eq_true rfl) dX7_walks_98 ?_
                    refine q_iadd hM dX7_walks_101 ?_
                    refine q_topi (wayF f i a b) rfl ?_
                    refine si_7_6 hM dX7_walks_102 ?_
                    refine q_aload_n hM dX7_walks_104 rfl ?_
                    refine g_X7_17 hM (by decide) (by decide) hR.m3 dX7_walks_105 ?_
                    refine q_iload hM dX7_walks_108 rfl ?_
                    refine q_zald (r := 156) hM (by decide) (by decide) i rfl (show i < 16 by omega) dX7_walks_110 ?_
                    rw [gw i c74]
                    refine q_topb (w i = false) (by cases w i <;> rfl) ?_
                    refine q_ifd_ne (tgt := 133) hM dX7_walks_111 (by decide) (fun c111 => ?_) (fun c111 => ?_)
                    · refine sinc_7_5 hM dX7_walks_133 (inc1 i) ?_
                      refine q_goto (tgt := 66) hM dX7_walks_136 (by decide) ?_
                      have h0 := ih3 (i + 1) (some (.int (wayF f i a b))) (by omega) (by omega)
                      first
                        | (rw [nr_skip (f := f) (w := w) (a := a) (b := b) (i := i) (fun q => absurd (c111.symm.trans q.1) (by decide))] at h0; exact h0)
                        | (rw [nr_take (f := f) (w := w) (a := a) (b := b) (i := i) ⟨hwi, Or.inl c116⟩] at h0; exact h0)
                        | (rw [nr_skip (f := f) (w := w) (a := a) (b := b) (i := i) (fun q => q.2.elim c116 (fun z => Int32.not_le.mpr z c123))] at h0; exact h0)
                        | (rw [nr_take (f := f) (w := w) (a := a) (b := b) (i := i) ⟨hwi, Or.inr (Int32.not_le.mp c123)⟩] at h0; exact h0)
                    · have hwi : w i = true := by cases hx : w i with
                        | false => exact absurd hx c111
                        | true => rfl
                      refine q_iload_n hM dX7_walks_114 rfl ?_
                      refine q_iconst (v := -1) hM dX7_walks_115 (by decide) ?_
                      refine q_icmp_eq (tgt := 126) hM dX7_walks_116 (by decide) (fun c116 => ?_) (fun c116 => ?_)
                      · refine q_iload hM dX7_walks_126 rfl ?_
                        refine si_7_3 hM dX7_walks_128 ?_
                        refine q_iload hM dX7_walks_129 rfl ?_
                        refine si_7_4 hM dX7_walks_131 ?_
                        refine sinc_7_5 hM dX7_walks_133 (inc1 i) ?_
                        refine q_goto (tgt := 66) hM dX7_walks_136 (by decide) ?_
                        have h0 := ih3 (i + 1) (some (.int (wayF f i a b))) (by omega) (by omega)
                        first
                          | (rw [nr_skip (f := f) (w := w) (a := a) (b := b) (i := i) (fun q => absurd (c111.symm.trans q.1) (by decide))] at h0; exact h0)
                          | (rw [nr_take (f := f) (w := w) (a := a) (b := b) (i := i) ⟨hwi, Or.inl c116⟩] at h0; exact h0)
                          | (rw [nr_skip (f := f) (w := w) (a := a) (b := b) (i := i) (fun q => q.2.elim c116 (fun z => Int32.not_le.mpr z c123))] at h0; exact h0)
                          | (rw [nr_take (f := f) (w := w) (a := a) (b := b) (i := i) ⟨hwi, Or.inr (Int32.not_le.mp c123)⟩] at h0; exact h0)
                      · refine q_iload hM dX7_walks_119 rfl ?_
                        refine q_iload hM dX7_walks_121 rfl ?_
                        refine q_icmp_ge (tgt := 133) hM dX7_walks_123 (by decide) (fun c123 => ?_) (fun c123 => ?_)
                        · refine sinc_7_5 hM dX7_walks_133 (inc1 i) ?_
                          refine q_goto (tgt := 66) hM dX7_walks_136 (by decide) ?_
                          have h0 := ih3 (i + 1) (some (.int (wayF f i a b))) (by omega) (by omega)
                          first
                            | (rw [nr_skip (f := f) (w := w) (a := a) (b := b) (i := i) (fun q => absurd (c111.symm.trans q.1) (by decide))] at h0; exact h0)
                            | (rw [nr_take (f := f) (w := w) (a := a) (b := b) (i := i) ⟨hwi, Or.inl c116⟩] at h0; exact h0)
                            | (rw [nr_skip (f := f) (w := w) (a := a) (b := b) (i := i) (fun q => q.2.elim c116 (fun z => Int32.not_le.mpr z c123))] at h0; exact h0)
                            | (rw [nr_take (f := f) (w := w) (a := a) (b := b) (i := i) ⟨hwi, Or.inr (Int32.not_le.mp c123)⟩] at h0; exact h0)
                        · refine q_iload hM dX7_walks_126 rfl ?_
                          refine si_7_3 hM dX7_walks_128 ?_
                          refine q_iload hM dX7_walks_129 rfl ?_
                          refine si_7_4 hM dX7_walks_131 ?_
                          refine sinc_7_5 hM dX7_walks_133 (inc1 i) ?_
                          refine q_goto (tgt := 66) hM dX7_walks_136 (by decide) ?_
                          have h0 := ih3 (i + 1) (some (.int (wayF f i a b))) (by omega) (by omega)
                          first
                            | (rw [nr_skip (f := f) (w := w) (a := a) (b := b) (i := i) (fun q => absurd (c111.symm.trans q.1) (by decide))] at h0; exact h0)
                            | (rw [nr_take (f := f) (w := w) (a := a) (b := b) (i := i) ⟨hwi, Or.inl c116⟩] at h0; exact h0)
                            | (rw [nr_skip (f := f) (w := w) (a := a) (b := b) (i := i) (fun q => q.2.elim c116 (fun z => Int32.not_le.mpr z c123))] at h0; exact h0)
                            | (rw [nr_take (f := f) (w := w) (a := a) (b := b) (i := i) ⟨hwi, Or.inr (Int32.not_le.mp c123)⟩] at h0; exact h0)
              exact loop3 (cI (f 1) + 1) 0 _ (Nat.zero_le _) (by omega)
        exact loop2 18 I1 (fun t => decide (sDue f t)) 0 0 0 0 (fun _ => 0) 0 none none none (by decide) (fun r r1 r2 r3 => by rw [hF1 r r2]; exact hF0 r r1) (fun j j1 j2 => by rw [hF1 153 (by decide)]; exact h20.2.2 j j1 j2) (by rw [hF1 153 (by decide)]; exact h20.1) (fun p hp => absurd hp (Nat.not_lt_zero p)) (by rw [hF1 153 (by decide)]; exact h20.2.1) hw1 (by have := cnt_le (fun t => decide (sDue f t)) (cI (f 1)); omega) (fun q => absurd q (by decide)) (fun _ => ⟨by have := cnt_le (fun t => decide (sDue f t)) (cI (f 1)); omega, rfl⟩)
      · refine q_aload_n hM dX7_walks_26 rfl ?_
        refine g_X7_17 hM (by decide) (by decide) hR.m3 dX7_walks_27 ?_
        refine q_iload_n hM dX7_walks_30 rfl ?_
        refine q_aload_n hM dX7_walks_31 rfl ?_
        refine q_iload_n hM dX7_walks_32 rfl ?_
        refine callVe_z hM mi_X7_due lk_X7_101 cf_X7 (by decide) (by decide) (c_X7_due l G hR hm1 hP i c23) rfl rfl (by decide) (Nat.le_refl _) (by omega) (Nat.le_of_ble_eq_true rfl) dX7_walks_33 ?_
        refine q_ifd_ne (tgt := 43) hM dX7_walks_36 (by decide) (fun c36 => ?_) (fun c36 => ?_)
        · refine q_iconst (v := 0) hM dX7_walks_43 (by decide) ?_
          refine q_zast (r := 156) hM (by decide) (by decide) rfl i rfl (show i < 16 by omega) dX7_walks_44 ?_
          refine sinc_7_3 hM dX7_walks_45 (inc1 i) ?_
          refine q_goto (tgt := 16) hM dX7_walks_48 (by decide) ?_
          refine ih (i + 1) _ (by omega) (by omega) (fun r hr => (up2_row hr).trans (hF1 r hr)) (fun t ht => ?_)
          by_cases hti : t = i
          · subst hti; rw [up2_self]; first | (rw [decide_eq_true c36]; rfl) | (rw [decide_eq_false c36]; rfl)
          · rw [up2_ne (Or.inr hti)]; exact hw1 t (by omega)
        · refine q_iconst (v := 1) hM dX7_walks_39 (by decide) ?_
          refine q_goto (tgt := 44) hM dX7_walks_40 (by decide) ?_
          refine q_zast (r := 156) hM (by decide) (by decide) rfl i rfl (show i < 16 by omega) dX7_walks_44 ?_
          refine sinc_7_3 hM dX7_walks_45 (inc1 i) ?_
          refine q_goto (tgt := 16) hM dX7_walks_48 (by decide) ?_
          refine ih (i + 1) _ (by omega) (by omega) (fun r hr => (up2_row hr).trans (hF1 r hr)) (fun t ht => ?_)
          by_cases hti : t = i
          · subst hti; rw [up2_self]; first | (rw [decide_eq_true c36]; rfl) | (rw [decide_eq_false c36]; rfl)
          · rw [up2_ne (Or.inr hti)]; exact hw1 t (by omega)
  exact loop (cI (f 1) + 1) 0 I0 (Nat.zero_le _) (by omega) (fun _ _ => rfl) (fun t ht => absurd ht (Nat.not_lt_zero t))
set_option maxHeartbeats 4000000 in
set_option maxRecDepth 100000 in
theorem c_X7_round (l : Launch) (G : kG) {I : kI} {L : kL} {X : kX} {A : kA} (hr : RM I L X A) (hA : AInv A) (k : Int32)  : Ki l yX7_round cX7_round 2 3 G [.ref (ad G 153), .int k] 159 159 I L X (fun v I' L' X' => v = rRound A k ∧ RM I' L' X' (A) ∧ FrC I I' L L' X X') := by
  refine Ki_intro (own := RX7) (lv0 := [some (.ref (ad G 153)), some (.int k)]) 0 (by decide +kernel) rfl rfl (Nat.le_of_ble_eq_true rfl) (Nat.le_refl _) (fun J hM hret => ?_)
  have hR := hr.1
  have hm := hr.m
  have hP := hA.f
  have hn := hP.nT
  have hn8 := hP.nL
  refine q_iload_n hM dX7_round_0 rfl ?_
  refine q_if_ge (tgt := 7) hM dX7_round_1 (by decide) (fun c1 => ?_) (fun c1 => ?_)
  · refine q_aload_n hM dX7_round_7 rfl ?_
    refine callV_v hM mi_X7_walks lk_X7_113 cf_X7 (by decide) (by decide) (c_X7_walks l G hR hm hP) rfl rfl (by decide) (Nat.le_refl _) (by omega) (Nat.le_of_ble_eq_true rfl) dX7_round_8 (fun I9 L9 X9 hp9 => ?_)
    obtain ⟨⟨h3, h4, h5, h6, hF, hF2⟩, rfl, rfl⟩ := hp9
    refine q_iload_n hM dX7_round_11 rfl ?_
    refine q_aload_n hM dX7_round_12 rfl ?_
    refine g_X7_107 hM (by decide) (by decide) dX7_round_13 ?_
    refine q_topi (nI (wkF (aF A)).1) (h3) ?_
    refine q_icmp_ge (tgt := 28) hM dX7_round_16 (by decide) (fun c16 => ?_) (fun c16 => ?_)
    · refine q_iconst (v := -1) hM dX7_round_28 (by decide) ?_
      exact hret _ _ _ _ _ _ ⟨by unfold rRound; rw [if_neg (fun q => Int32.not_le.mpr q c1)]; first | rw [if_pos hkc] | rw [if_neg (fun q => Int32.not_le.mpr q c16)], hr.rows hF hF2, fun r hr => ⟨hF r (by omega) (by omega) (by omega), rfl, rfl⟩⟩ dX7_round_29
    · have hkc : k < nI (wkF (aF A)).1 := Int32.not_le.mp c16
      have hk0 : 0 ≤ k.toInt := by rw [le_i, i0] at c1; exact c1
      have hki := nI_cI hk0
      have hkn : cI k < (wkF (aF A)).1 := by
        have q1 := hkc
        rw [lt_i, nI_toInt (by omega)] at q1
        have q2 := cI_int hk0
        omega
      refine q_aload_n hM dX7_round_19 rfl ?_
      refine g_X7_21 hM (by decide) (by decide) hR.m4 dX7_round_20 ?_
      refine q_iload_n hM dX7_round_23 rfl ?_
      refine q_iald (r := 157) hM (by decide) (by decide) (cI k) hki (show cI k < 16 by omega) dX7_round_24 ?_
      refine q_topi ((wkF (aF A)).2.1 (cI k)) (h4 _ hkn) ?_
      refine q_goto (tgt := 29) hM dX7_round_25 (by decide) ?_
      exact hret _ _ _ _ _ _ ⟨by unfold rRound; rw [if_neg (fun q => Int32.not_le.mpr q c1)]; first | rw [if_pos hkc] | rw [if_neg (fun q => Int32.not_le.mpr q c16)], hr.rows hF hF2, fun r hr => ⟨hF r (by omega) (by omega) (by omega), rfl, rfl⟩⟩ dX7_round_29
  · refine q_bipush (v := -3) hM dX7_round_4 (by decide) ?_
    exact hret _ _ _ _ _ _ ⟨by unfold rRound; rw [if_pos (Int32.not_le.mp c1)], hr, FrC.rf⟩ dX7_round_6
set_option maxHeartbeats 4000000 in
set_option maxRecDepth 100000 in
theorem c_X7_roundLength (l : Launch) (G : kG) {I : kI} {L : kL} {X : kX} {A : kA} (hr : RM I L X A) (hA : AInv A)  : Ki l yX7_roundLength cX7_roundLength 1 3 G [.ref (ad G 153)] 159 159 I L X (fun v I' L' X' => v = rRoundLen A ∧ RM I' L' X' (A) ∧ FrC I I' L L' X X') := by
  refine Ki_intro (own := RX7) (lv0 := [some (.ref (ad G 153))]) 0 (by decide +kernel) rfl rfl (Nat.le_of_ble_eq_true rfl) (Nat.le_refl _) (fun J hM hret => ?_)
  have hR := hr.1
  have hm := hr.m
  have hP := hA.f
  have hn := hP.nT
  have hn8 := hP.nL
  refine q_aload_n hM dX7_roundLength_0 rfl ?_
  refine callV_v hM mi_X7_walks lk_X7_113 cf_X7 (by decide) (by decide) (c_X7_walks l G hR hm hP) rfl rfl (by decide) (Nat.le_refl _) (by omega) (Nat.le_of_ble_eq_true rfl) dX7_roundLength_1 (fun I9 L9 X9 hp9 => ?_)
  obtain ⟨⟨h3, h4, h5, h6, hF, hF2⟩, rfl, rfl⟩ := hp9
  refine q_aload_n hM dX7_roundLength_4 rfl ?_
  refine g_X7_104 hM (by decide) (by decide) dX7_roundLength_5 ?_
  exact hret _ _ _ _ _ _ ⟨h5, hr.rows hF hF2, fun r hr => ⟨hF r (by omega) (by omega) (by omega), rfl, rfl⟩⟩ dX7_roundLength_8
