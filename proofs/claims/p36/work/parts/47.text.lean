/-! ===== the class's text: the list ===== -/
def RowIs (I : kI) (i : Nat) (r : Int32 × Int32 × Int32 × Int32) : Prop := I (133 + i) 0 = r.1 ∧ I (133 + i) 1 = r.2.1 ∧ I (133 + i) 2 = r.2.2.1 ∧ I (133 + i) 3 = r.2.2.2
theorem RowIs.rows {I I' : kI} {i : Nat} {r : Int32 × Int32 × Int32 × Int32} (h : RowIs I i r) (e : ∀ w, I' (133 + i) w = I (133 + i) w) : RowIs I' i r := ⟨(e 0).trans h.1, (e 1).trans h.2.1, (e 2).trans h.2.2.1, (e 3).trans h.2.2.2⟩
/-- the rows of the reading may change -/
def FrT (I I' : kI) : Prop := (∀ r, (r < 130 ∨ r = 131 ∨ 153 ≤ r) → I' r = I r) ∧ I' 130 2 = I 130 2
theorem FrT.t {I I' : kI} {T : Nat → Int32} {k : Nat} (h : FrT I I') (hT : ∀ j, j < k → I 131 j = T j) : ∀ j, j < k → I' 131 j = T j := fun j hj => by rw [h.1 131 (by omega)]; exact hT j hj
theorem RC.rowsT {I I' : kI} {L : kL} {X : kX} {A : kA} (hC : RC I L X A) (hA : AInv A) (h : FrT I I') : RC I' L X A := by
  obtain ⟨pm, hH, hS, hT⟩ := hC
  exact ⟨pm, hH.frame hA (fun r r1 r2 => ⟨h.1 r (by omega), rfl⟩) rfl, hS.frame hA.f.nT (fun r r1 r2 => ⟨h.1 r (by omega), rfl⟩), h.2.trans hT.1, h.t hT.2⟩
theorem ps_le {T : Nat → Int32} {k : Nat} {n : Int32} : ∀ i, ps T k n i ≤ k
  | 0 => Nat.zero_le _
  | i + 1 => by
    rw [ps]
    refine sgn_le ?_
    by_cases h : (rdg T k n (ps T k n i)).1 = true
    · exact ((rdg_spec (ps_le i)).1 h).2.1
    · exact ((rdg_spec (ps_le i)).2 h).1
theorem lsE_ok {T : Nat → Int32} {k : Nat} {n : Int32} : ∀ m j : Nat, (lsE T k n m j).2.1 ≤ k ∧ ∀ i, j ≤ i → i < (lsE T k n m j).2.2 → (rdg T k n (ps T k n i)).1 = true
  | 0, j => ⟨Nat.zero_le _, fun i h1 h2 => by have : i < j := h2; omega⟩
  | m + 1, j => by
    rw [lsE]
    by_cases h : (rdg T k n (ps T k n j)).1 = true
    · rw [if_pos h]
      by_cases h2 : (sgn T k 59 (rdg T k n (ps T k n j)).2.1).1 = true
      · rw [if_pos h2]
        obtain ⟨a, b⟩ := lsE_ok (T := T) (k := k) (n := n) m (j + 1)
        refine ⟨a, fun i h3 h4 => ?_⟩
        by_cases hij : i = j
        · rw [hij]; exact h
        · exact b i (by omega) h4
      · rw [if_neg h2]
        refine ⟨sgn_le ((rdg_spec (ps_le j)).1 h).2.1, fun i h3 h4 => ?_⟩
        have h5 : i < j + 1 := h4
        rw [show i = j by omega]; exact h
    · rw [if_neg h]
      exact ⟨((rdg_spec (ps_le j)).2 h).1, fun i h3 h4 => by have : i < j := h4; omega⟩
theorem lsR_ok {T : Nat → Int32} {k : Nat} {n : Int32} {i : Nat} (h : i < (lsR T k n).2.2) : (rdg T k n (ps T k n i)).1 = true := (lsE_ok 21 0).2 i (Nat.zero_le _) h
theorem lsR_pos {T : Nat → Int32} {k : Nat} {n : Int32} : (lsR T k n).2.1 ≤ k := (lsE_ok 21 0).1
theorem readF_1 {f : Fr} {t : Nat} {v : Int32} : readF f t v 1 = f 1 := by
  unfold readF
  rw [va_up_ne _ _ (by omega), va_up_ne _ _ (by omega)]
theorem lt_of_m1 {f : Fr} (hP : PInv f) {v : Nat} (h1 : v < 1000) (h : nI v ≤ f 1 - 1) : v < cI (f 1) := by
  have h2 := hP.1.2
  have h3 := cI_int h2.1
  obtain ⟨h4, h5⟩ := h2
  rw [le_i, nI_toInt (by omega), sub_i (by rw [show (1 : Int32).toInt = 1 from rfl]; omega) (by rw [show (1 : Int32).toInt = 1 from rfl]; omega), show (1 : Int32).toInt = 1 from rfl] at h
  omega

set_option maxHeartbeats 4000000 in
set_option maxRecDepth 100000 in
theorem c_X2_scanList (l : Launch) (G : kG) {I : kI} {L : kL} {X : kX} {pm : Nat → Nat} (hR : Refs X pm) {T : Nat → Int32} {k : Nat} (hk : k ≤ 100) (hI2 : I 130 2 = nI k) (hT : ∀ j, j < k → I 131 j = T j) (n : Int32)  : Kz l yX2_scanList cX2_scanList 3 4 G [.ref (ad G 130), .int n] 153 153 I L X (fun z I' L' X' => z = (lsR T k n).1 ∧ (I' 130 4 = nI (lsR T k n).2.1 ∧ I' 130 3 = nI (lsR T k n).2.2 ∧ (∀ i, i < (lsR T k n).2.2 → RowIs I' i (rdg T k n (ps T k n i)).2.2) ∧ (lsR T k n).2.2 ≤ 20 ∧ FrT I I') ∧ L = L' ∧ X = X') := by
  refine Kz_intro (own := RX2) (lv0 := [some (.ref (ad G 130)), some (.int n), none]) 1 (by decide +kernel) rfl rfl (Nat.le_of_ble_eq_true rfl) (Nat.le_refl _) (fun J hM hret => ?_)
  refine q_aload_n hM dX2_scanList_0 rfl ?_
  refine q_iconst (v := 0) hM dX2_scanList_1 (by decide) ?_
  refine p_X2_27 hM (by decide) (by decide) dX2_scanList_2 ?_
  refine q_aload_n hM dX2_scanList_5 rfl ?_
  refine q_iconst (v := 0) hM dX2_scanList_6 (by decide) ?_
  refine p_X2_24 hM (by decide) (by decide) dX2_scanList_7 ?_
  refine q_iconst (v := 1) hM dX2_scanList_10 (by decide) ?_
  refine si_3_2 hM dX2_scanList_11 ?_
  generalize hI0 : up2 (up2 I 130 4 0) 130 3 0 = I0
  have hF0 : FrT I I0 := by subst hI0; exact ⟨fun r hr => by rw [up2_row (by omega), up2_row (by omega)], by rw [up2_ne (by decide), up2_ne (by decide)]⟩
  have h20 : I0 130 4 = 0 ∧ I0 130 3 = 0 := by subst hI0; exact ⟨(up2_ne (by decide)).trans (up2_self _ _ _ _), up2_self _ _ _ _⟩
  have loop : ∀ (m j : Nat) (hm : Bool) (I1 : kI) (p : Nat), j ≤ 17 → 17 < j + m → FrT I I1 → I1 130 4 = nI p → I1 130 3 = nI j → p ≤ k → (∀ i, i < j → RowIs I1 i (rdg T k n (ps T k n i)).2.2) → (hm = true → p = ps T k n j ∧ 6 * j ≤ p ∧ lsE T k n (21 - j) j = lsR T k n) → (hm = false → (decide (k ≤ p), p, j) = lsR T k n) → J 153 I1 L X 12 [some (.ref (ad G 130)), some (.int n), some (.int (bI hm))] [] := by
    intro m
    induction m with
    | zero => intros; omega
    | succ m ih =>
      intro j hm I1 p h1 h2 hF1 g4 g3 gp gr gt gf
      have gT := hF1.t hT
      have g2 := hF1.2.trans hI2
      refine q_iload_n hM dX2_scanList_12 rfl ?_
      refine q_topb (hm = true) (bdec _) ?_
      refine q_ifd_eq (tgt := 64) hM dX2_scanList_13 (by decide) (fun c13 => ?_) (fun c13 => ?_)
      · have hr9 := gf (Bool.eq_false_iff.mpr c13)
        refine q_aload_n hM dX2_scanList_64 rfl ?_
        refine g_X2_27 hM (by decide) (by decide) dX2_scanList_65 ?_
        refine q_topi (nI p) (g4) ?_
        refine q_aload_n hM dX2_scanList_68 rfl ?_
        refine g_X2_20 hM (by decide) (by decide) dX2_scanList_69 ?_
        refine q_topi (nI k) (hF1.2.trans hI2) ?_
        refine q_icmp_ltN (tgt := 79) hM p k rfl rfl (by omega) (by omega) dX2_scanList_72 (by decide) (fun c72 => ?_) (fun c72 => ?_)
        · refine q_iconst (v := 0) hM dX2_scanList_79 (by decide) ?_
          rw [← hr9] at hret
          exact hret false _ _ _ _ _ _ rfl ⟨(decide_eq_false (by omega)).symm, ⟨g4, g3, gr, by show j ≤ 20; omega, hF1⟩, rfl, rfl⟩ dX2_scanList_80
        · refine q_iconst (v := 1) hM dX2_scanList_75 (by decide) ?_
          refine q_goto (tgt := 80) hM dX2_scanList_76 (by decide) ?_
          rw [← hr9] at hret
          exact hret true _ _ _ _ _ _ rfl ⟨(decide_eq_true (by omega)).symm, ⟨g4, g3, gr, by show j ≤ 20; omega, hF1⟩, rfl, rfl⟩ dX2_scanList_80
      · obtain ⟨hpe, gt2, gt3⟩ := gt c13
        subst hpe
        refine q_aload_n hM dX2_scanList_16 rfl ?_
        refine g_X2_24 hM (by decide) (by decide) dX2_scanList_17 ?_
        refine q_topi (nI j) (g3) ?_
        refine q_bipush (v := 20) hM dX2_scanList_20 (by decide) ?_
        refine q_icmp_geN (tgt := 64) hM j 20 rfl rfl (by omega) (by omega) dX2_scanList_22 (by decide) (fun c22 => ?_) (fun c22 => ?_)
        · exfalso; omega
        · refine q_aload_n hM dX2_scanList_25 rfl ?_
          refine q_aload_n hM dX2_scanList_26 rfl ?_
          refine g_X2_17 hM (by decide) (by decide) hR.t1 dX2_scanList_27 ?_
          refine q_aload_n hM dX2_scanList_30 rfl ?_
          refine g_X2_24 hM (by decide) (by decide) dX2_scanList_31 ?_
          refine q_topi (nI j) (g3) ?_
          refine q_aald (r := 132) hM (by decide) 11 (by decide) (Or.inl rfl) j rfl (show j < 20 by omega) (hR.ti (by omega)) dX2_scanList_34 ?_
          refine q_iload_n hM dX2_scanList_35 rfl ?_
          refine callV_z hM mi_X2_scanReading lk_X2_34 cf_X2 (by decide) (by decide) (c_X2_scanReading l G hR hk g2 gT gp g4 j (by omega) n) rfl rfl (by decide) (Nat.le_refl _) (by omega) (Nat.le_of_ble_eq_true rfl) dX2_scanList_36 (fun z9 I9 L9 X9 hp9 => ?_)
          obtain ⟨hz9, ⟨b1, b2, b3, b4⟩, rfl, rfl⟩ := hp9
          refine q_topb ((rdg T k n (ps T k n j)).1 = true) (hz9.trans (bdec _)) ?_
          refine q_ifd_ne (tgt := 44) hM dX2_scanList_39 (by decide) (fun c39 => ?_) (fun c39 => ?_)
          · have ha := (rdg_spec gp).1 c39
            refine q_aload_n hM dX2_scanList_44 rfl ?_
            refine q_dup hM dX2_scanList_45 rfl ?_
            refine g_X2_24 hM (by decide) (by decide) dX2_scanList_46 ?_
            refine q_topi (nI j) ((b4 3 (by decide)).trans g3) ?_
            refine q_iconst (v := 1) hM dX2_scanList_49 (by decide) ?_
            refine q_iadd hM dX2_scanList_50 ?_
            refine q_topi (nI (j + 1)) (nI_1 _) ?_
            refine p_X2_24 hM (by decide) (by decide) dX2_scanList_51 ?_
            refine q_aload_n hM dX2_scanList_54 rfl ?_
            refine q_bipush (v := 59) hM dX2_scanList_55 (by decide) ?_
            refine callV_z hM mi_X2_scanSign lk_X2_38 cf_X2 (by decide) (by decide) (c_X2_scanSign l G hR hk (((up2_ne (by decide)).trans (b4 2 (by decide))).trans g2) (fun x hx => ((congrFun (up2_row (show 131 ≠ 130 by decide)) x).trans (congrFun (b3 131 (by decide) (by omega)) x)).trans (gT x hx)) ha.2.1 ((up2_ne (by decide)).trans b1) 59) rfl rfl (by decide) (Nat.le_refl _) (by omega) (Nat.le_of_ble_eq_true rfl) dX2_scanList_57 (fun z9 I9 L9 X9 hp9 => ?_)
            obtain ⟨rfl, rfl, rfl, rfl⟩ := hp9
            refine si_3_2 hM dX2_scanList_60 ?_
            refine q_goto (tgt := 12) hM dX2_scanList_61 (by decide) ?_
            refine ih (j + 1) _ _ (sgn T k 59 (rdg T k n (ps T k n j)).2.1).2 (by omega) (by omega) ⟨fun r hr => ?_, ?_⟩ (up2_self _ _ _ _) ?_ (sgn_le ha.2.1) (fun i hi => ?_) (fun hs => ⟨rfl, ?_, ?_⟩) (fun hs => ?_)
            · rw [up2_row (by omega), up2_row (by omega), b3 r (by omega) (by omega)]; exact hF1.1 r hr
            · rw [up2_ne (by decide), up2_ne (by decide), b4 2 (by decide)]; exact hF1.2
            · rw [up2_ne (by decide), up2_self]
            · by_cases hij : i = j
              · subst hij; exact RowIs.rows (I := I9) (b2 (hz9.trans c39)) (fun w => by rw [up2_row (by omega), up2_row (by omega)])
              · exact (gr i (by omega)).rows (fun w => by rw [up2_row (by omega), up2_row (by omega), b3 _ (by omega) (by omega)])
            · have := (sgn_ok hs).1; have := ha.1; omega
            · rw [← gt3, show 21 - j = 21 - (j + 1) + 1 by omega, lsE, if_pos c39, if_pos hs]
            · rw [← gt3, show 21 - j = 20 - j + 1 by omega, lsE, if_pos c39, if_neg (by rw [hs]; decide)]
          · have he : (false, (rdg T k n (ps T k n j)).2.1, j) = lsR T k n := by rw [← gt3, show 21 - j = 20 - j + 1 by omega, lsE, if_neg c39]
            rw [← he] at hret
            refine q_iconst (v := 0) hM dX2_scanList_42 (by decide) ?_
            exact hret false _ _ _ _ _ _ rfl ⟨rfl, ⟨b1, (b4 3 (by decide)).trans g3, fun i hi => (gr i hi).rows (fun w => by rw [b3 _ (by omega) (by have : i < j := hi; omega)]), by show j ≤ 20; omega, ⟨fun r hr => by rw [b3 r (by omega) (by omega)]; exact hF1.1 r hr, (b4 2 (by decide)).trans hF1.2⟩⟩, rfl, rfl⟩ dX2_scanList_43
  exact loop 18 0 true I0 0 (by decide) (by decide) hF0 h20.1 h20.2 (Nat.zero_le _) (fun i hi => absurd hi (Nat.not_lt_zero i)) (fun _ => ⟨rfl, Nat.zero_le _, rfl⟩) (fun q => absurd q (by decide))
set_option maxHeartbeats 4000000 in
set_option maxRecDepth 100000 in
theorem c_X2_faultFor (l : Launch) (G : kG) {I : kI} {L : kL} {X : kX} {pm : Nat → Nat} (hR : Refs X pm) {T : Nat → Int32} {k : Nat} (hk : k ≤ 100) (hI2 : I 130 2 = nI k) (hT : ∀ j, j < k → I 131 j = T j) (n : Int32)  : Ki l yX2_faultFor cX2_faultFor 2 5 G [.ref (ad G 130), .int n] 153 153 I L X (fun v I' L' X' => v = (if (lsR T k n).1 = true then -1 else nI (lsR T k n).2.1) ∧ (I' 130 4 = nI (lsR T k n).2.1 ∧ I' 130 3 = nI (lsR T k n).2.2 ∧ (∀ i, i < (lsR T k n).2.2 → RowIs I' i (rdg T k n (ps T k n i)).2.2) ∧ (lsR T k n).2.2 ≤ 20 ∧ FrT I I') ∧ L = L' ∧ X = X') := by
  refine Ki_intro (own := RX2) (lv0 := [some (.ref (ad G 130)), some (.int n)]) 0 (by decide +kernel) rfl rfl (Nat.le_of_ble_eq_true rfl) (Nat.le_refl _) (fun J hM hret => ?_)
  refine q_aload_n hM dX2_faultFor_0 rfl ?_
  refine q_iload_n hM dX2_faultFor_1 rfl ?_
  refine callV_z hM mi_X2_scanList lk_X2_30 cf_X2 (by decide) (by decide) (c_X2_scanList l G hR hk hI2 hT n) rfl rfl (by decide) (Nat.le_refl _) (by omega) (Nat.le_of_ble_eq_true rfl) dX2_faultFor_2 (fun z9 I9 L9 X9 hp9 => ?_)
  obtain ⟨hz9, ⟨b1, b2, b3, b4, b5⟩, rfl, rfl⟩ := hp9
  refine q_topb ((lsR T k n).1 = true) (hz9.trans (bdec _)) ?_
  refine q_ifd_eq (tgt := 12) hM dX2_faultFor_5 (by decide) (fun c5 => ?_) (fun c5 => ?_)
  · refine q_aload_n hM dX2_faultFor_12 rfl ?_
    refine g_X2_27 hM (by decide) (by decide) dX2_faultFor_13 ?_
    refine q_topi (nI (lsR T k n).2.1) (b1) ?_
    exact hret _ _ _ _ _ _ ⟨(if_neg c5).symm, ⟨b1, b2, b3, b4, b5⟩, rfl, rfl⟩ dX2_faultFor_16
  · refine q_iconst (v := -1) hM dX2_faultFor_8 (by decide) ?_
    refine q_goto (tgt := 16) hM dX2_faultFor_9 (by decide) ?_
    exact hret _ _ _ _ _ _ ⟨(if_pos c5).symm, ⟨b1, b2, b3, b4, b5⟩, rfl, rfl⟩ dX2_faultFor_16
set_option maxHeartbeats 4000000 in
set_option maxRecDepth 100000 in
theorem c_X6_readAll (l : Launch) (G : kG) {I : kI} {L : kL} {X : kX} {A : kA} (hC : RC I L X A) (hA : AInv A)  : Ki l yX6_readAll cX6_readAll 3 6 G [.ref (ad G 0)] 153 153 I L X (fun v I' L' X' => v = rReadAll A ∧ RC I' L' X' (sReadAll A) ∧ FrM I I' L L' X X') := by
  refine Ki_intro (own := RX6) (lv0 := [some (.ref (ad G 0)), none, none]) 2 (by decide +kernel) rfl rfl (Nat.le_of_ble_eq_true rfl) (Nat.le_refl _) (fun J hM hret => ?_)
  obtain ⟨pm, hH, hS, hT⟩ := id hC
  have hR := hH.1
  have hP := hA.f
  have hn := hP.nT
  have hn8 := hP.nL
  refine q_aload_n hM dX6_readAll_0 rfl ?_
  refine g_X6_40 hM (by decide) (by decide) hR.x4 dX6_readAll_1 ?_
  refine q_aload_n hM dX6_readAll_4 rfl ?_
  refine g_X6_10 hM (by decide) (by decide) hR.x0 dX6_readAll_5 ?_
  refine g_X6_70 hM (by decide) (by decide) dX6_readAll_8 ?_
  refine q_topi (aF A 1) hS.a1 ?_
  refine callV_i hM mi_X2_faultFor lk_X6_220 cf_X2 (by decide) (by decide) (c_X2_faultFor l G hR hA.2.1 hT.1 hT.2 (aF A 1)) rfl rfl (by decide) (Nat.le_refl _) (by omega) (Nat.le_of_ble_eq_true rfl) dX6_readAll_11 (fun v9 I9 L9 X9 hp9 => ?_)
  obtain ⟨hv9, ⟨b1, b2, b3, b4, b5⟩, rfl, rfl⟩ := hp9
  refine q_iconst (v := -1) hM dX6_readAll_14 (by decide) ?_
  have b6 : FrM I I9 L L X X := fun r hr => ⟨b5.1 r (by omega), rfl, rfl⟩
  have hC1 := hC.rowsT hA b5
  obtain ⟨Ia, hIa⟩ : ∃ q, q = I9 := ⟨_, rfl⟩
  subst hIa
  refine q_icmp_eq (tgt := 21) hM dX6_readAll_15 (by decide) (fun c15 => ?_) (fun c15 => ?_)
  · have hok : (lsR (aT A) (aK A) (aF A 1)).1 = true := Classical.byContradiction fun q => by
      rw [hv9, if_neg q] at c15
      exact nI_neg1 (by have := (lsR_pos (T := aT A) (k := aK A) (n := aF A 1)); have := hA.2.1; omega) c15
    obtain ⟨pm1, hH1, hS1, hT1⟩ := id hC1
    refine q_aload_n hM dX6_readAll_21 rfl ?_
    refine g_X6_19 hM (by decide) (by decide) hR.x1 dX6_readAll_22 ?_
    refine q_aload_n hM dX6_readAll_25 rfl ?_
    refine g_X6_10 hM (by decide) (by decide) hR.x0 dX6_readAll_26 ?_
    refine callV_v hM mi_X0_keep lk_X6_52 cf_X0 (by decide) (by decide) (c_X0_keep l G hH1 hS1 hA) rfl rfl (by decide) (Nat.le_refl _) (by omega) (Nat.le_of_ble_eq_true rfl) dX6_readAll_29 (fun I9 L9 X9 hp9 => ?_)
    have hk := hp9
    have hS9 := hk.sm hA hS1
    have hR9 := hk.1.choose_spec.1
    obtain ⟨Ik, hIk⟩ : ∃ q, q = I9 := ⟨_, rfl⟩
    obtain ⟨Lk, hLk⟩ : ∃ q, q = L9 := ⟨_, rfl⟩
    subst hIk hLk
    have hc20 : (lsR (aT A) (aK A) (aF A 1)).2.2 ≤ 20 := b4
    refine q_iconst (v := 0) hM dX6_readAll_32 (by decide) ?_
    refine si_3_1 hM dX6_readAll_33 ?_
    have loop : ∀ (m i : Nat) (v2 : Option Value) (I1 : kI) (L1 : kL), i ≤ (lsR (aT A) (aK A) (aF A 1)).2.2 → (lsR (aT A) (aK A) (aF A 1)).2.2 < i + m → PInv (rdsF (aT A) (aK A) (aF A 1) (aF A) i) → rdsF (aT A) (aK A) (aF A 1) (aF A) i 1 = aF A 1 → Sm I1 L1 1 (rdsF (aT A) (aK A) (aF A 1) (aF A) i) (aG A) → Fr1 Ik I1 Lk L1 → J 153 I1 L1 X9 34 [some (.ref (ad G 0)), some (.int (nI i)), v2] [] := by
      intro m
      induction m with
      | zero => intros; omega
      | succ m ih =>
        intro i v2 I1 L1 h1 h2 hP1 e1 hS2 hF2
        have hrow : ∀ r, 130 ≤ r → I1 r = Ia r := fun r hr => ((hF2 r (by omega)).1).trans (hk.2 r (by omega)).1
        refine q_iload_n hM dX6_readAll_34 rfl ?_
        refine q_aload_n hM dX6_readAll_35 rfl ?_
        refine g_X6_40 hM (by decide) (by decide) hR9.x4 dX6_readAll_36 ?_
        refine g_X6_223 hM (by decide) (by decide) dX6_readAll_39 ?_
        refine q_topi (nI (lsR (aT A) (aK A) (aF A 1)).2.2) (by rw [hrow 130 (by decide)]; exact b2) ?_
        refine q_icmp_geN (tgt := 80) hM i (lsR (aT A) (aK A) (aF A 1)).2.2 rfl rfl (by omega) (by omega) dX6_readAll_42 (by decide) (fun c42 => ?_) (fun c42 => ?_)
        · obtain rfl : i = (lsR (aT A) (aK A) (aF A 1)).2.2 := by omega
          refine q_aload_n hM dX6_readAll_80 rfl ?_
          refine g_X6_40 hM (by decide) (by decide) hR9.x4 dX6_readAll_81 ?_
          refine g_X6_223 hM (by decide) (by decide) dX6_readAll_84 ?_
          refine q_topi (nI (lsR (aT A) (aK A) (aF A 1)).2.2) (by rw [hrow 130 (by decide)]; exact b2) ?_
          have hd := RC.done hk hA hT1 hS2 hF2 rfl
          exact hret _ _ _ _ _ _ ⟨by unfold rReadAll; rw [if_pos hok], by unfold sReadAll; rw [if_pos hok]; exact hd.1, b6.trans hd.2⟩ dX6_readAll_87
        · have hi20 : i < 20 := by omega
          have hro := (rdg_spec (ps_le (T := aT A) (k := aK A) (n := aF A 1) i)).1 (lsR_ok c42)
          obtain ⟨-, -, ⟨v, hv, hv1, hvn⟩, -, -, -⟩ := hro
          have ht : v < cI (aF A 1) := lt_of_m1 hP hv1 hvn
          have hcv : cI (rdg (aT A) (aK A) (aF A 1) (ps (aT A) (aK A) (aF A 1) i)).2.2.1 = v := by rw [hv]; exact cI_nI (by omega)
          obtain ⟨w0, w1, w2, w3⟩ := b3 i c42
          have hrw0 : I1 (133 + i) 0 = nI v := by rw [hrow _ (by omega), w0, hv]
          have hrw1 := (congrFun (hrow (133 + i) (by omega)) 1).trans w1
          have hrw2 := (congrFun (hrow (133 + i) (by omega)) 2).trans w2
          have hrw3 := (congrFun (hrow (133 + i) (by omega)) 3).trans w3
          refine q_aload_n hM dX6_readAll_45 rfl ?_
          refine g_X6_40 hM (by decide) (by decide) hR9.x4 dX6_readAll_46 ?_
          refine g_X6_226 hM (by decide) (by decide) hR9.t1 dX6_readAll_49 ?_
          refine q_iload_n hM dX6_readAll_52 rfl ?_
          refine q_aald (r := 132) hM (by decide) 11 (by decide) (Or.inl rfl) i rfl (show i < 20 by omega) (hR9.ti (by omega)) dX6_readAll_53 ?_
          refine sa_3_2 hM dX6_readAll_54 ?_
          refine q_aload_n hM dX6_readAll_55 rfl ?_
          refine g_X6_10 hM (by decide) (by decide) hR9.x0 dX6_readAll_56 ?_
          refine q_aload_n hM dX6_readAll_59 rfl ?_
          refine q_iconst (v := 0) hM dX6_readAll_60 (by decide) ?_
          refine q_iald (r := 133 + i) hM (by omega) (rowK hi20).1 0 rfl (by rw [(rowK hi20).2]; decide) dX6_readAll_61 ?_
          refine q_topi (nI v) hrw0 ?_
          refine q_aload_n hM dX6_readAll_62 rfl ?_
          refine q_iconst (v := 1) hM dX6_readAll_63 (by decide) ?_
          refine q_iald (r := 133 + i) hM (by omega) (rowK hi20).1 1 rfl (by rw [(rowK hi20).2]; decide) dX6_readAll_64 ?_
          refine q_topi ((rdg (aT A) (aK A) (aF A 1) (ps (aT A) (aK A) (aF A 1) i)).2.2.2.1) hrw1 ?_
          refine q_aload_n hM dX6_readAll_65 rfl ?_
          refine q_iconst (v := 2) hM dX6_readAll_66 (by decide) ?_
          refine q_iald (r := 133 + i) hM (by omega) (rowK hi20).1 2 rfl (by rw [(rowK hi20).2]; decide) dX6_readAll_67 ?_
          refine q_topi ((rdg (aT A) (aK A) (aF A 1) (ps (aT A) (aK A) (aF A 1) i)).2.2.2.2.1) hrw2 ?_
          refine q_aload_n hM dX6_readAll_68 rfl ?_
          refine q_iconst (v := 3) hM dX6_readAll_69 (by decide) ?_
          refine q_iald (r := 133 + i) hM (by omega) (rowK hi20).1 3 rfl (by rw [(rowK hi20).2]; decide) dX6_readAll_70 ?_
          refine q_topi ((rdg (aT A) (aK A) (aF A 1) (ps (aT A) (aK A) (aF A 1) i)).2.2.2.2.2) hrw3 ?_
          refine callV_v hM mi_X1_takeReading lk_X6_137 cf_X1 (by decide) (by decide) (c_X1_takeReading l G hR9 hS2 hP1 v (by rw [e1]; exact ht) _ _ _) rfl rfl (by decide) (Nat.le_refl _) (by omega) (Nat.le_of_ble_eq_true rfl) dX6_readAll_71 (fun I9 L9 X9 hp9 => ?_)
          obtain ⟨hS3, hF3, rfl⟩ := hp9
          refine sinc_3_1 hM dX6_readAll_74 (inc1 i) ?_
          refine q_goto (tgt := 34) hM dX6_readAll_77 (by decide) ?_
          exact ih (i + 1) _ _ _ (by omega) (by omega) (hP1.read (by rw [e1, hcv]; exact ht) (judC_rng _ _ _ _ _)) (readF_1.trans e1) (by show Sm _ _ 1 (readF (rdsF (aT A) (aK A) (aF A 1) (aF A) i) (cI (rdg (aT A) (aK A) (aF A 1) (ps (aT A) (aK A) (aF A 1) i)).2.2.1) (sJud _ (cI (rdg (aT A) (aK A) (aF A 1) (ps (aT A) (aK A) (aF A 1) i)).2.2.1) _ _ _)) _; rw [hcv]; exact hS3) (hF2.trans hF3)
    exact loop ((lsR (aT A) (aK A) (aF A 1)).2.2 + 1) 0 none Ik Lk (Nat.zero_le _) (by omega) hP rfl hS9 Fr1.rf
  · have hok : ¬ (lsR (aT A) (aK A) (aF A 1)).1 = true := fun q => c15 (by rw [hv9, if_pos q])
    refine q_bipush (v := -4) hM dX6_readAll_18 (by decide) ?_
    exact hret _ _ _ _ _ _ ⟨by unfold rReadAll; rw [if_neg hok], by unfold sReadAll; rw [if_neg hok]; exact hC1, b6⟩ dX6_readAll_20
