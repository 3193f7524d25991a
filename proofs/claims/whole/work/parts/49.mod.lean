/-! ===== the reference's text: the list ===== -/
theorem rdg_le {T : Nat → Int32} {k : Nat} {n : Int32} {p : Nat} (hp : p ≤ k) : (rdg T k n p).2.1 ≤ k := by
  by_cases h : (rdg T k n p).1 = true
  · exact ((rdg_spec hp).1 h).2.1
  · exact ((rdg_spec hp).2 h).1
theorem rds_1 {T : Nat → Int32} {k : Nat} {n : Int32} {f : Fr} : ∀ c, rdsF T k n f c 1 = f 1
  | 0 => rfl
  | c + 1 => by rw [rdsF, readF_1, rds_1 c]
theorem rds_P {T : Nat → Int32} {k : Nat} {f : Fr} (hP : PInv f) : ∀ c, (∀ i, i < c → (rdg T k (f 1) (ps T k (f 1) i)).1 = true) → PInv (rdsF T k (f 1) f c)
  | 0, _ => hP
  | c + 1, h => by
    rw [rdsF]
    have h1 := rds_P hP c (fun i hi => h i (by omega))
    obtain ⟨-, -, ⟨v, hv, hv1, hvn⟩, -⟩ := (rdg_spec (ps_le (T := T) (k := k) (n := f 1) c)).1 (h c (by omega))
    refine h1.read ?_ (judC_rng _ _ _ _ _)
    rw [hv, cI_nI (by omega), rds_1]
    exact lt_of_m1 hP hv1 hvn
theorem rds_inv {T : Nat → Int32} {k : Nat} {f : Fr} (hP : PInv f) (d : Bool) : ∀ c, (if d = true then rdsF T k (f 1) f c else f) 1 = f 1 ∧ (c ≤ 20 → (∀ i, i < c → (rdg T k (f 1) (ps T k (f 1) i)).1 = true) → PInv (if d = true then rdsF T k (f 1) f c else f)) := fun c => by
  cases d with
  | false => exact ⟨rfl, fun _ _ => hP⟩
  | true => exact ⟨rds_1 c, fun _ h => rds_P hP c h⟩
theorem rdA_0 {T : Nat → Int32} {k : Nat} {f : Fr} (d : Bool) : (if d = true then rdsF T k (f 1) f (if (rdg T k (f 1) 0).1 = true then 0 + 1 else 0) else f) = rdA f d (rdg T k (f 1) 0) := by
  unfold rdA
  cases d with
  | false => rfl
  | true =>
    by_cases h : (rdg T k (f 1) 0).1 = true
    · rw [if_pos h, if_pos rfl, if_pos ⟨rfl, h⟩]; rfl
    · rw [if_neg h, if_pos rfl, if_neg (fun z => h z.2)]; rfl
theorem rdA_s {T : Nat → Int32} {k : Nat} {f : Fr} {c : Nat} (d : Bool) (h : (rdg T k (f 1) (ps T k (f 1) c)).1 = true) : (if d = true then rdsF T k (f 1) f (c + 1) else f) = rdA (if d = true then rdsF T k (f 1) f c else f) d (rdg T k (f 1) (ps T k (f 1) c)) := by
  unfold rdA
  cases d with
  | false => rw [if_neg Bool.false_ne_true, if_neg Bool.false_ne_true, if_neg (fun z => Bool.false_ne_true z.1)]
  | true => rw [if_pos rfl, if_pos rfl, if_pos ⟨rfl, h⟩, rdsF]

set_option maxHeartbeats 4000000 in
set_option maxRecDepth 100000 in
theorem c_X7_readsText (l : Launch) (G : kG) {I : kI} {L : kL} {X : kX} (hR : RefM X) {T : Nat → Int32} {k : Nat} (hk : k ≤ 100) (hI8 : I 153 8 = nI k) (hT : ∀ j, j < k → I 158 j = T j) (hT1 : ∀ j, j < k → ¬ T j = -1) {A : kA} {f : Fr} {g : Gr} (hr : RM I L X (setF A f g)) (hP : PInv f) (d : Bool)  : Kz l yX7_readsText cX7_readsText 4 5 G [.ref (ad G 153), .int (bI d)] 159 159 I L X (fun z I' L' X' => z = (lsR T k (f 1)).1 ∧ (I' 153 9 = nI (lsR T k (f 1)).2.1 ∧ I' 153 11 = nI (lsR T k (f 1)).2.2 ∧ RM I' L' X' (setF A (if d = true then rdsF T k (f 1) f (lsR T k (f 1)).2.2 else f) g) ∧ (∀ r, r ≠ 153 → r ≠ 154 → I' r = I r) ∧ I' 153 8 = I 153 8) ∧ L = L' ∧ X = X') := by
  refine Kz_intro (own := RX7) (lv0 := [some (.ref (ad G 153)), some (.int (bI d)), none, none]) 2 (by decide +kernel) rfl rfl (Nat.le_of_ble_eq_true rfl) (Nat.le_refl _) (fun J hM hret => ?_)
  have hd1 : ∀ c, (if d = true then rdsF T k (f 1) f c else f) 1 = f 1 ∧ (c ≤ 20 → (∀ i, i < c → (rdg T k (f 1) (ps T k (f 1) i)).1 = true) → PInv (if d = true then rdsF T k (f 1) f c else f)) := rds_inv hP d
  refine q_aload_n hM dX7_readsText_0 rfl ?_
  refine q_iconst (v := 0) hM dX7_readsText_1 (by decide) ?_
  refine p_X7_119 hM (by decide) (by decide) dX7_readsText_2 ?_
  refine q_aload_n hM dX7_readsText_5 rfl ?_
  refine q_iconst (v := 0) hM dX7_readsText_6 (by decide) ?_
  refine p_X7_135 hM (by decide) (by decide) dX7_readsText_7 ?_
  refine q_aload_n hM dX7_readsText_10 rfl ?_
  refine q_iload_n hM dX7_readsText_11 rfl ?_
  obtain ⟨I0, hI0⟩ : ∃ q, up2 (up2 I 153 9 0) 153 11 0 = q := ⟨_, rfl⟩
  have s0 : I0 153 9 = nI 0 ∧ I0 153 11 = nI 0 ∧ (∀ r, r ≠ 153 → I0 r = I r) ∧ (∀ j, j ≠ 9 → j ≠ 11 → I0 153 j = I 153 j) := by subst hI0; exact ⟨(up2_ne (Or.inr (by decide))).trans (up2_self _ _ _ _), up2_self _ _ _ _, fun r h => by rw [up2_row h, up2_row h], fun j h1 h2 => by rw [up2_ne (Or.inr h2), up2_ne (Or.inr h1)]⟩
  rw [hI0]
  have hr0 : RM I0 L X (setF A f g) := hr.keep153 s0.2.2.1 (s0.2.2.2 2 (by decide) (by decide)) (s0.2.2.2 8 (by decide) (by decide))
  refine callV_z hM mi_X7_readsReading lk_X7_138 cf_X7 (by decide) (by decide) (c_X7_readsReading l G hR hk ((s0.2.2.2 8 (by decide) (by decide)).trans hI8) (fun j hj => (congrFun (s0.2.2.1 158 (by decide)) j).trans (hT j hj)) (Nat.zero_le k) s0.1 hr0 hP d 0 s0.2.1) rfl rfl (by decide) (Nat.le_refl _) (by omega) (Nat.le_of_ble_eq_true rfl) dX7_readsText_12 (fun z9 I9 L9 X9 hp9 => ?_)
  obtain ⟨rfl, ⟨b1, b2, b3, b4, b5⟩, rfl, rfl⟩ := hp9
  have b6 : I9 153 8 = I 153 8 := b5.trans (s0.2.2.2 8 (by decide) (by decide))
  have b7 : ∀ r, r ≠ 153 → r ≠ 154 → I9 r = I r := fun r r1 r2 => (b4 r r1 r2).trans (s0.2.2.1 r r1)
  obtain ⟨Ia, hIa⟩ : ∃ q, q = I9 := ⟨_, rfl⟩
  subst hIa
  refine si_4_2 hM dX7_readsText_15 ?_
  refine q_aload_n hM dX7_readsText_16 rfl ?_
  refine callV_i hM mi_X7_here lk_X7_122 cf_X7 (by decide) (by decide) (c_X7_here l G hR hk (b6.trans hI8) (fun j hj => (congrFun (b7 158 (by decide) (by decide)) j).trans (hT j hj)) (rdg_le (n := f 1) (Nat.zero_le k)) b1) rfl rfl (by decide) (Nat.le_refl _) (by omega) (Nat.le_of_ble_eq_true rfl) dX7_readsText_17 (fun v9 I9 L9 X9 hp9 => ?_)
  obtain ⟨rfl, rfl, rfl, rfl⟩ := hp9
  refine si_4_3 hM dX7_readsText_20 ?_
  have loop : ∀ (m cnt : Nat) (b : Bool) (q : Nat) (I1 : kI) (L1 : kL), cnt ≤ 17 → q ≤ k → sk T k q = q → I1 153 9 = nI q → I1 153 11 = nI cnt → RM I1 L1 X (setF A (if d = true then rdsF T k (f 1) f cnt else f) g) → (∀ r, r ≠ 153 → r ≠ 154 → I1 r = I r) → I1 153 8 = I 153 8 → L1 = L → (b = false → 0 < m ∧ (false, q, cnt) = lsR T k (f 1)) → (b = true → 18 < cnt + m ∧ ∃ j, cnt = j + 1 ∧ j ≤ 16 ∧ (rdg T k (f 1) (ps T k (f 1) j)).1 = true ∧ q = sk T k (rdg T k (f 1) (ps T k (f 1) j)).2.1 ∧ lsE T k (f 1) (21 - j) j = lsR T k (f 1) ∧ 6 * j ≤ ps T k (f 1) j ∧ ∀ i, i < j + 1 → (rdg T k (f 1) (ps T k (f 1) i)).1 = true) → J 159 I1 L1 X 21 [some (.ref (ad G 153)), some (.int (bI d)), some (.int (bI b)), some (.int (if q < k then T q else -1))] [] := by
    intro m
    induction m with
    | zero => intro cnt b q I1 L1 h1; intros; cases b with
              | false => rename_i z _; exact absurd (z rfl).1 (by decide)
              | true => rename_i z; have := (z rfl).1; omega
    | succ m ih =>
      intro cnt b q I1 L1 h1 hq hsq g9 g11 gr gF g8 gL hbf hbt
      subst gL
      have gT : ∀ j, j < k → I1 158 j = T j := fun j hj => (congrFun (gF 158 (by decide) (by decide)) j).trans (hT j hj)
      have gk := g8.trans hI8
      refine q_iload_n hM dX7_readsText_21 rfl ?_
      refine q_topb (b = true) (bdec _) ?_
      refine q_ifd_eq (tgt := 61) hM dX7_readsText_22 (by decide) (fun c22 => ?_) (fun c22 => ?_)
      · have hbf' : b = false := Bool.eq_false_iff.mpr c22
        have hl := (hbf hbf').2
        refine q_iload_n hM dX7_readsText_61 rfl ?_
        rw [← hl] at hret
        exact hret b _ _ _ _ _ _ rfl ⟨hbf', ⟨g9, g11, gr, gF, g8⟩, rfl, rfl⟩ dX7_readsText_62
      · obtain ⟨hm, j, rfl, hj16, hok, rfl, hls, h6, hall⟩ := hbt c22
        have hro := (rdg_spec (ps_le (T := T) (k := k) (n := f 1) j)).1 hok
        have hlt21 : 21 - j = 20 - j + 1 := by omega
        refine q_iload_n hM dX7_readsText_25 rfl ?_
        refine q_iconst (v := -1) hM dX7_readsText_26 (by decide) ?_
        refine q_icmp_eq (tgt := 61) hM dX7_readsText_27 (by decide) (fun c27 => ?_) (fun c27 => ?_)
        · have hend : ¬ sk T k (rdg T k (f 1) (ps T k (f 1) j)).2.1 < k := fun z => by rw [if_pos z] at c27; exact hT1 _ z c27
          have hsg : ¬ (sgn T k 59 (rdg T k (f 1) (ps T k (f 1) j)).2.1).1 = true := by unfold sgn; rw [if_neg (fun z => hend z.1)]; exact Bool.false_ne_true
          have hl : (true, sk T k (rdg T k (f 1) (ps T k (f 1) j)).2.1, j + 1) = lsR T k (f 1) := by rw [← hls, hlt21, lsE, if_pos hok, if_neg hsg, sgn_no hsg, decide_eq_true (by omega)]
          refine q_iload_n hM dX7_readsText_61 rfl ?_
          rw [← hl] at hret
          exact hret b _ _ _ _ _ _ rfl ⟨c22, ⟨g9, g11, gr, gF, g8⟩, rfl, rfl⟩ dX7_readsText_62
        · have hin : sk T k (rdg T k (f 1) (ps T k (f 1) j)).2.1 < k := Classical.byContradiction fun z => c27 (if_neg z)
          refine q_aload_n hM dX7_readsText_30 rfl ?_
          refine q_bipush (v := 59) hM dX7_readsText_31 (by decide) ?_
          refine callV_z hM mi_X7_sign lk_X7_132 cf_X7 (by decide) (by decide) (c_X7_sign l G hR hk gk gT hq g9 59 (by decide)) rfl rfl (by decide) (Nat.le_refl _) (by omega) (Nat.le_of_ble_eq_true rfl) dX7_readsText_33 (fun z9 I9 L9 X9 hp9 => ?_)
          obtain ⟨hz9, rfl, rfl, rfl⟩ := hp9
          have hsame : sgn T k 59 (sk T k (rdg T k (f 1) (ps T k (f 1) j)).2.1) = sgn T k 59 (rdg T k (f 1) (ps T k (f 1) j)).2.1 := by unfold sgn; rw [sk_sk]
          rw [hsame] at hz9 ⊢
          refine q_topb ((sgn T k 59 (rdg T k (f 1) (ps T k (f 1) j)).2.1).1 = true) (hz9.trans (bdec _)) ?_
          refine q_ifd_eq (tgt := 51) hM dX7_readsText_36 (by decide) (fun c36 => ?_) (fun c36 => ?_)
          · obtain ⟨Ib, hIb⟩ : ∃ x, up2 I1 153 9 (nI (sgn T k 59 (rdg T k (f 1) (ps T k (f 1) j)).2.1).2) = x := ⟨_, rfl⟩
            rw [hIb]
            have d1 : Ib 153 9 = nI (sk T k (rdg T k (f 1) (ps T k (f 1) j)).2.1) := by subst hIb; rw [up2_self, sgn_no c36]
            have d2 : ∀ r, r ≠ 153 → Ib r = I1 r := fun r hr => by subst hIb; exact up2_row hr
            have d3 : ∀ x, x ≠ 9 → Ib 153 x = I1 153 x := fun x hx => by subst hIb; exact up2_ne (Or.inr hx)
            refine q_iconst (v := 0) hM dX7_readsText_51 (by decide) ?_
            refine si_4_2 hM dX7_readsText_52 ?_
            refine q_aload_n hM dX7_readsText_53 rfl ?_
            refine callV_i hM mi_X7_here lk_X7_122 cf_X7 (by decide) (by decide) (c_X7_here l G hR hk ((d3 8 (by decide)).trans gk) (fun x hx => (congrFun (d2 158 (by decide)) x).trans (gT x hx)) hq d1) rfl rfl (by decide) (Nat.le_refl _) (by omega) (Nat.le_of_ble_eq_true rfl) dX7_readsText_54 (fun v9 I9 L9 X9 hp9 => ?_)
            obtain ⟨rfl, rfl, rfl, rfl⟩ := hp9
            refine si_4_3 hM dX7_readsText_57 ?_
            refine q_goto (tgt := 21) hM dX7_readsText_58 (by decide) ?_
            rw [sk_sk]
            exact ih (j + 1) false (sk T k (rdg T k (f 1) (ps T k (f 1) j)).2.1) _ _ (by omega) hq hsq (up2_self _ _ _ _) ((up2_ne (Or.inr (by decide))).trans ((d3 11 (by decide)).trans g11)) ((gr.keep153 d2 (d3 2 (by decide)) (d3 8 (by decide))).put (by decide) (by decide) _) (fun r r1 r2 => (up2_row r1).trans ((d2 r r1).trans (gF r r1 r2))) ((up2_ne (Or.inr (by decide))).trans ((d3 8 (by decide)).trans g8)) rfl (fun _ => ⟨by omega, by rw [← hls, hlt21, lsE, if_pos hok, if_neg c36, sgn_no c36, decide_eq_false (by omega)]⟩) (fun z => absurd z (by decide))
          · have hps : ps T k (f 1) (j + 1) = (sgn T k 59 (rdg T k (f 1) (ps T k (f 1) j)).2.1).2 := rfl
            rw [← hps]
            obtain ⟨Ib, hIb⟩ : ∃ x, up2 I1 153 9 (nI (ps T k (f 1) (j + 1))) = x := ⟨_, rfl⟩
            rw [hIb]
            have d1 : Ib 153 9 = nI (ps T k (f 1) (j + 1)) := by subst hIb; exact up2_self _ _ _ _
            have d2 : ∀ r, r ≠ 153 → Ib r = I1 r := fun r hr => by subst hIb; exact up2_row hr
            have d3 : ∀ x, x ≠ 9 → Ib 153 x = I1 153 x := fun x hx => by subst hIb; exact up2_ne (Or.inr hx)
            have hp1 := ps_le (T := T) (k := k) (n := f 1) (j + 1)
            have hge : 6 * (j + 1) ≤ ps T k (f 1) (j + 1) := by have a1 := hro.1; have a2 := (sgn_ok c36).1; omega
            have grb := gr.keep153 d2 (d3 2 (by decide)) (d3 8 (by decide))
            have hPj : PInv (if d = true then rdsF T k (f 1) f (j + 1) else f) := (hd1 _).2 (by omega) hall
            refine q_aload_n hM dX7_readsText_39 rfl ?_
            refine q_iload_n hM dX7_readsText_40 rfl ?_
            have hq9 := c_X7_readsReading l G hR hk ((d3 8 (by decide)).trans gk) (fun x hx => (congrFun (d2 158 (by decide)) x).trans (gT x hx)) hp1 d1 grb hPj d (j + 1) ((d3 11 (by decide)).trans g11)
            rw [(hd1 (j + 1)).1] at hq9
            refine callV_z hM mi_X7_readsReading lk_X7_138 cf_X7 (by decide) (by decide) (hq9) rfl rfl (by decide) (Nat.le_refl _) (by omega) (Nat.le_of_ble_eq_true rfl) dX7_readsText_41 (fun z9 I9 L9 X9 hp9 => ?_)
            obtain ⟨hz9, ⟨b1, b2, b3, b4, b5⟩, rfl, rfl⟩ := hp9
            refine q_topb ((rdg T k (f 1) (ps T k (f 1) (j + 1))).1 = true) (hz9.trans (bdec _)) ?_
            refine q_ifd_eq (tgt := 51) hM dX7_readsText_44 (by decide) (fun c44 => ?_) (fun c44 => ?_)
            · refine q_iconst (v := 0) hM dX7_readsText_51 (by decide) ?_
              refine si_4_2 hM dX7_readsText_52 ?_
              refine q_aload_n hM dX7_readsText_53 rfl ?_
              refine callV_i hM mi_X7_here lk_X7_122 cf_X7 (by decide) (by decide) (c_X7_here l G hR hk ((b5.trans (d3 8 (by decide))).trans gk) (fun x hx => ((congrFun (b4 158 (by decide) (by decide)) x).trans (congrFun (d2 158 (by decide)) x)).trans (gT x hx)) (rdg_le hp1) b1) rfl rfl (by decide) (Nat.le_refl _) (by omega) (Nat.le_of_ble_eq_true rfl) dX7_readsText_54 (fun v9 I9 L9 X9 hp9 => ?_)
              obtain ⟨rfl, rfl, rfl, rfl⟩ := hp9
              refine si_4_3 hM dX7_readsText_57 ?_
              refine q_goto (tgt := 21) hM dX7_readsText_58 (by decide) ?_
              have hsf := ((rdg_spec hp1).2 c44).2
              exact ih (j + 1) false (sk T k (rdg T k (f 1) (ps T k (f 1) (j + 1))).2.1) _ _ (by omega) (sk_le (rdg_le hp1)) (sk_sk _) (up2_self _ _ _ _) ((up2_ne (Or.inr (by decide))).trans (b2.trans (by rw [if_neg c44]))) (by rw [rdA_no (Bool.eq_false_iff.mpr c44)] at b3; exact b3.put (by decide) (by decide) _) (fun r r1 r2 => (up2_row r1).trans (((b4 r r1 r2).trans (d2 r r1)).trans (gF r r1 r2))) ((up2_ne (Or.inr (by decide))).trans ((b5.trans (d3 8 (by decide))).trans g8)) rfl (fun _ => ⟨by omega, by rw [← hls, hlt21, lsE, if_pos hok, if_pos c36, show 20 - j = 19 - j + 1 by omega, lsE, if_neg c44, hsf]⟩) (fun z => absurd z (by decide))
            · refine q_iconst (v := 1) hM dX7_readsText_47 (by decide) ?_
              refine q_goto (tgt := 52) hM dX7_readsText_48 (by decide) ?_
              refine si_4_2 hM dX7_readsText_52 ?_
              refine q_aload_n hM dX7_readsText_53 rfl ?_
              refine callV_i hM mi_X7_here lk_X7_122 cf_X7 (by decide) (by decide) (c_X7_here l G hR hk ((b5.trans (d3 8 (by decide))).trans gk) (fun x hx => ((congrFun (b4 158 (by decide) (by decide)) x).trans (congrFun (d2 158 (by decide)) x)).trans (gT x hx)) (rdg_le hp1) b1) rfl rfl (by decide) (Nat.le_refl _) (by omega) (Nat.le_of_ble_eq_true rfl) dX7_readsText_54 (fun v9 I9 L9 X9 hp9 => ?_)
              obtain ⟨rfl, rfl, rfl, rfl⟩ := hp9
              refine si_4_3 hM dX7_readsText_57 ?_
              refine q_goto (tgt := 21) hM dX7_readsText_58 (by decide) ?_
              exact ih (j + 2) true (sk T k (rdg T k (f 1) (ps T k (f 1) (j + 1))).2.1) _ _ (by omega) (sk_le (rdg_le hp1)) (sk_sk _) (up2_self _ _ _ _) ((up2_ne (Or.inr (by decide))).trans (b2.trans (by rw [if_pos c44]))) (by rw [← rdA_s d c44] at b3; exact b3.put (by decide) (by decide) _) (fun r r1 r2 => (up2_row r1).trans (((b4 r r1 r2).trans (d2 r r1)).trans (gF r r1 r2))) ((up2_ne (Or.inr (by decide))).trans ((b5.trans (d3 8 (by decide))).trans g8)) rfl (fun z => absurd z (by decide)) (fun _ => ⟨by omega, j + 1, rfl, by omega, c44, rfl, by rw [← hls, hlt21, lsE, if_pos hok, if_pos c36, show 21 - (j + 1) = 20 - j by omega], hge, fun i hi => (Nat.lt_or_ge i (j + 1)).elim (hall i) (fun z => by rw [show i = j + 1 by omega]; exact c44)⟩)
  have ho := rdg_spec (T := T) (k := k) (n := f 1) (p := 0) (Nat.zero_le k)
  have hc1 : (if d = true then rdsF T k (f 1) f (if (rdg T k (f 1) 0).1 = true then 0 + 1 else 0) else f) = rdA f d (rdg T k (f 1) 0) := rdA_0 d
  refine loop 20 (if (rdg T k (f 1) 0).1 = true then 0 + 1 else 0) (rdg T k (f 1) 0).1 (sk T k (rdg T k (f 1) 0).2.1) _ L (by split <;> omega) (sk_le (rdg_le (Nat.zero_le k))) (sk_sk _) (up2_self _ _ _ _) ((up2_ne (Or.inr (by decide))).trans b2) (by rw [hc1]; exact b3.put (by decide) (by decide) _) (fun r r1 r2 => (up2_row r1).trans (b7 r r1 r2)) ((up2_ne (Or.inr (by decide))).trans b6) rfl (fun hb => ⟨by decide, ?_⟩) (fun hb => ⟨by split <;> omega, 0, by rw [if_pos hb], by decide, hb, rfl, rfl, Nat.zero_le _, fun i hi => by rw [show i = 0 by omega]; exact hb⟩)
  have hb' : ¬ (rdg T k (f 1) 0).1 = true := by rw [hb]; decide
  rw [if_neg hb', (ho.2 hb').2]
  show _ = lsE T k (f 1) 21 0
  rw [lsE]; exact (if_neg (show ¬ (rdg T k (f 1) (ps T k (f 1) 0)).1 = true from hb')).symm
