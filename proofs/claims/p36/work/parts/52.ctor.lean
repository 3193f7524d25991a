/-! ===== the constructors ===== -/
theorem flF_X5_22 : InT (.fieldLink RX5 22 RX5 "line" "I") := inT_of 44 (by decide +kernel) (by decide +kernel)
theorem flF_X5_25 : InT (.fieldLink RX5 25 RX5 "kind" "I") := inT_of 47 (by decide +kernel) (by decide +kernel)
theorem flF_X5_28 : InT (.fieldLink RX5 28 RX5 "size" "I") := inT_of 49 (by decide +kernel) (by decide +kernel)
theorem flF_X5_31 : InT (.fieldLink RX5 31 RX5 "x" "I") := inT_of 51 (by decide +kernel) (by decide +kernel)
theorem flF_X5_34 : InT (.fieldLink RX5 34 RX5 "y" "I") := inT_of 54 (by decide +kernel) (by decide +kernel)
theorem flF_X5_9 : InT (.fieldLink RX5 9 RX5 "state" "I") := inT_of 57 (by decide +kernel) (by decide +kernel)
theorem flF_X5_15 : InT (.fieldLink RX5 15 RX5 "readDay" "I") := inT_of 60 (by decide +kernel) (by decide +kernel)
theorem flF_X5_18 : InT (.fieldLink RX5 18 RX5 "lostSteam" "J") := inT_of 63 (by decide +kernel) (by decide +kernel)
theorem flF_X1_9 : InT (.fieldLink RX1 9 RX1 "pressures" "[I") := inT_of 84 (by decide +kernel) (by decide +kernel)
theorem flF_X1_15 : InT (.fieldLink RX1 15 RX1 "lineHeaders" "[I") := inT_of 86 (by decide +kernel) (by decide +kernel)
theorem flF_X1_20 : InT (.fieldLink RX1 20 RX1 "traps" "[LTrapSurvey$Trap;") := inT_of 88 (by decide +kernel) (by decide +kernel)
theorem flF_X1_24 : InT (.fieldLink RX1 24 RX1 "lineCount" "I") := inT_of 92 (by decide +kernel) (by decide +kernel)
theorem flF_X1_28 : InT (.fieldLink RX1 28 RX1 "trapCount" "I") := inT_of 94 (by decide +kernel) (by decide +kernel)
theorem flF_X1_31 : InT (.fieldLink RX1 31 RX1 "hours" "I") := inT_of 98 (by decide +kernel) (by decide +kernel)
theorem flF_X1_34 : InT (.fieldLink RX1 34 RX1 "price" "I") := inT_of 100 (by decide +kernel) (by decide +kernel)
theorem flF_X1_37 : InT (.fieldLink RX1 37 RX1 "interval" "I") := inT_of 102 (by decide +kernel) (by decide +kernel)
theorem flF_X1_40 : InT (.fieldLink RX1 40 RX1 "day" "I") := inT_of 104 (by decide +kernel) (by decide +kernel)
theorem flF_X1_43 : InT (.fieldLink RX1 43 RX1 "spent" "I") := inT_of 106 (by decide +kernel) (by decide +kernel)
theorem flF_X1_46 : InT (.fieldLink RX1 46 RX1 "repairs" "I") := inT_of 108 (by decide +kernel) (by decide +kernel)
theorem flF_X0_11 : InT (.fieldLink RX0 11 RX0 "states" "[LTrapSurvey$Plant;") := inT_of 142 (by decide +kernel) (by decide +kernel)
theorem flF_X0_17 : InT (.fieldLink RX0 17 RX0 "size" "I") := inT_of 143 (by decide +kernel) (by decide +kernel)
theorem flF_X3_9 : InT (.fieldLink RX3 9 RX3 "ranked" "[I") := inT_of 156 (by decide +kernel) (by decide +kernel)
theorem flF_X3_15 : InT (.fieldLink RX3 15 RX3 "losses" "[I") := inT_of 157 (by decide +kernel) (by decide +kernel)
theorem flF_X3_18 : InT (.fieldLink RX3 18 RX3 "paybacks" "[J") := inT_of 158 (by decide +kernel) (by decide +kernel)
theorem flF_X3_22 : InT (.fieldLink RX3 22 RX3 "size" "I") := inT_of 159 (by decide +kernel) (by decide +kernel)
theorem flF_X4_9 : InT (.fieldLink RX4 9 RX4 "stops" "[I") := inT_of 176 (by decide +kernel) (by decide +kernel)
theorem flF_X4_15 : InT (.fieldLink RX4 15 RX4 "waits" "[Z") := inT_of 177 (by decide +kernel) (by decide +kernel)
theorem flF_X4_19 : InT (.fieldLink RX4 19 RX4 "size" "I") := inT_of 178 (by decide +kernel) (by decide +kernel)
theorem flF_X4_23 : InT (.fieldLink RX4 23 RX4 "length" "I") := inT_of 179 (by decide +kernel) (by decide +kernel)
theorem flF_X2_9 : InT (.fieldLink RX2 9 RX2 "codes" "[I") := inT_of 199 (by decide +kernel) (by decide +kernel)
theorem flF_X2_17 : InT (.fieldLink RX2 17 RX2 "readings" "[[I") := inT_of 200 (by decide +kernel) (by decide +kernel)
theorem flF_X2_20 : InT (.fieldLink RX2 20 RX2 "length" "I") := inT_of 202 (by decide +kernel) (by decide +kernel)
theorem flF_X2_24 : InT (.fieldLink RX2 24 RX2 "readingCount" "I") := inT_of 203 (by decide +kernel) (by decide +kernel)
theorem flF_X2_27 : InT (.fieldLink RX2 27 RX2 "position" "I") := inT_of 205 (by decide +kernel) (by decide +kernel)
theorem flF_X6_10 : InT (.fieldLink RX6 10 RX6 "plant" "LTrapSurvey$Plant;") := inT_of 217 (by decide +kernel) (by decide +kernel)
theorem flF_X6_19 : InT (.fieldLink RX6 19 RX6 "history" "LTrapSurvey$History;") := inT_of 218 (by decide +kernel) (by decide +kernel)
theorem flF_X6_26 : InT (.fieldLink RX6 26 RX6 "repairOrder" "LTrapSurvey$RepairOrder;") := inT_of 219 (by decide +kernel) (by decide +kernel)
theorem flF_X6_33 : InT (.fieldLink RX6 33 RX6 "surveyRound" "LTrapSurvey$SurveyRound;") := inT_of 220 (by decide +kernel) (by decide +kernel)
theorem flF_X6_40 : InT (.fieldLink RX6 40 RX6 "text" "LTrapSurvey$ReadingText;") := inT_of 221 (by decide +kernel) (by decide +kernel)
theorem Zr.upX {I : kI} {L : kL} {X : kX} {r a j : Nat} {v : Option Nat} (h : Zr I L X r) (hr : r ≠ a) : Zr I L (up2 X a j v) r := fun x => ⟨(h x).1, (h x).2.1, by rw [up2_row hr]; exact (h x).2.2⟩
theorem Zr.upI {I : kI} {L : kL} {X : kX} {r a j : Nat} {v : Int32} (h : Zr I L X r) (hr : r ≠ a) : Zr (up2 I a j v) L X r := fun x => ⟨by rw [up2_row hr]; exact (h x).1, (h x).2⟩
theorem Zr.upL {I : kI} {L : kL} {X : kX} {r a j : Nat} {v : Int64} (h : Zr I L X r) (hr : r ≠ a) : Zr I (up2 L a j v) X r := fun x => ⟨(h x).1, by rw [up2_row hr]; exact (h x).2.1, (h x).2.2⟩

set_option maxHeartbeats 4000000 in
set_option maxRecDepth 100000 in
theorem c_X5_init (l : Launch) (G : kG) {I : kI} {L : kL} {X : kX} (n r : Nat) (hr : r < n) (hk : kd r = 5)  : Kv l yX5_init cX5_init 1 1 G [.ref (ad G r)] n n I L X (fun I' L' X' => I' = up2 (up2 I r 5 0) r 6 (-1) ∧ L' = up2 L r 7 0 ∧ X = X') := by
  refine Kv_intro (own := RX5) (lv0 := [some (.ref (ad G r))]) 0 (by decide +kernel) rfl rfl (Nat.le_of_ble_eq_true rfl) (Nat.le_refl _) (fun J hM hret => ?_)
  refine q_aload_n hM dX5_init_0 rfl ?_
  refine q_objInit hM lk_X5_3 w_oi_i w_oi_c (by decide) dX5_init_1 (Nat.le_of_ble_eq_true rfl) ?_
  refine q_aload_n hM dX5_init_4 rfl ?_
  refine q_iconst (v := 0) hM dX5_init_5 (by decide) ?_
  refine p_X5_9 hM hr hk dX5_init_6 ?_
  refine q_aload_n hM dX5_init_9 rfl ?_
  refine q_iconst (v := -1) hM dX5_init_10 (by decide) ?_
  refine p_X5_15 hM hr hk dX5_init_11 ?_
  refine q_aload_n hM dX5_init_14 rfl ?_
  refine q_lconst (v := 0) hM dX5_init_15 (by decide) ?_
  refine p_X5_18 hM hr hk dX5_init_16 ?_
  exact hret _ _ _ _ _ ⟨rfl, rfl, rfl⟩ dX5_init_19
set_option maxHeartbeats 4000000 in
set_option maxRecDepth 100000 in
theorem c_X3_init (l : Launch) (G : kG) {I : kI} {L : kL} {X : kX} (hz : ∀ r, 124 ≤ r → Zr I L X r)  : Kv l yX3_init cX3_init 1 1 G [.ref (ad G 123)] 124 127 I L X (fun I' L' X' => I' = up2 I 123 3 0 ∧ L = L' ∧ X' = up2 (up2 (up2 X 123 0 (some 124)) 123 1 (some 125)) 123 2 (some 126)) := by
  refine KvC_intro (own := RX3) (lv0 := [some (.ref (ad G 123))]) 0 rfl (by decide +kernel) rfl rfl (Nat.le_of_ble_eq_true rfl) (by decide) (fun J hM hret => ?_)
  have hMC := hM
  replace hM := hM.to
  refine q_aload_n hM dX3_init_0 rfl ?_
  refine q_objInit hM lk_X3_3 w_oi_i w_oi_c (by decide) dX3_init_1 (Nat.le_of_ble_eq_true rfl) ?_
  refine q_aload_n hM dX3_init_4 rfl ?_
  refine q_bipush (v := 16) hM dX3_init_5 (by decide) ?_
  refine q_newi hM (by decide) (hz 124 (by decide)) rfl (by omega) dX3_init_7 ?_
  refine q_putF hMC cf_X3 (j := 0) (by decide) flF_X3_9 (by omega) (by decide) rfl rfl rfl rfl rfl dX3_init_9 ?_
  refine q_aload_n hM dX3_init_12 rfl ?_
  refine q_bipush (v := 16) hM dX3_init_13 (by decide) ?_
  refine q_newi hM (by decide) ((hz 125 (by decide)).upX (by decide)) rfl (by omega) dX3_init_15 ?_
  refine q_putF hMC cf_X3 (j := 1) (by decide) flF_X3_15 (by omega) (by decide) rfl rfl rfl rfl rfl dX3_init_17 ?_
  refine q_aload_n hM dX3_init_20 rfl ?_
  refine q_bipush (v := 16) hM dX3_init_21 (by decide) ?_
  refine q_newl hM (by decide) (((hz 126 (by decide)).upX (by decide)).upX (by decide)) rfl (by omega) dX3_init_23 ?_
  refine q_putF hMC cf_X3 (j := 2) (by decide) flF_X3_18 (by omega) (by decide) rfl rfl rfl rfl rfl dX3_init_25 ?_
  refine q_aload_n hM dX3_init_28 rfl ?_
  refine q_iconst (v := 0) hM dX3_init_29 (by decide) ?_
  refine p_X3_22 hM (by decide) (by decide) dX3_init_30 ?_
  exact hret _ _ _ _ _ ⟨rfl, rfl, rfl⟩ dX3_init_33
set_option maxHeartbeats 4000000 in
set_option maxRecDepth 100000 in
theorem c_X4_init (l : Launch) (G : kG) {I : kI} {L : kL} {X : kX} (hz : ∀ r, 128 ≤ r → Zr I L X r)  : Kv l yX4_init cX4_init 1 1 G [.ref (ad G 127)] 128 130 I L X (fun I' L' X' => I' = up2 (up2 I 127 2 0) 127 3 0 ∧ L = L' ∧ X' = up2 (up2 X 127 0 (some 128)) 127 1 (some 129)) := by
  refine KvC_intro (own := RX4) (lv0 := [some (.ref (ad G 127))]) 0 rfl (by decide +kernel) rfl rfl (Nat.le_of_ble_eq_true rfl) (by decide) (fun J hM hret => ?_)
  have hMC := hM
  replace hM := hM.to
  refine q_aload_n hM dX4_init_0 rfl ?_
  refine q_objInit hM lk_X4_3 w_oi_i w_oi_c (by decide) dX4_init_1 (Nat.le_of_ble_eq_true rfl) ?_
  refine q_aload_n hM dX4_init_4 rfl ?_
  refine q_bipush (v := 16) hM dX4_init_5 (by decide) ?_
  refine q_newi hM (by decide) (hz 128 (by decide)) rfl (by omega) dX4_init_7 ?_
  refine q_putF hMC cf_X4 (j := 0) (by decide) flF_X4_9 (by omega) (by decide) rfl rfl rfl rfl rfl dX4_init_9 ?_
  refine q_aload_n hM dX4_init_12 rfl ?_
  refine q_bipush (v := 16) hM dX4_init_13 (by decide) ?_
  refine q_newz hM (by decide) ((hz 129 (by decide)).upX (by decide)) rfl (by omega) dX4_init_15 ?_
  refine q_putF hMC cf_X4 (j := 1) (by decide) flF_X4_15 (by omega) (by decide) rfl rfl rfl rfl rfl dX4_init_17 ?_
  refine q_aload_n hM dX4_init_20 rfl ?_
  refine q_iconst (v := 0) hM dX4_init_21 (by decide) ?_
  refine p_X4_19 hM (by decide) (by decide) dX4_init_22 ?_
  refine q_aload_n hM dX4_init_25 rfl ?_
  refine q_iconst (v := 0) hM dX4_init_26 (by decide) ?_
  refine p_X4_23 hM (by decide) (by decide) dX4_init_27 ?_
  exact hret _ _ _ _ _ ⟨rfl, rfl, rfl⟩ dX4_init_30
set_option maxHeartbeats 4000000 in
set_option maxRecDepth 100000 in
theorem c_J7_fill_53178 (l : Launch) (G : kG) {I : kI} {L : kL} {X : kX} (n r : Nat) (hr : r < n) (hk : kd r = 8) (v : Int32)  : Kv l yJ7_fill_53178 cJ7_fill_53178 4 0 G [.ref (ad G r), .int v] n n I L X (fun I' L' X' => (∀ j, j < kl r → I' r j = v) ∧ (∀ q, q ≠ r → I' q = I q) ∧ L = L' ∧ X = X') := by
  refine Kv_intro (own := RJ7) (lv0 := [some (.ref (ad G r)), some (.int v), none, none]) 2 (by decide +kernel) rfl rfl (Nat.le_of_ble_eq_true rfl) (Nat.le_refl _) (fun J hM hret => ?_)
  have hkl := kl_le r
  refine q_iconst (v := 0) hM dJ7_fill_53178_0 (by decide) ?_
  refine si_4_2 hM dJ7_fill_53178_1 ?_
  refine q_aload_n hM dJ7_fill_53178_2 rfl ?_
  refine q_aleni hM hr hk dJ7_fill_53178_3 ?_
  refine si_4_3 hM dJ7_fill_53178_4 ?_
  have loop : ∀ (k i : Nat) (I1 : kI), i ≤ kl r → kl r < i + k → (∀ j, j < i → I1 r j = v) → (∀ q, q ≠ r → I1 q = I q) → J n I1 L X 5 [some (.ref (ad G r)), some (.int v), some (.int (nI i)), some (.int (nI (kl r)))] [] := by
    intro k
    induction k with
    | zero => intros; omega
    | succ k ih =>
      intro i I1 h1 h2 h3 h4
      refine q_iload_n hM dJ7_fill_53178_5 rfl ?_
      refine q_iload_n hM dJ7_fill_53178_6 rfl ?_
      refine q_icmp_geN (tgt := 20) hM i (kl r) rfl rfl (by omega) (by omega) dJ7_fill_53178_7 (by decide) (fun c7 => ?_) (fun c7 => ?_)
      · obtain rfl : i = kl r := by omega
        exact hret _ _ _ _ _ ⟨h3, h4, rfl, rfl⟩ dJ7_fill_53178_20
      · refine q_aload_n hM dJ7_fill_53178_10 rfl ?_
        refine q_iload_n hM dJ7_fill_53178_11 rfl ?_
        refine q_iload_n hM dJ7_fill_53178_12 rfl ?_
        refine q_iast (r := r) hM hr hk i rfl (by omega) dJ7_fill_53178_13 ?_
        refine sinc_4_2 hM dJ7_fill_53178_14 (inc1 i) ?_
        refine q_goto (tgt := 5) hM dJ7_fill_53178_17 (by decide) ?_
        refine ih (i + 1) _ (by omega) (by omega) (fun j hj => ?_) (fun q hq => (up2_row hq).trans (h4 q hq))
        by_cases hji : j = i
        · subst hji; exact up2_self _ _ _ _
        · rw [up2_ne (Or.inr hji)]; exact h3 j (by omega)
  exact loop (kl r + 1) 0 I (Nat.zero_le _) (by omega) (fun j hj => absurd hj (Nat.not_lt_zero j)) (fun _ _ => rfl)
