/-! ===== the law's own walk: its end, the readings, the days that are undone ===== -/
theorem told_rng {x : Int32} (h : inR 1 x 5) : ¬ x < 1 ∧ ¬ 5 < x := by
  obtain ⟨h1, h2⟩ := h
  rw [lt_i, lt_i, show (1 : Int32).toInt = 1 from rfl, show (5 : Int32).toInt = 5 from rfl]
  omega
set_option maxHeartbeats 4000000 in
set_option maxRecDepth 100000 in
theorem law_fin {b N : Nat} {xs : Nat → Int32} {l : Launch} {G : kG} {J : kJ} (hW : MachW b N xs l G J) (hN : N ≤ 260) {I : kI} {L : kL} {X : kX} {A : kA} (hI : LI I L X A) (hL1 : 1 ≤ cI (aF A 0)) (hT1 : 1 ≤ cI (aF A 1)) (z d3 h4 : Int32) (v5 v6 v7 v8 v9 v10 : Option Value) : J 153 I L X 678 [some (.ref b), some (.ref (ad G 0)), some (.int z), some (.int d3), some (.int h4), v5, v6, v7, v8, v9, v10] [] := by
  have hS := hW.toS
  have hM := hS.to
  obtain ⟨hC, hA, hQ⟩ := hI
  have hf := all_facts hA hQ
  have hA2 := inv_all hA 10000
  have hL2 : 1 ≤ cI (aF (sAll A 10000) 0) := by rw [hf.2.2.2.1]; exact hL1
  have hT2 : 1 ≤ cI (aF (sAll A 10000) 1) := by rw [hf.2.2.2.2]; exact hT1
  refine q_aload_n hM dL_law_678 rfl ?_
  refine q_sipush (v := 10000) hM dL_law_679 (by decide) ?_
  refine callV_i hM mi_X6_repairAll lk_L_98 cf_X6 (by decide) (by decide) (c_X6_repairAll l G hC hA 10000) rfl rfl (by decide) (Nat.le_refl _) (by omega) (Nat.le_of_ble_eq_true rfl) dL_law_682 (fun v9 I9 L9 X9 hp9 => ?_)
  obtain ⟨hv9, hC9, -⟩ := hp9
  subst hv9
  refine q_if_lt_f (tgt := 724) hM dL_law_685 hf.1 (by decide) ?_
  refine q_aload_n hM dL_law_688 rfl ?_
  refine q_iconst (v := 0) hM dL_law_689 (by decide) ?_
  refine callV_i hM mi_X6_order lk_L_40 cf_X6 (by decide) (by decide) (c_X6_order l G hC9 hA2 0) rfl rfl (by decide) (Nat.le_refl _) (by omega) (Nat.le_of_ble_eq_true rfl) dL_law_690 (fun v9 I9 L9 X9 hp9 => ?_)
  obtain ⟨hv9, hC8, -⟩ := hp9
  subst hv9
  refine q_iconst (v := -1) hM dL_law_693 (by decide) ?_
  refine q_icmp_ne_f (tgt := 724) hM dL_law_694 hf.2.1 (by decide) ?_
  refine q_aload_n hM dL_law_697 rfl ?_
  refine q_iconst (v := 0) hM dL_law_698 (by decide) ?_
  refine callVe_i hM mi_X6_headerLoss lk_L_34 cf_X6 (by decide) (by decide) (c_X6_headerLoss l G hC8 hA2 0) rfl rfl (by decide) (Nat.le_refl _) (by omega) (Nat.le_of_ble_eq_true rfl) dL_law_699 ?_
  refine q_aload_n hM dL_law_702 rfl ?_
  refine q_iconst (v := 1) hM dL_law_703 (by decide) ?_
  refine callVe_i hM mi_X6_headerLoss lk_L_34 cf_X6 (by decide) (by decide) (c_X6_headerLoss l G hC8 hA2 1) rfl rfl (by decide) (Nat.le_refl _) (by omega) (Nat.le_of_ble_eq_true rfl) dL_law_704 ?_
  refine q_iadd hM dL_law_707 ?_
  refine q_aload_n hM dL_law_708 rfl ?_
  refine q_iconst (v := 2) hM dL_law_709 (by decide) ?_
  refine callVe_i hM mi_X6_headerLoss lk_L_34 cf_X6 (by decide) (by decide) (c_X6_headerLoss l G hC8 hA2 2) rfl rfl (by decide) (Nat.le_refl _) (by omega) (Nat.le_of_ble_eq_true rfl) dL_law_710 ?_
  refine q_iadd hM dL_law_713 ?_
  refine q_if_ne_f (tgt := 724) hM dL_law_714 hf.2.2.1 (by decide) ?_
  refine q_aload_n hM dL_law_717 rfl ?_
  refine callS_z hM mi_L_isRoundSound lk_L_134 (c_L_isRoundSound l G hC8 hA2) rfl rfl (by decide) (Nat.le_refl _) (by omega) (Nat.le_of_ble_eq_true rfl) dL_law_718 (fun z9 I9 L9 X9 hp9 => ?_)
  obtain ⟨rfl, hC7⟩ := hp9
  refine q_if_ne_t (tgt := 726) hM dL_law_721 (by decide) (by decide) ?_
  refine q_aload_n hM dL_law_726 rfl ?_
  refine callVe_l hM mi_X6_digest lk_L_119 cf_X6 (by decide) (by decide) (c_X6_digest l G hC7 hA2) rfl rfl (by decide) (Nat.le_refl _) (by omega) (Nat.le_of_ble_eq_true rfl) dL_law_727 ?_
  refine sl_11_5 hM dL_law_730 ?_
  refine q_aload_n hM dL_law_732 rfl ?_
  refine q_iconst (v := 3) hM dL_law_733 (by decide) ?_
  refine q_iconst (v := 1) hM dL_law_734 (by decide) ?_
  refine callV_i hM mi_X6_setPressure lk_L_78 cf_X6 (by decide) (by decide) (c_X6_setPressure l G hC7 hA2 3 1) rfl rfl (by decide) (Nat.le_refl _) (by omega) (Nat.le_of_ble_eq_true rfl) dL_law_735 (fun v9 I9 L9 X9 hp9 => ?_)
  obtain ⟨hv9, hC7, -⟩ := hp9
  rw [fn_press1.1] at hv9
  rw [fn_press1.2] at hC7
  subst hv9
  refine q_bipush (v := -2) hM dL_law_738 (by decide) ?_
  refine q_icmp_ne_f (tgt := 902) hM dL_law_740 rfl (by decide) ?_
  refine q_aload_n hM dL_law_743 rfl ?_
  refine q_iconst (v := 0) hM dL_law_744 (by decide) ?_
  refine q_bipush (v := 21) hM dL_law_745 (by decide) ?_
  refine callV_i hM mi_X6_setPressure lk_L_78 cf_X6 (by decide) (by decide) (c_X6_setPressure l G hC7 hA2 0 21) rfl rfl (by decide) (Nat.le_refl _) (by omega) (Nat.le_of_ble_eq_true rfl) dL_law_747 (fun v9 I9 L9 X9 hp9 => ?_)
  obtain ⟨hv9, hC7, -⟩ := hp9
  rw [fn_press2.1] at hv9
  rw [fn_press2.2] at hC7
  subst hv9
  refine q_bipush (v := -3) hM dL_law_750 (by decide) ?_
  refine q_icmp_ne_f (tgt := 902) hM dL_law_752 rfl (by decide) ?_
  refine q_aload_n hM dL_law_755 rfl ?_
  refine q_iconst (v := 3) hM dL_law_756 (by decide) ?_
  refine callV_i hM mi_X6_addLine lk_L_81 cf_X6 (by decide) (by decide) (c_X6_addLine l G hC7 hA2 3) rfl rfl (by decide) (Nat.le_refl _) (by omega) (Nat.le_of_ble_eq_true rfl) dL_law_757 (fun v9 I9 L9 X9 hp9 => ?_)
  obtain ⟨hv9, hC7, -⟩ := hp9
  rw [fn_line.1] at hv9
  rw [fn_line.2] at hC7
  subst hv9
  refine q_bipush (v := -2) hM dL_law_760 (by decide) ?_
  refine q_icmp_ne_f (tgt := 902) hM dL_law_762 rfl (by decide) ?_
  refine q_aload_n hM dL_law_765 rfl ?_
  refine q_iconst (v := 0) hM dL_law_766 (by decide) ?_
  refine q_iconst (v := 3) hM dL_law_767 (by decide) ?_
  refine q_iconst (v := 1) hM dL_law_768 (by decide) ?_
  refine q_iconst (v := 0) hM dL_law_769 (by decide) ?_
  refine q_iconst (v := 0) hM dL_law_770 (by decide) ?_
  refine callV_i hM mi_X6_addTrap lk_L_84 cf_X6 (by decide) (by decide) (c_X6_addTrap l G hC7 hA2 0 3 1 0 0) rfl rfl (by decide) (Nat.le_refl _) (by omega) (Nat.le_of_ble_eq_true rfl) dL_law_771 (fun v9 I9 L9 X9 hp9 => ?_)
  obtain ⟨hv9, hC7, -⟩ := hp9
  rw [(fn_trap hA2 hL2).1] at hv9
  rw [(fn_trap hA2 hL2).2] at hC7
  subst hv9
  refine q_bipush (v := -3) hM dL_law_774 (by decide) ?_
  refine q_icmp_ne_f (tgt := 902) hM dL_law_776 rfl (by decide) ?_
  refine q_aload_n hM dL_law_779 rfl ?_
  refine q_bipush (v := 25) hM dL_law_780 (by decide) ?_
  refine q_iconst (v := 1) hM dL_law_782 (by decide) ?_
  refine q_iconst (v := 1) hM dL_law_783 (by decide) ?_
  refine callV_i hM mi_X6_setWork lk_L_91 cf_X6 (by decide) (by decide) (c_X6_setWork l G hC7 hA2 25 1 1) rfl rfl (by decide) (Nat.le_refl _) (by omega) (Nat.le_of_ble_eq_true rfl) dL_law_784 (fun v9 I9 L9 X9 hp9 => ?_)
  obtain ⟨hv9, hC7, -⟩ := hp9
  rw [fn_work.1] at hv9
  rw [fn_work.2] at hC7
  subst hv9
  refine q_bipush (v := -3) hM dL_law_787 (by decide) ?_
  refine q_icmp_ne_f (tgt := 902) hM dL_law_789 rfl (by decide) ?_
  refine q_aload_n hM dL_law_792 rfl ?_
  refine q_iconst (v := 0) hM dL_law_793 (by decide) ?_
  refine q_sipush (v := 301) hM dL_law_794 (by decide) ?_
  refine q_iconst (v := 0) hM dL_law_797 (by decide) ?_
  refine q_iconst (v := 0) hM dL_law_798 (by decide) ?_
  refine callV_i hM mi_X6_read lk_L_104 cf_X6 (by decide) (by decide) (c_X6_read l G hC7 hA2 0 301 0 0) rfl rfl (by decide) (Nat.le_refl _) (by omega) (Nat.le_of_ble_eq_true rfl) dL_law_799 (fun v9 I9 L9 X9 hp9 => ?_)
  obtain ⟨hv9, hC7, -⟩ := hp9
  rw [(fn_read hA2 hT2).1] at hv9
  rw [(fn_read hA2 hT2).2] at hC7
  subst hv9
  refine q_bipush (v := -3) hM dL_law_802 (by decide) ?_
  refine q_icmp_ne_f (tgt := 902) hM dL_law_804 rfl (by decide) ?_
  refine q_aload_n hM dL_law_807 rfl ?_
  refine q_bipush (v := 101) hM dL_law_808 (by decide) ?_
  refine callV_i hM mi_X6_pass lk_L_101 cf_X6 (by decide) (by decide) (c_X6_pass l G hC7 hA2 101) rfl rfl (by decide) (Nat.le_refl _) (by omega) (Nat.le_of_ble_eq_true rfl) dL_law_810 (fun v9 I9 L9 X9 hp9 => ?_)
  obtain ⟨hv9, hC7, -⟩ := hp9
  rw [fn_pass.1] at hv9
  rw [fn_pass.2] at hC7
  subst hv9
  refine q_bipush (v := -3) hM dL_law_813 (by decide) ?_
  refine q_icmp_ne_f (tgt := 902) hM dL_law_815 rfl (by decide) ?_
  refine q_aload_n hM dL_law_818 rfl ?_
  refine q_sipush (v := 10001) hM dL_law_819 (by decide) ?_
  refine callV_i hM mi_X6_repairAll lk_L_98 cf_X6 (by decide) (by decide) (c_X6_repairAll l G hC7 hA2 10001) rfl rfl (by decide) (Nat.le_refl _) (by omega) (Nat.le_of_ble_eq_true rfl) dL_law_822 (fun v9 I9 L9 X9 hp9 => ?_)
  obtain ⟨hv9, hC7, -⟩ := hp9
  rw [fn_all.1] at hv9
  rw [fn_all.2] at hC7
  subst hv9
  refine q_bipush (v := -3) hM dL_law_825 (by decide) ?_
  refine q_icmp_ne_f (tgt := 902) hM dL_law_827 rfl (by decide) ?_
  refine q_aload_n hM dL_law_830 rfl ?_
  refine q_iconst (v := -1) hM dL_law_831 (by decide) ?_
  refine callV_i hM mi_X6_round lk_L_56 cf_X6 (by decide) (by decide) (c_X6_round l G hC7 hA2 (-1)) rfl rfl (by decide) (Nat.le_refl _) (by omega) (Nat.le_of_ble_eq_true rfl) dL_law_832 (fun v9 I9 L9 X9 hp9 => ?_)
  obtain ⟨hv9, hC7, -⟩ := hp9
  rw [fn_round] at hv9
  subst hv9
  refine q_bipush (v := -3) hM dL_law_835 (by decide) ?_
  refine q_icmp_ne_f (tgt := 902) hM dL_law_837 rfl (by decide) ?_
  refine q_aload_n hM dL_law_840 rfl ?_
  refine q_iconst (v := 0) hM dL_law_841 (by decide) ?_
  refine q_bipush (v := 8) hM dL_law_842 (by decide) ?_
  refine callVe_i hM mi_X6_trap lk_L_14 cf_X6 (by decide) (by decide) (c_X6_trap l G hC7 hA2 0 8) rfl rfl (by decide) (Nat.le_refl _) (by omega) (Nat.le_of_ble_eq_true rfl) dL_law_844 ?_
  refine q_bipush (v := -3) hM dL_law_847 (by decide) ?_
  refine q_icmp_ne_f (tgt := 902) hM dL_law_849 (fn_trap8 hA2 hT2) (by decide) ?_
  refine q_aload_n hM dL_law_852 rfl ?_
  refine q_bipush (v := 16) hM dL_law_853 (by decide) ?_
  refine callVe_l hM mi_X6_lost lk_L_27 cf_X6 (by decide) (by decide) (c_X6_lost l G hC7 hA2 16) rfl rfl (by decide) (Nat.le_refl _) (by omega) (Nat.le_of_ble_eq_true rfl) dL_law_855 ?_
  refine q_ldc2 hM cw_L_140 dL_law_858 ?_
  refine q_lcmp hM dL_law_861 ?_
  refine q_if_ne_f (tgt := 902) hM dL_law_862 (lgc_eq.mpr (fn_lost hA2)) (by decide) ?_
  refine q_aload_n hM dL_law_865 rfl ?_
  refine q_iconst (v := -1) hM dL_law_866 (by decide) ?_
  refine callVe_l hM mi_X6_payback lk_L_43 cf_X6 (by decide) (by decide) (c_X6_payback l G hC7 hA2 (-1)) rfl rfl (by decide) (Nat.le_refl _) (by omega) (Nat.le_of_ble_eq_true rfl) dL_law_867 ?_
  refine q_ldc2 hM cw_L_140 dL_law_870 ?_
  refine q_lcmp hM dL_law_873 ?_
  refine q_if_ne_f (tgt := 902) hM dL_law_874 (lgc_eq.mpr fn_pay) (by decide) ?_
  refine q_aload_n hM dL_law_877 rfl ?_
  refine q_bipush (v := 6) hM dL_law_878 (by decide) ?_
  refine callVe_i hM mi_X6_inState lk_L_37 cf_X6 (by decide) (by decide) (c_X6_inState l G hC7 hA2 6) rfl rfl (by decide) (Nat.le_refl _) (by omega) (Nat.le_of_ble_eq_true rfl) dL_law_880 ?_
  refine q_bipush (v := -3) hM dL_law_883 (by decide) ?_
  refine q_icmp_ne_f (tgt := 902) hM dL_law_885 fn_state (by decide) ?_
  refine q_aload_n hM dL_law_888 rfl ?_
  refine callVe_l hM mi_X6_digest lk_L_119 cf_X6 (by decide) (by decide) (c_X6_digest l G hC7 hA2) rfl rfl (by decide) (Nat.le_refl _) (by omega) (Nat.le_of_ble_eq_true rfl) dL_law_889 ?_
  refine q_lload hM dL_law_892 rfl ?_
  refine q_lcmp hM dL_law_894 ?_
  refine q_if_ne_f (tgt := 902) hM dL_law_895 (lgc_eq.mpr rfl) (by decide) ?_
  refine q_iconst (v := 1) hM dL_law_898 (by decide) ?_
  refine q_goto (tgt := 903) hM dL_law_899 (by decide) ?_
  exact q_send hW dL_law_903
set_option maxHeartbeats 4000000 in
set_option maxRecDepth 100000 in
theorem law_E {b N : Nat} {xs : Nat → Int32} {l : Launch} {G : kG} {J : kJ} (hW : MachW b N xs l G J) (hN : N ≤ 260) (z d3 h4 : Int32) : ∀ (m t : Nat) (I : kI) (L : kL) (X : kX) (A : kA) (v6 v7 v8 v9 v10 : Option Value), LI I L X A → 1 ≤ cI (aF A 0) → 1 ≤ cI (aF A 1) → t ≤ cI (aF A 1) → cI (aF A 1) < t + m → J 153 I L X 541 [some (.ref b), some (.ref (ad G 0)), some (.int z), some (.int d3), some (.int h4), some (.int (nI t)), v6, v7, v8, v9, v10] [] := by
  have hS := hW.toS
  have hM := hS.to
  intro m
  induction m with
  | zero => intros; omega
  | succ m ih =>
    intro t I L X A v6 v7 v8 v9 v10 hI hL1 hT1 h1 h2
    obtain ⟨hC, hA, hQ⟩ := hI
    have hP := hA.f
    have hn := hP.nT
    refine q_iload hM dL_law_541 rfl ?_
    refine q_aload_n hM dL_law_543 rfl ?_
    refine q_iconst (v := 1) hM dL_law_544 (by decide) ?_
    refine callVe_i hM mi_X6_count lk_L_8 cf_X6 (by decide) (by decide) (u_count1 l G hC hA) rfl rfl (by decide) (Nat.le_refl _) (by omega) (Nat.le_of_ble_eq_true rfl) dL_law_545 ?_
    refine q_icmp_geN (tgt := 678) hM t (cI (aF A 1)) rfl hP.e1 (by omega) (by omega) dL_law_548 (by decide) (fun c548 => ?_) (fun c548 => ?_)
    · exact law_fin hW hN ⟨hC, hA, hQ⟩ hL1 hT1 _ _ _ _ _ _ _ _ _
    · refine q_aload_n hM dL_law_551 rfl ?_
      refine q_bipush (v := 27) hM dL_law_552 (by decide) ?_
      refine q_iload hM dL_law_554 rfl ?_
      refine q_iconst (v := 5) hM dL_law_556 (by decide) ?_
      refine q_irem hM dL_law_557 (by decide) ?_
      refine q_topi _ (pk_rem (a := t) (d := 5) (by omega) (by decide) (by decide)) ?_
      refine q_iadd hM dL_law_558 ?_
      refine q_topi _ (nI_add 27 (t % 5)) ?_
      refine q_cell hS mi_L_cell lk_L_109 (c_L_cell l hN G (k := 27 + t % 5) (by omega)) rfl rfl (by decide) (by omega) (Nat.le_of_ble_eq_true rfl) dL_law_559 ?_
      generalize cellV N xs (27 + t % 5) = y
      refine si_11_6 hM dL_law_562 ?_
      refine q_iload hM dL_law_564 rfl ?_
      refine q_sipush (v := 301) hM dL_law_566 (by decide) ?_
      refine callSe_i hM mi_L_low lk_L_75 (c_L_low l G _ 301 (by decide) (by decide)) rfl rfl (by decide) (Nat.le_refl _) (by omega) (Nat.le_of_ble_eq_true rfl) dL_law_569 ?_
      refine si_11_7 hM dL_law_572 ?_
      refine q_iload hM dL_law_574 rfl ?_
      refine q_bipush (v := 6) hM dL_law_576 (by decide) ?_
      refine q_ishr hM dL_law_578 ?_
      refine q_sipush (v := 301) hM dL_law_579 (by decide) ?_
      refine callSe_i hM mi_L_low lk_L_75 (c_L_low l G _ 301 (by decide) (by decide)) rfl rfl (by decide) (Nat.le_refl _) (by omega) (Nat.le_of_ble_eq_true rfl) dL_law_582 ?_
      refine si_11_8 hM dL_law_585 ?_
      refine q_iload hM dL_law_587 rfl ?_
      refine q_bipush (v := 12) hM dL_law_589 (by decide) ?_
      refine q_ishr hM dL_law_591 ?_
      refine q_bipush (v := 61) hM dL_law_592 (by decide) ?_
      refine callSe_i hM mi_L_low lk_L_75 (c_L_low l G _ 61 (by decide) (by decide)) rfl rfl (by decide) (Nat.le_refl _) (by omega) (Nat.le_of_ble_eq_true rfl) dL_law_594 ?_
      refine si_11_9 hM dL_law_597 ?_
      refine q_aload_n hM dL_law_599 rfl ?_
      refine q_iload hM dL_law_600 rfl ?_
      refine q_iload hM dL_law_602 rfl ?_
      refine q_iload hM dL_law_604 rfl ?_
      refine q_iload hM dL_law_606 rfl ?_
      refine callVe_i hM mi_X6_judge lk_L_137 cf_X6 (by decide) (by decide) (c_X6_judge l G hC hA (nI t) (nI (lowN y 301)) (nI (lowN (y >>> (6 &&& 31)) 301)) (nI (lowN (y >>> (12 &&& 31)) 61))) rfl rfl (by decide) (Nat.le_refl _) (by omega) (Nat.le_of_ble_eq_true rfl) dL_law_608 ?_
      refine si_11_10 hM dL_law_611 ?_
      have hr := read_facts hA c548 (lowN_lt y (d := 301) (by decide)) (lowN_lt (y >>> (6 &&& 31)) (d := 301) (by decide)) (lowN_lt (y >>> (12 &&& 31)) (d := 61) (by decide))
      refine q_iload hM dL_law_613 rfl ?_
      refine q_iconst (v := 1) hM dL_law_615 (by decide) ?_
      refine q_icmp_lt_f (tgt := 670) hM dL_law_616 (told_rng hr.1).1 (by decide) ?_
      refine q_iload hM dL_law_619 rfl ?_
      refine q_iconst (v := 5) hM dL_law_621 (by decide) ?_
      refine q_icmp_gt_f (tgt := 670) hM dL_law_622 (told_rng hr.1).2 (by decide) ?_
      refine q_aload_n hM dL_law_625 rfl ?_
      refine q_iload hM dL_law_626 rfl ?_
      refine q_iload hM dL_law_628 rfl ?_
      refine q_iload hM dL_law_630 rfl ?_
      refine q_iload hM dL_law_632 rfl ?_
      refine callV_i hM mi_X6_read lk_L_104 cf_X6 (by decide) (by decide) (c_X6_read l G hC hA (nI t) (nI (lowN y 301)) (nI (lowN (y >>> (6 &&& 31)) 301)) (nI (lowN (y >>> (12 &&& 31)) 61))) rfl rfl (by decide) (Nat.le_refl _) (by omega) (Nat.le_of_ble_eq_true rfl) dL_law_634 (fun v9 I9 L9 X9 hp9 => ?_)
      obtain ⟨hv9, hC9, -⟩ := hp9
      subst hv9
      have hA9 := inv_read hA (nI t) (nI (lowN y 301)) (nI (lowN (y >>> (6 &&& 31)) 301)) (nI (lowN (y >>> (12 &&& 31)) 61))
      have hS9 := sp_Q (sp_read hA hQ (nI t) (nI (lowN y 301)) (nI (lowN (y >>> (6 &&& 31)) 301)) (nI (lowN (y >>> (12 &&& 31)) 61))) hQ
      have ht9 : t < cI (aF (sRead A (nI t) (nI (lowN y 301)) (nI (lowN (y >>> (6 &&& 31)) 301)) (nI (lowN (y >>> (12 &&& 31)) 61))) 1) := by rw [hr.2.2.1]; exact c548
      refine q_iload hM dL_law_637 rfl ?_
      refine q_icmp_ne_f (tgt := 670) hM dL_law_639 rfl (by decide) ?_
      refine q_aload_n hM dL_law_642 rfl ?_
      refine q_iload hM dL_law_643 rfl ?_
      refine q_iconst (v := 5) hM dL_law_645 (by decide) ?_
      refine callVe_i hM mi_X6_trap lk_L_14 cf_X6 (by decide) (by decide) (u_trap5 l G hC9 hA9 ht9) rfl rfl (by decide) (Nat.le_refl _) (by omega) (Nat.le_of_ble_eq_true rfl) dL_law_646 ?_
      refine q_iload hM dL_law_649 rfl ?_
      refine q_icmp_ne_f (tgt := 670) hM dL_law_651 hr.2.2.2.1 (by decide) ?_
      refine q_aload_n hM dL_law_654 rfl ?_
      refine q_iload hM dL_law_655 rfl ?_
      refine q_bipush (v := 6) hM dL_law_657 (by decide) ?_
      refine callVe_i hM mi_X6_trap lk_L_14 cf_X6 (by decide) (by decide) (u_trap6 l G hC9 hA9 ht9) rfl rfl (by decide) (Nat.le_refl _) (by omega) (Nat.le_of_ble_eq_true rfl) dL_law_659 ?_
      refine q_aload_n hM dL_law_662 rfl ?_
      refine q_iconst (v := 5) hM dL_law_663 (by decide) ?_
      refine callVe_i hM mi_X6_count lk_L_8 cf_X6 (by decide) (by decide) (u_count5 l G hC9 hA9) rfl rfl (by decide) (Nat.le_refl _) (by omega) (Nat.le_of_ble_eq_true rfl) dL_law_664 ?_
      refine q_icmp_eq_t (tgt := 672) hM dL_law_667 hr.2.2.2.2 (by decide) ?_
      refine sinc_11_5 hM dL_law_672 (inc1 t) ?_
      refine q_goto (tgt := 541) hM dL_law_675 (by decide) ?_
      exact ih (t + 1) _ _ _ _ _ _ _ _ _ ⟨hC9, hA9, hS9.1⟩ (by rw [hr.2.1]; exact hL1) (by rw [hr.2.2.1]; exact hT1) (by rw [hr.2.2.1]; omega) (by rw [hr.2.2.1]; omega)
set_option maxHeartbeats 4000000 in
set_option maxRecDepth 100000 in
theorem law_D {b N : Nat} {xs : Nat → Int32} {l : Launch} {G : kG} {J : kJ} (hW : MachW b N xs l G J) (hN : N ≤ 260) (z : Int32) {d : Nat} (hd1 : 1 ≤ d) (hd2 : d ≤ 100) {f : Fr} {g : Gr} (h5 : (f 5).toInt ≤ 9000) (hL1 : 1 ≤ cI (f 0)) (hT1 : 1 ≤ cI (f 1)) : ∀ (m t : Nat) (I : kI) (L : kL) (X : kX) (A : kA) (v6 v7 v8 v9 v10 : Option Value), LI I L X A → aF A = f → aG A = g → t ≤ cI (f 1) → cI (f 1) < t + m → J 153 I L X 457 [some (.ref b), some (.ref (ad G 0)), some (.int z), some (.int (nI d)), some (.int (f 2)), some (.int (nI t)), v6, v7, v8, v9, v10] [] := by
  have hS := hW.toS
  have hM := hS.to
  intro m
  induction m with
  | zero => intros; omega
  | succ m ih =>
    intro t I L X A v6 v7 v8 v9 v10 hI hf hg h1 h2
    subst hf hg
    obtain ⟨hC, hA, hQ⟩ := hI
    have hP := hA.f
    have hn := hP.nT
    have hq := pass_facts hA hd1 hd2 h5
    refine q_iload hM dL_law_457 rfl ?_
    refine q_aload_n hM dL_law_459 rfl ?_
    refine q_iconst (v := 1) hM dL_law_460 (by decide) ?_
    refine callVe_i hM mi_X6_count lk_L_8 cf_X6 (by decide) (by decide) (u_count1 l G hC hA) rfl rfl (by decide) (Nat.le_refl _) (by omega) (Nat.le_of_ble_eq_true rfl) dL_law_461 ?_
    refine q_icmp_geN (tgt := 538) hM t (cI (aF A 1)) rfl hP.e1 (by omega) (by omega) dL_law_464 (by decide) (fun c464 => ?_) (fun c464 => ?_)
    · refine q_iconst (v := 0) hM dL_law_538 (by decide) ?_
      refine si_11_5 hM dL_law_539 ?_
      exact law_E hW hN _ _ _ (cI (aF A 1) + 1) 0 _ _ _ _ _ _ _ _ _ ⟨hC, hA, hQ⟩ hL1 hT1 (Nat.zero_le _) (by omega)
    · refine q_aload_n hM dL_law_467 rfl ?_
      refine q_iload hM dL_law_468 rfl ?_
      refine callVe_l hM mi_X6_lost lk_L_27 cf_X6 (by decide) (by decide) (u_lost l G hC hA c464) rfl rfl (by decide) (Nat.le_refl _) (by omega) (Nat.le_of_ble_eq_true rfl) dL_law_470 ?_
      refine sl_11_6 hM dL_law_473 ?_
      refine q_aload_n hM dL_law_475 rfl ?_
      refine q_iload_n hM dL_law_476 rfl ?_
      refine callV_i hM mi_X6_pass lk_L_101 cf_X6 (by decide) (by decide) (c_X6_pass l G hC hA (nI d)) rfl rfl (by decide) (Nat.le_refl _) (by omega) (Nat.le_of_ble_eq_true rfl) dL_law_477 (fun v9 I9 L9 X9 hp9 => ?_)
      obtain ⟨hv9, hC9, -⟩ := hp9
      subst hv9
      have hA9 := inv_pass hA (nI d)
      have ht9 : t < cI (aF (sPass A (nI d)) 1) := by rw [hq.2.2, aF_set, va_up_ne _ _ (by decide)]; exact c464
      refine q_iload_n hM dL_law_480 rfl ?_
      refine q_icmp_lt_f (tgt := 530) hM dL_law_481 (by rw [hq.1]; exact hq.2.1) (by decide) ?_
      refine q_aload_n hM dL_law_484 rfl ?_
      refine q_iload hM dL_law_485 rfl ?_
      refine callVe_l hM mi_X6_lost lk_L_27 cf_X6 (by decide) (by decide) (u_lost l G hC9 hA9 ht9) rfl rfl (by decide) (Nat.le_refl _) (by omega) (Nat.le_of_ble_eq_true rfl) dL_law_487 ?_
      refine q_lload hM dL_law_490 rfl ?_
      refine q_aload_n hM dL_law_492 rfl ?_
      refine q_iload hM dL_law_493 rfl ?_
      refine callVe_i hM mi_X6_loss lk_L_18 cf_X6 (by decide) (by decide) (u_loss l G hC9 hA9 ht9) rfl rfl (by decide) (Nat.le_refl _) (by omega) (Nat.le_of_ble_eq_true rfl) dL_law_495 ?_
      refine q_i2l hM dL_law_498 ?_
      refine q_iload hM dL_law_499 rfl ?_
      refine q_i2l hM dL_law_501 ?_
      refine q_lmul hM dL_law_502 ?_
      refine q_iload_n hM dL_law_503 rfl ?_
      refine q_i2l hM dL_law_504 ?_
      refine q_lmul hM dL_law_505 ?_
      refine q_ladd hM dL_law_506 ?_
      refine q_lcmp hM dL_law_507 ?_
      refine q_if_ne_f (tgt := 530) hM dL_law_508 (lgc_eq.mpr (by rw [hq.2.2, aG_set, aF_set]; exact passD c464)) (by decide) ?_
      refine q_aload_n hM dL_law_511 rfl ?_
      refine callV_i hM mi_X6_undo lk_L_113 cf_X6 (by decide) (by decide) (c_X6_undo l G hC9 hA9) rfl rfl (by decide) (Nat.le_refl _) (by omega) (Nat.le_of_ble_eq_true rfl) dL_law_512 (fun v9 I9 L9 X9 hp9 => ?_)
      obtain ⟨hv9, hC8, -⟩ := hp9
      have hA8 := inv_undo hA9
      rw [hq.2.2] at hv9 hC8 hA8
      subst hv9
      have hu := undo_rec A hA (va_up (aF A) 5 (aF A 5 + nI d)) (passG (aF A) (aG A) (nI d))
      have ht8 : t < cI (aF (sUndo (setF (keepA A) (va_up (aF A) 5 (aF A 5 + nI d)) (passG (aF A) (aG A) (nI d)))) 1) := by rw [hu.1]; exact c464
      refine q_if_lt_f (tgt := 530) hM dL_law_515 (by rw [lt_i, i0]; have := hu.2.2; omega) (by decide) ?_
      refine q_aload_n hM dL_law_518 rfl ?_
      refine q_iload hM dL_law_519 rfl ?_
      refine callVe_l hM mi_X6_lost lk_L_27 cf_X6 (by decide) (by decide) (u_lost l G hC8 hA8 ht8) rfl rfl (by decide) (Nat.le_refl _) (by omega) (Nat.le_of_ble_eq_true rfl) dL_law_521 ?_
      refine q_lload hM dL_law_524 rfl ?_
      refine q_lcmp hM dL_law_526 ?_
      refine q_if_eq_t (tgt := 532) hM dL_law_527 (lgc_eq.mpr (by rw [hu.2.1])) (by decide) ?_
      refine sinc_11_5 hM dL_law_532 (inc1 t) ?_
      refine q_goto (tgt := 457) hM dL_law_535 (by decide) ?_
      exact ih (t + 1) _ _ _ _ _ _ _ _ _ ⟨hC8, hA8, by rw [hu.1]; exact hQ⟩ hu.1 hu.2.1 (by omega) (by omega)
