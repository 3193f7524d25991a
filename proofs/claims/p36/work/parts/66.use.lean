/-! ===== the calls at the law's own arguments (use.py) ===== -/
section US
variable {l : Launch} {G : kG} {I : kI} {L : kL} {X : kX} {A : kA}
theorem u_count0 (l : Launch) (G : kG) (hC : RC I L X A) (hA : AInv A) : Ki l yX6_count cX6_count 2 0 G [.ref (ad G 0), .int 0] 153 153 I L X (pE (aF A 0) I L X) := by
  have h := c_X6_count l G hC hA 0
  rwa [show rCount A 0 = aF A 0 from rCount_at A (i := 0) (by decide)] at h
theorem u_count1 (l : Launch) (G : kG) (hC : RC I L X A) (hA : AInv A) : Ki l yX6_count cX6_count 2 0 G [.ref (ad G 0), .int 1] 153 153 I L X (pE (aF A 1) I L X) := by
  have h := c_X6_count l G hC hA 1
  rwa [show rCount A 1 = aF A 1 from rCount_at A (i := 1) (by decide)] at h
theorem u_count2 (l : Launch) (G : kG) (hC : RC I L X A) (hA : AInv A) : Ki l yX6_count cX6_count 2 0 G [.ref (ad G 0), .int 2] 153 153 I L X (pE (aF A 2) I L X) := by
  have h := c_X6_count l G hC hA 2
  rwa [show rCount A 2 = aF A 2 from rCount_at A (i := 2) (by decide)] at h
theorem u_count3 (l : Launch) (G : kG) (hC : RC I L X A) (hA : AInv A) : Ki l yX6_count cX6_count 2 0 G [.ref (ad G 0), .int 3] 153 153 I L X (pE (aF A 3) I L X) := by
  have h := c_X6_count l G hC hA 3
  rwa [show rCount A 3 = aF A 3 from rCount_at A (i := 3) (by decide)] at h
theorem u_count4 (l : Launch) (G : kG) (hC : RC I L X A) (hA : AInv A) : Ki l yX6_count cX6_count 2 0 G [.ref (ad G 0), .int 4] 153 153 I L X (pE (aF A 4) I L X) := by
  have h := c_X6_count l G hC hA 4
  rwa [show rCount A 4 = aF A 4 from rCount_at A (i := 4) (by decide)] at h
theorem u_count5 (l : Launch) (G : kG) (hC : RC I L X A) (hA : AInv A) : Ki l yX6_count cX6_count 2 0 G [.ref (ad G 0), .int 5] 153 153 I L X (pE (aF A 5) I L X) := by
  have h := c_X6_count l G hC hA 5
  rwa [show rCount A 5 = aF A 5 from rCount_at A (i := 5) (by decide)] at h
theorem u_count6 (l : Launch) (G : kG) (hC : RC I L X A) (hA : AInv A) : Ki l yX6_count cX6_count 2 0 G [.ref (ad G 0), .int 6] 153 153 I L X (pE (aF A 6) I L X) := by
  have h := c_X6_count l G hC hA 6
  rwa [show rCount A 6 = aF A 6 from rCount_at A (i := 6) (by decide)] at h
theorem u_count7 (l : Launch) (G : kG) (hC : RC I L X A) (hA : AInv A) : Ki l yX6_count cX6_count 2 0 G [.ref (ad G 0), .int 7] 153 153 I L X (pE (aF A 7) I L X) := by
  have h := c_X6_count l G hC hA 7
  rwa [show rCount A 7 = aF A 7 from rCount_at A (i := 7) (by decide)] at h
theorem rTrapW_at (hA : AInv A) {t w : Nat} (ht : t < cI (aF A 1)) (hw : w < 7) : rTrap A (nI t) (nI w) = sOf (aF A) t w := by
  have hn := hA.f.nT
  unfold rTrap
  rw [if_pos (trapYes hA.f ht), if_pos ⟨nI_pos' (by omega), nI_le (b := 7) (by omega) (by decide)⟩, if_neg (fun q => by have := (nI_eq (a := w) (b := 7) (by omega) (by decide)).mp q; omega), cI_nI (by omega), cI_nI (by omega)]
theorem rTrap_7 (hA : AInv A) {t : Nat} (ht : t < cI (aF A 1)) : rTrap A (nI t) 7 = nI (sH (aF A) t) := by
  have hn := hA.f.nT
  unfold rTrap
  rw [if_pos (trapYes hA.f ht), if_pos ⟨by decide, by decide⟩, if_pos rfl, cI_nI (by omega)]
  exact (hA.f.hd ht).2
theorem u_trap0 (l : Launch) (G : kG) (hC : RC I L X A) (hA : AInv A) {t : Nat} (ht : t < cI (aF A 1)) : Ki l yX6_trap cX6_trap 4 2 G [.ref (ad G 0), .int (nI t), .int 0] 153 153 I L X (pE (sOf (aF A) t 0) I L X) := by
  have h := c_X6_trap l G hC hA (nI t) 0
  rwa [show rTrap A (nI t) 0 = sOf (aF A) t 0 from rTrapW_at hA (w := 0) ht (by decide)] at h
theorem u_trap1 (l : Launch) (G : kG) (hC : RC I L X A) (hA : AInv A) {t : Nat} (ht : t < cI (aF A 1)) : Ki l yX6_trap cX6_trap 4 2 G [.ref (ad G 0), .int (nI t), .int 1] 153 153 I L X (pE (sOf (aF A) t 1) I L X) := by
  have h := c_X6_trap l G hC hA (nI t) 1
  rwa [show rTrap A (nI t) 1 = sOf (aF A) t 1 from rTrapW_at hA (w := 1) ht (by decide)] at h
theorem u_trap2 (l : Launch) (G : kG) (hC : RC I L X A) (hA : AInv A) {t : Nat} (ht : t < cI (aF A 1)) : Ki l yX6_trap cX6_trap 4 2 G [.ref (ad G 0), .int (nI t), .int 2] 153 153 I L X (pE (sOf (aF A) t 2) I L X) := by
  have h := c_X6_trap l G hC hA (nI t) 2
  rwa [show rTrap A (nI t) 2 = sOf (aF A) t 2 from rTrapW_at hA (w := 2) ht (by decide)] at h
theorem u_trap3 (l : Launch) (G : kG) (hC : RC I L X A) (hA : AInv A) {t : Nat} (ht : t < cI (aF A 1)) : Ki l yX6_trap cX6_trap 4 2 G [.ref (ad G 0), .int (nI t), .int 3] 153 153 I L X (pE (sOf (aF A) t 3) I L X) := by
  have h := c_X6_trap l G hC hA (nI t) 3
  rwa [show rTrap A (nI t) 3 = sOf (aF A) t 3 from rTrapW_at hA (w := 3) ht (by decide)] at h
theorem u_trap4 (l : Launch) (G : kG) (hC : RC I L X A) (hA : AInv A) {t : Nat} (ht : t < cI (aF A 1)) : Ki l yX6_trap cX6_trap 4 2 G [.ref (ad G 0), .int (nI t), .int 4] 153 153 I L X (pE (sOf (aF A) t 4) I L X) := by
  have h := c_X6_trap l G hC hA (nI t) 4
  rwa [show rTrap A (nI t) 4 = sOf (aF A) t 4 from rTrapW_at hA (w := 4) ht (by decide)] at h
theorem u_trap5 (l : Launch) (G : kG) (hC : RC I L X A) (hA : AInv A) {t : Nat} (ht : t < cI (aF A 1)) : Ki l yX6_trap cX6_trap 4 2 G [.ref (ad G 0), .int (nI t), .int 5] 153 153 I L X (pE (sOf (aF A) t 5) I L X) := by
  have h := c_X6_trap l G hC hA (nI t) 5
  rwa [show rTrap A (nI t) 5 = sOf (aF A) t 5 from rTrapW_at hA (w := 5) ht (by decide)] at h
theorem u_trap6 (l : Launch) (G : kG) (hC : RC I L X A) (hA : AInv A) {t : Nat} (ht : t < cI (aF A 1)) : Ki l yX6_trap cX6_trap 4 2 G [.ref (ad G 0), .int (nI t), .int 6] 153 153 I L X (pE (sOf (aF A) t 6) I L X) := by
  have h := c_X6_trap l G hC hA (nI t) 6
  rwa [show rTrap A (nI t) 6 = sOf (aF A) t 6 from rTrapW_at hA (w := 6) ht (by decide)] at h
theorem u_trap7 (l : Launch) (G : kG) (hC : RC I L X A) (hA : AInv A) {t : Nat} (ht : t < cI (aF A 1)) : Ki l yX6_trap cX6_trap 4 2 G [.ref (ad G 0), .int (nI t), .int 7] 153 153 I L X (pE (nI (sH (aF A) t)) I L X) := by
  have h := c_X6_trap l G hC hA (nI t) 7
  rwa [rTrap_7 hA ht] at h
theorem rLossL_at (hA : AInv A) {t : Nat} (ht : t < cI (aF A 1)) : rLoss A (nI t) = sLoss (aF A) t := by
  have hn := hA.f.nT
  unfold rLoss
  rw [if_pos (trapYes hA.f ht), cI_nI (by omega)]
theorem u_loss (l : Launch) (G : kG) (hC : RC I L X A) (hA : AInv A) {t : Nat} (ht : t < cI (aF A 1)) : Ki l yX6_loss cX6_loss 3 4 G [.ref (ad G 0), .int (nI t)] 153 153 I L X (pE (sLoss (aF A) t) I L X) := by
  have h := c_X6_loss l G hC hA (nI t)
  rwa [rLossL_at hA ht] at h
theorem rPaybackL_at (hA : AInv A) {t : Nat} (ht : t < cI (aF A 1)) : rPayback A (nI t) = sPay (aF A) t := by
  have hn := hA.f.nT
  unfold rPayback
  rw [if_pos (trapYes hA.f ht), cI_nI (by omega)]
theorem u_pay (l : Launch) (G : kG) (hC : RC I L X A) (hA : AInv A) {t : Nat} (ht : t < cI (aF A 1)) : Kl l yX6_payback cX6_payback 3 5 G [.ref (ad G 0), .int (nI t)] 153 153 I L X (pE (sPay (aF A) t) I L X) := by
  have h := c_X6_payback l G hC hA (nI t)
  rwa [rPaybackL_at hA ht] at h
theorem rSavesL_at (hA : AInv A) {t : Nat} (ht : t < cI (aF A 1)) : rSaves A (nI t) = sWorth (aF A) t / 1000000 := by
  have hn := hA.f.nT
  unfold rSaves
  rw [if_pos (trapYes hA.f ht), cI_nI (by omega)]
theorem u_saves (l : Launch) (G : kG) (hC : RC I L X A) (hA : AInv A) {t : Nat} (ht : t < cI (aF A 1)) : Kl l yX6_saves cX6_saves 3 4 G [.ref (ad G 0), .int (nI t)] 153 153 I L X (pE (sWorth (aF A) t / 1000000) I L X) := by
  have h := c_X6_saves l G hC hA (nI t)
  rwa [rSavesL_at hA ht] at h
theorem rRepairCostL_at (hA : AInv A) {t : Nat} (ht : t < cI (aF A 1)) : rRepairCost A (nI t) = sCost (aF A) t := by
  have hn := hA.f.nT
  unfold rRepairCost
  rw [if_pos (trapYes hA.f ht), cI_nI (by omega)]
theorem u_cost (l : Launch) (G : kG) (hC : RC I L X A) (hA : AInv A) {t : Nat} (ht : t < cI (aF A 1)) : Ki l yX6_repairCost cX6_repairCost 3 1 G [.ref (ad G 0), .int (nI t)] 153 153 I L X (pE (sCost (aF A) t) I L X) := by
  have h := c_X6_repairCost l G hC hA (nI t)
  rwa [rRepairCostL_at hA ht] at h
theorem rIsDueL_at (hA : AInv A) {t : Nat} (ht : t < cI (aF A 1)) : rIsDue A (nI t) = if sDue (aF A) t then 1 else 0 := by
  have hn := hA.f.nT
  unfold rIsDue
  rw [if_pos (trapYes hA.f ht), cI_nI (by omega)]
theorem u_due (l : Launch) (G : kG) (hC : RC I L X A) (hA : AInv A) {t : Nat} (ht : t < cI (aF A 1)) : Ki l yX6_isDue cX6_isDue 3 1 G [.ref (ad G 0), .int (nI t)] 153 153 I L X (pE (if sDue (aF A) t then 1 else 0) I L X) := by
  have h := c_X6_isDue l G hC hA (nI t)
  rwa [rIsDueL_at hA ht] at h
theorem rDueOnL_at (hA : AInv A) {t : Nat} (ht : t < cI (aF A 1)) : rDueOn A (nI t) = if sDue (aF A) t then aF A 5 else sOf (aF A) t 6 + aF A 4 := by
  have hn := hA.f.nT
  unfold rDueOn
  rw [if_pos (trapYes hA.f ht), cI_nI (by omega)]
theorem u_dueOn (l : Launch) (G : kG) (hC : RC I L X A) (hA : AInv A) {t : Nat} (ht : t < cI (aF A 1)) : Ki l yX6_dueOn cX6_dueOn 3 1 G [.ref (ad G 0), .int (nI t)] 153 153 I L X (pE (if sDue (aF A) t then aF A 5 else sOf (aF A) t 6 + aF A 4) I L X) := by
  have h := c_X6_dueOn l G hC hA (nI t)
  rwa [rDueOnL_at hA ht] at h
theorem rLostL_at (hA : AInv A) {t : Nat} (ht : t < cI (aF A 1)) : rLost A (nI t) = aG A t := by
  have hn := hA.f.nT
  unfold rLost
  rw [if_neg (nI_neg1 (by omega)), if_pos (trapYes hA.f ht), cI_nI (by omega)]
theorem u_lost (l : Launch) (G : kG) (hC : RC I L X A) (hA : AInv A) {t : Nat} (ht : t < cI (aF A 1)) : Kl l yX6_lost cX6_lost 3 1 G [.ref (ad G 0), .int (nI t)] 153 153 I L X (pE (aG A t) I L X) := by
  have h := c_X6_lost l G hC hA (nI t)
  rwa [rLostL_at hA ht] at h
theorem u_lostAll (l : Launch) (G : kG) (hC : RC I L X A) (hA : AInv A) : Kl l yX6_lost cX6_lost 3 1 G [.ref (ad G 0), .int (-1)] 153 153 I L X (pE (sSumL (aG A) (cI (aF A 1))) I L X) := by
  have h := c_X6_lost l G hC hA (-1)
  rwa [show rLost A (-1) = sSumL (aG A) (cI (aF A 1)) from if_pos rfl] at h
theorem rHead_at (hA : AInv A) {t : Nat} (ht : t < cI (aF A 1)) : rHeaderOf A (sOf (aF A) t 0) = nI (sH (aF A) t) := by
  have h1 := (hA.f.t ht).1
  unfold rHeaderOf
  rw [if_pos ⟨by rw [le_i, i0]; exact h1.1, by rw [lt_i]; exact h1.2⟩]
  exact (hA.f.hd ht).2
theorem u_head (l : Launch) (G : kG) (hC : RC I L X A) (hA : AInv A) {t : Nat} (ht : t < cI (aF A 1)) : Ki l yX6_headerOf cX6_headerOf 2 2 G [.ref (ad G 0), .int (sOf (aF A) t 0)] 153 153 I L X (pE (nI (sH (aF A) t)) I L X) := by
  have h := c_X6_headerOf l G hC hA (sOf (aF A) t 0)
  rwa [rHead_at hA ht] at h
theorem rPres_at (hA : AInv A) {t : Nat} (ht : t < cI (aF A 1)) : rPressure A (nI (sH (aF A) t)) = sP (aF A) t := by
  have h1 := (hA.f.hd ht).1
  unfold rPressure
  rw [if_pos ⟨nI_pos' (by omega), nI_lt (b := 3) h1 (by decide)⟩, cI_nI (by omega)]
  rfl
theorem u_pres (l : Launch) (G : kG) (hC : RC I L X A) (hA : AInv A) {t : Nat} (ht : t < cI (aF A 1)) : Ki l yX6_pressure cX6_pressure 2 2 G [.ref (ad G 0), .int (nI (sH (aF A) t))] 153 153 I L X (pE (sP (aF A) t) I L X) := by
  have h := c_X6_pressure l G hC hA (nI (sH (aF A) t))
  rwa [rPres_at hA ht] at h
end US
theorem sLoss_3 {f : Fr} {t : Nat} (h : sOf f t 5 = 3) : sLoss f t = sOf f t 2 * sOf f t 2 * (sP f t + 1) * 10 := by
  unfold sLoss lossQ
  rw [if_pos h]
theorem sLoss_2 {f : Fr} {t : Nat} (h3 : ¬ sOf f t 5 = 3) (h : sOf f t 5 = 2) : sLoss f t = sOf f t 2 * sOf f t 2 * (sP f t + 1) * 10 / 4 := by
  unfold sLoss lossQ
  rw [if_neg h3, if_pos h]
theorem sLoss_0 {f : Fr} {t : Nat} (h3 : ¬ sOf f t 5 = 3) (h : ¬ sOf f t 5 = 2) : sLoss f t = 0 := by
  unfold sLoss lossQ
  rw [if_neg h3, if_neg h]
theorem i_neg (x : Int32) : -x = 0 - x := (Int32.zero_sub x).symm
theorem sz_neg {x : Int32} (h : ¬ 0 ≤ x) : -x = sz x := by unfold sz; rw [if_neg h, Int32.zero_sub]
theorem sz_pos {x : Int32} (h : 0 ≤ x) : x = sz x := by unfold sz; rw [if_pos h]
set_option maxRecDepth 100000 in
theorem c_L_low (l : Launch) (G : kG) {I : kI} {L : kL} {X : kX} (v : Int32) (d : Nat) (h0 : 0 < d) (hd : d < 2 ^ 31) : Ki l yL_low cL_low 2 0 G [.int v, .int (nI d)] 153 153 I L X (pE (nI (lowN v d)) I L X) := by
  refine Ki_intro (own := RL) (lv0 := [some (.int v), some (.int (nI d))]) 0 (by decide +kernel) rfl rfl (Nat.le_of_ble_eq_true rfl) (Nat.le_refl _) (fun J hM hret => ?_)
  refine q_iload_n hM dL_low_0 rfl ?_
  refine q_ldc hM cw_L_7 dL_low_1 ?_
  refine q_iand hM dL_low_3 ?_
  refine q_iload_n hM dL_low_4 rfl ?_
  refine q_irem hM dL_low_5 (nI_ne0 h0 hd) ?_
  refine q_topi _ (low_val v h0 hd) ?_
  exact hret _ _ _ _ _ _ ⟨rfl, rfl, rfl, rfl⟩ dL_low_6
set_option maxRecDepth 100000 in
theorem c_L_way (l : Launch) (G : kG) {I : kI} {L : kL} {X : kX} {A : kA} (hC : RC I L X A) (hA : AInv A) {t : Nat} (ht : t < cI (aF A 1)) (a b : Int32) : Ki l yL_way cL_way 6 3 G [.ref (ad G 0), .int (nI t), .int a, .int b] 153 153 I L X (pE (wayF (aF A) t a b) I L X) := by
  refine Ki_intro (own := RL) (lv0 := [some (.ref (ad G 0)), some (.int (nI t)), some (.int a), some (.int b), none, none]) 2 (by decide +kernel) rfl rfl (Nat.le_of_ble_eq_true rfl) (Nat.le_refl _) (fun J hM hret => ?_)
  refine q_aload_n hM dL_way_0 rfl ?_
  refine q_iload_n hM dL_way_1 rfl ?_
  refine q_iconst (v := 3) hM dL_way_2 (by decide) ?_
  refine callVe_i hM mi_X6_trap lk_L_14 cf_X6 (by decide) (by decide) (u_trap3 l G hC hA ht) rfl rfl (by decide) (Nat.le_refl _) (by omega) (Nat.le_of_ble_eq_true rfl) dL_way_3 ?_
  refine q_iload_n hM dL_way_6 rfl ?_
  refine q_isub hM dL_way_7 ?_
  refine si_6_4 hM dL_way_8 ?_
  refine q_aload_n hM dL_way_10 rfl ?_
  refine q_iload_n hM dL_way_11 rfl ?_
  refine q_iconst (v := 4) hM dL_way_12 (by decide) ?_
  refine callVe_i hM mi_X6_trap lk_L_14 cf_X6 (by decide) (by decide) (u_trap4 l G hC hA ht) rfl rfl (by decide) (Nat.le_refl _) (by omega) (Nat.le_of_ble_eq_true rfl) dL_way_13 ?_
  refine q_iload_n hM dL_way_16 rfl ?_
  refine q_isub hM dL_way_17 ?_
  refine si_6_5 hM dL_way_18 ?_
  have tail : ∀ x : Int32, x = sz (sOf (aF A) t 3 - a) → J 153 I L X 33 [some (.ref (ad G 0)), some (.int (nI t)), some (.int a), some (.int b), some (.int (sOf (aF A) t 3 - a)), some (.int (sOf (aF A) t 4 - b))] [.int x] := by
    intro x hx
    subst hx
    refine q_iload hM dL_way_33 rfl ?_
    refine q_if_ge (tgt := 44) hM dL_way_35 (by decide) (fun c35 => ?_) (fun c35 => ?_)
    · refine q_iload hM dL_way_44 rfl ?_
      refine q_topi _ (sz_pos c35) ?_
      refine q_iadd hM dL_way_46 ?_
      exact hret _ _ _ _ _ _ ⟨rfl, rfl, rfl, rfl⟩ dL_way_47
    · refine q_iload hM dL_way_38 rfl ?_
      refine q_ineg hM dL_way_40 ?_
      refine q_goto (tgt := 46) hM dL_way_41 (by decide) ?_
      refine q_topi _ (sz_neg c35) ?_
      refine q_iadd hM dL_way_46 ?_
      exact hret _ _ _ _ _ _ ⟨rfl, rfl, rfl, rfl⟩ dL_way_47
  refine q_iload hM dL_way_20 rfl ?_
  refine q_if_ge (tgt := 31) hM dL_way_22 (by decide) (fun c22 => ?_) (fun c22 => ?_)
  · refine q_iload hM dL_way_31 rfl ?_
    exact tail _ (sz_pos c22)
  · refine q_iload hM dL_way_25 rfl ?_
    refine q_ineg hM dL_way_27 ?_
    refine q_goto (tgt := 33) hM dL_way_28 (by decide) ?_
    exact tail _ (sz_neg c22)
