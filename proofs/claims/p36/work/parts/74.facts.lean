/-! ===== what single calls of the law answer ===== -/
theorem up_lo {f : Fr} {i : Nat} {v : Int32} {j : Nat} (h : j ≠ i) : va_up f i v j = f j := va_up_ne _ _ h
theorem sp_Q {A A' : kA} {v : Int32} (h : Sp A v A') (hQ : QI (aF A)) : QI (aF A') ∧ (aF A' 5).toInt ≤ (aF A 5).toInt + 40 ∧ cI (aF A 0) ≤ cI (aF A' 0) ∧ cI (aF A 1) ≤ cI (aF A' 1) := by
  rcases h with ⟨-, rfl⟩ | ⟨-, f, g, rfl, h1, h2, h3, h4⟩
  · exact ⟨hQ, by omega, Nat.le_refl _, Nat.le_refl _⟩
  · rw [aF_set]; exact ⟨h1, h2, h3, h4⟩
theorem nI_le50 {n : Nat} (h : n < 51) : 0 ≤ nI n ∧ nI n ≤ 50 := ⟨nI_pos' (by omega), nI_le (b := 50) (by omega) (by decide)⟩
theorem lineYes' {f : Fr} (hP : PInv f) {a : Nat} (h : a < cI (f 0)) : 0 ≤ nI a ∧ nI a < f 0 := by
  have := hP.nL
  exact ⟨nI_pos' (by omega), by rw [hP.e0]; exact nI_lt h (by omega)⟩
theorem addL_facts {A : kA} (hA : AInv A) {h : Nat} (hh : h < 3) (hlt : cI (aF A 0) < 8) : cI (aF (sAddLine A (nI h)) 0) = cI (aF A 0) + 1 ∧ aF (sAddLine A (nI h)) 1 = aF A 1 ∧ aF (sAddLine A (nI h)) 5 = aF A 5 := by
  have e0 : cI (aF A 0 + 1) = cI (aF A 0) + 1 := by
    have := hA.f.e0
    rw [this, nI_1, cI_nI (by omega), ← this]
  have h8 : ¬ aF A 0 = 8 := fun q => by rw [q] at hlt; exact absurd hlt (by decide)
  unfold sAddLine
  rw [if_pos ⟨nI_pos' (by omega), nI_lt (b := 3) hh (by decide)⟩, if_neg h8, aF_set]
  exact ⟨by rw [va_up_self]; exact e0, by rw [va_up_ne _ _ (by decide), va_up_ne _ _ (by omega)], by rw [va_up_ne _ _ (by decide), va_up_ne _ _ (by omega)]⟩
theorem addT_facts {A : kA} (hA : AInv A) {a k z x y : Nat} (ha : a < cI (aF A 0)) (hk : k < 3) (hz : z < 9) (hx : x < 51) (hy : y < 51) (hlt : cI (aF A 1) < 16) :
    rAddTrap A (nI a) (nI k) (1 + nI z) (nI x) (nI y) = aF A 1 ∧ cI (aF (sAddTrap A (nI a) (nI k) (1 + nI z) (nI x) (nI y)) 1) = cI (aF A 1) + 1 ∧ aF (sAddTrap A (nI a) (nI k) (1 + nI z) (nI x) (nI y)) 0 = aF A 0 ∧ aF (sAddTrap A (nI a) (nI k) (1 + nI z) (nI x) (nI y)) 5 = aF A 5 := by
  have hn := hA.f.nT
  have e1 : cI (aF A 1 + 1) = cI (aF A 1) + 1 := by
    have := hA.f.e1
    rw [this, nI_1, cI_nI (by omega), ← this]
  have h8 : ¬ aF A 1 = 16 := fun q => by rw [q] at hlt; exact absurd hlt (by decide)
  have ez : (1 : Int32) + nI z = nI (1 + z) := nI_add 1 z
  have c1 := lineYes' hA.f ha
  have c2 : 0 ≤ nI k ∧ nI k ≤ 2 := ⟨nI_pos' (by omega), nI_le (b := 2) (by omega) (by decide)⟩
  have c3 : 1 ≤ nI (1 + z) ∧ nI (1 + z) ≤ 9 := ⟨nI_le (a := 1) (by omega) (by omega), nI_le (b := 9) (by omega) (by decide)⟩
  unfold rAddTrap sAddTrap
  rw [ez, if_pos c1, if_pos c2, if_pos c3, if_pos (nI_le50 hx), if_pos (nI_le50 hy), if_neg h8, if_pos c1, if_pos c2, if_pos c3, if_pos (nI_le50 hx), if_pos (nI_le50 hy), if_neg h8, aF_set]
  exact ⟨rfl, by rw [trapF_1]; exact e1, trapF_lo (by omega) (by decide), trapF_lo (by omega) (by decide)⟩
theorem pass_facts {A : kA} (hA : AInv A) {d : Nat} (h0 : 1 ≤ d) (h1 : d ≤ 100) (h5 : (aF A 5).toInt ≤ 9000) :
    rPass A (nI d) = aF A 5 + nI d ∧ ¬ aF A 5 + nI d < nI d ∧ sPass A (nI d) = setF (keepA A) (va_up (aF A) 5 (aF A 5 + nI d)) (passG (aF A) (aG A) (nI d)) := by
  have r5 := hA.f.2.1.2.2.2.1
  have c1 : 1 ≤ nI d ∧ nI d ≤ 100 := ⟨nI_le (a := 1) h0 (by omega), nI_le (b := 100) h1 (by decide)⟩
  have ed : (nI d).toInt = d := nI_toInt (by omega)
  have e : (aF A 5 + nI d).toInt = (aF A 5).toInt + d := by rw [add_i (by omega) (by omega), ed]
  have c2 : ¬ 10000 < aF A 5 + nI d := by
    rw [lt_i, e, show (10000 : Int32).toInt = 10000 from rfl]
    omega
  unfold rPass sPass
  rw [if_pos c1, if_neg c2, if_pos c1, if_neg c2]
  exact ⟨rfl, by rw [lt_i, e, ed]; omega, rfl⟩
theorem passD {A : kA} {t : Nat} (ht : t < cI (aF A 1)) {d : Int32} {v : Int32} : passG (aF A) (aG A) d t = aG A t + (sLoss (va_up (aF A) 5 v) t).toInt64 * (aF A 2).toInt64 * d.toInt64 := by
  unfold passG
  rw [if_pos ht, sLoss_up5]
theorem read_facts {A : kA} (hA : AInv A) {t : Nat} (ht : t < cI (aF A 1)) {i o c : Nat} (hi : i < 301) (ho : o < 301) (hc : c < 61) :
    inR 1 (rJudge A (nI t) (nI i) (nI o) (nI c)) 5 ∧ aF (sRead A (nI t) (nI i) (nI o) (nI c)) 0 = aF A 0 ∧ aF (sRead A (nI t) (nI i) (nI o) (nI c)) 1 = aF A 1 ∧
    sOf (aF (sRead A (nI t) (nI i) (nI o) (nI c))) t 5 = rJudge A (nI t) (nI i) (nI o) (nI c) ∧ sOf (aF (sRead A (nI t) (nI i) (nI o) (nI c))) t 6 = aF (sRead A (nI t) (nI i) (nI o) (nI c)) 5 := by
  have hn := hA.f.nT
  have hj : jAll A (nI t) (nI i) (nI o) (nI c) := ⟨trapYes hA.f ht, ⟨nI_pos' (by omega), nI_le (b := 300) (by omega) (by decide)⟩, ⟨nI_pos' (by omega), nI_le (b := 300) (by omega) (by decide)⟩, ⟨nI_pos' (by omega), nI_le (b := 60) (by omega) (by decide)⟩⟩
  rw [(jud_yes hj).1, (jud_yes hj).2, cI_nI (by omega), aF_set]
  refine ⟨judC_one _ _ _ _ _, ?_, ?_, ?_, ?_⟩
  · unfold readF; rw [va_up_ne _ _ (by omega), va_up_ne _ _ (by omega)]
  · unfold readF; rw [va_up_ne _ _ (by omega), va_up_ne _ _ (by omega)]
  · unfold sOf readF; rw [va_up_ne _ _ (by omega), va_up_self]
  · unfold sOf readF; rw [va_up_self, va_up_ne _ _ (by omega), va_up_ne _ _ (by omega)]
/-- the end: with 10000 all are mended -/
theorem all_facts {A : kA} (hA : AInv A) (hQ : QI (aF A)) : ¬ rAll A 10000 < 0 ∧ rOrder (sAll A 10000) 0 = -1 ∧ rHeaderLoss (sAll A 10000) 0 + rHeaderLoss (sAll A 10000) 1 + rHeaderLoss (sAll A 10000) 2 = 0 ∧ aF (sAll A 10000) 0 = aF A 0 ∧ aF (sAll A 10000) 1 = aF A 1 := by
  have hP := hA.f
  have hn := hP.nT
  have hA2 := inv_all hA 10000
  have h0 := (sp_all hA hQ (a := 10000) ⟨by decide, by decide⟩).2.1
  obtain ⟨j, -, -, -, -, -, -, k0, k1⟩ := repA_all 17 (aF A) 10000 0 hP hQ (by decide) (by decide)
  have eA : aF (sAll A 10000) = (repA 17 (aF A) 10000 0).1 := by
    unfold sAll
    rw [if_pos ⟨by decide, by decide⟩, aF_set]
  have hnl : nLoss (aF A) ≤ cI (aF A 1) := cnt_le _ _
  have hor : sOrd (aF (sAll A 10000)) 0 = -1 := by
    rw [eA]
    exact repA_none 17 (aF A) 10000 0 hP (by omega) (by have : (10000 : Int32).toInt = 10000 := rfl; omega) (by decide)
  have hz := ord_none hA2.f hor
  have hh : ∀ h : Int32, 0 ≤ h ∧ h < 3 → rHeaderLoss (sAll A 10000) h = 0 := fun h hh => by
    unfold rHeaderLoss
    rw [if_pos hh, sSum_cong (h' := fun _ => (0 : Int32)) (fun t ht => by rw [hz t ht]; exact ite_self 0), sSum_0]
  refine ⟨by rw [lt_i, i0]; omega, ?_, ?_, by rw [eA]; exact k0, by rw [eA]; exact k1⟩
  · unfold rOrder
    rw [if_neg (by decide)]
    exact hor
  · rw [hh 0 ⟨by decide, by decide⟩, hh 1 ⟨by decide, by decide⟩, hh 2 ⟨by decide, by decide⟩]
    rfl
section FN
variable {A : kA}
theorem fn_press1 : rSetPressure A 3 1 = -2 ∧ sSetPressure A 3 1 = A := ⟨if_neg (by decide), if_neg (by decide)⟩
theorem fn_press2 : rSetPressure A 0 21 = -3 ∧ sSetPressure A 0 21 = A := by
  unfold rSetPressure sSetPressure
  rw [if_pos (by decide), if_neg (by decide), if_pos (by decide), if_neg (by decide)]
  exact ⟨rfl, rfl⟩
theorem fn_line : rAddLine A 3 = -2 ∧ sAddLine A 3 = A := ⟨if_neg (by decide), if_neg (by decide)⟩
theorem fn_trap (hA : AInv A) (h : 1 ≤ cI (aF A 0)) : rAddTrap A 0 3 1 0 0 = -3 ∧ sAddTrap A 0 3 1 0 0 = A := by
  have c1 : (0 : Int32) ≤ 0 ∧ 0 < aF A 0 := lineYes' hA.f (a := 0) h
  unfold rAddTrap sAddTrap
  rw [if_pos c1, if_neg (by decide), if_pos c1, if_neg (by decide)]
  exact ⟨rfl, rfl⟩
theorem fn_work : rSetWork A 25 1 1 = -3 ∧ sSetWork A 25 1 1 = A := ⟨if_neg (by decide), if_neg (by decide)⟩
theorem fn_read (hA : AInv A) (h : 1 ≤ cI (aF A 1)) : rJudge A 0 301 0 0 = -3 ∧ sRead A 0 301 0 0 = A := by
  have c1 : (0 : Int32) ≤ 0 ∧ 0 < aF A 1 := trapYes hA.f (j := 0) h
  unfold rJudge sRead
  rw [if_pos c1, if_neg (by decide), if_pos c1, if_neg (by decide)]
  exact ⟨rfl, rfl⟩
theorem fn_pass : rPass A 101 = -3 ∧ sPass A 101 = A := ⟨if_neg (by decide), if_neg (by decide)⟩
theorem fn_all : rAll A 10001 = -3 ∧ sAll A 10001 = A := ⟨if_neg (by decide), if_neg (by decide)⟩
theorem fn_round : rRound A (-1) = -3 := if_pos (by decide)
theorem fn_trap8 (hA : AInv A) (h : 1 ≤ cI (aF A 1)) : rTrap A 0 8 = -3 := by
  have c1 : (0 : Int32) ≤ 0 ∧ 0 < aF A 1 := trapYes hA.f (j := 0) h
  unfold rTrap
  rw [if_pos c1, if_neg (by decide)]
theorem fn_lost (hA : AInv A) : rLost A 16 = -2 := by
  have hn := hA.f.nT
  unfold rLost
  rw [if_neg (by decide), if_neg]
  intro q
  have q2 := q.2
  rw [hA.f.e1] at q2
  exact nI_nlt (a := 16) hn (by decide) q2
theorem fn_pay : rPayback A (-1) = -2 := if_neg (fun q => absurd q.1 (by decide))
theorem fn_state : rInState A 6 = -3 := if_neg (by decide)
end FN
/-- the new object -/
theorem nw_undo : rUndo A00 = -4 ∧ sUndo A00 = A00 := ⟨if_pos rfl, if_pos rfl⟩
theorem nw_text : ¬ (lsR (aT A00) (aK A00) (aF A00 1)).1 = true := by decide +kernel
theorem nw_read : rReadAll A00 = -4 ∧ sReadAll A00 = A00 := ⟨if_neg nw_text, if_neg nw_text⟩
theorem nw_len : rRoundLen A00 = 0 := by decide +kernel
theorem nw_round : rRound A00 0 = -1 := by decide +kernel
theorem nw_order : rOrder A00 0 = -1 := by decide +kernel
theorem nw_lost : rLost A00 (-1) = 0 := by decide +kernel
theorem nw_trap : rAddTrap A00 0 0 1 0 0 = -2 ∧ sAddTrap A00 0 0 1 0 0 = A00 := ⟨if_neg (by decide +kernel), if_neg (by decide +kernel)⟩
theorem nw_Q : QI (aF A00) := fun t ht => absurd ht (Nat.not_lt_zero t)
theorem nw_01 : cI (aF A00 0) = 0 ∧ cI (aF A00 1) = 0 ∧ aF A00 5 = 0 := ⟨by decide +kernel, by decide +kernel, by decide +kernel⟩
