/-! ===== the calls, as numbers: answers (r..) and states behind them (s..) ===== -/
def isH (h : Int32) : Prop := 0 ≤ h ∧ h < 3
section OPS
variable (A : kA)
def rSetPressure (h p : Int32) : Int32 := if 0 ≤ h ∧ h < 3 then (if 1 ≤ p ∧ p ≤ 20 then aF A (8 + cI h) else -3) else -2
def sSetPressure (h p : Int32) : kA := if 0 ≤ h ∧ h < 3 then (if 1 ≤ p ∧ p ≤ 20 then setF (keepA A) (va_up (aF A) (8 + cI h) p) (aG A) else A) else A
def rAddLine (h : Int32) : Int32 := if 0 ≤ h ∧ h < 3 then (if aF A 0 = 8 then -5 else aF A 0) else -2
def sAddLine (h : Int32) : kA := if 0 ≤ h ∧ h < 3 then (if aF A 0 = 8 then A else setF (keepA A) (va_up (va_up (aF A) (11 + cI (aF A 0)) h) 0 (aF A 0 + 1)) (aG A)) else A
def trapF (f : Fr) (a k z x y : Int32) : Fr :=
  va_up (va_up (va_up (va_up (va_up (va_up (va_up (va_up f (19 + 7 * cI (f 1)) a) (19 + 7 * cI (f 1) + 1) k) (19 + 7 * cI (f 1) + 2) z) (19 + 7 * cI (f 1) + 3) x) (19 + 7 * cI (f 1) + 4) y) (19 + 7 * cI (f 1) + 5) 0) (19 + 7 * cI (f 1) + 6) (-1)) 1 (f 1 + 1)
def rAddTrap (a k z x y : Int32) : Int32 := if 0 ≤ a ∧ a < aF A 0 then (if 0 ≤ k ∧ k ≤ 2 then (if 1 ≤ z ∧ z ≤ 9 then (if 0 ≤ x ∧ x ≤ 50 then (if 0 ≤ y ∧ y ≤ 50 then (if aF A 1 = 16 then -5 else aF A 1) else -3) else -3) else -3) else -3) else -2
def sAddTrap (a k z x y : Int32) : kA := if 0 ≤ a ∧ a < aF A 0 then (if 0 ≤ k ∧ k ≤ 2 then (if 1 ≤ z ∧ z ≤ 9 then (if 0 ≤ x ∧ x ≤ 50 then (if 0 ≤ y ∧ y ≤ 50 then (if aF A 1 = 16 then A else setF (keepA A) (trapF (aF A) a k z x y) (va_up (aG A) (cI (aF A 1)) 0)) else A) else A) else A) else A) else A
def rMoveLine (i h : Int32) : Int32 := if 0 ≤ i ∧ i < aF A 0 then (if 0 ≤ h ∧ h < 3 then aF A (11 + cI i) else -2) else -2
def sMoveLine (i h : Int32) : kA := if 0 ≤ i ∧ i < aF A 0 then (if 0 ≤ h ∧ h < 3 then setF (keepA A) (va_up (aF A) (11 + cI i) h) (aG A) else A) else A
def rSetWork (a p i : Int32) : Int32 := if 1 ≤ a ∧ a ≤ 24 then (if 1 ≤ p ∧ p ≤ 1000 then (if 1 ≤ i ∧ i ≤ 400 then aF A 2 else -3) else -3) else -3
def sSetWork (a p i : Int32) : kA := if 1 ≤ a ∧ a ≤ 24 then (if 1 ≤ p ∧ p ≤ 1000 then (if 1 ≤ i ∧ i ≤ 400 then setF (keepA A) (va_up (va_up (va_up (aF A) 2 a) 3 p) 4 i) (aG A) else A) else A) else A
def rCount (w : Int32) : Int32 := if 0 ≤ w ∧ w ≤ 7 then aF A (cI w) else -3
def rTrap (t w : Int32) : Int32 := if 0 ≤ t ∧ t < aF A 1 then (if 0 ≤ w ∧ w ≤ 7 then (if w = 7 then aF A (11 + cI (sOf (aF A) (cI t) 0)) else sOf (aF A) (cI t) (cI w)) else -3) else -2
def rHeaderOf (i : Int32) : Int32 := if 0 ≤ i ∧ i < aF A 0 then aF A (11 + cI i) else -2
def rPressure (h : Int32) : Int32 := if 0 ≤ h ∧ h < 3 then aF A (8 + cI h) else -2
def rJudge (t i o c : Int32) : Int32 := if 0 ≤ t ∧ t < aF A 1 then (if 0 ≤ i ∧ i ≤ 300 then (if 0 ≤ o ∧ o ≤ 300 then (if 0 ≤ c ∧ c ≤ 60 then sJud (aF A) (cI t) i o c else -3) else -3) else -3) else -2
def sRead (t i o c : Int32) : kA := if 0 ≤ t ∧ t < aF A 1 then (if 0 ≤ i ∧ i ≤ 300 then (if 0 ≤ o ∧ o ≤ 300 then (if 0 ≤ c ∧ c ≤ 60 then setF (keepA A) (readF (aF A) (cI t) (sJud (aF A) (cI t) i o c)) (aG A) else A) else A) else A) else A
def rPass (d : Int32) : Int32 := if 1 ≤ d ∧ d ≤ 100 then (if 10000 < aF A 5 + d then -5 else aF A 5 + d) else -3
def sPass (d : Int32) : kA := if 1 ≤ d ∧ d ≤ 100 then (if 10000 < aF A 5 + d then A else setF (keepA A) (va_up (aF A) 5 (aF A 5 + d)) (passG (aF A) (aG A) d)) else A
def rInState (s : Int32) : Int32 := if 0 ≤ s ∧ s ≤ 5 then sSum (fun t => if sOf (aF A) t 5 = s then 1 else 0) (cI (aF A 1)) else -3
def rLoss (t : Int32) : Int32 := if 0 ≤ t ∧ t < aF A 1 then sLoss (aF A) (cI t) else -2
def rLineLoss (i : Int32) : Int32 := if 0 ≤ i ∧ i < aF A 0 then sSum (fun t => if sOf (aF A) t 0 = i then sLoss (aF A) t else 0) (cI (aF A 1)) else -2
def rHeaderLoss (h : Int32) : Int32 := if 0 ≤ h ∧ h < 3 then sSum (fun t => if nI (sH (aF A) t) = h then sLoss (aF A) t else 0) (cI (aF A 1)) else -2
def rLost (t : Int32) : Int64 := if t = -1 then sSumL (aG A) (cI (aF A 1)) else (if 0 ≤ t ∧ t < aF A 1 then aG A (cI t) else -2)
def rSaves (t : Int32) : Int64 := if 0 ≤ t ∧ t < aF A 1 then sWorth (aF A) (cI t) / 1000000 else -2
def rRepairCost (t : Int32) : Int32 := if 0 ≤ t ∧ t < aF A 1 then sCost (aF A) (cI t) else -2
def rPayback (t : Int32) : Int64 := if 0 ≤ t ∧ t < aF A 1 then sPay (aF A) (cI t) else -2
def rRepair (t : Int32) : Int32 := if 0 ≤ t ∧ t < aF A 1 then (if sOf (aF A) (cI t) 5 < 2 then -4 else sCost (aF A) (cI t)) else -2
def sRepair (t : Int32) : kA := if 0 ≤ t ∧ t < aF A 1 then (if sOf (aF A) (cI t) 5 < 2 then A else setF (keepA A) (mendF (aF A) (cI t)) (aG A)) else A
def rIsDue (t : Int32) : Int32 := if 0 ≤ t ∧ t < aF A 1 then (if sDue (aF A) (cI t) then 1 else 0) else -2
def rDueOn (t : Int32) : Int32 := if 0 ≤ t ∧ t < aF A 1 then (if sDue (aF A) (cI t) then aF A 5 else sOf (aF A) (cI t) 6 + aF A 4) else -2
def rUndo : Int32 := if aN A = 0 then -4 else nI (aN A - 1)
def sUndo : kA := if aN A = 0 then A else (va_up A.1 0 (A.1 (aN A)), va_up A.2.1 0 (A.2.1 (aN A)), aN A - 1, A.2.2.2)
def rType (c : Int32) : Int32 := if 0 ≤ c ∧ c ≤ 255 then (if aK A = 100 then -5 else nI (aK A + 1)) else -3
def sType (c : Int32) : kA := if 0 ≤ c ∧ c ≤ 255 then (if aK A = 100 then A else (A.1, A.2.1, aN A, va_up (aT A) (aK A) c, aK A + 1)) else A
def rClear : Int32 := nI (aK A)
def sClear : kA := (A.1, A.2.1, aN A, aT A, 0)
end OPS
/-- what isn't the class's stays -/
def FrM (I I' : kI) (L L' : kL) (X X' : kX) : Prop := ∀ r, 153 ≤ r → I' r = I r ∧ L' r = L r ∧ X' r = X r
theorem FrM.rf {I : kI} {L : kL} {X : kX} : FrM I I L L X X := fun _ _ => ⟨rfl, rfl, rfl⟩
theorem FrM.of1 {I I' : kI} {L L' : kL} {X : kX} (h : Fr1 I I' L L') : FrM I I' L L' X X := fun r hr => ⟨(h r (by omega)).1, (h r (by omega)).2, rfl⟩
theorem FrM.trans {I I1 I2 : kI} {L L1 L2 : kL} {X X1 X2 : kX} (h : FrM I I1 L L1 X X1) (h' : FrM I1 I2 L1 L2 X1 X2) : FrM I I2 L L2 X X2 := fun r hr => ⟨(h' r hr).1.trans (h r hr).1, (h' r hr).2.1.trans (h r hr).2.1, (h' r hr).2.2.trans (h r hr).2.2⟩
theorem trapYes {f : Fr} (hP : PInv f) {j : Nat} (hj : j < cI (f 1)) : 0 ≤ nI j ∧ nI j < f 1 := by
  have hn := hP.nT
  refine ⟨?_, ?_⟩
  · rw [le_i, nI_toInt (by omega), i0]; omega
  · rw [hP.e1]; exact nI_lt hj (by omega)
theorem lineYes {f : Fr} (hP : PInv f) {i : Int32} (h : 0 ≤ i ∧ i < f 0) : i = nI (cI i) ∧ cI i < cI (f 0) := by
  obtain ⟨h1, h2⟩ := h
  rw [le_i, i0] at h1
  rw [lt_i] at h2
  have h3 := cI_int h1
  have h4 := cI_int hP.1.1.1
  exact ⟨nI_cI h1, by omega⟩
theorem hdrYes {i : Int32} (h : 0 ≤ i ∧ i < 3) : i = nI (cI i) ∧ cI i < 3 := by
  obtain ⟨h1, h2⟩ := h
  rw [le_i, i0] at h1
  rw [lt_i] at h2
  have h3 := cI_int h1
  have h4 : (3 : Int32).toInt = 3 := rfl
  exact ⟨nI_cI h1, by omega⟩
/-- keep, seen from the calls -/
def KPost (I : kI) (L : kL) (X : kX) (A : kA) (I' : kI) (L' : kL) (X' : kX) : Prop := (∃ pm', HC I' L' X' pm' (keepA A)) ∧ (∀ r, (r < 21 ∨ 123 ≤ r) → I' r = I r ∧ L' r = L r ∧ X' r = X r)
theorem KPost.sm {I I' : kI} {L L' : kL} {X X' : kX} {A : kA} (h : KPost I L X A I' L' X') (hA : AInv A) (hS : Sm I L 1 (aF A) (aG A)) : Sm I' L' 1 (aF A) (aG A) := hS.frame hA.f.nT (fun r r1 r2 => ⟨(h.2 r (by omega)).1, (h.2 r (by omega)).2.1⟩)
/-- the end of a call that keeps the state and changes the plant -/
theorem RC.done {I I1 I2 : kI} {L L1 L2 : kL} {X X1 X2 : kX} {A : kA} {f : Fr} {g : Gr} (hk : KPost I L X A I1 L1 X1) (hA : AInv A) (hT : TC I A) (hS : Sm I2 L2 1 f g) (hF : Fr1 I1 I2 L1 L2) (hX : X1 = X2) : RC I2 L2 X2 (setF (keepA A) f g) ∧ FrM I I2 L L2 X X2 := by
  obtain ⟨⟨pm', hH⟩, hk2⟩ := hk
  subst hX
  refine ⟨⟨pm', (hH.frame hA.keep (fun r r1 r2 => hF r (by omega)) rfl).setF (f := f) (g := g), ?_, ?_⟩, fun r hr => ⟨((hF r (by omega)).1).trans (hk2 r (by omega)).1, ((hF r (by omega)).2).trans (hk2 r (by omega)).2.1, (hk2 r (by omega)).2.2⟩⟩
  · show Sm I2 L2 1 (va_up (keepA A).1 0 f 0) (va_up (keepA A).2.1 0 g 0)
    rw [va_up_self, va_up_self]
    exact hS
  · refine ⟨?_, fun j hj => ?_⟩
    · rw [(hF 130 (by omega)).1, (hk2 130 (by omega)).1]; exact hT.1
    · rw [(hF 131 (by omega)).1, (hk2 131 (by omega)).1]; exact hT.2 j hj
theorem tsw8 {w : Int32} (h : 0 ≤ w ∧ w ≤ 7) : w = 0 ∨ w = 1 ∨ w = 2 ∨ w = 3 ∨ w = 4 ∨ w = 5 ∨ w = 6 ∨ w = 7 := by
  simp only [le_i, eq_i, i0] at h ⊢
  have h1 : (1 : Int32).toInt = 1 := rfl
  have h2 : (2 : Int32).toInt = 2 := rfl
  have h3 : (3 : Int32).toInt = 3 := rfl
  have h4 : (4 : Int32).toInt = 4 := rfl
  have h5 : (5 : Int32).toInt = 5 := rfl
  have h6 : (6 : Int32).toInt = 6 := rfl
  have h7 : (7 : Int32).toInt = 7 := rfl
  omega
theorem tsw8n {w : Int32} (h : ¬ (0 ≤ w ∧ w ≤ 7)) : w.toInt < 0 ∨ 7 < w.toInt := by
  simp only [le_i, i0] at h
  have h7 : (7 : Int32).toInt = 7 := rfl
  omega
theorem judC_pos (k i o c p : Int32) : 0 ≤ judC k i o c p := by
  unfold judC
  (repeat' split) <;> decide
def jAll (A : kA) (t i o c : Int32) : Prop := (0 ≤ t ∧ t < aF A 1) ∧ (0 ≤ i ∧ i ≤ 300) ∧ (0 ≤ o ∧ o ≤ 300) ∧ (0 ≤ c ∧ c ≤ 60)
theorem jud_yes {A : kA} {t i o c : Int32} (h : jAll A t i o c) : rJudge A t i o c = sJud (aF A) (cI t) i o c ∧ sRead A t i o c = setF (keepA A) (readF (aF A) (cI t) (sJud (aF A) (cI t) i o c)) (aG A) := by
  unfold rJudge sRead
  rw [if_pos h.1, if_pos h.2.1, if_pos h.2.2.1, if_pos h.2.2.2, if_pos h.1, if_pos h.2.1, if_pos h.2.2.1, if_pos h.2.2.2]
  exact ⟨rfl, rfl⟩
theorem jud_no {A : kA} {t i o c : Int32} (h : ¬ jAll A t i o c) : ¬ 0 ≤ rJudge A t i o c ∧ sRead A t i o c = A := by
  unfold rJudge sRead
  by_cases h1 : 0 ≤ t ∧ t < aF A 1
  · rw [if_pos h1, if_pos h1]
    by_cases h2 : 0 ≤ i ∧ i ≤ 300
    · rw [if_pos h2, if_pos h2]
      by_cases h3 : 0 ≤ o ∧ o ≤ 300
      · rw [if_pos h3, if_pos h3]
        by_cases h4 : 0 ≤ c ∧ c ≤ 60
        · exact absurd ⟨h1, h2, h3, h4⟩ h
        · rw [if_neg h4, if_neg h4]; exact ⟨by decide, rfl⟩
      · rw [if_neg h3, if_neg h3]; exact ⟨by decide, rfl⟩
    · rw [if_neg h2, if_neg h2]; exact ⟨by decide, rfl⟩
  · rw [if_neg h1, if_neg h1]; exact ⟨by decide, rfl⟩
