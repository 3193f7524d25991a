/-! ===== a line, a trap more ===== -/
theorem trapIx {f : Fr} (hP : PInv f) {i : Int32} (h : 0 ≤ i ∧ i < f 1) : i = nI (cI i) ∧ cI i < cI (f 1) := by
  obtain ⟨h1, h2⟩ := h
  rw [le_i, i0] at h1
  rw [lt_i] at h2
  have h3 := cI_int h1
  have h4 := cI_int hP.1.2.1
  exact ⟨nI_cI h1, by omega⟩
theorem Sm.addL {I : kI} {L : kL} {f : Fr} {g : Gr} (h : Sm I L 1 f g) (hP : PInv f) (hlt : cI (f 0) < 8) (v : Int32) : Sm (up2 (up2 I 3 (cI (f 0)) v) 1 3 (f 0 + 1)) L 1 (va_up (va_up f (11 + cI (f 0)) v) 0 (f 0 + 1)) g := by
  have e0 : cI (f 0 + 1) = cI (f 0) + 1 := by
    have := hP.e0
    rw [this, nI_1, cI_nI (by omega), ← this]
  have e1 : va_up (va_up f (11 + cI (f 0)) v) 0 (f 0 + 1) 1 = f 1 := by rw [va_up_ne _ _ (by decide), va_up_ne _ _ (by omega)]
  obtain ⟨h1, h2, h3, h4, h5⟩ := h
  refine ⟨fun i hi => ?_, fun i hi => ?_, fun i hi => ?_, fun t ht => ⟨fun w hw => ?_, ?_⟩, fun t ht h16 => ?_⟩
  · by_cases hi0 : i = 0
    · subst hi0
      rw [va_up_self]; exact up2_self _ _ _ _
    · rw [up2_ne (by omega), up2_ne (by omega), va_up_ne _ _ hi0, va_up_ne _ _ (by omega)]; exact h1 i hi
  · rw [up2_ne (by omega), up2_ne (by omega), va_up_ne _ _ (by omega), va_up_ne _ _ (by omega)]; exact h2 i hi
  · rw [va_up_self, e0] at hi
    rw [up2_ne (by omega), va_up_ne _ _ (by omega)]
    by_cases hin : i = cI (f 0)
    · subst hin
      rw [va_up_self]; exact up2_self _ _ _ _
    · rw [up2_ne (by omega), va_up_ne _ _ (by omega)]; exact h3 i (by omega)
  · rw [e1] at ht
    unfold sOf
    rw [up2_ne (by omega), up2_ne (by omega), va_up_ne _ _ (by omega), va_up_ne _ _ (by omega)]; exact (h4 t ht).1 w hw
  · rw [e1] at ht
    exact (h4 t ht).2
  · rw [e1] at ht
    rw [up2_ne (by omega), up2_ne (by omega), up2_ne (by omega), up2_ne (by omega)]; exact h5 t ht h16
theorem trapF_lo {f : Fr} {a k z x y : Int32} {i : Nat} (hi : i < 19 + 7 * cI (f 1)) (h1 : i ≠ 1) : trapF f a k z x y i = f i := by
  unfold trapF
  rw [va_up_ne _ _ h1, va_up_ne _ _ (by omega), va_up_ne _ _ (by omega), va_up_ne _ _ (by omega), va_up_ne _ _ (by omega), va_up_ne _ _ (by omega), va_up_ne _ _ (by omega), va_up_ne _ _ (by omega)]
theorem trapF_1 {f : Fr} {a k z x y : Int32} : trapF f a k z x y 1 = f 1 + 1 := va_up_self _ _ _
theorem trapF_new {f : Fr} {a k z x y : Int32} : sOf (trapF f a k z x y) (cI (f 1)) 0 = a ∧ sOf (trapF f a k z x y) (cI (f 1)) 1 = k ∧ sOf (trapF f a k z x y) (cI (f 1)) 2 = z ∧ sOf (trapF f a k z x y) (cI (f 1)) 3 = x ∧ sOf (trapF f a k z x y) (cI (f 1)) 4 = y ∧ sOf (trapF f a k z x y) (cI (f 1)) 5 = 0 ∧ sOf (trapF f a k z x y) (cI (f 1)) 6 = -1 := by
  have h1 : ∀ w, 19 + 7 * cI (f 1) + w ≠ 1 := fun w => by omega
  unfold sOf trapF
  refine ⟨?_, ?_, ?_, ?_, ?_, ?_, ?_⟩ <;> rw [va_up_ne _ _ (h1 _)] <;> simp [va_up]
theorem Sm.addT {I : kI} {L : kL} {f : Fr} {g : Gr} (h : Sm I L 1 f g) (hP : PInv f) (hlt : cI (f 1) < 16) (a k z x y : Int32) : Sm (up2 (up2 (up2 (up2 (up2 (up2 I (5 + cI (f 1)) 0 a) (5 + cI (f 1)) 1 k) (5 + cI (f 1)) 2 z) (5 + cI (f 1)) 3 x) (5 + cI (f 1)) 4 y) 1 4 (f 1 + 1)) L 1 (trapF f a k z x y) (va_up g (cI (f 1)) 0) := by
  have hL := hP.nL
  have e1 : cI (f 1 + 1) = cI (f 1) + 1 := by
    have := hP.e1
    rw [this, nI_1, cI_nI (by omega), ← this]
  have e0 : trapF f a k z x y 0 = f 0 := trapF_lo (by omega) (by decide)
  have far : ∀ (r j : Nat), r ≠ 5 + cI (f 1) → (r ≠ 1 ∨ j ≠ 4) → up2 (up2 (up2 (up2 (up2 (up2 I (5 + cI (f 1)) 0 a) (5 + cI (f 1)) 1 k) (5 + cI (f 1)) 2 z) (5 + cI (f 1)) 3 x) (5 + cI (f 1)) 4 y) 1 4 (f 1 + 1) r j = I r j := fun r j hr hj => by
    rw [up2_ne hj]
    simp only [up2_row hr]
  obtain ⟨h1, h2, h3, h4, h5⟩ := h
  have nw := trapF_new (f := f) (a := a) (k := k) (z := z) (x := x) (y := y)
  have u5 := h5 (cI (f 1)) (Nat.le_refl _) hlt
  rw [show 1 + 4 + cI (f 1) = 5 + cI (f 1) by omega] at u5
  refine ⟨fun i hi => ?_, fun i hi => ?_, fun i hi => ?_, fun t ht => ?_, fun t ht h16 => ?_⟩
  · by_cases hi1 : i = 1
    · subst hi1
      rw [trapF_1]; exact up2_self _ _ _ _
    · rw [far _ _ (by omega) (by omega), trapF_lo (by omega) hi1]; exact h1 i hi
  · rw [far _ _ (by omega) (by omega), trapF_lo (by omega) (by omega)]; exact h2 i hi
  · rw [e0] at hi
    rw [far _ _ (by omega) (by omega), trapF_lo (by omega) (by omega)]; exact h3 i hi
  · rw [trapF_1, e1] at ht
    by_cases htn : t = cI (f 1)
    · subst htn
      rw [show 1 + 4 + cI (f 1) = 5 + cI (f 1) by omega, va_up_self]
      refine ⟨fun w hw => ?_, u5.2.2⟩
      rcases (show w = 0 ∨ w = 1 ∨ w = 2 ∨ w = 3 ∨ w = 4 ∨ w = 5 ∨ w = 6 by omega) with rfl | rfl | rfl | rfl | rfl | rfl | rfl
      · rw [nw.1, up2_ne (by omega)]; simp [up2]
      · rw [nw.2.1, up2_ne (by omega)]; simp [up2]
      · rw [nw.2.2.1, up2_ne (by omega)]; simp [up2]
      · rw [nw.2.2.2.1, up2_ne (by omega)]; simp [up2]
      · rw [nw.2.2.2.2.1, up2_ne (by omega)]; simp [up2]
      · rw [nw.2.2.2.2.2.1, up2_ne (by omega)]; simp [up2]; exact u5.1
      · rw [nw.2.2.2.2.2.2, up2_ne (by omega)]; simp [up2]; exact u5.2.1
    · rw [va_up_ne _ _ htn]
      refine ⟨fun w hw => ?_, (h4 t (by omega)).2⟩
      rw [far _ _ (by omega) (by omega)]
      unfold sOf
      rw [trapF_lo (by omega) (by omega)]
      exact (h4 t (by omega)).1 w hw
  · rw [trapF_1, e1] at ht
    rw [far _ _ (by omega) (by omega), far _ _ (by omega) (by omega)]
    exact h5 t (by omega) h16
