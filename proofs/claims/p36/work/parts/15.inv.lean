/-! ===== the ranges hold behind every call ===== -/
theorem PInv.upS {f : Fr} (hP : PInv f) {i : Nat} {v : Int32} (h2 : 2 ≤ i) (h8 : i < 8) (hv : (i = 2 → inR 1 v 24) ∧ (i = 3 → inR 1 v 1000) ∧ (i = 4 → inR 1 v 400) ∧ (i = 5 → inR 0 v 10000)) : PInv (va_up f i v) := by
  have hn := hP.nT
  have hn8 := hP.nL
  have ne : ∀ j, j ≠ i → va_up f i v j = f j := fun j hj => va_up_ne _ _ hj
  obtain ⟨⟨k1, k2⟩, ⟨k3, k4, k5, k6⟩, k7, k8, k9⟩ := hP
  refine ⟨⟨by rw [ne 0 (by omega)]; exact k1, by rw [ne 1 (by omega)]; exact k2⟩, ⟨?_, ?_, ?_, ?_⟩, fun h hh => by rw [ne _ (by omega)]; exact k7 h hh, fun j hj => ?_, fun t ht => ?_⟩
  · by_cases e : i = 2
    · subst e; rw [va_up_self]; exact hv.1 rfl
    · rw [ne 2 (by omega)]; exact k3
  · by_cases e : i = 3
    · subst e; rw [va_up_self]; exact hv.2.1 rfl
    · rw [ne 3 (by omega)]; exact k4
  · by_cases e : i = 4
    · subst e; rw [va_up_self]; exact hv.2.2.1 rfl
    · rw [ne 4 (by omega)]; exact k5
  · by_cases e : i = 5
    · subst e; rw [va_up_self]; exact hv.2.2.2 rfl
    · rw [ne 5 (by omega)]; exact k6
  · rw [ne 0 (by omega)] at hj
    rw [ne _ (by omega)]; exact k8 j hj
  · rw [ne 1 (by omega)] at ht
    have h10 := k9 t ht
    unfold TInv sOf at h10 ⊢
    rw [ne 0 (by omega), ne (19 + 7 * t + 0) (by omega), ne (19 + 7 * t + 1) (by omega), ne (19 + 7 * t + 2) (by omega), ne (19 + 7 * t + 3) (by omega), ne (19 + 7 * t + 4) (by omega), ne (19 + 7 * t + 5) (by omega), ne (19 + 7 * t + 6) (by omega)]
    exact h10
theorem PInv.upP {f : Fr} (hP : PInv f) {i : Nat} {v : Int32} (hi : i < 3) (hv : inR 1 v 20) : PInv (va_up f (8 + i) v) := by
  have hn := hP.nT
  have hn8 := hP.nL
  have ne : ∀ j, j ≠ 8 + i → va_up f (8 + i) v j = f j := fun j hj => va_up_ne _ _ hj
  obtain ⟨⟨k1, k2⟩, ⟨k3, k4, k5, k6⟩, k7, k8, k9⟩ := hP
  refine ⟨⟨by rw [ne 0 (by omega)]; exact k1, by rw [ne 1 (by omega)]; exact k2⟩, ⟨by rw [ne 2 (by omega)]; exact k3, by rw [ne 3 (by omega)]; exact k4, by rw [ne 4 (by omega)]; exact k5, by rw [ne 5 (by omega)]; exact k6⟩, fun h hh => ?_, fun j hj => ?_, fun t ht => ?_⟩
  · by_cases e : h = i
    · subst e; rw [va_up_self]; exact hv
    · rw [ne _ (by omega)]; exact k7 h hh
  · rw [ne 0 (by omega)] at hj
    rw [ne _ (by omega)]; exact k8 j hj
  · rw [ne 1 (by omega)] at ht
    have h10 := k9 t ht
    unfold TInv sOf at h10 ⊢
    rw [ne 0 (by omega), ne (19 + 7 * t + 0) (by omega), ne (19 + 7 * t + 1) (by omega), ne (19 + 7 * t + 2) (by omega), ne (19 + 7 * t + 3) (by omega), ne (19 + 7 * t + 4) (by omega), ne (19 + 7 * t + 5) (by omega), ne (19 + 7 * t + 6) (by omega)]
    exact h10
theorem PInv.upH {f : Fr} (hP : PInv f) {i : Nat} {v : Int32} (hi : i < 8) (hv : inR 0 v 2) : PInv (va_up f (11 + i) v) := by
  have hn := hP.nT
  have hn8 := hP.nL
  have ne : ∀ j, j ≠ 11 + i → va_up f (11 + i) v j = f j := fun j hj => va_up_ne _ _ hj
  obtain ⟨⟨k1, k2⟩, ⟨k3, k4, k5, k6⟩, k7, k8, k9⟩ := hP
  refine ⟨⟨by rw [ne 0 (by omega)]; exact k1, by rw [ne 1 (by omega)]; exact k2⟩, ⟨by rw [ne 2 (by omega)]; exact k3, by rw [ne 3 (by omega)]; exact k4, by rw [ne 4 (by omega)]; exact k5, by rw [ne 5 (by omega)]; exact k6⟩, fun h hh => by rw [ne _ (by omega)]; exact k7 h hh, fun j hj => ?_, fun t ht => ?_⟩
  · rw [ne 0 (by omega)] at hj
    by_cases e : j = i
    · subst e; rw [va_up_self]; exact hv
    · rw [ne _ (by omega)]; exact k8 j hj
  · rw [ne 1 (by omega)] at ht
    have h10 := k9 t ht
    unfold TInv sOf at h10 ⊢
    rw [ne 0 (by omega), ne (19 + 7 * t + 0) (by omega), ne (19 + 7 * t + 1) (by omega), ne (19 + 7 * t + 2) (by omega), ne (19 + 7 * t + 3) (by omega), ne (19 + 7 * t + 4) (by omega), ne (19 + 7 * t + 5) (by omega), ne (19 + 7 * t + 6) (by omega)]
    exact h10
theorem PInv.addL {f : Fr} (hP : PInv f) {v : Int32} (hv : inR 0 v 2) (hlt : cI (f 0) < 8) : PInv (va_up (va_up f (11 + cI (f 0)) v) 0 (f 0 + 1)) := by
  have hn := hP.nT
  have e0 : cI (f 0 + 1) = cI (f 0) + 1 := by
    have := hP.e0
    rw [this, nI_1, cI_nI (by omega), ← this]
  have hi := cI_int hP.1.1.1
  have ei : (f 0 + 1).toInt = (f 0).toInt + 1 := by rw [add_i (by have : (1 : Int32).toInt = 1 := rfl; omega) (by have : (1 : Int32).toInt = 1 := rfl; omega)]; rfl
  have ne : ∀ j, j ≠ 0 → j ≠ 11 + cI (f 0) → va_up (va_up f (11 + cI (f 0)) v) 0 (f 0 + 1) j = f j := fun j h1 h2 => by rw [va_up_ne _ _ h1, va_up_ne _ _ h2]
  obtain ⟨⟨k1, k2⟩, ⟨k3, k4, k5, k6⟩, k7, k8, k9⟩ := hP
  unfold inR at k1
  refine ⟨⟨by rw [va_up_self]; unfold inR; omega, by rw [ne 1 (by omega) (by omega)]; exact k2⟩, ⟨by rw [ne 2 (by omega) (by omega)]; exact k3, by rw [ne 3 (by omega) (by omega)]; exact k4, by rw [ne 4 (by omega) (by omega)]; exact k5, by rw [ne 5 (by omega) (by omega)]; exact k6⟩, fun h hh => by rw [ne _ (by omega) (by omega)]; exact k7 h hh, fun j hj => ?_, fun t ht => ?_⟩
  · rw [va_up_self, e0] at hj
    by_cases e : j = cI (f 0)
    · subst e; rw [va_up_ne _ _ (by omega), va_up_self]; exact hv
    · rw [ne _ (by omega) (by omega)]; exact k8 j (by omega)
  · rw [ne 1 (by omega) (by omega)] at ht
    have h10 := k9 t ht
    unfold TInv sOf at h10 ⊢
    rw [va_up_self, ne (19 + 7 * t + 0) (by omega) (by omega), ne (19 + 7 * t + 1) (by omega) (by omega), ne (19 + 7 * t + 2) (by omega) (by omega), ne (19 + 7 * t + 3) (by omega) (by omega), ne (19 + 7 * t + 4) (by omega) (by omega), ne (19 + 7 * t + 5) (by omega) (by omega), ne (19 + 7 * t + 6) (by omega) (by omega)]
    exact ⟨by have := h10.1; omega, h10.2⟩
theorem PInv.addT {f : Fr} (hP : PInv f) {a k z x y : Int32} (hlt : cI (f 1) < 16) (ha : 0 ≤ a.toInt ∧ a.toInt < (f 0).toInt) (hk : inR 0 k 2) (hz : inR 1 z 9) (hx : inR 0 x 50) (hy : inR 0 y 50) : PInv (trapF f a k z x y) := by
  have hn8 := hP.nL
  have e1 : cI (f 1 + 1) = cI (f 1) + 1 := by
    have := hP.e1
    rw [this, nI_1, cI_nI (by omega), ← this]
  have hi := cI_int hP.1.2.1
  have ei : (f 1 + 1).toInt = (f 1).toInt + 1 := by have hr := hP.1.2; unfold inR at hr; rw [add_i (by have : (1 : Int32).toInt = 1 := rfl; omega) (by have : (1 : Int32).toInt = 1 := rfl; omega)]; rfl
  have ne : ∀ j, j ≠ 1 → j < 19 + 7 * cI (f 1) → trapF f a k z x y j = f j := fun j h1 h2 => trapF_lo h2 h1
  have nw := trapF_new (f := f) (a := a) (k := k) (z := z) (x := x) (y := y)
  obtain ⟨⟨k1, k2⟩, ⟨k3, k4, k5, k6⟩, k7, k8, k9⟩ := hP
  unfold inR at k2
  refine ⟨⟨by rw [ne 0 (by omega) (by omega)]; exact k1, by rw [trapF_1]; unfold inR; omega⟩, ⟨by rw [ne 2 (by omega) (by omega)]; exact k3, by rw [ne 3 (by omega) (by omega)]; exact k4, by rw [ne 4 (by omega) (by omega)]; exact k5, by rw [ne 5 (by omega) (by omega)]; exact k6⟩, fun h hh => by rw [ne _ (by omega) (by omega)]; exact k7 h hh, fun j hj => ?_, fun t ht => ?_⟩
  · rw [ne 0 (by omega) (by omega)] at hj
    rw [ne _ (by omega) (by omega)]; exact k8 j hj
  · rw [trapF_1, e1] at ht
    by_cases e : t = cI (f 1)
    · subst e
      unfold TInv
      rw [nw.1, nw.2.1, nw.2.2.1, nw.2.2.2.1, nw.2.2.2.2.1, nw.2.2.2.2.2.1, nw.2.2.2.2.2.2, ne 0 (by omega) (by omega)]
      exact ⟨ha, hk, hz, hx, hy, ⟨by decide, by decide⟩, ⟨by decide, by decide⟩⟩
    · have h10 := k9 t (by omega)
      unfold TInv sOf at h10 ⊢
      rw [ne 0 (by omega) (by omega), ne (19 + 7 * t + 0) (by omega) (by omega), ne (19 + 7 * t + 1) (by omega) (by omega), ne (19 + 7 * t + 2) (by omega) (by omega), ne (19 + 7 * t + 3) (by omega) (by omega), ne (19 + 7 * t + 4) (by omega) (by omega), ne (19 + 7 * t + 5) (by omega) (by omega), ne (19 + 7 * t + 6) (by omega) (by omega)]
      exact h10
theorem PInv.upT {f : Fr} (hP : PInv f) {t w : Nat} {v : Int32} (ht : t < cI (f 1)) (hw : w = 5 ∧ inR 0 v 5 ∨ w = 6 ∧ inR (-1) v 10000) : PInv (va_up f (19 + 7 * t + w) v) := by
  have hn := hP.nT
  have hn8 := hP.nL
  have lo : ∀ i, i < 19 → va_up f (19 + 7 * t + w) v i = f i := fun i hi => va_up_ne _ _ (by omega)
  obtain ⟨⟨h1, h2⟩, ⟨h3, h4, h5, h6⟩, h7, h8, h9⟩ := hP
  refine ⟨⟨by rw [lo 0 (by decide)]; exact h1, by rw [lo 1 (by decide)]; exact h2⟩, ⟨by rw [lo 2 (by decide)]; exact h3, by rw [lo 3 (by decide)]; exact h4, by rw [lo 4 (by decide)]; exact h5, by rw [lo 5 (by decide)]; exact h6⟩, fun h hh => by rw [lo _ (by omega)]; exact h7 h hh, fun i hi => ?_, fun t' ht' => ?_⟩
  · rw [lo 0 (by decide)] at hi
    rw [lo _ (by omega)]; exact h8 i hi
  · rw [lo 1 (by decide)] at ht'
    have h10 := h9 t' ht'
    unfold TInv sOf at h10 ⊢
    rw [lo 0 (by decide)]
    have keep : ∀ w', w' < 7 → (t' ≠ t ∨ w' ≠ w) → va_up f (19 + 7 * t + w) v (19 + 7 * t' + w') = f (19 + 7 * t' + w') := fun w' hw' hne => va_up_ne _ _ (by omega)
    by_cases htt : t' = t
    · subst htt
      rcases hw with ⟨rfl, hv⟩ | ⟨rfl, hv⟩
      · rw [keep 0 (by decide) (by omega), keep 1 (by decide) (by omega), keep 2 (by decide) (by omega), keep 3 (by decide) (by omega), keep 4 (by decide) (by omega), va_up_self, keep 6 (by decide) (by omega)]
        exact ⟨h10.1, h10.2.1, h10.2.2.1, h10.2.2.2.1, h10.2.2.2.2.1, hv, h10.2.2.2.2.2.2⟩
      · rw [keep 0 (by decide) (by omega), keep 1 (by decide) (by omega), keep 2 (by decide) (by omega), keep 3 (by decide) (by omega), keep 4 (by decide) (by omega), keep 5 (by decide) (by omega), va_up_self]
        exact ⟨h10.1, h10.2.1, h10.2.2.1, h10.2.2.2.1, h10.2.2.2.2.1, h10.2.2.2.2.2.1, hv⟩
    · rw [keep 0 (by decide) (by omega), keep 1 (by decide) (by omega), keep 2 (by decide) (by omega), keep 3 (by decide) (by omega), keep 4 (by decide) (by omega), keep 5 (by decide) (by omega), keep 6 (by decide) (by omega)]
      exact h10
theorem PInv.st1 {f : Fr} (hP : PInv f) {t : Nat} (ht : t < cI (f 1)) : PInv (va_up f (19 + 7 * t + 5) 1) := hP.upT ht (Or.inl ⟨rfl, ⟨by decide, by decide⟩⟩)
theorem PInv.mend {f : Fr} (hP : PInv f) {t : Nat} (ht : t < cI (f 1)) : PInv (mendF f t) := by
  unfold mendF
  exact ((hP.st1 ht).upS (i := 6) (by decide) (by decide) ⟨by omega, by omega, by omega, by omega⟩).upS (i := 7) (by decide) (by decide) ⟨by omega, by omega, by omega, by omega⟩
theorem judC_rng (k i o c p : Int32) : inR 0 (judC k i o c p) 5 := by
  unfold judC
  (repeat' split) <;> exact ⟨by decide, by decide⟩
theorem PInv.read {f : Fr} (hP : PInv f) {t : Nat} (ht : t < cI (f 1)) {v : Int32} (hv : inR 0 v 5) : PInv (readF f t v) := by
  unfold readF
  refine (hP.upT ht (Or.inl ⟨rfl, hv⟩)).upT (w := 6) (by rw [va_up_ne _ _ (by omega)]; exact ht) (Or.inr ⟨rfl, ?_⟩)
  have := hP.2.1.2.2.2
  unfold inR at this ⊢
  omega
theorem lit_rng {x : Int32} {a b : Nat} (ha : a < 2 ^ 31) (hb : b < 2 ^ 31) (h : nI a ≤ x ∧ x ≤ nI b) : inR a x b := by
  obtain ⟨h1, h2⟩ := h
  rw [le_i, nI_toInt ha] at h1
  rw [le_i, nI_toInt hb] at h2
  exact ⟨h1, h2⟩
theorem inv_setPressure {A : kA} (hA : AInv A) (h p : Int32) : AInv (sSetPressure A h p) := by
  unfold sSetPressure
  split
  · split
    · rename_i h1 h2
      exact hA.keep.set (hA.f.upP (hdrYes h1).2 (lit_rng (a := 1) (b := 20) (by decide) (by decide) h2))
    · exact hA
  · exact hA
theorem inv_addLine {A : kA} (hA : AInv A) (h : Int32) : AInv (sAddLine A h) := by
  unfold sAddLine
  split
  · split
    · exact hA
    · rename_i h1 h2
      have hlt : cI (aF A 0) < 8 := by
        have := hA.f.nL
        rcases Nat.lt_or_ge (cI (aF A 0)) 8 with q | q
        · exact q
        · exact absurd (by rw [hA.f.e0, show cI (aF A 0) = 8 by omega]; rfl) h2
      have h3 := in_two.mpr h1
      exact hA.keep.set (hA.f.addL (lit_rng (a := 0) (b := 2) (by decide) (by decide) h3) hlt)
  · exact hA
theorem inv_addTrap {A : kA} (hA : AInv A) (a k z x y : Int32) : AInv (sAddTrap A a k z x y) := by
  unfold sAddTrap
  by_cases h1 : 0 ≤ a ∧ a < aF A 0
  · rw [if_pos h1]
    by_cases h2 : 0 ≤ k ∧ k ≤ 2
    · rw [if_pos h2]
      by_cases h3 : 1 ≤ z ∧ z ≤ 9
      · rw [if_pos h3]
        by_cases h4 : 0 ≤ x ∧ x ≤ 50
        · rw [if_pos h4]
          by_cases h5 : 0 ≤ y ∧ y ≤ 50
          · rw [if_pos h5]
            by_cases h6 : aF A 1 = 16
            · rw [if_pos h6]; exact hA
            · rw [if_neg h6]
              have hlt : cI (aF A 1) < 16 := by
                have := hA.f.nT
                rcases Nat.lt_or_ge (cI (aF A 1)) 16 with q | q
                · exact q
                · exact absurd (by rw [hA.f.e1, show cI (aF A 1) = 16 by omega]; rfl) h6
              refine hA.keep.set (hA.f.addT hlt ?_ (lit_rng (a := 0) (b := 2) (by decide) (by decide) h2) (lit_rng (a := 1) (b := 9) (by decide) (by decide) h3) (lit_rng (a := 0) (b := 50) (by decide) (by decide) h4) (lit_rng (a := 0) (b := 50) (by decide) (by decide) h5))
              simp only [le_i, lt_i, i0] at h1
              exact h1
          · rw [if_neg h5]; exact hA
        · rw [if_neg h4]; exact hA
      · rw [if_neg h3]; exact hA
    · rw [if_neg h2]; exact hA
  · rw [if_neg h1]; exact hA
theorem inv_moveLine {A : kA} (hA : AInv A) (i h : Int32) : AInv (sMoveLine A i h) := by
  unfold sMoveLine
  split
  · split
    · rename_i h1 h2
      have := hA.f.nL
      have := (lineYes hA.f h1).2
      exact hA.keep.set (hA.f.upH (by omega) (lit_rng (a := 0) (b := 2) (by decide) (by decide) (in_two.mpr h2)))
    · exact hA
  · exact hA
theorem inv_setWork {A : kA} (hA : AInv A) (a p i : Int32) : AInv (sSetWork A a p i) := by
  unfold sSetWork
  by_cases h1 : 1 ≤ a ∧ a ≤ 24
  · rw [if_pos h1]
    by_cases h2 : 1 ≤ p ∧ p ≤ 1000
    · rw [if_pos h2]
      by_cases h3 : 1 ≤ i ∧ i ≤ 400
      · rw [if_pos h3]
        refine hA.keep.set (((hA.f.upS (i := 2) (by decide) (by decide) ⟨fun _ => lit_rng (a := 1) (b := 24) (by decide) (by decide) h1, by omega, by omega, by omega⟩).upS (i := 3) (by decide) (by decide) ⟨by omega, fun _ => lit_rng (a := 1) (b := 1000) (by decide) (by decide) h2, by omega, by omega⟩).upS (i := 4) (by decide) (by decide) ⟨by omega, by omega, fun _ => lit_rng (a := 1) (b := 400) (by decide) (by decide) h3, by omega⟩)
      · rw [if_neg h3]; exact hA
    · rw [if_neg h2]; exact hA
  · rw [if_neg h1]; exact hA
theorem inv_read {A : kA} (hA : AInv A) (t i o c : Int32) : AInv (sRead A t i o c) := by
  by_cases h : jAll A t i o c
  · rw [(jud_yes h).2]
    exact hA.keep.set (hA.f.read (trapIx hA.f h.1).2 (judC_rng _ _ _ _ _))
  · rw [(jud_no h).2]; exact hA
theorem pass_rng {f : Fr} (hP : PInv f) {d : Int32} (h1 : 1 ≤ d ∧ d ≤ 100) (h2 : ¬ 10000 < f 5 + d) : inR 0 (f 5 + d) 10000 := by
  have h3 := hP.2.1.2.2.2
  have h4 := lit_rng (a := 1) (b := 100) (by decide) (by decide) h1
  unfold inR at h3 h4 ⊢
  have e : (f 5 + d).toInt = (f 5).toInt + d.toInt := add_i (by omega) (by omega)
  rw [lt_i, show (10000 : Int32).toInt = 10000 from rfl] at h2
  omega
theorem inv_pass {A : kA} (hA : AInv A) (d : Int32) : AInv (sPass A d) := by
  unfold sPass
  split
  · split
    · exact hA
    · rename_i h1 h2
      exact hA.keep.set (hA.f.upS (i := 5) (by decide) (by decide) ⟨by omega, by omega, by omega, fun _ => pass_rng hA.f h1 h2⟩)
  · exact hA
theorem inv_repair {A : kA} (hA : AInv A) (t : Int32) : AInv (sRepair A t) := by
  unfold sRepair
  split
  · split
    · exact hA
    · rename_i h1 h2
      exact hA.keep.set (hA.f.mend (trapIx hA.f h1).2)
  · exact hA
theorem inv_undo {A : kA} (hA : AInv A) : AInv (sUndo A) := by
  unfold sUndo
  split
  · exact hA
  · obtain ⟨h1, h2, h3⟩ := hA
    refine ⟨?_, h2, fun k hk => ?_⟩
    · show aN A - 1 ≤ 5
      omega
    · have hk' : k ≤ aN A - 1 := hk
      show PInv (va_up A.1 0 (A.1 (aN A)) k)
      by_cases h0 : k = 0
      · subst h0; rw [va_up_self]; exact h3 _ (Nat.le_refl _)
      · rw [va_up_ne _ _ h0]; exact h3 k (by omega)
theorem inv_type {A : kA} (hA : AInv A) (c : Int32) : AInv (sType A c) := by
  unfold sType
  split
  · split
    · exact hA
    · obtain ⟨h1, h2, h3⟩ := hA
      exact ⟨h1, by show aK A + 1 ≤ 100; omega, h3⟩
  · exact hA
theorem inv_clear {A : kA} (hA : AInv A) : AInv (sClear A) := ⟨hA.1, Nat.zero_le _, hA.2.2⟩
theorem sLoss_up5 {f : Fr} {v : Int32} (t : Nat) : sLoss (va_up f 5 v) t = sLoss f t := by
  have h : ∀ i, 8 ≤ i → va_up f 5 v i = f i := fun i hi => va_up_ne _ _ (by omega)
  unfold sLoss sP sH sOf
  rw [h (19 + 7 * t + 0) (by omega), h (19 + 7 * t + 2) (by omega), h (19 + 7 * t + 5) (by omega), h (11 + cI (f (19 + 7 * t + 0))) (by omega), h (8 + cI (f (11 + cI (f (19 + 7 * t + 0))))) (by omega)]
theorem aF_keep (A : kA) : aF (keepA A) = aF A := kpS_0 _ _
theorem aG_keep (A : kA) : aG (keepA A) = aG A := kpS_0 _ _
