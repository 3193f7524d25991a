/-! ===== what a change does, as the law sees it ===== -/
def QI (f : Fr) : Prop := ∀ t, t < cI (f 1) → (sOf f t 5 = 0 ↔ sOf f t 6 = -1) ∧ (sOf f t 6).toInt ≤ (f 5).toInt
def StF (f f' : Fr) : Prop := QI f' ∧ (f' 5).toInt ≤ (f 5).toInt + 40 ∧ cI (f 0) ≤ cI (f' 0) ∧ cI (f 1) ≤ cI (f' 1)
def Sp (A : kA) (v : Int32) (A' : kA) : Prop := (v.toInt < 0 ∧ A' = A) ∨ (0 ≤ v.toInt ∧ ∃ f' g', A' = setF (keepA A) f' g' ∧ StF (aF A) f')
theorem aF_set (A : kA) (f : Fr) (g : Gr) : aF (setF A f g) = f := va_up_self A.1 0 f
theorem aG_set (A : kA) (f : Fr) (g : Gr) : aG (setF A f g) = g := va_up_self A.2.1 0 g
theorem undo_rec (A : kA) (hA : AInv A) (f : Fr) (g : Gr) : aF (sUndo (setF (keepA A) f g)) = aF A ∧ aG (sUndo (setF (keepA A) f g)) = aG A ∧ 0 ≤ (rUndo (setF (keepA A) f g)).toInt := by
  have hn := hA.1
  have eN : aN (setF (keepA A) f g) = if aN A = 5 then 5 else aN A + 1 := rfl
  have h0 : ¬ aN (setF (keepA A) f g) = 0 := by rw [eN]; split <;> omega
  have key : ∀ {α : Type} (B : Nat → α) (x : α), va_up (kpS B (aN A)) 0 x (if aN A = 5 then 5 else aN A + 1) = B 0 := by
    intro α B x
    rw [va_up_ne _ _ (by split <;> omega)]
    unfold kpS
    by_cases h5 : aN A = 5
    · rw [if_pos h5, if_pos h5, if_pos rfl]
    · rw [if_neg h5, if_neg h5, if_pos rfl]
  unfold sUndo rUndo
  rw [if_neg h0, if_neg h0]
  refine ⟨?_, ?_, ?_⟩
  · show va_up (setF (keepA A) f g).1 0 ((setF (keepA A) f g).1 (aN (setF (keepA A) f g))) 0 = aF A
    rw [va_up_self, eN]
    exact key A.1 f
  · show va_up (setF (keepA A) f g).2.1 0 ((setF (keepA A) f g).2.1 (aN (setF (keepA A) f g))) 0 = aG A
    rw [va_up_self, eN]
    exact key A.2.1 g
  · rw [nI_toInt (by rw [eN]; split <;> omega)]
    omega
theorem dig_eq {A A' : kA} (h1 : aF A = aF A') (h2 : aG A = aG A') : rDigest A = rDigest A' := by
  unfold rDigest
  rw [h1, h2]
theorem QI.of {f f' : Fr} (h : QI f) (e1 : f' 1 = f 1) (es : ∀ t w, t < cI (f 1) → w < 7 → sOf f' t w = sOf f t w) (e5 : (f 5).toInt ≤ (f' 5).toInt) : QI f' := by
  intro t ht
  rw [e1] at ht
  have h2 := h t ht
  rw [es t 5 ht (by decide), es t 6 ht (by decide)]
  exact ⟨h2.1, by omega⟩
theorem StF.up {f : Fr} (h : QI f) {i : Nat} {v : Int32} (h1 : 2 ≤ i) (h5 : i ≠ 5) (h19 : i < 19) : StF f (va_up f i v) := by
  have e : ∀ j, j ≠ i → va_up f i v j = f j := fun j hj => va_up_ne _ _ hj
  refine ⟨h.of (e 1 (by omega)) (fun t w _ _ => e _ (by omega)) (by rw [e 5 (by omega)]; omega), by rw [e 5 (by omega)]; omega, by rw [e 0 (by omega)]; omega, by rw [e 1 (by omega)]; omega⟩
theorem m_neg {x : Int32} (h : x = -2 ∨ x = -3 ∨ x = -4 ∨ x = -5) : x.toInt < 0 := by rcases h with rfl | rfl | rfl | rfl <;> decide
section SPX
variable {A : kA}
theorem sp_setPressure (hA : AInv A) (hQ : QI (aF A)) (h p : Int32) : Sp A (rSetPressure A h p) (sSetPressure A h p) := by
  unfold rSetPressure sSetPressure
  by_cases h1 : 0 ≤ h ∧ h < 3
  · rw [if_pos h1, if_pos h1]
    by_cases h2 : 1 ≤ p ∧ p ≤ 20
    · rw [if_pos h2, if_pos h2]
      have h3 := (hdrYes h1).2
      have h4 := (hA.f.p h3).1
      exact Or.inr ⟨by omega, _, _, rfl, StF.up hQ (by omega) (by omega) (by omega)⟩
    · rw [if_neg h2, if_neg h2]; exact Or.inl ⟨by decide, rfl⟩
  · rw [if_neg h1, if_neg h1]; exact Or.inl ⟨by decide, rfl⟩
theorem sp_addLine (hA : AInv A) (hQ : QI (aF A)) (h : Int32) : Sp A (rAddLine A h) (sAddLine A h) := by
  unfold rAddLine sAddLine
  have hn := hA.f.nL
  have h0 := hA.f.1.1.1
  by_cases h1 : 0 ≤ h ∧ h < 3
  · rw [if_pos h1, if_pos h1]
    by_cases h2 : aF A 0 = 8
    · rw [if_pos h2, if_pos h2]; exact Or.inl ⟨by decide, rfl⟩
    · rw [if_neg h2, if_neg h2]
      have hlt : cI (aF A 0) < 8 := by
        rcases Nat.lt_or_ge (cI (aF A 0)) 8 with q | q
        · exact q
        · exact absurd (by rw [hA.f.e0, show cI (aF A 0) = 8 by omega]; rfl) h2
      have e0 : cI (aF A 0 + 1) = cI (aF A 0) + 1 := by
        have := hA.f.e0
        rw [this, nI_1, cI_nI (by omega), ← this]
      have e : ∀ j, j ≠ 0 → j ≠ 11 + cI (aF A 0) → va_up (va_up (aF A) (11 + cI (aF A 0)) h) 0 (aF A 0 + 1) j = aF A j := fun j a b => by rw [va_up_ne _ _ a, va_up_ne _ _ b]
      refine Or.inr ⟨h0, _, _, rfl, hQ.of (e 1 (by omega) (by omega)) (fun t w _ _ => e _ (by omega) (by omega)) (by rw [e 5 (by omega) (by omega)]; omega), by rw [e 5 (by omega) (by omega)]; omega, ?_, by rw [e 1 (by omega) (by omega)]; omega⟩
      rw [va_up_self, e0]
      omega
  · rw [if_neg h1, if_neg h1]; exact Or.inl ⟨by decide, rfl⟩
theorem sp_addTrap (hA : AInv A) (hQ : QI (aF A)) (a k z x y : Int32) : Sp A (rAddTrap A a k z x y) (sAddTrap A a k z x y) := by
  unfold rAddTrap sAddTrap
  have hn := hA.f.nT
  have h0 := hA.f.1.2.1
  have r5 := hA.f.2.1.2.2.2.1
  by_cases h1 : 0 ≤ a ∧ a < aF A 0
  · rw [if_pos h1, if_pos h1]
    by_cases h2 : 0 ≤ k ∧ k ≤ 2
    · rw [if_pos h2, if_pos h2]
      by_cases h3 : 1 ≤ z ∧ z ≤ 9
      · rw [if_pos h3, if_pos h3]
        by_cases h4 : 0 ≤ x ∧ x ≤ 50
        · rw [if_pos h4, if_pos h4]
          by_cases h5 : 0 ≤ y ∧ y ≤ 50
          · rw [if_pos h5, if_pos h5]
            by_cases h6 : aF A 1 = 16
            · rw [if_pos h6, if_pos h6]; exact Or.inl ⟨by decide, rfl⟩
            · rw [if_neg h6, if_neg h6]
              have hlt : cI (aF A 1) < 16 := by
                rcases Nat.lt_or_ge (cI (aF A 1)) 16 with q | q
                · exact q
                · exact absurd (by rw [hA.f.e1, show cI (aF A 1) = 16 by omega]; rfl) h6
              have e1 : cI (aF A 1 + 1) = cI (aF A 1) + 1 := by
                have := hA.f.e1
                rw [this, nI_1, cI_nI (by omega), ← this]
              have nw := trapF_new (f := aF A) (a := a) (k := k) (z := z) (x := x) (y := y)
              have e5 : trapF (aF A) a k z x y 5 = aF A 5 := trapF_lo (by omega) (by decide)
              refine Or.inr ⟨h0, _, _, rfl, fun t ht => ?_, by rw [e5]; omega, by rw [trapF_lo (by omega) (by decide)]; omega, by rw [trapF_1, e1]; omega⟩
              rw [trapF_1, e1] at ht
              rw [e5]
              by_cases e : t = cI (aF A 1)
              · subst e
                rw [nw.2.2.2.2.2.1, nw.2.2.2.2.2.2]
                refine ⟨⟨fun _ => rfl, fun _ => rfl⟩, ?_⟩
                have : (-1 : Int32).toInt = -1 := rfl
                omega
              · unfold sOf
                rw [trapF_lo (by omega) (by omega), trapF_lo (by omega) (by omega)]
                exact hQ t (by omega)
          · rw [if_neg h5, if_neg h5]; exact Or.inl ⟨by decide, rfl⟩
        · rw [if_neg h4, if_neg h4]; exact Or.inl ⟨by decide, rfl⟩
      · rw [if_neg h3, if_neg h3]; exact Or.inl ⟨by decide, rfl⟩
    · rw [if_neg h2, if_neg h2]; exact Or.inl ⟨by decide, rfl⟩
  · rw [if_neg h1, if_neg h1]; exact Or.inl ⟨by decide, rfl⟩
theorem sp_moveLine (hA : AInv A) (hQ : QI (aF A)) (i h : Int32) : Sp A (rMoveLine A i h) (sMoveLine A i h) := by
  unfold rMoveLine sMoveLine
  have hn := hA.f.nL
  by_cases h1 : 0 ≤ i ∧ i < aF A 0
  · rw [if_pos h1, if_pos h1]
    by_cases h2 : 0 ≤ h ∧ h < 3
    · rw [if_pos h2, if_pos h2]
      have h3 := (lineYes hA.f h1).2
      exact Or.inr ⟨(hA.f.l h3).1, _, _, rfl, StF.up hQ (by omega) (by omega) (by omega)⟩
    · rw [if_neg h2, if_neg h2]; exact Or.inl ⟨by decide, rfl⟩
  · rw [if_neg h1, if_neg h1]; exact Or.inl ⟨by decide, rfl⟩
theorem StF.trans2 {f f' f2 : Fr} (h : StF f f') (e : StF f' f2) (e5 : f2 5 = f' 5) : StF f f2 := by
  obtain ⟨a1, a2, a3, a4⟩ := h
  obtain ⟨b1, b2, b3, b4⟩ := e
  exact ⟨b1, by rw [e5]; exact a2, by omega, by omega⟩
theorem sp_setWork (hA : AInv A) (hQ : QI (aF A)) (a p i : Int32) : Sp A (rSetWork A a p i) (sSetWork A a p i) := by
  unfold rSetWork sSetWork
  by_cases h1 : 1 ≤ a ∧ a ≤ 24
  · rw [if_pos h1, if_pos h1]
    by_cases h2 : 1 ≤ p ∧ p ≤ 1000
    · rw [if_pos h2, if_pos h2]
      by_cases h3 : 1 ≤ i ∧ i ≤ 400
      · rw [if_pos h3, if_pos h3]
        have h4 := hA.f.2.1.1.1
        have s1 : StF (aF A) (va_up (aF A) 2 a) := StF.up hQ (by omega) (by omega) (by omega)
        have s2 := s1.trans2 (StF.up s1.1 (i := 3) (v := p) (by omega) (by omega) (by omega)) (va_up_ne _ _ (by omega))
        exact Or.inr ⟨by omega, _, _, rfl, s2.trans2 (StF.up s2.1 (i := 4) (v := i) (by omega) (by omega) (by omega)) (va_up_ne _ _ (by omega))⟩
      · rw [if_neg h3, if_neg h3]; exact Or.inl ⟨by decide, rfl⟩
    · rw [if_neg h2, if_neg h2]; exact Or.inl ⟨by decide, rfl⟩
  · rw [if_neg h1, if_neg h1]; exact Or.inl ⟨by decide, rfl⟩
theorem sp_pass (hA : AInv A) (hQ : QI (aF A)) {d : Int32} (hd : d.toInt ≤ 40) : Sp A (rPass A d) (sPass A d) := by
  unfold rPass sPass
  have r5 := hA.f.2.1.2.2.2
  by_cases h1 : 1 ≤ d ∧ d ≤ 100
  · rw [if_pos h1, if_pos h1]
    by_cases h2 : 10000 < aF A 5 + d
    · rw [if_pos h2, if_pos h2]; exact Or.inl ⟨by decide, rfl⟩
    · rw [if_neg h2, if_neg h2]
      have h3 := pass_rng hA.f h1 h2
      have h4 := lit_rng (a := 1) (b := 100) (by decide) (by decide) h1
      unfold inR at r5 h3 h4
      have e : (aF A 5 + d).toInt = (aF A 5).toInt + d.toInt := add_i (by omega) (by omega)
      have e0 : ∀ j, j ≠ 5 → va_up (aF A) 5 (aF A 5 + d) j = aF A j := fun j hj => va_up_ne _ _ hj
      refine Or.inr ⟨by omega, _, _, rfl, hQ.of (e0 1 (by omega)) (fun t w _ _ => e0 _ (by omega)) (by rw [va_up_self]; omega), by rw [va_up_self]; omega, by rw [e0 0 (by omega)]; omega, by rw [e0 1 (by omega)]; omega⟩
  · rw [if_neg h1, if_neg h1]; exact Or.inl ⟨by decide, rfl⟩
theorem mend_at {f : Fr} {t : Nat} : (∀ i, i ≠ 19 + 7 * t + 5 → i ≠ 6 → i ≠ 7 → mendF f t i = f i) ∧ mendF f t (19 + 7 * t + 5) = 1 ∧ mendF f t 6 = f 6 + sCost f t ∧ mendF f t 7 = f 7 + 1 := by
  unfold mendF
  refine ⟨fun i a1 a2 a3 => by rw [va_up_ne _ _ a3, va_up_ne _ _ a2, va_up_ne _ _ a1], ?_, ?_, ?_⟩
  · rw [va_up_ne _ _ (by omega), va_up_ne _ _ (by omega), va_up_self]
  · rw [va_up_ne _ _ (by omega), va_up_self]
  · rw [va_up_self]
theorem StF.mend {f : Fr} (hQ : QI f) {t : Nat} (hs : ¬ sOf f t 5 = 0) (ht : t < cI (f 1)) : StF f (mendF f t) := by
  obtain ⟨m1, m2, m3, m4⟩ := mend_at (f := f) (t := t)
  refine ⟨fun b hb => ?_, by rw [m1 5 (by omega) (by omega) (by omega)]; omega, by rw [m1 0 (by omega) (by omega) (by omega)]; omega, by rw [m1 1 (by omega) (by omega) (by omega)]; omega⟩
  rw [m1 1 (by omega) (by omega) (by omega)] at hb
  have h1 := hQ b hb
  rw [m1 5 (by omega) (by omega) (by omega)]
  unfold sOf at h1 hs ⊢
  rw [m1 (19 + 7 * b + 6) (by omega) (by omega) (by omega)]
  by_cases e : b = t
  · subst e
    rw [m2]
    exact ⟨⟨fun q => absurd q (by decide), fun q => absurd (h1.1.mpr q) hs⟩, h1.2⟩
  · rw [m1 (19 + 7 * b + 5) (by omega) (by omega) (by omega)]
    exact h1
theorem cost_rng {f : Fr} (hP : PInv f) {t : Nat} (ht : t < cI (f 1)) : inR 0 (sCost f t) 230 := by
  have hz := (hP.t ht).2.2.1
  have hz9 : cI (sOf f t 2) ≤ 9 := cI_le (by decide) hz
  have ez : sOf f t 2 = nI (cI (sOf f t 2)) := nI_cI (by have := hz.1; omega)
  unfold sCost costQ
  rw [ez]
  split
  · rw [show (30 : Int32) = nI 30 from rfl, show (10 : Int32) = nI 10 from rfl, pk_mul, nI_add]
    unfold inR
    rw [nI_toInt (by omega)]
    omega
  · rw [show (50 : Int32) = nI 50 from rfl, show (20 : Int32) = nI 20 from rfl, pk_mul, nI_add]
    unfold inR
    rw [nI_toInt (by omega)]
    omega
theorem sp_repair (hA : AInv A) (hQ : QI (aF A)) (t : Int32) : Sp A (rRepair A t) (sRepair A t) ∧ (0 < (rRepair A t).toInt → aF (sRepair A t) 6 = aF A 6 + rRepair A t ∧ aF (sRepair A t) 7 = aF A 7 + 1) := by
  unfold rRepair sRepair
  by_cases h1 : 0 ≤ t ∧ t < aF A 1
  · rw [if_pos h1, if_pos h1]
    by_cases h2 : sOf (aF A) (cI t) 5 < 2
    · rw [if_pos h2, if_pos h2]; exact ⟨Or.inl ⟨by decide, rfl⟩, fun h => absurd h (by decide)⟩
    · rw [if_neg h2, if_neg h2]
      have ht := (trapIx hA.f h1).2
      have hc := cost_rng hA.f ht
      obtain ⟨m1, m2, m3, m4⟩ := mend_at (f := aF A) (t := cI t)
      refine ⟨Or.inr ⟨hc.1, _, _, rfl, StF.mend hQ (fun q => h2 (by rw [q]; decide)) ht⟩, fun _ => ?_⟩
      rw [aF_set]
      exact ⟨m3, m4⟩
  · rw [if_neg h1, if_neg h1]; exact ⟨Or.inl ⟨by decide, rfl⟩, fun h => absurd h (by decide)⟩
theorem judC_one (k i o c p : Int32) : inR 1 (judC k i o c p) 5 := by
  unfold judC
  (repeat' split) <;> exact ⟨by decide, by decide⟩
theorem sp_read (hA : AInv A) (hQ : QI (aF A)) (t i o c : Int32) : Sp A (rJudge A t i o c) (sRead A t i o c) := by
  by_cases h : jAll A t i o c
  · rw [(jud_yes h).1, (jud_yes h).2]
    have ht := (trapIx hA.f h.1).2
    have hj := judC_one (sOf (aF A) (cI t) 1) i o c (sP (aF A) (cI t))
    have r5 := hA.f.2.1.2.2.2
    have e : ∀ j, j ≠ 19 + 7 * cI t + 5 → j ≠ 19 + 7 * cI t + 6 → readF (aF A) (cI t) (sJud (aF A) (cI t) i o c) j = aF A j := fun j a b => by unfold readF; rw [va_up_ne _ _ b, va_up_ne _ _ a]
    refine Or.inr ⟨by unfold sJud; have := hj.1; omega, _, _, rfl, fun b hb => ?_, by rw [e 5 (by omega) (by omega)]; omega, by rw [e 0 (by omega) (by omega)]; omega, by rw [e 1 (by omega) (by omega)]; omega⟩
    rw [e 1 (by omega) (by omega)] at hb
    have h1 := hQ b hb
    rw [e 5 (by omega) (by omega)]
    by_cases eb : b = cI t
    · subst eb
      have e5 : sOf (readF (aF A) (cI t) (sJud (aF A) (cI t) i o c)) (cI t) 5 = sJud (aF A) (cI t) i o c := by unfold sOf readF; rw [va_up_ne _ _ (by omega), va_up_self]
      have e6 : sOf (readF (aF A) (cI t) (sJud (aF A) (cI t) i o c)) (cI t) 6 = aF A 5 := by unfold sOf readF; rw [va_up_self]
      rw [e5, e6]
      refine ⟨⟨fun q => ?_, fun q => ?_⟩, Int.le_refl _⟩
      · unfold sJud at q
        rw [q] at hj
        exact absurd hj.1 (by decide)
      · rw [q] at r5
        exact absurd r5.1 (by decide)
    · unfold sOf at h1 ⊢
      rw [e (19 + 7 * b + 5) (by omega) (by omega), e (19 + 7 * b + 6) (by omega) (by omega)]
      exact h1
  · have h2 := jud_no h
    rw [h2.2]
    refine Or.inl ⟨?_, rfl⟩
    have h3 := h2.1
    rw [le_i, i0] at h3
    omega
end SPX
theorem pos_st {f : Fr} {t : Nat} (hp : pos f t = true) : ¬ sOf f t 5 = 0 := by
  intro q
  unfold pos sLoss lossQ at hp
  rw [q, if_neg (by decide), if_neg (by decide)] at hp
  exact absurd hp (by decide)
/-- what the money mends: how many, what it costs, what it leaves -/
theorem repA_all : ∀ (m : Nat) (f : Fr) (a k : Int32), PInv f → QI f → 0 ≤ a.toInt → a.toInt ≤ 10000 →
    ∃ j, j ≤ m ∧ (repA m f a k).2 = k + nI j ∧ (repA m f a k).1 7 = f 7 + nI j ∧ (∃ b : Int32, 0 ≤ b.toInt ∧ b.toInt ≤ a.toInt ∧ (repA m f a k).1 6 = f 6 + b) ∧ QI (repA m f a k).1 ∧ (repA m f a k).1 5 = f 5 ∧ (repA m f a k).1 0 = f 0 ∧ (repA m f a k).1 1 = f 1
  | 0, f, a, k, hP, hQ, h1, h2 => ⟨0, Nat.le_refl 0, (Int32.add_zero k).symm, (Int32.add_zero _).symm, ⟨0, by decide, h1, (Int32.add_zero _).symm⟩, hQ, rfl, rfl, rfl⟩
  | m + 1, f, a, k, hP, hQ, h1, h2 => by
    have stop : ∃ j, j ≤ m + 1 ∧ (f, k).2 = k + nI j ∧ (f, k).1 7 = f 7 + nI j ∧ (∃ b : Int32, 0 ≤ b.toInt ∧ b.toInt ≤ a.toInt ∧ (f, k).1 6 = f 6 + b) ∧ QI (f, k).1 ∧ (f, k).1 5 = f 5 ∧ (f, k).1 0 = f 0 ∧ (f, k).1 1 = f 1 := ⟨0, Nat.zero_le _, (Int32.add_zero k).symm, (Int32.add_zero _).symm, ⟨0, by decide, h1, (Int32.add_zero _).symm⟩, hQ, rfl, rfl, rfl⟩
    rw [repA]
    by_cases c1 : sOrd f 0 = -1
    · rw [if_pos c1]; exact stop
    · rw [if_neg c1]
      by_cases c2 : a < sCost f (cI (sOrd f 0))
      · rw [if_pos c2]; exact stop
      · rw [if_neg c2]
        rcases ord_cases f 0 with h3 | ⟨t, h3, h4, h5⟩
        · exact absurd h3 c1
        · have hn := hP.nT
          rw [h5, cI_nI (by omega)] at c2 ⊢
          have hc := cost_rng hP h3
          unfold inR at hc
          rw [lt_i] at c2
          obtain ⟨m1, m2, m3, m4⟩ := mend_at (f := f) (t := t)
          have ea : (a - sCost f t).toInt = a.toInt - (sCost f t).toInt := sub_i (by omega) (by omega)
          obtain ⟨j, j1, j2, j3, ⟨b, b1, b2, b3⟩, j5, j6, j7, j8⟩ := repA_all m (mendF f t) (a - sCost f t) (k + 1) (hP.mend h3) (StF.mend hQ (pos_st h4) h3).1 (by omega) (by omega)
          have e1 : (1 : Int32) + nI j = nI (j + 1) := by rw [Int32.add_comm, nI_1]
          refine ⟨j + 1, by omega, ?_, ?_, ⟨sCost f t + b, ?_, ?_, ?_⟩, j5, ?_, ?_, ?_⟩
          · rw [j2, Int32.add_assoc, e1]
          · rw [j3, m4, Int32.add_assoc, e1]
          · rw [add_i (by omega) (by omega)]; omega
          · rw [add_i (by omega) (by omega)]; omega
          · rw [b3, m3, Int32.add_assoc]
          · rw [j6, m1 5 (by omega) (by omega) (by omega)]
          · rw [j7, m1 0 (by omega) (by omega) (by omega)]
          · rw [j8, m1 1 (by omega) (by omega) (by omega)]
theorem sp_all {A : kA} (hA : AInv A) (hQ : QI (aF A)) {a : Int32} (h0 : inR 0 a 10000) : Sp A (rAll A a) (sAll A a) ∧ 0 ≤ (rAll A a).toInt ∧ aF (sAll A a) 7 = aF A 7 + rAll A a ∧ aF (sAll A a) 6 - aF A 6 ≤ a := by
  have h1 : 0 ≤ a ∧ a ≤ 10000 := by rw [le_i, le_i, i0]; exact h0
  obtain ⟨j, j1, j2, j3, ⟨b, b1, b2, b3⟩, j5, j6, j7, j8⟩ := repA_all 17 (aF A) a 0 hA.f hQ h0.1 h0.2
  unfold rAll sAll
  rw [if_pos h1, if_pos h1, aF_set, j2, Int32.zero_add]
  have e : 0 ≤ (nI j).toInt := by rw [nI_toInt (by omega)]; omega
  refine ⟨Or.inr ⟨e, _, _, rfl, j5, by rw [j6]; omega, by rw [j7]; omega, by rw [j8]; omega⟩, e, j3, ?_⟩
  rw [b3, Int32.add_comm, Int32.add_sub_cancel, le_i]
  exact b2
/-- with money enough all are mended -/
theorem repA_none : ∀ (m : Nat) (f : Fr) (a k : Int32), PInv f → nLoss f < m → 230 * nLoss f ≤ a.toInt → a.toInt ≤ 10000 → sOrd (repA m f a k).1 0 = -1
  | 0, f, a, k, hP, h1, h2, h3 => absurd h1 (Nat.not_lt_zero _)
  | m + 1, f, a, k, hP, h1, h2, h3 => by
    rw [repA]
    by_cases c1 : sOrd f 0 = -1
    · rw [if_pos c1]; exact c1
    · rw [if_neg c1]
      rcases ord_cases f 0 with q | ⟨t, q3, q4, q5⟩
      · exact absurd q c1
      · have hn := hP.nT
        rw [q5, cI_nI (by omega)]
        have hc := cost_rng hP q3
        unfold inR at hc
        have hl := nLoss_mend hP q3 q4
        have ea : (a - sCost f t).toInt = a.toInt - (sCost f t).toInt := sub_i (by omega) (by omega)
        rw [if_neg (by rw [lt_i]; omega)]
        exact repA_none m _ _ _ (hP.mend q3) (by omega) (by omega) (by omega)
theorem ord_none {f : Fr} (hP : PInv f) (h : sOrd f 0 = -1) : ∀ t, t < cI (f 1) → sLoss f t = 0 := by
  intro t ht
  obtain ⟨rL, c, hr⟩ := rkd_ex f (cI (f 1))
  have hn := hP.nT
  have hc := hr.2.2.2
  cases hp : pos f t with
  | false => exact (npos_facts hP ht hp).1
  | true =>
    obtain ⟨p, h1, h2⟩ := hr.has ht hp
    rw [hr.ord hn 0, if_pos ⟨by decide, by rw [← nI_0]; exact nI_lt (by omega) (by omega)⟩] at h
    have h3 := (hr.2.2.1 (cI 0) (by show 0 < c; omega)).1
    exact absurd h (nI_neg1 (by omega))
