/-! ===== both sides over one state: what one side's calls leave of the other; the text's bytes ===== -/
theorem Refs.congr {X X' : kX} {pm : Nat → Nat} (h : Refs X pm) (e : ∀ r, r < 153 → X' r = X r) : Refs X' pm := by
  have hq : ∀ q, isP q → q < 153 ∧ q + 3 < 153 := fun q hq => by rcases hq with rfl | ⟨i, hi, rfl⟩ <;> omega
  unfold Refs at h ⊢
  refine ⟨?_, fun q hP => ?_, ?_, ?_, ?_, ?_⟩
  · rw [e 0 (by decide)]; exact h.1
  · rw [e q (hq q hP).1, e (q + 3) (hq q hP).2]; exact h.2.1 q hP
  · rw [e 21 (by decide), e 22 (by decide)]; exact h.2.2.1
  · rw [e 123 (by decide)]; exact h.2.2.2.1
  · rw [e 127 (by decide)]; exact h.2.2.2.2.1
  · rw [e 130 (by decide), e 132 (by decide)]; exact h.2.2.2.2.2
theorem RC.frC {I I' : kI} {L L' : kL} {X X' : kX} {A : kA} (h : RC I L X A) (hA : AInv A) (hF : FrC I I' L L' X X') : RC I' L' X' A := by
  obtain ⟨pm, ⟨h1, h2, h3, h4⟩, hS, hT⟩ := h
  have hn := hA.1
  refine ⟨pm, ⟨h1.congr (fun r hr => (hF r hr).2.2), h2, by rw [(hF 21 (by decide)).1]; exact h3, fun i hi => (h4 i hi).frame (hA.2.2 _ (by omega)).nT (fun r r1 r2 => ?_)⟩, hS.frame hA.f.nT (fun r r1 r2 => ⟨(hF r (by omega)).1, (hF r (by omega)).2.1⟩), by rw [(hF 130 (by decide)).1]; exact hT.1, fun j hj => by rw [(hF 131 (by decide)).1]; exact hT.2 j hj⟩
  have h9 := h2.rng (i := i) (by omega)
  exact ⟨(hF r (by omega)).1, (hF r (by omega)).2.1⟩
theorem RM.frM {I I' : kI} {L L' : kL} {X X' : kX} {A : kA} (h : RM I L X A) (hF : FrM I I' L L' X X') : RM I' L' X' A := by
  obtain ⟨h1, ⟨h2, h3⟩, h4, h5, h6⟩ := h
  have e3 := hF 153 (by decide)
  have e4 := hF 154 (by decide)
  have e5 := hF 155 (by decide)
  have e8 := hF 158 (by decide)
  refine ⟨?_, ⟨fun k hk i hi => by rw [e4.1]; exact h2 k hk i hi, fun k hk t ht => by rw [e5.2.1]; exact h3 k hk t ht⟩, by rw [e3.1]; exact h4, by rw [e3.1]; exact h5, fun j hj => by rw [e8.1]; exact h6 j hj⟩
  unfold RefM at h1 ⊢
  rw [e3.2.2]
  exact h1
theorem RM_new {I I' : kI} {L L' : kL} {X X' : kX} (hz : ∀ r, 153 ≤ r → Zr I L X r) (h1 : RefM X') (h2 : ∀ r, r ≠ 154 → I' r = I r) (h3 : ∀ j, I' 154 j = f00 j) (hL : L = L') : RM I' L' X' A00 := by
  subst hL
  refine ⟨h1, ⟨fun k hk i hi => ?_, fun k hk t ht => (hz 155 (by decide) _).2.1⟩, by rw [h2 153 (by decide)]; exact (hz 153 (by decide) 2).1, by rw [h2 153 (by decide)]; exact (hz 153 (by decide) 8).1, fun j hj => absurd hj (Nat.not_lt_zero j)⟩
  rw [h3]
  show f00 (131 * k + i) = (if k = 0 then f00 else fun _ => 0) i
  by_cases hk0 : k = 0
  · subst hk0
    rw [if_pos rfl, show 131 * 0 + i = i by omega]
  · rw [if_neg hk0]
    unfold f00
    rw [if_neg (by omega), if_neg (by omega), if_neg (by omega), if_neg (by omega)]
/-- no byte of the text is -1 -/
def TxOK (A : kA) : Prop := ∀ j, j < aK A → ¬ aT A j = -1
theorem TxOK.of {A A' : kA} (h : TxOK A) (e : A'.2.2.2 = A.2.2.2) : TxOK A' := by
  show ∀ j, j < A'.2.2.2.2 → ¬ A'.2.2.2.1 j = -1
  rw [e]
  exact h
theorem TxOK.set {A : kA} (h : TxOK A) (f : Fr) (g : Gr) : TxOK (setF (keepA A) f g) := h.of rfl
theorem TxOK_new : TxOK A00 := fun j hj => absurd hj (Nat.not_lt_zero j)
section TXK
variable {A : kA} (h : TxOK A)
theorem tx_setPressure (a p : Int32) : TxOK A → TxOK (sSetPressure A a p) := fun h => by unfold sSetPressure; (repeat' split) <;> first | exact h | exact h.set _ _
theorem tx_addLine (a : Int32) : TxOK A → TxOK (sAddLine A a) := fun h => by unfold sAddLine; (repeat' split) <;> first | exact h | exact h.set _ _
theorem tx_addTrap (a k z x y : Int32) : TxOK A → TxOK (sAddTrap A a k z x y) := fun h => by unfold sAddTrap; (repeat' split) <;> first | exact h | exact h.set _ _
theorem tx_moveLine (a p : Int32) : TxOK A → TxOK (sMoveLine A a p) := fun h => by unfold sMoveLine; (repeat' split) <;> first | exact h | exact h.set _ _
theorem tx_setWork (a p i : Int32) : TxOK A → TxOK (sSetWork A a p i) := fun h => by unfold sSetWork; (repeat' split) <;> first | exact h | exact h.set _ _
theorem tx_read (t i o c : Int32) : TxOK A → TxOK (sRead A t i o c) := fun h => by unfold sRead; (repeat' split) <;> first | exact h | exact h.set _ _
theorem tx_pass (d : Int32) : TxOK A → TxOK (sPass A d) := fun h => by unfold sPass; (repeat' split) <;> first | exact h | exact h.set _ _
theorem tx_repair (t : Int32) : TxOK A → TxOK (sRepair A t) := fun h => by unfold sRepair; (repeat' split) <;> first | exact h | exact h.set _ _
theorem tx_all (a : Int32) : TxOK A → TxOK (sAll A a) := fun h => by unfold sAll; (repeat' split) <;> first | exact h | exact h.set _ _
theorem tx_readAll : TxOK A → TxOK (sReadAll A) := fun h => by unfold sReadAll; (repeat' split) <;> first | exact h | exact h.set _ _
theorem tx_undo : TxOK A → TxOK (sUndo A) := fun h => by unfold sUndo; (repeat' split) <;> first | exact h | exact h.of rfl
theorem tx_clear : TxOK A → TxOK (sClear A) := fun _ => fun j hj => absurd hj (Nat.not_lt_zero j)
theorem tx_type (c : Int32) : TxOK A → TxOK (sType A c) := fun h => by
  unfold sType
  split
  · rename_i h1
    split
    · exact h
    · intro j hj
      have hj' : j < aK A + 1 := hj
      show ¬ va_up (aT A) (aK A) c j = -1
      by_cases e : j = aK A
      · subst e
        rw [va_up_self]
        intro q
        rw [q] at h1
        exact absurd h1.1 (by decide)
      · rw [va_up_ne _ _ e]
        exact h j (by omega)
  · exact h
end TXK
theorem lsE_all {T : Nat → Int32} {k : Nat} {n : Int32} : ∀ (m j i : Nat), j ≤ i → i < (lsE T k n m j).2.2 → (rdg T k n (ps T k n i)).1 = true
  | 0, j, i, h1, h2 => by
    have h3 : i < j := h2
    omega
  | m + 1, j, i, h1, h2 => by
    rw [lsE] at h2
    by_cases h3 : (rdg T k n (ps T k n j)).1 = true
    · rw [if_pos h3] at h2
      by_cases hij : i = j
      · subst hij; exact h3
      · by_cases h4 : (sgn T k 59 (rdg T k n (ps T k n j)).2.1).1 = true
        · rw [if_pos h4] at h2
          exact lsE_all m (j + 1) i (by omega) h2
        · rw [if_neg h4] at h2
          have h5 : i < j + 1 := h2
          omega
    · rw [if_neg h3] at h2
      have h5 : i < j := h2
      omega
theorem inv_readAll {A : kA} (hA : AInv A) : AInv (sReadAll A) := by
  unfold sReadAll
  split
  · exact hA.keep.set (rds_P hA.f _ (fun i hi => lsE_all 21 0 i (Nat.zero_le i) hi))
  · exact hA
/-- what holds between two calls of the law -/
def LI (I : kI) (L : kL) (X : kX) (A : kA) : Prop := RC I L X A ∧ RM I L X A ∧ AInv A ∧ TxOK A
