/-! ===== the whole state as numbers, and the class's picture of it ===== -/
abbrev kA : Type := (Nat → Fr) × (Nat → Gr) × Nat × (Nat → Int32) × Nat
abbrev aF (A : kA) : Fr := A.1 0
abbrev aG (A : kA) : Gr := A.2.1 0
abbrev aN (A : kA) : Nat := A.2.2.1
abbrev aT (A : kA) : Nat → Int32 := A.2.2.2.1
abbrev aK (A : kA) : Nat := A.2.2.2.2
def kpS {α : Type} (B : Nat → α) (n : Nat) : Nat → α := fun k => if n = 5 then (if k = 5 then B 0 else if k = 0 then B 0 else B (k + 1)) else (if k = n + 1 then B 0 else B k)
def keepA (A : kA) : kA := (kpS A.1 (aN A), kpS A.2.1 (aN A), (if aN A = 5 then 5 else aN A + 1), A.2.2.2)
def setF (A : kA) (f : Fr) (g : Gr) : kA := (va_up A.1 0 f, va_up A.2.1 0 g, A.2.2)
theorem kpS_0 {α : Type} (B : Nat → α) (n : Nat) : kpS B n 0 = B 0 := by
  unfold kpS
  by_cases h : n = 5
  · rw [if_pos h]; simp
  · rw [if_neg h]; simp
def PermOK (pm : Nat → Nat) : Prop := (∀ i, i < 5 → ∃ j, j < 5 ∧ pm i = 23 + 20 * j) ∧ ∀ i j, i < 5 → j < 5 → pm i = pm j → i = j
theorem PermOK.P {pm : Nat → Nat} (h : PermOK pm) {i : Nat} (hi : i < 5) : isP (pm i) := by
  obtain ⟨j, hj, e⟩ := h.1 i hi
  exact Or.inr ⟨j, hj, e⟩
theorem PermOK.rng {pm : Nat → Nat} (h : PermOK pm) {i : Nat} (hi : i < 5) : 23 ≤ pm i ∧ pm i + 20 ≤ 123 := by
  obtain ⟨j, hj, e⟩ := h.1 i hi
  omega
theorem PermOK.apart {pm : Nat → Nat} (h : PermOK pm) {i j : Nat} (hi : i < 5) (hj : j < 5) (hij : i ≠ j) : pm i + 20 ≤ pm j ∨ pm j + 20 ≤ pm i := by
  obtain ⟨a, ha, e⟩ := h.1 i hi
  obtain ⟨b, hb, e'⟩ := h.1 j hj
  have : a ≠ b := fun q => hij (h.2 i j hi hj (by rw [e, e', q]))
  omega
/-- the history holds the states 1 .. n of A -/
def HC (I : kI) (L : kL) (X : kX) (pm : Nat → Nat) (A : kA) : Prop := Refs X pm ∧ PermOK pm ∧ I 21 1 = nI (aN A) ∧ ∀ i, i < aN A → Sm I L (pm i) (A.1 (i + 1)) (A.2.1 (i + 1))
def TC (I : kI) (A : kA) : Prop := I 130 2 = nI (aK A) ∧ ∀ j, j < aK A → I 131 j = aT A j
def AInv (A : kA) : Prop := aN A ≤ 5 ∧ aK A ≤ 100 ∧ ∀ k, k ≤ aN A → PInv (A.1 k)
def RC (I : kI) (L : kL) (X : kX) (A : kA) : Prop := ∃ pm, HC I L X pm A ∧ Sm I L 1 (aF A) (aG A) ∧ TC I A
theorem HC.frame {I I' : kI} {L L' : kL} {X X' : kX} {pm : Nat → Nat} {A : kA} (h : HC I L X pm A) (hA : AInv A) (hs : ∀ r, 21 ≤ r → r < 123 → I' r = I r ∧ L' r = L r) (hX : X' = X) : HC I' L' X' pm A := by
  obtain ⟨h1, h2, h3, h4⟩ := h
  subst hX
  refine ⟨h1, h2, by rw [(hs 21 (by omega) (by omega)).1]; exact h3, fun i hi => (h4 i hi).frame (hA.2.2 _ (by omega)).nT (fun r r1 r2 => ?_)⟩
  have := h2.rng (i := i) (by have := hA.1; omega)
  exact hs r (by omega) (by omega)
theorem HC.setF {I : kI} {L : kL} {X : kX} {pm : Nat → Nat} {A : kA} {f : Fr} {g : Gr} (h : HC I L X pm A) : HC I L X pm (setF A f g) := by
  obtain ⟨h1, h2, h3, h4⟩ := h
  refine ⟨h1, h2, h3, fun i hi => ?_⟩
  show Sm I L (pm i) (va_up A.1 0 f (i + 1)) (va_up A.2.1 0 g (i + 1))
  rw [va_up_ne _ _ (by omega), va_up_ne _ _ (by omega)]
  exact h4 i hi
theorem AInv.f {A : kA} (h : AInv A) : PInv (aF A) := h.2.2 0 (Nat.zero_le _)
theorem AInv.keep {A : kA} (h : AInv A) : AInv (keepA A) := by
  obtain ⟨h1, h2, h3⟩ := h
  refine ⟨?_, h2, fun k hk => ?_⟩
  · show (if aN A = 5 then 5 else aN A + 1) ≤ 5
    split <;> omega
  · show PInv (kpS A.1 (aN A) k)
    have hk' : k ≤ (if aN A = 5 then 5 else aN A + 1) := hk
    unfold kpS
    by_cases h5 : aN A = 5
    · rw [if_pos h5] at hk' ⊢
      (repeat' split)
      · exact h3 0 (by omega)
      · exact h3 0 (by omega)
      · exact h3 _ (by omega)
    · rw [if_neg h5] at hk' ⊢
      (repeat' split)
      · exact h3 0 (by omega)
      · exact h3 _ (by omega)
theorem AInv.set {A : kA} (h : AInv A) {f : Fr} {g : Gr} (hf : PInv f) : AInv (setF A f g) := by
  obtain ⟨h1, h2, h3⟩ := h
  refine ⟨h1, h2, fun k hk => ?_⟩
  show PInv (va_up A.1 0 f k)
  by_cases h0 : k = 0
  · subst h0; rw [va_up_self]; exact hf
  · rw [va_up_ne _ _ h0]; exact h3 k hk
/-- a plant copied -/
def Cp (I : kI) (L : kL) (q q' : Nat) (I' : kI) (L' : kL) : Prop :=
  (∀ i, 3 ≤ i → i < 11 → I' q i = I q' i) ∧ (∀ h, h < 3 → I' (q + 1) h = I (q' + 1) h) ∧ (∀ h, h < 8 → I' (q + 2) h = I (q' + 2) h) ∧
  (∀ t, t < 16 → (∀ w, w < 7 → I' (q + 4 + t) w = I (q' + 4 + t) w) ∧ L' (q + 4 + t) 7 = L (q' + 4 + t) 7)
theorem Sm.copy {I I' : kI} {L L' : kL} {q q' : Nat} {f : Fr} {g : Gr} (h : Sm I L q' f g) (hc : Cp I L q q' I' L') (hN : cI (f 1) ≤ 16) (hL : cI (f 0) ≤ 8) : Sm I' L' q f g := by
  obtain ⟨h1, h2, h3, h4, h5⟩ := h
  obtain ⟨k1, k2, k3, k4⟩ := hc
  refine ⟨fun i hi => (k1 _ (by omega) (by omega)).trans (h1 i hi), fun i hi => (k2 i hi).trans (h2 i hi), fun i hi => (k3 i (by omega)).trans (h3 i hi), fun t ht => ⟨fun w hw => ((k4 t (by omega)).1 w hw).trans ((h4 t ht).1 w hw), ((k4 t (by omega)).2).trans (h4 t ht).2⟩, fun t ht h16 => ⟨((k4 t h16).1 5 (by decide)).trans (h5 t ht h16).1, ((k4 t h16).1 6 (by decide)).trans (h5 t ht h16).2.1, ((k4 t h16).2).trans (h5 t ht h16).2.2⟩⟩
def rotP (pm : Nat → Nat) : Nat → Nat := fun i => if i < 4 then pm (i + 1) else pm 0
theorem PermOK.rot {pm : Nat → Nat} (h : PermOK pm) : PermOK (rotP pm) := by
  refine ⟨fun i hi => ?_, fun i j hi hj e => ?_⟩
  · unfold rotP
    split
    · exact h.1 _ (by omega)
    · exact h.1 _ (by omega)
  · unfold rotP at e
    split at e <;> split at e
    · have := h.2 _ _ (by omega) (by omega) e; omega
    · have := h.2 _ _ (by omega) (by omega) e; omega
    · have := h.2 _ _ (by omega) (by omega) e; omega
    · omega
theorem Refs.perm {X X' : kX} {pm pm' : Nat → Nat} (h : Refs X pm) (h1 : ∀ r, r ≠ 22 → X' r = X r) (h2 : ∀ i, i < 5 → X' 22 i = some (pm' i)) : Refs X' pm' := by
  have hq : ∀ q, isP q → q ≠ 22 ∧ q + 3 ≠ 22 := fun q hq => by rcases hq with rfl | ⟨i, hi, rfl⟩ <;> omega
  unfold Refs at h ⊢
  refine ⟨?_, fun q hP => ?_, ⟨?_, h2⟩, ?_, ?_, ?_⟩
  · rw [h1 0 (by decide)]; exact h.1
  · rw [h1 q (hq q hP).1, h1 (q + 3) (hq q hP).2]; exact h.2.1 q hP
  · rw [h1 21 (by decide)]; exact h.2.2.1.1
  · rw [h1 123 (by decide)]; exact h.2.2.2.1
  · rw [h1 127 (by decide)]; exact h.2.2.2.2.1
  · rw [h1 130 (by decide), h1 132 (by decide)]; exact h.2.2.2.2.2
