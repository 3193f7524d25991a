/-! ===== the reference's picture of the state ===== -/
def RB (I : kI) (L : kL) (B : Nat → Fr) (C : Nat → Gr) : Prop := (∀ k, k < 6 → ∀ i, i < 131 → I 154 (131 * k + i) = B k i) ∧ ∀ k, k < 6 → ∀ t, t < 16 → L 155 (16 * k + t) = C k t
def RM (I : kI) (L : kL) (X : kX) (A : kA) : Prop := RefM X ∧ RB I L A.1 A.2.1 ∧ I 153 2 = nI (aN A) ∧ I 153 8 = nI (aK A) ∧ ∀ j, j < aK A → I 158 j = aT A j
/-- the present block -/
def Mm (I : kI) (L : kL) (f : Fr) (g : Gr) : Prop := (∀ i, i < 131 → I 154 i = f i) ∧ ∀ t, t < 16 → L 155 t = g t
theorem RM.m {I : kI} {L : kL} {X : kX} {A : kA} (h : RM I L X A) : Mm I L (aF A) (aG A) := ⟨fun i hi => by have := h.2.1.1 0 (by decide) i hi; rwa [Nat.mul_zero, Nat.zero_add] at this, fun t ht => by have := h.2.1.2 0 (by decide) t ht; rwa [Nat.mul_zero, Nat.zero_add] at this⟩
theorem RB.congr {I : kI} {L : kL} {B B' : Nat → Fr} {C C' : Nat → Gr} (h : RB I L B C) (h1 : ∀ k, k < 6 → B k = B' k) (h2 : ∀ k, k < 6 → C k = C' k) : RB I L B' C' := ⟨fun k hk i hi => by rw [← h1 k hk]; exact h.1 k hk i hi, fun k hk t ht => by rw [← h2 k hk]; exact h.2 k hk t ht⟩
theorem RM.start {I : kI} {L : kL} {X : kX} {A : kA} (h : RM I L X A) : RM I L X (setF A (aF A) (aG A)) := by
  obtain ⟨h1, h2, h3⟩ := h
  refine ⟨h1, h2.congr (fun k _ => ?_) (fun k _ => ?_), h3⟩
  · show A.1 k = va_up A.1 0 (A.1 0) k
    by_cases hk : k = 0
    · subst hk; rw [va_up_self]
    · rw [va_up_ne _ _ hk]
  · show A.2.1 k = va_up A.2.1 0 (A.2.1 0) k
    by_cases hk : k = 0
    · subst hk; rw [va_up_self]
    · rw [va_up_ne _ _ hk]
theorem RM.mf {I : kI} {L : kL} {X : kX} {A : kA} {f : Fr} {g : Gr} (h : RM I L X (setF A f g)) : Mm I L f g := by
  have := h.m
  unfold aF aG setF at this
  simp only [va_up_self] at this
  exact this
theorem RM.setI {I : kI} {L : kL} {X : kX} {A : kA} {f : Fr} {g : Gr} (h : RM I L X (setF A f g)) {i : Nat} (hi : i < 131) (v : Int32) : RM (up2 I 154 i v) L X (setF A (va_up f i v) g) := by
  obtain ⟨h1, ⟨h2, h3⟩, h4, h5, h6⟩ := h
  refine ⟨h1, ⟨fun k hk j hj => ?_, h3⟩, ?_, ?_, fun j hj => ?_⟩
  · have h7 := h2 k hk j hj
    show up2 I 154 i v 154 (131 * k + j) = va_up A.1 0 (va_up f i v) k j
    have h8 : I 154 (131 * k + j) = va_up A.1 0 f k j := h7
    by_cases hk0 : k = 0
    · subst hk0
      rw [va_up_self] at h8 ⊢
      rw [Nat.mul_zero, Nat.zero_add] at h8 ⊢
      by_cases hji : j = i
      · subst hji; rw [up2_self, va_up_self]
      · rw [up2_ne (by omega), va_up_ne _ _ hji]; exact h8
    · rw [va_up_ne _ _ hk0] at h8 ⊢
      rw [up2_ne (by omega)]; exact h8
  · rw [up2_ne (by omega)]; exact h4
  · rw [up2_ne (by omega)]; exact h5
  · rw [up2_ne (by omega)]; exact h6 j hj
theorem RM.setL {I : kI} {L : kL} {X : kX} {A : kA} {f : Fr} {g : Gr} (h : RM I L X (setF A f g)) {t : Nat} (ht : t < 16) (v : Int64) : RM I (up2 L 155 t v) X (setF A f (va_up g t v)) := by
  obtain ⟨h1, ⟨h2, h3⟩, h4⟩ := h
  refine ⟨h1, ⟨h2, fun k hk j hj => ?_⟩, h4⟩
  have h8 : L 155 (16 * k + j) = va_up A.2.1 0 g k j := h3 k hk j hj
  show up2 L 155 t v 155 (16 * k + j) = va_up A.2.1 0 (va_up g t v) k j
  by_cases hk0 : k = 0
  · subst hk0
    rw [va_up_self] at h8 ⊢
    rw [Nat.mul_zero, Nat.zero_add] at h8 ⊢
    by_cases hji : j = t
    · subst hji; rw [up2_self, va_up_self]
    · rw [up2_ne (by omega), va_up_ne _ _ hji]; exact h8
  · rw [va_up_ne _ _ hk0] at h8 ⊢
    rw [up2_ne (by omega)]; exact h8
theorem RM.gcong {I : kI} {L : kL} {X : kX} {A : kA} {f : Fr} {g g' : Gr} (h : RM I L X (setF A f g)) (hg : ∀ t, t < 16 → g t = g' t) : RM I L X (setF A f g') := by
  obtain ⟨h1, ⟨h2, h3⟩, h4⟩ := h
  refine ⟨h1, ⟨h2, fun k hk j hj => ?_⟩, h4⟩
  have h8 : L 155 (16 * k + j) = va_up A.2.1 0 g k j := h3 k hk j hj
  show L 155 (16 * k + j) = va_up A.2.1 0 g' k j
  by_cases hk0 : k = 0
  · subst hk0
    rw [va_up_self] at h8 ⊢
    rw [h8, hg j hj]
  · rw [va_up_ne _ _ hk0] at h8 ⊢
    exact h8
/-- what isn't the reference's stays -/
def FrC (I I' : kI) (L L' : kL) (X X' : kX) : Prop := ∀ r, r < 153 → I' r = I r ∧ L' r = L r ∧ X' r = X r
theorem FrC.rf {I : kI} {L : kL} {X : kX} : FrC I I L L X X := fun _ _ => ⟨rfl, rfl, rfl⟩
theorem FrC.put {I I' : kI} {L L' : kL} {X X' : kX} {r j : Nat} {v : Int32} (h : FrC I I' L L' X X') (hr : 153 ≤ r) : FrC I (up2 I' r j v) L L' X X' := fun x hx => ⟨by rw [up2_row (by omega)]; exact (h x hx).1, (h x hx).2⟩
theorem FrC.putL {I I' : kI} {L L' : kL} {X X' : kX} {r j : Nat} {v : Int64} (h : FrC I I' L L' X X') (hr : 153 ≤ r) : FrC I I' L (up2 L' r j v) X X' := fun x hx => ⟨(h x hx).1, by rw [up2_row (by omega)]; exact (h x hx).2.1, (h x hx).2.2⟩
theorem FrC.trans {I I1 I2 : kI} {L L1 L2 : kL} {X X1 X2 : kX} (h : FrC I I1 L L1 X X1) (h' : FrC I1 I2 L1 L2 X1 X2) : FrC I I2 L L2 X X2 := fun r hr => ⟨(h' r hr).1.trans (h r hr).1, (h' r hr).2.1.trans (h r hr).2.1, (h' r hr).2.2.trans (h r hr).2.2⟩
theorem trapEx {f : Fr} (hP : PInv f) {i : Int32} (h : 0 ≤ i ∧ i < f 1) : ∃ j, j < cI (f 1) ∧ i = nI j := ⟨_, (trapIx hP h).2, (trapIx hP h).1⟩
theorem lineEx {f : Fr} (hP : PInv f) {i : Int32} (h : 0 ≤ i ∧ i < f 0) : ∃ j, j < cI (f 0) ∧ i = nI j := ⟨_, (lineYes hP h).2, (lineYes hP h).1⟩
theorem hdrEx {i : Int32} (h : 0 ≤ i ∧ i < 3) : ∃ j, j < 3 ∧ i = nI j := ⟨_, (hdrYes h).2, (hdrYes h).1⟩
theorem ix7 (t w : Nat) : 19 + 7 * nI t + nI w = nI (19 + 7 * t + w) := by rw [show (19 : Int32) = nI 19 from rfl, show (7 : Int32) = nI 7 from rfl, pk_mul, nI_add, nI_add]
theorem in_last {i m : Int32} (hm : inR 0 m 16) : (0 ≤ i ∧ i ≤ m - 1) ↔ (0 ≤ i ∧ i < m) := by
  obtain ⟨h1, h2⟩ := hm
  have k1 : (1 : Int32).toInt = 1 := rfl
  have e : (m - 1).toInt = m.toInt - 1 := by rw [sub_i (by omega) (by omega)]; omega
  simp only [le_i, lt_i, e]
  omega
theorem in_two {i : Int32} : (0 ≤ i ∧ i ≤ 2) ↔ (0 ≤ i ∧ i < 3) := by
  have k2 : (2 : Int32).toInt = 2 := rfl
  have k3 : (3 : Int32).toInt = 3 := rfl
  simp only [le_i, lt_i]
  omega
section QMM
variable {l : Launch} {cc : ByteArray} {own : String} {nL D K : Nat} {G : kG} {n0 : Nat} {J : kJ} {n : Nat} {I : kI} {L : kL} {X : kX} {pc : Nat} {lv : kV} {rest : List Value} {f : Fr} {g : Gr}
theorem q_row (hM : Mach l cc own nL D K G n0 J) (hm : Mm I L f g) {x : Int32} (i : Nat) (hx : x = nI i) (hi : i < 131) (hn : 154 < n) (hd : decode cc pc = .ok (.iaload, 1)) (kk : J n I L X (pc + 1) lv (.int (f i) :: rest)) : J n I L X pc lv (.int x :: .ref (ad G 154) :: rest) :=
  q_iald hM hn (by decide) i hx (show i < 786 by omega) hd (by rw [hm.1 i hi]; exact kk)
theorem q_rowst (hM : Mach l cc own nL D K G n0 J) {x v : Int32} (i : Nat) (hx : x = nI i) (hi : i < 131) (hn : 154 < n) (hd : decode cc pc = .ok (.iastore, 1)) (kk : J n (up2 I 154 i v) L X (pc + 1) lv rest) : J n I L X pc lv (.int v :: .int x :: .ref (ad G 154) :: rest) :=
  q_iast hM hn (by decide) i hx (show i < 786 by omega) hd kk
theorem q_lo (hM : Mach l cc own nL D K G n0 J) (hm : Mm I L f g) {x : Int32} (i : Nat) (hx : x = nI i) (hi : i < 16) (hn : 155 < n) (hd : decode cc pc = .ok (.laload, 1)) (kk : J n I L X (pc + 1) lv (.long (g i) :: rest)) : J n I L X pc lv (.int x :: .ref (ad G 155) :: rest) :=
  q_lald hM hn (by decide) i hx (show i < 96 by omega) hd (by rw [hm.2 i hi]; exact kk)
theorem q_lost (hM : Mach l cc own nL D K G n0 J) {x : Int32} {v : Int64} (i : Nat) (hx : x = nI i) (hi : i < 16) (hn : 155 < n) (hd : decode cc pc = .ok (.lastore, 1)) (kk : J n I (up2 L 155 i v) X (pc + 1) lv rest) : J n I L X pc lv (.long v :: .int x :: .ref (ad G 155) :: rest) :=
  q_last hM hn (by decide) i hx (show i < 96 by omega) hd kk
end QMM
/-- a block copied, its first places -/
def cp131 (F : Nat → Nat → Int32) (a b k : Nat) : Nat → Nat → Int32 := fun r j => if r = 154 ∧ 131 * b ≤ j ∧ j < 131 * b + k then F 154 (131 * a + (j - 131 * b)) else F r j
theorem cp131_0 (F : Nat → Nat → Int32) (a b : Nat) : cp131 F a b 0 = F := by
  funext r j
  unfold cp131
  rw [if_neg (by omega)]
theorem cp131_s (F : Nat → Nat → Int32) (a b k : Nat) : up2 (cp131 F a b k) 154 (131 * b + k) (F 154 (131 * a + k)) = cp131 F a b (k + 1) := by
  funext r j
  by_cases h : r = 154 ∧ j = 131 * b + k
  · obtain ⟨rfl, rfl⟩ := h
    rw [up2_self]
    unfold cp131
    rw [if_pos (by omega), show 131 * b + k - 131 * b = k by omega]
  · rw [up2_ne (by omega)]
    unfold cp131
    by_cases h2 : r = 154 ∧ 131 * b ≤ j ∧ j < 131 * b + k
    · rw [if_pos h2, if_pos (by omega)]
    · rw [if_neg h2, if_neg (by omega)]
theorem cp131_r (F : Nat → Nat → Int32) {a b k : Nat} (h : a ≠ b) (hk : k < 131) : cp131 F a b k 154 (131 * a + k) = F 154 (131 * a + k) := by
  unfold cp131
  rw [if_neg (by omega)]
def cp16 (F : Nat → Nat → Int64) (a b k : Nat) : Nat → Nat → Int64 := fun r j => if r = 155 ∧ 16 * b ≤ j ∧ j < 16 * b + k then F 155 (16 * a + (j - 16 * b)) else F r j
theorem cp16_0 (F : Nat → Nat → Int64) (a b : Nat) : cp16 F a b 0 = F := by
  funext r j
  unfold cp16
  rw [if_neg (by omega)]
theorem cp16_s (F : Nat → Nat → Int64) (a b k : Nat) : up2 (cp16 F a b k) 155 (16 * b + k) (F 155 (16 * a + k)) = cp16 F a b (k + 1) := by
  funext r j
  by_cases h : r = 155 ∧ j = 16 * b + k
  · obtain ⟨rfl, rfl⟩ := h
    rw [up2_self]
    unfold cp16
    rw [if_pos (by omega), show 16 * b + k - 16 * b = k by omega]
  · rw [up2_ne (by omega)]
    unfold cp16
    by_cases h2 : r = 155 ∧ 16 * b ≤ j ∧ j < 16 * b + k
    · rw [if_pos h2, if_pos (by omega)]
    · rw [if_neg h2, if_neg (by omega)]
theorem cp16_r (F : Nat → Nat → Int64) {a b k : Nat} (h : a ≠ b) (hk : k < 16) : cp16 F a b k 155 (16 * a + k) = F 155 (16 * a + k) := by
  unfold cp16
  rw [if_neg (by omega)]
theorem RB.copy {I : kI} {L : kL} {B : Nat → Fr} {C : Nat → Gr} (h : RB I L B C) {a b : Nat} (ha : a < 6) (hab : a ≠ b) : RB (cp131 I a b 131) (cp16 L a b 16) (va_up B b (B a)) (va_up C b (C a)) := by
  refine ⟨fun k hk i hi => ?_, fun k hk t ht => ?_⟩
  · unfold cp131
    by_cases hkb : k = b
    · subst hkb
      rw [if_pos (by omega), va_up_self, show 131 * k + i - 131 * k = i by omega]
      exact h.1 a ha i hi
    · rw [if_neg (by omega), va_up_ne _ _ hkb]
      exact h.1 k hk i hi
  · unfold cp16
    by_cases hkb : k = b
    · subst hkb
      rw [if_pos (by omega), va_up_self, show 16 * k + t - 16 * k = t by omega]
      exact h.2 a ha t ht
    · rw [if_neg (by omega), va_up_ne _ _ hkb]
      exact h.2 k hk t ht
