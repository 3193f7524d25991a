/-! ===== the reference's picture of the state ===== -/
theorem trapEx {f : Fr} (hP : PInv f) {i : Int32} (h : 0 ≤ i ∧ i < f 1) : ∃ j, j < cI (f 1) ∧ i = nI j := ⟨_, (trapIx hP h).2, (trapIx hP h).1⟩
theorem lineEx {f : Fr} (hP : PInv f) {i : Int32} (h : 0 ≤ i ∧ i < f 0) : ∃ j, j < cI (f 0) ∧ i = nI j := ⟨_, (lineYes hP h).2, (lineYes hP h).1⟩
theorem hdrEx {i : Int32} (h : 0 ≤ i ∧ i < 3) : ∃ j, j < 3 ∧ i = nI j := ⟨_, (hdrYes h).2, (hdrYes h).1⟩
theorem ix7 (t w : Nat) : 19 + 7 * nI t + nI w = nI (19 + 7 * t + w) := by rw [show (19 : Int32) = nI 19 from rfl, show (7 : Int32) = nI 7 from rfl, pk_mul, nI_add, nI_add]
theorem in_last {i m : Int32} (hm : inR 0 m 16) : (0 ≤ i ∧ i ≤ m - 1) ↔ (0 ≤ i ∧ i < m) := by
  obtain ⟨h1, h2⟩ := hm
  have k1 : (1 : Int32).toInt = 1 := rfl
  have e : (m - 1).toInt = m.toInt - 1 := by rw [sub_i (by omega) (by omega)]; omega
  simp only [le_i, lt_i, e]
  omega
theorem in_two {i : Int32} : (0 ≤ i ∧ i ≤ 2) ↔ (0 ≤ i ∧ i < 3) := by
  have k2 : (2 : Int32).toInt = 2 := rfl
  have k3 : (3 : Int32).toInt = 3 := rfl
  simp only [le_i, lt_i]
  omega
section QMM
variable {l : Launch} {cc : ByteArray} {own : String} {nL D K : Nat} {G : kG} {n0 : Nat} {J : kJ} {n : Nat} {I : kI} {L : kL} {X : kX} {pc : Nat} {lv : kV} {rest : List Value} {f : Fr} {g : Gr}
theorem q_lost (hM : Mach l cc own nL D K G n0 J) {x : Int32} {v : Int64} (i : Nat) (hx : x = nI i) (hi : i < 16) (hn : 155 < n) (hd : decode cc pc = .ok (.lastore, 1)) (kk : J n I (up2 L 155 i v) X (pc + 1) lv rest) : J n I L X pc lv (.long v :: .int x :: .ref (ad G 155) :: rest) :=
  q_last hM hn (by decide) i hx (show i < 96 by omega) hd kk
end QMM
/-- a block copied, its first places -/
def cp131 (F : Nat → Nat → Int32) (a b k : Nat) : Nat → Nat → Int32 := fun r j => if r = 154 ∧ 131 * b ≤ j ∧ j < 131 * b + k then F 154 (131 * a + (j - 131 * b)) else F r j
theorem cp131_0 (F : Nat → Nat → Int32) (a b : Nat) : cp131 F a b 0 = F := by
  funext r j
  unfold cp131
  rw [if_neg (by omega)]
theorem cp131_s (F : Nat → Nat → Int32) (a b k : Nat) : up2 (cp131 F a b k) 154 (131 * b + k) (F 154 (131 * a + k)) = cp131 F a b (k + 1) := by
  funext r j
  by_cases h : r = 154 ∧ j = 131 * b + k
  · obtain ⟨rfl, rfl⟩ := h
    rw [up2_self]
    unfold cp131
    rw [if_pos (by omega), show 131 * b + k - 131 * b = k by omega]
  · rw [up2_ne (by omega)]
    unfold cp131
    by_cases h2 : r = 154 ∧ 131 * b ≤ j ∧ j < 131 * b + k
    · rw [if_pos h2, if_pos (by omega)]
    · rw [if_neg h2, if_neg (by omega)]
theorem cp131_r (F : Nat → Nat → Int32) {a b k : Nat} (h : a ≠ b) (hk : k < 131) : cp131 F a b k 154 (131 * a + k) = F 154 (131 * a + k) := by
  unfold cp131
  rw [if_neg (by omega)]
def cp16 (F : Nat → Nat → Int64) (a b k : Nat) : Nat → Nat → Int64 := fun r j => if r = 155 ∧ 16 * b ≤ j ∧ j < 16 * b + k then F 155 (16 * a + (j - 16 * b)) else F r j
theorem cp16_0 (F : Nat → Nat → Int64) (a b : Nat) : cp16 F a b 0 = F := by
  funext r j
  unfold cp16
  rw [if_neg (by omega)]
theorem cp16_s (F : Nat → Nat → Int64) (a b k : Nat) : up2 (cp16 F a b k) 155 (16 * b + k) (F 155 (16 * a + k)) = cp16 F a b (k + 1) := by
  funext r j
  by_cases h : r = 155 ∧ j = 16 * b + k
  · obtain ⟨rfl, rfl⟩ := h
    rw [up2_self]
    unfold cp16
    rw [if_pos (by omega), show 16 * b + k - 16 * b = k by omega]
  · rw [up2_ne (by omega)]
    unfold cp16
    by_cases h2 : r = 155 ∧ 16 * b ≤ j ∧ j < 16 * b + k
    · rw [if_pos h2, if_pos (by omega)]
    · rw [if_neg h2, if_neg (by omega)]
theorem cp16_r (F : Nat → Nat → Int64) {a b k : Nat} (h : a ≠ b) (hk : k < 16) : cp16 F a b k 155 (16 * a + k) = F 155 (16 * a + k) := by
  unfold cp16
  rw [if_neg (by omega)]
