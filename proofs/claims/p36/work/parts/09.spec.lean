/-! ===== the plant as numbers: what both sides compute ===== -/
abbrev Fr : Type := Nat → Int32
abbrev Gr : Type := Nat → Int64
def cI (x : Int32) : Nat := x.toNatClampNeg
def inR (a : Int) (x : Int32) (b : Int) : Prop := a ≤ x.toInt ∧ x.toInt ≤ b
theorem lt_i (a b : Int32) : a < b ↔ a.toInt < b.toInt := Int32.lt_iff_toInt_lt
theorem le_i (a b : Int32) : a ≤ b ↔ a.toInt ≤ b.toInt := Int32.le_iff_toInt_le
theorem eq_i (a b : Int32) : a = b ↔ a.toInt = b.toInt := Int32.toInt_inj.symm
theorem cI_nI {n : Nat} (h : n < 2 ^ 31) : cI (nI n) = n := nI_clamp h
theorem rng_i (x : Int32) : -2147483648 ≤ x.toInt ∧ x.toInt < 2147483648 := by
  have h1 := Int32.le_toInt x
  have h2 := Int32.toInt_lt x
  omega
theorem nI_cI {x : Int32} (h : 0 ≤ x.toInt) : x = nI (cI x) := by
  have hx := rng_i x
  obtain ⟨j, hj, rfl⟩ := nI_of (x := x) (by rw [lt_i]; simp; exact h)
  rw [cI_nI hj]
theorem cI_int {x : Int32} (h : 0 ≤ x.toInt) : (cI x : Int) = x.toInt := by
  have hx := rng_i x
  obtain ⟨j, hj, rfl⟩ := nI_of (x := x) (by rw [lt_i]; simp; exact h)
  rw [cI_nI hj, nI_toInt hj]
theorem cI_le {x : Int32} {a : Int} {b : Nat} (ha : 0 ≤ a) (h : inR a x b) : cI x ≤ b := by
  have := cI_int (x := x) (by unfold inR at h; omega)
  unfold inR at h
  omega
theorem i0 : (0 : Int32).toInt = 0 := rfl
theorem bmod32 {z : Int} (h1 : -2147483648 ≤ z) (h2 : z < 2147483648) : z.bmod (2 ^ 32) = z := by
  rw [Int.bmod_def]
  omega
theorem add_i {x y : Int32} (h1 : -2147483648 ≤ x.toInt + y.toInt) (h2 : x.toInt + y.toInt < 2147483648) : (x + y).toInt = x.toInt + y.toInt := by rw [Int32.toInt_add, bmod32 h1 h2]
theorem sub_i {x y : Int32} (h1 : -2147483648 ≤ x.toInt - y.toInt) (h2 : x.toInt - y.toInt < 2147483648) : (x - y).toInt = x.toInt - y.toInt := by rw [Int32.toInt_sub, bmod32 h1 h2]
theorem mul_i {x y : Int32} (h1 : -2147483648 ≤ x.toInt * y.toInt) (h2 : x.toInt * y.toInt < 2147483648) : (x * y).toInt = x.toInt * y.toInt := by rw [Int32.toInt_mul, bmod32 h1 h2]
/-- a trap's property, its header, the pressure there -/
def sOf (f : Fr) (t w : Nat) : Int32 := f (19 + 7 * t + w)
def sH (f : Fr) (t : Nat) : Nat := cI (f (11 + cI (sOf f t 0)))
def sP (f : Fr) (t : Nat) : Int32 := f (8 + sH f t)
def lossQ (z st p : Int32) : Int32 := if st = 3 then z * z * (p + 1) * 10 else if st = 2 then z * z * (p + 1) * 10 / 4 else 0
def sLoss (f : Fr) (t : Nat) : Int32 := lossQ (sOf f t 2) (sOf f t 5) (sP f t)
def costQ (k z : Int32) : Int32 := if k = 2 then 30 + 10 * z else 50 + 20 * z
def sCost (f : Fr) (t : Nat) : Int32 := costQ (sOf f t 1) (sOf f t 2)
def worthQ (f : Fr) (x : Int32) : Int64 := x.toInt64 * (f 2).toInt64 * (f 3).toInt64
def sWorth (f : Fr) (t : Nat) : Int64 := worthQ f (sLoss f t)
def sPay (f : Fr) (t : Nat) : Int64 := if sWorth f t = 0 then -1 else (1000000 * (sCost f t).toInt64 + sWorth f t - 1) / sWorth f t
abbrev sDue (f : Fr) (t : Nat) : Prop := sOf f t 6 = -1 ∨ ¬ sOf f t 5 = 1 ∨ f 4 ≤ f 5 - sOf f t 6
def judC (k inlet outlet cycles p : Int32) : Int32 :=
  if inlet < (100 + 6 * p) / 2 then 5 else if cycles = 0 ∧ outlet ≤ inlet - 40 then 4
  else if k = 0 then (if 30 ≤ cycles then 3 else if 15 ≤ cycles then 2 else 1)
  else if k = 1 then (if inlet - 5 ≤ outlet then 3 else if inlet - 15 ≤ outlet then 2 else 1)
  else (if 40 ≤ cycles ∨ inlet - 2 ≤ outlet then 3 else if 20 ≤ cycles then 2 else 1)
def sJud (f : Fr) (t : Nat) (inlet outlet cycles : Int32) : Int32 := judC (sOf f t 1) inlet outlet cycles (sP f t)
def mendF (f : Fr) (t : Nat) : Fr := va_up (va_up (va_up f (19 + 7 * t + 5) 1) 6 (f 6 + sCost f t)) 7 (f 7 + 1)
def readF (f : Fr) (t : Nat) (v : Int32) : Fr := va_up (va_up f (19 + 7 * t + 5) v) (19 + 7 * t + 6) (f 5)
def passG (f : Fr) (g : Gr) (d : Int32) : Gr := fun t => if t < cI (f 1) then g t + (sLoss f t).toInt64 * (f 2).toInt64 * d.toInt64 else g t
/-- sums over the first traps -/
def sSum (h : Nat → Int32) : Nat → Int32
  | 0 => 0
  | n + 1 => sSum h n + h n
def sSumL (h : Nat → Int64) : Nat → Int64
  | 0 => 0
  | n + 1 => sSumL h n + h n
theorem sSum_cong {h h' : Nat → Int32} : ∀ {n : Nat}, (∀ t, t < n → h t = h' t) → sSum h n = sSum h' n
  | 0, _ => rfl
  | n + 1, e => by rw [sSum, sSum, sSum_cong (fun t ht => e t (by omega)), e n (by omega)]
theorem sSumL_cong {h h' : Nat → Int64} : ∀ {n : Nat}, (∀ t, t < n → h t = h' t) → sSumL h n = sSumL h' n
  | 0, _ => rfl
  | n + 1, e => by rw [sSumL, sSumL, sSumL_cong (fun t ht => e t (by omega)), e n (by omega)]
/-- the ranges of a plant -/
def TInv (f : Fr) (t : Nat) : Prop := (0 ≤ (sOf f t 0).toInt ∧ (sOf f t 0).toInt < (f 0).toInt) ∧ inR 0 (sOf f t 1) 2 ∧ inR 1 (sOf f t 2) 9 ∧ inR 0 (sOf f t 3) 50 ∧ inR 0 (sOf f t 4) 50 ∧ inR 0 (sOf f t 5) 5 ∧ inR (-1) (sOf f t 6) 10000
def PInv (f : Fr) : Prop :=
  (inR 0 (f 0) 8 ∧ inR 0 (f 1) 16) ∧ (inR 1 (f 2) 24 ∧ inR 1 (f 3) 1000 ∧ inR 1 (f 4) 400 ∧ inR 0 (f 5) 10000) ∧ (∀ h, h < 3 → inR 1 (f (8 + h)) 20) ∧ (∀ i, i < cI (f 0) → inR 0 (f (11 + i)) 2) ∧ ∀ t, t < cI (f 1) → TInv f t
section PI
variable {f : Fr}
theorem PInv.nL (h : PInv f) : cI (f 0) ≤ 8 := cI_le (Int.le_refl 0) h.1.1
theorem PInv.nT (h : PInv f) : cI (f 1) ≤ 16 := cI_le (Int.le_refl 0) h.1.2
theorem PInv.e0 (h : PInv f) : f 0 = nI (cI (f 0)) := nI_cI h.1.1.1
theorem PInv.e1 (h : PInv f) : f 1 = nI (cI (f 1)) := nI_cI h.1.2.1
theorem PInv.t (h : PInv f) {t : Nat} (ht : t < cI (f 1)) : TInv f t := h.2.2.2.2 t ht
theorem PInv.l (h : PInv f) {i : Nat} (hi : i < cI (f 0)) : inR 0 (f (11 + i)) 2 := h.2.2.2.1 i hi
theorem PInv.p (h : PInv f) {i : Nat} (hi : i < 3) : inR 1 (f (8 + i)) 20 := h.2.2.1 i hi
theorem PInv.ln (h : PInv f) {t : Nat} (ht : t < cI (f 1)) : sOf f t 0 = nI (cI (sOf f t 0)) ∧ cI (sOf f t 0) < cI (f 0) := by
  have h1 := (h.t ht).1
  refine ⟨nI_cI h1.1, ?_⟩
  have h2 := cI_int h1.1
  have h3 := cI_int h.1.1.1
  omega
theorem PInv.hd (h : PInv f) {t : Nat} (ht : t < cI (f 1)) : sH f t < 3 ∧ f (11 + cI (sOf f t 0)) = nI (sH f t) := by
  have h1 := h.l (h.ln ht).2
  exact ⟨Nat.lt_succ_of_le (cI_le (Int.le_refl 0) h1), nI_cI h1.1⟩
end PI
/-- the class's plant at the role q holds the numbers f, g -/
def Sm (I : kI) (L : kL) (q : Nat) (f : Fr) (g : Gr) : Prop :=
  (∀ i, i < 8 → I q (3 + i) = f i) ∧ (∀ h, h < 3 → I (q + 1) h = f (8 + h)) ∧ (∀ i, i < cI (f 0) → I (q + 2) i = f (11 + i)) ∧
  (∀ t, t < cI (f 1) → (∀ w, w < 7 → I (q + 4 + t) w = sOf f t w) ∧ L (q + 4 + t) 7 = g t) ∧
  (∀ t, cI (f 1) ≤ t → t < 16 → I (q + 4 + t) 5 = 0 ∧ I (q + 4 + t) 6 = -1 ∧ L (q + 4 + t) 7 = 0)
section SM
variable {I : kI} {L : kL} {f : Fr} {g : Gr}
theorem Sm.a0 (h : Sm I L 1 f g) : I 1 3 = f 0 := h.1 0 (by decide)
theorem Sm.a1 (h : Sm I L 1 f g) : I 1 4 = f 1 := h.1 1 (by decide)
theorem Sm.a2 (h : Sm I L 1 f g) : I 1 5 = f 2 := h.1 2 (by decide)
theorem Sm.a3 (h : Sm I L 1 f g) : I 1 6 = f 3 := h.1 3 (by decide)
theorem Sm.a4 (h : Sm I L 1 f g) : I 1 7 = f 4 := h.1 4 (by decide)
theorem Sm.a5 (h : Sm I L 1 f g) : I 1 8 = f 5 := h.1 5 (by decide)
theorem Sm.a6 (h : Sm I L 1 f g) : I 1 9 = f 6 := h.1 6 (by decide)
theorem Sm.a7 (h : Sm I L 1 f g) : I 1 10 = f 7 := h.1 7 (by decide)
theorem Sm.pr (h : Sm I L 1 f g) {i : Nat} (hi : i < 3) : I 2 i = f (8 + i) := h.2.1 i hi
theorem Sm.li (h : Sm I L 1 f g) {i : Nat} (hi : i < cI (f 0)) : I 3 i = f (11 + i) := h.2.2.1 i hi
theorem Sm.tr (h : Sm I L 1 f g) {t : Nat} (ht : t < cI (f 1)) {w : Nat} (hw : w < 7) : I (5 + t) w = sOf f t w := (h.2.2.2.1 t ht).1 w hw
theorem Sm.lo (h : Sm I L 1 f g) {t : Nat} (ht : t < cI (f 1)) : L (5 + t) 7 = g t := (h.2.2.2.1 t ht).2
theorem Sm.un (h : Sm I L 1 f g) {t : Nat} (ht : cI (f 1) ≤ t) (h2 : t < 16) : I (5 + t) 5 = 0 ∧ I (5 + t) 6 = -1 ∧ L (5 + t) 7 = 0 := h.2.2.2.2 t ht h2
end SM
/-- losses as natural numbers -/
theorem eq0_of {x : Int64} (h : 0 ≤ x.toInt) (h2 : ¬ 0 < x) : x = 0 := by
  rw [Int64.lt_iff_toInt_lt] at h2
  apply Int64.toInt_inj.mp
  simp at h2 ⊢
  omega
theorem loss_nat {z st p : Int32} (hz : inR 1 z 9) (hp : inR 1 p 20) : ∃ x, x ≤ 17010 ∧ lossQ z st p = nI x := by
  have ha : cI z ≤ 9 := cI_le (by decide) hz
  have hb : cI p ≤ 20 := cI_le (by decide) hp
  have ez : z = nI (cI z) := nI_cI (by have := hz.1; omega)
  have ep : p = nI (cI p) := nI_cI (by have := hp.1; omega)
  have e : z * z * (p + 1) * 10 = nI (cI z * cI z * (cI p + 1) * 10) := by
    rw [ez, ep, pk_mul, nI_1, pk_mul, show (10 : Int32) = nI 10 from rfl, pk_mul, ← ez, ← ep]
  have b1 : cI z * cI z ≤ 9 * 9 := Nat.mul_le_mul ha ha
  have b2 : cI z * cI z * (cI p + 1) ≤ 9 * 9 * 21 := Nat.mul_le_mul b1 (by omega)
  unfold lossQ
  rw [e]
  split
  · exact ⟨_, by omega, rfl⟩
  · split
    · exact ⟨cI z * cI z * (cI p + 1) * 10 / 4, by omega, by rw [show (4 : Int32) = nI 4 from rfl, pk_div (by omega) (by decide) (by decide)]⟩
    · exact ⟨0, by omega, rfl⟩
theorem sLoss_nat {f : Fr} (hP : PInv f) {t : Nat} (ht : t < cI (f 1)) : ∃ x, x ≤ 17010 ∧ sLoss f t = nI x := loss_nat (hP.t ht).2.2.1 (hP.p (hP.hd ht).1)
theorem sWorth_nat {f : Fr} (hP : PInv f) {t : Nat} (ht : t < cI (f 1)) : ∃ x y, x ≤ 17010 ∧ 0 < y ∧ y ≤ 24000 ∧ sLoss f t = nI x ∧ sWorth f t = lN (x * y) := by
  obtain ⟨x, hx, e⟩ := sLoss_nat hP ht
  have h2 := hP.2.1.1
  have h3 := hP.2.1.2.1
  have a2 : cI (f 2) ≤ 24 := cI_le (by decide) h2
  have a3 : cI (f 3) ≤ 1000 := cI_le (by decide) h3
  have b2 := cI_int (x := f 2) (by have := h2.1; omega)
  have b3 := cI_int (x := f 3) (by have := h3.1; omega)
  have e2 : f 2 = nI (cI (f 2)) := nI_cI (by have := h2.1; omega)
  have e3 : f 3 = nI (cI (f 3)) := nI_cI (by have := h3.1; omega)
  refine ⟨x, cI (f 2) * cI (f 3), hx, Nat.mul_pos (by have := h2.1; omega) (by have := h3.1; omega), (Nat.mul_le_mul a2 a3 : _ ≤ 24 * 1000), e, ?_⟩
  unfold sWorth worthQ
  rw [e, e2, e3, nI_l (by omega), nI_l (by omega), nI_l (by omega), lN_mul, lN_mul, ← e2, ← e3, Nat.mul_assoc]
theorem worth_nn {f : Fr} (hP : PInv f) {t : Nat} (ht : t < cI (f 1)) : 0 ≤ (sWorth f t).toInt := by
  obtain ⟨x, y, hx, -, hy, -, e⟩ := sWorth_nat hP ht
  have hb : x * y ≤ 17010 * 24000 := Nat.mul_le_mul hx hy
  rw [e, pk_lT (by omega)]
  omega
