/-! ===== the round: the nearest trap that is due, again and again ===== -/
def sz (x : Int32) : Int32 := if 0 ≤ x then x else 0 - x
def wayF (f : Fr) (t : Nat) (a b : Int32) : Int32 := sz (sOf f t 3 - a) + sz (sOf f t 4 - b)
theorem sz_rng {x a : Int32} (hx : inR 0 x 50) (ha : inR 0 a 50) : inR 0 (sz (x - a)) 50 := by
  obtain ⟨h1, h2⟩ := hx
  obtain ⟨h3, h4⟩ := ha
  have e : (x - a).toInt = x.toInt - a.toInt := sub_i (by omega) (by omega)
  unfold sz inR
  by_cases h : 0 ≤ x - a
  · rw [if_pos h, e]; rw [le_i, i0, e] at h; omega
  · rw [if_neg h, sub_i (by rw [i0, e]; omega) (by rw [i0, e]; omega), i0, e]; rw [le_i, i0, e] at h; omega
theorem sz_self {x : Int32} (hx : inR 0 x 50) : sz (x - 0) = x := by
  have h0 : (0 : Int32).toInt = 0 := rfl
  obtain ⟨h1, h2⟩ := hx
  unfold sz
  rw [Int32.sub_zero, if_pos (by rw [le_i, i0]; exact h1)]
theorem wayF_lt {f : Fr} (hP : PInv f) {t : Nat} (ht : t < cI (f 1)) {a b : Int32} (ha : inR 0 a 50) (hb : inR 0 b 50) : wayF f t a b < 2147483647 := by
  have h1 := sz_rng (hP.t ht).2.2.2.1 ha
  have h2 := sz_rng (hP.t ht).2.2.2.2.1 hb
  have h3 : (2147483647 : Int32).toInt = 2147483647 := rfl
  unfold wayF
  unfold inR at h1 h2
  rw [lt_i, add_i (by omega) (by omega), h3]
  omega
def nrS (f : Fr) (w : Nat → Bool) (a b : Int32) : Nat → Int32 × Int32
  | 0 => (-1, 0)
  | i + 1 => if w i = true ∧ ((nrS f w a b i).1 = -1 ∨ wayF f i a b < (nrS f w a b i).2) then (nI i, wayF f i a b) else nrS f w a b i
def bdC (f : Fr) (w : Nat → Bool) (a b : Int32) (i : Nat) : Int32 := if (nrS f w a b i).1 = -1 then 2147483647 else (nrS f w a b i).2
theorem nI_neg1 {j : Nat} (h : j < 2 ^ 31) : ¬ nI j = -1 := by
  rw [eq_i, nI_toInt h, show (-1 : Int32).toInt = -1 from rfl]
  omega
section NR
variable {f : Fr} {w : Nat → Bool} {a b : Int32} {i : Nat}
theorem nr_skip (h : ¬ (w i = true ∧ ((nrS f w a b i).1 = -1 ∨ wayF f i a b < (nrS f w a b i).2))) : nrS f w a b (i + 1) = nrS f w a b i := by rw [nrS, if_neg h]
theorem nr_take (h : w i = true ∧ ((nrS f w a b i).1 = -1 ∨ wayF f i a b < (nrS f w a b i).2)) : nrS f w a b (i + 1) = (nI i, wayF f i a b) := by rw [nrS, if_pos h]
theorem nr_c (hi : i ≤ 16) : ((nrS f w a b i).1 = -1 ∧ ∀ t, t < i → w t = false) ∨ ∃ t, t < i ∧ w t = true ∧ nrS f w a b i = (nI t, wayF f t a b) := by
  induction i with
  | zero => exact Or.inl ⟨rfl, fun t ht => absurd ht (Nat.not_lt_zero t)⟩
  | succ i ih =>
    by_cases h : w i = true ∧ ((nrS f w a b i).1 = -1 ∨ wayF f i a b < (nrS f w a b i).2)
    · exact Or.inr ⟨i, by omega, h.1, nr_take h⟩
    · rw [nr_skip h]
      rcases ih (by omega) with ⟨h1, h2⟩ | ⟨t, h1, h2, h3⟩
      · refine Or.inl ⟨h1, fun t ht => ?_⟩
        by_cases hti : t = i
        · subst hti
          cases hw : w t with
          | false => rfl
          | true => exact absurd ⟨hw, Or.inl h1⟩ h
        · exact h2 t (by omega)
      · exact Or.inr ⟨t, by omega, h2, h3⟩
theorem nc1 (h : ¬ w i = true) : (nrS f w a b (i + 1)).1 = (nrS f w a b i).1 ∧ bdC f w a b (i + 1) = bdC f w a b i := by
  have e := nr_skip (f := f) (a := a) (b := b) (fun q => h q.1)
  unfold bdC
  rw [e]
  exact ⟨rfl, rfl⟩
theorem nc2 (hP : PInv f) (hi : i < cI (f 1)) (ha : inR 0 a 50) (hb : inR 0 b 50) (h : bdC f w a b i ≤ wayF f i a b) : (nrS f w a b (i + 1)).1 = (nrS f w a b i).1 ∧ bdC f w a b (i + 1) = bdC f w a b i := by
  have hl := wayF_lt hP hi ha hb
  have e := nr_skip (f := f) (w := w) (a := a) (b := b) (i := i) (fun q => by
    unfold bdC at h
    rcases q.2 with q1 | q1
    · rw [if_pos q1] at h; exact Int32.not_le.mpr hl h
    · by_cases q2 : (nrS f w a b i).1 = -1
      · rw [if_pos q2] at h; exact Int32.not_le.mpr hl h
      · rw [if_neg q2] at h; exact Int32.not_le.mpr q1 h)
  unfold bdC
  rw [e]
  exact ⟨rfl, rfl⟩
theorem nc3 (hi : i < 16) (hw : w i = true) (h : ¬ bdC f w a b i ≤ wayF f i a b) : (nrS f w a b (i + 1)).1 = nI i ∧ bdC f w a b (i + 1) = wayF f i a b := by
  have e := nr_take (f := f) (w := w) (a := a) (b := b) (i := i) ⟨hw, by
    unfold bdC at h
    by_cases q2 : (nrS f w a b i).1 = -1
    · exact Or.inl q2
    · rw [if_neg q2] at h; exact Or.inr (Int32.not_le.mp h)⟩
  unfold bdC
  rw [e, if_neg (nI_neg1 (by omega))]
  exact ⟨rfl, rfl⟩
end NR
def wk (f : Fr) : Nat → (Nat → Bool) → Int32 → Int32 → Nat → (Nat → Int32) → Int32 → Nat × (Nat → Int32) × Int32
  | 0, _, a, b, k, st, len => (k, st, len + (a + b))
  | m + 1, w, a, b, k, st, len =>
    if (nrS f w a b (cI (f 1))).1 = -1 then (k, st, len + (a + b))
    else wk f m (va_up w (cI (nrS f w a b (cI (f 1))).1) false) (sOf f (cI (nrS f w a b (cI (f 1))).1) 3) (sOf f (cI (nrS f w a b (cI (f 1))).1) 4) (k + 1) (va_up st k (nrS f w a b (cI (f 1))).1) (len + (nrS f w a b (cI (f 1))).2)
def wkF (f : Fr) : Nat × (Nat → Int32) × Int32 := wk f 17 (fun t => decide (sDue f t)) 0 0 0 (fun _ => 0) 0
theorem wk_stop {f : Fr} {w : Nat → Bool} {a b : Int32} {k : Nat} {st : Nat → Int32} {len : Int32} (m : Nat) (h : (nrS f w a b (cI (f 1))).1 = -1) : wk f m w a b k st len = (k, st, len + (a + b)) := by
  cases m with
  | zero => rfl
  | succ m => rw [wk, if_pos h]
theorem wk_go {f : Fr} {w : Nat → Bool} {a b : Int32} {k : Nat} {st : Nat → Int32} {len : Int32} (m : Nat) {t : Nat} (ht : t < 16) (h : nrS f w a b (cI (f 1)) = (nI t, wayF f t a b)) : wk f (m + 1) w a b k st len = wk f m (va_up w t false) (sOf f t 3) (sOf f t 4) (k + 1) (va_up st k (nI t)) (len + wayF f t a b) := by
  have h1 : (nrS f w a b (cI (f 1))).1 = nI t := by rw [h]
  have h2 : (nrS f w a b (cI (f 1))).2 = wayF f t a b := by rw [h]
  rw [wk, h1, h2, if_neg (nI_neg1 (by omega)), cI_nI (by omega)]
theorem cnt_off {w : Nat → Bool} {t : Nat} (hw : w t = true) {n : Nat} (ht : t < n) : cnt (va_up w t false) n < cnt w n :=
  (cnt_slt (P := va_up w t false) (Q := w) (a := t) (va_up_self _ _ _) hw (fun b hb h => by
    by_cases hbt : b = t
    · rw [hbt]; exact hw
    · rwa [va_up_ne _ _ hbt] at h)).2 ht
theorem cnt_none {w : Nat → Bool} {n : Nat} (h : cnt w n = 0) : ∀ t, t < n → w t = false := fun t ht => by
  cases hw : w t with
  | false => rfl
  | true => have := cnt_pos hw ht; omega
theorem nr_none {f : Fr} {w : Nat → Bool} {a b : Int32} {n : Nat} (hn : n ≤ 16) (h : ∀ t, t < n → w t = false) : (nrS f w a b n).1 = -1 := by
  rcases nr_c (f := f) (w := w) (a := a) (b := b) hn with q | ⟨t, h1, h2, -⟩
  · exact q.1
  · rw [h t h1] at h2; exact absurd h2 (by decide)
def rRound (A : kA) (k : Int32) : Int32 := if k < 0 then -3 else if k < nI (wkF (aF A)).1 then (wkF (aF A)).2.1 (cI k) else -1
def rRoundLen (A : kA) : Int32 := (wkF (aF A)).2.2
theorem nbI (z : Bool) : narrow .boolean (.int (bI z)) = .int (bI z) := by cases z <;> rfl
/-- the rows of the round may change -/
def FrW (I I' : kI) : Prop := ∀ r, (r < 127 ∨ 130 ≤ r) → I' r = I r
theorem RC.rowsW {I I' : kI} {L : kL} {X : kX} {A : kA} (hC : RC I L X A) (hA : AInv A) (h : FrW I I') : RC I' L X A := by
  obtain ⟨pm, hH, hS, hT⟩ := hC
  exact ⟨pm, hH.frame hA (fun r r1 r2 => ⟨h r (by omega), rfl⟩) rfl, hS.frame hA.f.nT (fun r r1 r2 => ⟨h r (by omega), rfl⟩), by rw [h 130 (by omega)]; exact hT.1, fun j hj => by rw [h 131 (by omega)]; exact hT.2 j hj⟩
theorem due0 {f : Fr} : inR 0 (0 : Int32) 50 := ⟨by decide, by decide⟩
