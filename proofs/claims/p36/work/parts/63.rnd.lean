/-! ===== the round, as the law asks it ===== -/
theorem nr_near {f : Fr} {w : Nat → Bool} {a b : Int32} : ∀ i, i ≤ 16 → ((nrS f w a b i).1 = -1 ∧ ∀ t, t < i → w t = false) ∨ ∃ t, t < i ∧ w t = true ∧ nrS f w a b i = (nI t, wayF f t a b) ∧ ∀ k, k < i → w k = true → ¬ wayF f k a b < wayF f t a b ∧ (wayF f k a b = wayF f t a b → t ≤ k)
  | 0, _ => Or.inl ⟨rfl, fun t ht => absurd ht (Nat.not_lt_zero t)⟩
  | i + 1, hi => by
    by_cases h : w i = true ∧ ((nrS f w a b i).1 = -1 ∨ wayF f i a b < (nrS f w a b i).2)
    · refine Or.inr ⟨i, Nat.lt_succ_self i, h.1, nr_take h, fun k hk hw => ?_⟩
      by_cases e : k = i
      · subst e
        exact ⟨Int32.lt_irrefl, fun _ => Nat.le_refl _⟩
      · rcases nr_near (f := f) (w := w) (a := a) (b := b) i (by omega) with ⟨q1, q2⟩ | ⟨t, q1, q2, q3, q4⟩
        · rw [q2 k (by omega)] at hw; exact absurd hw (by decide)
        · have h2 : wayF f i a b < wayF f t a b := by
            rcases h.2 with z | z
            · rw [q3] at z; exact absurd z (nI_neg1 (by omega))
            · rw [q3] at z; exact z
          have h3 := (q4 k (by omega) hw).1
          rw [lt_i] at h2 h3
          refine ⟨by rw [lt_i]; omega, fun z => ?_⟩
          rw [eq_i] at z
          omega
    · rw [nr_skip h]
      rcases nr_near (f := f) (w := w) (a := a) (b := b) i (by omega) with ⟨q1, q2⟩ | ⟨t, q1, q2, q3, q4⟩
      · refine Or.inl ⟨q1, fun t ht => ?_⟩
        by_cases e : t = i
        · subst e
          cases hw : w t with
          | false => rfl
          | true => exact absurd ⟨hw, Or.inl q1⟩ h
        · exact q2 t (by omega)
      · refine Or.inr ⟨t, by omega, q2, q3, fun k hk hw => ?_⟩
        by_cases e : k = i
        · subst e
          have h2 : ¬ wayF f k a b < wayF f t a b := fun z => h ⟨hw, Or.inr (by rw [q3]; exact z)⟩
          exact ⟨h2, fun _ => by omega⟩
        · exact q4 k (by omega) hw
theorem wk_keep {f : Fr} : ∀ (m : Nat) (w : Nat → Bool) (a b : Int32) (k : Nat) (st : Nat → Int32) (len : Int32), k ≤ (wk f m w a b k st len).1 ∧ ∀ j, j < k → (wk f m w a b k st len).2.1 j = st j
  | 0, _, _, _, _, _, _ => ⟨Nat.le_refl _, fun _ _ => rfl⟩
  | m + 1, w, a, b, k, st, len => by
    rw [wk]
    split
    · exact ⟨Nat.le_refl _, fun _ _ => rfl⟩
    · refine ⟨?_, fun j hj => ?_⟩
      · have := (wk_keep (f := f) m (va_up w (cI (nrS f w a b (cI (f 1))).1) false) (sOf f (cI (nrS f w a b (cI (f 1))).1) 3) (sOf f (cI (nrS f w a b (cI (f 1))).1) 4) (k + 1) (va_up st k (nrS f w a b (cI (f 1))).1) (len + (nrS f w a b (cI (f 1))).2)).1
        omega
      · rw [(wk_keep (f := f) m (va_up w (cI (nrS f w a b (cI (f 1))).1) false) (sOf f (cI (nrS f w a b (cI (f 1))).1) 3) (sOf f (cI (nrS f w a b (cI (f 1))).1) 4) (k + 1) (va_up st k (nrS f w a b (cI (f 1))).1) (len + (nrS f w a b (cI (f 1))).2)).2 j (by omega), va_up_ne _ _ (by omega)]
theorem cnt_off1 {w : Nat → Bool} {t : Nat} (hw : w t = true) : ∀ {n : Nat}, t < n → cnt (va_up w t false) n + 1 = cnt w n
  | 0, h => absurd h (Nat.not_lt_zero t)
  | n + 1, h => by
    rw [cnt, cnt]
    by_cases e : t = n
    · subst e
      rw [va_up_self, hw, if_pos rfl, if_neg (by decide), cnt_cong (P := va_up w t false) (Q := w) (fun b hb => va_up_ne _ _ (by omega))]
    · rw [va_up_ne _ _ (Ne.symm e), ← cnt_off1 hw (n := n) (by omega)]
      omega
theorem cnt_sum (P : Nat → Bool) : ∀ n, sSum (fun t => if P t = true then 1 else 0) n = nI (cnt P n)
  | 0 => rfl
  | n + 1 => by
    rw [sSum, cnt, cnt_sum P n]
    split
    · rw [nI_1]
    · rw [Int32.add_zero, Nat.add_zero]
theorem cnt_zero {P : Nat → Bool} : ∀ {n : Nat}, (∀ t, t < n → P t = false) → cnt P n = 0
  | 0, _ => rfl
  | n + 1, h => by rw [cnt, cnt_zero (fun t ht => h t (by omega)), h n (by omega)]; rfl
/-- where the law's walk stands: n traps are visited, w wait, at (x, y), len behind -/
def RdI (f : Fr) (n : Nat) (w : Nat → Bool) (x y len : Int32) : Prop :=
  ∃ (M : Nat) (st : Nat → Int32), cnt w (cI (f 1)) < M ∧ wk f M w x y n st len = wkF f ∧ cnt (fun t => decide (sDue f t)) (cI (f 1)) = n + cnt w (cI (f 1)) ∧ (∀ t, w t = true → sDue f t) ∧ inR 0 x 50 ∧ inR 0 y 50 ∧ n ≤ 16
theorem RdI.start {f : Fr} (hP : PInv f) : RdI f 0 (fun t => decide (sDue f t)) 0 0 0 := by
  have h := cnt_le (fun t => decide (sDue f t)) (cI (f 1))
  have hn := hP.nT
  exact ⟨17, fun _ => 0, by omega, rfl, by omega, fun t h => of_decide_eq_true h, due0 (f := f), due0 (f := f), by omega⟩
/-- the walk's next step, or its end -/
theorem RdI.step {f : Fr} (hP : PInv f) {n : Nat} {w : Nat → Bool} {x y len : Int32} (h : RdI f n w x y len) :
    ((wkF f).1 = n ∧ (wkF f).2.2 = len + (x + y) ∧ (∀ t, t < cI (f 1) → w t = false) ∧ cnt (fun t => decide (sDue f t)) (cI (f 1)) = n) ∨
    ∃ t, t < cI (f 1) ∧ w t = true ∧ n < (wkF f).1 ∧ (wkF f).2.1 n = nI t ∧ (∀ k, k < cI (f 1) → w k = true → ¬ wayF f k x y < wayF f t x y ∧ (wayF f k x y = wayF f t x y → t ≤ k)) ∧ RdI f (n + 1) (va_up w t false) (sOf f t 3) (sOf f t 4) (len + wayF f t x y) := by
  obtain ⟨M, st, h1, h2, h3, h4, h5, h6, h7⟩ := h
  have hn := hP.nT
  rcases nr_near (f := f) (w := w) (a := x) (b := y) (cI (f 1)) hn with ⟨q1, q2⟩ | ⟨t, q1, q2, q3, q4⟩
  · refine Or.inl ?_
    rw [wk_stop M q1] at h2
    rw [← h2]
    refine ⟨rfl, rfl, q2, ?_⟩
    rw [h3, cnt_zero q2, Nat.add_zero]
  · refine Or.inr ⟨t, q1, q2, ?_⟩
    have h8 := cnt_off1 q2 q1
    have hd := cnt_le (fun t => decide (sDue f t)) (cI (f 1))
    obtain ⟨M, rfl⟩ : ∃ m, M = m + 1 := ⟨M - 1, by omega⟩
    rw [wk_go M (by omega) q3] at h2
    have h9 := wk_keep (f := f) M (va_up w t false) (sOf f t 3) (sOf f t 4) (n + 1) (va_up st n (nI t)) (len + wayF f t x y)
    rw [h2] at h9
    refine ⟨by omega, by rw [h9.2 n (by omega), va_up_self], q4, M, _, by omega, h2, by omega, fun k hk => ?_, (hP.t q1).2.2.2.1, (hP.t q1).2.2.2.2.1, by omega⟩
    by_cases e : k = t
    · subst e; rw [va_up_self] at hk; exact absurd hk (by decide)
    · rw [va_up_ne _ _ e] at hk; exact h4 k hk
theorem round_at {A : kA} {n : Nat} (hn : n < 2 ^ 31) (hk : (wkF (aF A)).1 < 2 ^ 31) : rRound A (nI n) = if n < (wkF (aF A)).1 then (wkF (aF A)).2.1 n else -1 := by
  unfold rRound
  rw [if_neg (nI_pos hn), cI_nI hn]
  by_cases q : n < (wkF (aF A)).1
  · rw [if_pos q, if_pos (nI_lt q hk)]
  · rw [if_neg q, if_neg (nI_nlt (by omega) hn)]
theorem wkF_le {f : Fr} (hP : PInv f) : (wkF f).1 ≤ 16 := by
  have key : ∀ (m n : Nat) (w : Nat → Bool) (x y len : Int32), 16 < n + m → RdI f n w x y len → (wkF f).1 ≤ 16 := by
    intro m
    induction m with
    | zero => intro n w x y len h1 h2; obtain ⟨M, st, q⟩ := h2; omega
    | succ m ih =>
      intro n w x y len h1 h2
      rcases h2.step hP with ⟨q1, -⟩ | ⟨t, -, -, -, -, -, q⟩
      · obtain ⟨M, st, z⟩ := h2; omega
      · exact ih (n + 1) _ _ _ _ (by omega) q
  exact key 17 0 _ _ _ _ (by omega) (RdI.start hP)
theorem due_not {f : Fr} (hP : PInv f) {t : Nat} (ht : t < cI (f 1)) (h : ¬ sDue f t) : sOf f t 5 = 1 ∧ ¬ sOf f t 6 + f 4 ≤ f 5 := by
  have h1 : ¬ sOf f t 6 = -1 := fun q => h (Or.inl q)
  have h2 : sOf f t 5 = 1 := Classical.byContradiction fun q => h (Or.inr (Or.inl q))
  have h3 : ¬ f 4 ≤ f 5 - sOf f t 6 := fun q => h (Or.inr (Or.inr q))
  have r6 := (hP.t ht).2.2.2.2.2.2
  have r4 := hP.2.1.2.2.1
  have r5 := hP.2.1.2.2.2
  unfold inR at r6 r4 r5
  rw [eq_i, show (-1 : Int32).toInt = -1 from rfl] at h1
  rw [le_i, sub_i (by omega) (by omega)] at h3
  refine ⟨h2, ?_⟩
  rw [le_i, add_i (by omega) (by omega)]
  omega
