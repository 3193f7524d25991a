/-! ===== the order of repairs, as the law asks it ===== -/
theorem ahd_tot {f : Fr} {a b : Nat} (h : a ≠ b) : ahd f a b = true ∨ ahd f b a = true := by
  rw [ahd_iff, ahd_iff]
  omega
theorem rkd_place {f : Fr} {i c : Nat} {rL : Nat → Nat} (h : Rkd f i rL c) : ∀ c', c' ≤ c → ∃ j, j ≤ c' ∧ (∀ p, j ≤ p → p < c' → ahd f i (rL p) = true) ∧ ∀ p, p < j → ahd f (rL p) i = true
  | 0, _ => ⟨0, Nat.le_refl 0, fun p _ h => absurd h (Nat.not_lt_zero p), fun p h => absurd h (Nat.not_lt_zero p)⟩
  | c' + 1, hc => by
    obtain ⟨j, h1, h2, h3⟩ := rkd_place h c' (by omega)
    have hb := (h.2.2.1 c' (by omega)).1
    rcases ahd_tot (f := f) (a := rL c') (b := i) (by omega) with q | q
    · refine ⟨c' + 1, Nat.le_refl _, fun p a b => by omega, fun p hp => ?_⟩
      by_cases e : p = c'
      · subst e; exact q
      · exact ahd_trans (h.2.1 p c' (by omega) (by omega)) q
    · refine ⟨j, by omega, fun p a b => ?_, h3⟩
      by_cases e : p = c'
      · subst e; exact q
      · exact h2 p a (by omega)
theorem rkd_ex (f : Fr) : ∀ n, ∃ rL c, Rkd f n rL c
  | 0 => ⟨fun _ => 0, 0, Rkd.nil⟩
  | n + 1 => by
    obtain ⟨rL, c, h⟩ := rkd_ex f n
    by_cases hp : pos f n = true
    · obtain ⟨j, h1, h2, h3⟩ := rkd_place h c (Nat.le_refl c)
      exact ⟨_, _, h.ins hp h1 h2 h3⟩
    · exact ⟨rL, c, h.skip (Bool.eq_false_iff.mpr hp)⟩
theorem ord_at {A : kA} (hA : AInv A) {rL : Nat → Nat} {c : Nat} (h : Rkd (aF A) (cI (aF A 1)) rL c) {n : Nat} (hn : n < 2 ^ 31) : rOrder A (nI n) = if n < c then nI (rL n) else -1 := by
  have hT := hA.f.nT
  have hc := h.2.2.2
  unfold rOrder
  rw [if_neg (nI_pos hn), h.ord hT, cI_nI hn]
  by_cases q : n < c
  · rw [if_pos ⟨nI_pos' hn, nI_lt q (by omega)⟩, if_pos q]
  · rw [if_neg (fun z => nI_nlt (a := n) (b := c) (by omega) hn z.2), if_neg q]
/-- what a repair pays, as natural numbers -/
theorem pay_nat {f : Fr} (hP : PInv f) {t : Nat} (ht : t < cI (f 1)) (hp : pos f t = true) : ∃ w M d : Nat, sWorth f t = lN w ∧ 0 < w ∧ w < 2 ^ 30 ∧ 1000000 * (sCost f t).toInt64 = lN M ∧ 0 < M ∧ M < 2 ^ 30 ∧ sPay f t = lN d ∧ 1 ≤ d ∧ d < 2 ^ 30 ∧ M ≤ w * d ∧ (1 < d → w * (d - 1) < M) ∧ w * d < 2 ^ 40 := by
  obtain ⟨x, y, hx, hy0, hy, e, ew⟩ := sWorth_nat hP ht
  have hx0 : 0 < x := by
    unfold pos at hp
    rw [decide_eq_true_eq, e, lt_i, i0, nI_toInt (by omega)] at hp
    omega
  have hw0 : 0 < x * y := Nat.mul_pos hx0 hy0
  have hw : x * y ≤ 17010 * 24000 := Nat.mul_le_mul hx hy
  have hk := (hP.t ht).2.1
  have hz := (hP.t ht).2.2.1
  have hz9 : cI (sOf f t 2) ≤ 9 := cI_le (by decide) hz
  have ez : sOf f t 2 = nI (cI (sOf f t 2)) := nI_cI (by have := hz.1; omega)
  have ec : ∃ c : Nat, 0 < c ∧ c ≤ 230 ∧ sCost f t = nI c := by
    unfold sCost costQ
    rw [ez]
    split
    · exact ⟨30 + 10 * cI (sOf f t 2), by omega, by omega, by rw [show (30 : Int32) = nI 30 from rfl, show (10 : Int32) = nI 10 from rfl, pk_mul, nI_add]⟩
    · exact ⟨50 + 20 * cI (sOf f t 2), by omega, by omega, by rw [show (50 : Int32) = nI 50 from rfl, show (20 : Int32) = nI 20 from rfl, pk_mul, nI_add]⟩
  obtain ⟨c, hc0, hc, ec⟩ := ec
  have eM : 1000000 * (sCost f t).toInt64 = lN (1000000 * c) := by
    rw [ec, nI_l (by omega), show (1000000 : Int64) = lN 1000000 from rfl, lN_mul]
  generalize x * y = w at ew hw0 hw
  have hne : ¬ sWorth f t = 0 := by
    rw [ew, show (0 : Int64) = lN 0 from rfl, lN_eq (by omega) (by omega)]
    omega
  have ep : sPay f t = lN ((1000000 * c + w - 1) / w) := by
    unfold sPay
    rw [if_neg hne, eM, ew, lN_add, show (1 : Int64) = lN 1 from rfl, lN_sub (by omega), pk_lDiv (by omega) (by omega) (by omega)]
  have d1 := Nat.div_add_mod (1000000 * c + w - 1) w
  have d2 := Nat.mod_lt (1000000 * c + w - 1) hw0
  have d3 := Nat.div_le_self (1000000 * c + w - 1) w
  generalize (1000000 * c + w - 1) / w = d at ep d1 d3
  generalize (1000000 * c + w - 1) % w = r at d1 d2
  have d4 : 1 ≤ d := by
    rcases Nat.eq_zero_or_pos d with q | q
    · subst q; omega
    · exact q
  refine ⟨w, 1000000 * c, d, ew, hw0, by omega, eM, by omega, by omega, ep, d4, by omega, by omega, fun _ => ?_, by omega⟩
  have e5 : w * d = w * (d - 1) + w := by
    obtain ⟨k, rfl⟩ : ∃ k, d = k + 1 := ⟨d - 1, by omega⟩
    rw [Nat.add_sub_cancel, Nat.mul_succ]
  omega
theorem npos_facts {f : Fr} (hP : PInv f) {t : Nat} (ht : t < cI (f 1)) (hp : pos f t = false) : sLoss f t = 0 ∧ sPay f t = -1 ∧ sWorth f t / 1000000 = 0 := by
  obtain ⟨x, y, hx, hy0, hy, e, ew⟩ := sWorth_nat hP ht
  have hx0 : x = 0 := by
    unfold pos at hp
    rw [decide_eq_false_iff_not, e, lt_i, i0, nI_toInt (by omega)] at hp
    omega
  subst hx0
  have e0 : sWorth f t = 0 := by rw [ew, Nat.zero_mul]; rfl
  refine ⟨by rw [e]; rfl, ?_, ?_⟩
  · unfold sPay
    rw [if_pos e0]
  · rw [e0]; decide +kernel
