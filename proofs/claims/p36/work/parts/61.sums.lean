/-! ===== sums by keys ===== -/
theorem sSum_add (h h' : Nat → Int32) : ∀ n, sSum (fun t => h t + h' t) n = sSum h n + sSum h' n
  | 0 => by rw [sSum, sSum, sSum]; rfl
  | n + 1 => by
    rw [sSum, sSum, sSum, sSum_add h h' n]
    ac_rfl
theorem sSum_0 : ∀ n, sSum (fun _ => (0 : Int32)) n = 0
  | 0 => rfl
  | n + 1 => by rw [sSum, sSum_0 n]; rfl
theorem sSum_1 : ∀ n, sSum (fun _ => (1 : Int32)) n = nI n
  | 0 => rfl
  | n + 1 => by rw [sSum, sSum_1 n, nI_1]
theorem sSum_one {k0 : Nat} {x : Int32} (h0 : k0 < 2 ^ 31) : ∀ m, m ≤ 2 ^ 31 → sSum (fun k => if nI k0 = nI k then x else 0) m = if k0 < m then x else 0
  | 0, _ => by rw [sSum, if_neg (Nat.not_lt_zero _)]
  | m + 1, hm => by
    rw [sSum, sSum_one h0 m (by omega)]
    by_cases h : k0 = m
    · subst h
      rw [if_neg (Nat.lt_irrefl _), if_pos rfl, if_pos (Nat.lt_succ_self _), Int32.zero_add]
    · rw [if_neg (fun q => h ((nI_eq h0 (by omega)).mp q)), Int32.add_zero]
      by_cases h2 : k0 < m
      · rw [if_pos h2, if_pos (by omega)]
      · rw [if_neg h2, if_neg (by omega)]
theorem sum_keys {key v : Nat → Int32} {m : Nat} (hm : m ≤ 2 ^ 31) : ∀ n, (∀ t, t < n → ∃ k, k < m ∧ key t = nI k) → sSum (fun k => sSum (fun t => if key t = nI k then v t else 0) n) m = sSum v n
  | 0, _ => by
    have e : (fun k => sSum (fun t => if key t = nI k then v t else 0) 0) = fun _ => (0 : Int32) := rfl
    rw [e, sSum_0, sSum]
  | n + 1, h => by
    have e : (fun k => sSum (fun t => if key t = nI k then v t else 0) (n + 1)) = fun k => sSum (fun t => if key t = nI k then v t else 0) n + (if key n = nI k then v n else 0) := rfl
    obtain ⟨k0, hk, e0⟩ := h n (Nat.lt_succ_self n)
    rw [e, sSum_add, sum_keys hm n (fun t ht => h t (by omega)), e0, sSum_one (by omega) m hm, if_pos hk, sSum]
section SK
variable {A : kA} (hA : AInv A)
theorem sum_lines (hA : AInv A) : sSum (fun k => rLineLoss A (nI k)) (cI (aF A 0)) = sSum (sLoss (aF A)) (cI (aF A 1)) := by
  have hP := hA.f
  have hn := hP.nL
  rw [← sum_keys (key := fun t => sOf (aF A) t 0) (v := sLoss (aF A)) (m := cI (aF A 0)) (by omega) (cI (aF A 1)) (fun t ht => ⟨_, (hP.ln ht).2, (hP.ln ht).1⟩)]
  refine sSum_cong (fun k hk => ?_)
  unfold rLineLoss
  rw [if_pos ⟨nI_pos' (by omega), by rw [hP.e0]; exact nI_lt hk (by omega)⟩]
theorem sum_headers (hA : AInv A) : sSum (fun k => rHeaderLoss A (nI k)) 3 = sSum (sLoss (aF A)) (cI (aF A 1)) := by
  have hP := hA.f
  rw [← sum_keys (key := fun t => nI (sH (aF A) t)) (v := sLoss (aF A)) (m := 3) (by omega) (cI (aF A 1)) (fun t ht => ⟨_, (hP.hd ht).1, rfl⟩)]
  refine sSum_cong (fun k hk => ?_)
  unfold rHeaderLoss
  rw [if_pos ⟨nI_pos' (by omega), nI_lt (b := 3) hk (by decide)⟩]
theorem st_key (hA : AInv A) {t : Nat} (ht : t < cI (aF A 1)) : ∃ k, k < 6 ∧ sOf (aF A) t 5 = nI k := by
  have h := (hA.f.t ht).2.2.2.2.2.1
  have h2 : cI (sOf (aF A) t 5) ≤ 5 := cI_le (by decide) h
  exact ⟨cI (sOf (aF A) t 5), by omega, nI_cI h.1⟩
theorem sum_states (hA : AInv A) : sSum (fun k => rInState A (nI k)) 6 = aF A 1 := by
  have hP := hA.f
  have e := sum_keys (key := fun t => sOf (aF A) t 5) (v := fun _ => (1 : Int32)) (m := 6) (by omega) (cI (aF A 1)) (fun t ht => st_key hA ht)
  rw [sSum_1, ← hP.e1] at e
  rw [← e]
  refine sSum_cong (fun k hk => ?_)
  unfold rInState
  rw [if_pos ⟨nI_pos' (by omega), nI_le (b := 5) (by omega) (by decide)⟩]
end SK
