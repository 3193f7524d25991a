/-! ===== the text: what both sides read ===== -/
theorem up2_up2 {α : Type} (F : Nat → Nat → α) (r j : Nat) (u v : α) : up2 (up2 F r j u) r j v = up2 F r j v := by
  funext a b
  by_cases h : a = r ∧ b = j
  · obtain ⟨rfl, rfl⟩ := h
    rw [up2_self, up2_self]
  · rw [up2_ne (by omega), up2_ne (by omega), up2_ne (by omega)]
section TXT
variable (T : Nat → Int32) (k : Nat)
def skF : Nat → Nat → Nat
  | 0, p => p
  | m + 1, p => if p < k ∧ T p = 32 then skF m (p + 1) else p
def sk (p : Nat) : Nat := skF T k (k - p) p
abbrev dg (x : Int32) : Prop := 48 ≤ x ∧ x ≤ 57
def dcF : Nat → Nat → Nat
  | 0, _ => 0
  | m + 1, q => if q < k ∧ dg (T q) then dcF m (q + 1) + 1 else 0
def dC (q : Nat) : Nat := dcF T k (k - q) q
def vl (q : Nat) : Nat → Int32
  | 0 => 0
  | d + 1 => 10 * vl q d + T (q + d) - 48
def nmb (mx : Int32) (p : Nat) : Bool × Nat × Int32 := if (1 ≤ dC T k (sk T k p) ∧ dC T k (sk T k p) ≤ 3) ∧ vl T (sk T k p) (dC T k (sk T k p)) ≤ mx then (true, sk T k p + dC T k (sk T k p), vl T (sk T k p) (dC T k (sk T k p))) else (false, sk T k p, 0)
def sgn (c : Int32) (p : Nat) : Bool × Nat := if sk T k p < k ∧ T (sk T k p) = c then (true, sk T k p + 1) else (false, sk T k p)
abbrev kRd : Type := Bool × Nat × Int32 × Int32 × Int32 × Int32
def rdg4 (t i o : Int32) (p : Nat) : kRd := if (sgn T k 64 p).1 = true then (if (nmb T k 60 (sgn T k 64 p).2).1 = true then (true, (nmb T k 60 (sgn T k 64 p).2).2.1, t, i, o, (nmb T k 60 (sgn T k 64 p).2).2.2) else (false, (nmb T k 60 (sgn T k 64 p).2).2.1, 0, 0, 0, 0)) else (true, (sgn T k 64 p).2, t, i, o, 0)
def rdg3 (t i : Int32) (p : Nat) : kRd := if (sgn T k 47 p).1 = true then (if (nmb T k 300 (sgn T k 47 p).2).1 = true then rdg4 T k t i (nmb T k 300 (sgn T k 47 p).2).2.2 (nmb T k 300 (sgn T k 47 p).2).2.1 else (false, (nmb T k 300 (sgn T k 47 p).2).2.1, 0, 0, 0, 0)) else (false, (sgn T k 47 p).2, 0, 0, 0, 0)
def rdg2 (t : Int32) (p : Nat) : kRd := if (sgn T k 58 p).1 = true then (if (nmb T k 300 (sgn T k 58 p).2).1 = true then rdg3 T k t (nmb T k 300 (sgn T k 58 p).2).2.2 (nmb T k 300 (sgn T k 58 p).2).2.1 else (false, (nmb T k 300 (sgn T k 58 p).2).2.1, 0, 0, 0, 0)) else (false, (sgn T k 58 p).2, 0, 0, 0, 0)
def rdg (n : Int32) (p : Nat) : kRd := if (nmb T k (n - 1) p).1 = true then rdg2 T k (nmb T k (n - 1) p).2.2 (nmb T k (n - 1) p).2.1 else (false, (nmb T k (n - 1) p).2.1, 0, 0, 0, 0)
/-- where the readings begin -/
def ps (n : Int32) : Nat → Nat
  | 0 => 0
  | j + 1 => (sgn T k 59 (rdg T k n (ps n j)).2.1).2
def lsE (n : Int32) : Nat → Nat → Bool × Nat × Nat
  | 0, j => (false, 0, j)
  | m + 1, j => if (rdg T k n (ps T k n j)).1 = true then (if (sgn T k 59 (rdg T k n (ps T k n j)).2.1).1 = true then lsE n m (j + 1) else (decide (k ≤ (sgn T k 59 (rdg T k n (ps T k n j)).2.1).2), (sgn T k 59 (rdg T k n (ps T k n j)).2.1).2, j + 1)) else (false, (rdg T k n (ps T k n j)).2.1, j)
def lsR (n : Int32) : Bool × Nat × Nat := lsE T k n 21 0
def rdsF (n : Int32) (f : Fr) : Nat → Fr
  | 0 => f
  | j + 1 => readF (rdsF n f j) (cI (rdg T k n (ps T k n j)).2.2.1) (sJud (rdsF n f j) (cI (rdg T k n (ps T k n j)).2.2.1) (rdg T k n (ps T k n j)).2.2.2.1 (rdg T k n (ps T k n j)).2.2.2.2.1 (rdg T k n (ps T k n j)).2.2.2.2.2)
end TXT
section TXL
variable {T : Nat → Int32} {k : Nat}
theorem sk_step {p : Nat} (h : p < k) (h2 : T p = 32) : sk T k p = sk T k (p + 1) := by
  unfold sk
  rw [show k - p = k - (p + 1) + 1 by omega, skF, if_pos ⟨h, h2⟩]
theorem sk_stop {p : Nat} (h : ¬ (p < k ∧ T p = 32)) : sk T k p = p := by
  unfold sk
  cases k - p with
  | zero => rfl
  | succ m => rw [skF, if_neg h]
theorem skF_spec : ∀ (m p : Nat), k ≤ p + m → p ≤ skF T k m p ∧ (p ≤ k → skF T k m p ≤ k) ∧ ¬ (skF T k m p < k ∧ T (skF T k m p) = 32)
  | 0, p, h => ⟨Nat.le_refl _, fun h => h, fun q => by have := q.1; rw [skF] at this; omega⟩
  | m + 1, p, h => by
    rw [skF]
    by_cases hp : p < k ∧ T p = 32
    · rw [if_pos hp]
      obtain ⟨a, b, c⟩ := skF_spec m (p + 1) (by omega)
      exact ⟨by omega, fun _ => b (by omega), c⟩
    · rw [if_neg hp]
      exact ⟨Nat.le_refl _, fun h => h, hp⟩
theorem sk_ge (p : Nat) : p ≤ sk T k p := (skF_spec (k - p) p (by omega)).1
theorem sk_le {p : Nat} (h : p ≤ k) : sk T k p ≤ k := (skF_spec (k - p) p (by omega)).2.1 h
theorem sk_nb (p : Nat) : ¬ (sk T k p < k ∧ T (sk T k p) = 32) := (skF_spec (k - p) p (by omega)).2.2
theorem sk_sk (p : Nat) : sk T k (sk T k p) = sk T k p := sk_stop (sk_nb p)
theorem dC_step {q : Nat} (h : q < k) (h2 : dg (T q)) : dC T k q = dC T k (q + 1) + 1 := by
  unfold dC
  rw [show k - q = k - (q + 1) + 1 by omega, dcF, if_pos ⟨h, h2⟩]
theorem dC_stop {q : Nat} (h : ¬ (q < k ∧ dg (T q))) : dC T k q = 0 := by
  unfold dC
  cases k - q with
  | zero => rfl
  | succ m => rw [dcF, if_neg h]
theorem dcF_spec : ∀ (m q : Nat), q + m ≤ k → q + dcF T k m q ≤ k ∧ ∀ j, j < dcF T k m q → dg (T (q + j))
  | 0, q, h => ⟨h, fun j hj => absurd hj (Nat.not_lt_zero j)⟩
  | m + 1, q, h => by
    rw [dcF]
    by_cases hq : q < k ∧ dg (T q)
    · rw [if_pos hq]
      obtain ⟨a, b⟩ := dcF_spec m (q + 1) (by omega)
      refine ⟨by omega, fun j hj => ?_⟩
      cases j with
      | zero => exact hq.2
      | succ j => rw [show q + (j + 1) = q + 1 + j by omega]; exact b j (by omega)
    · rw [if_neg hq]
      exact ⟨by omega, fun j hj => absurd hj (Nat.not_lt_zero j)⟩
theorem dC_le {q : Nat} (h : q ≤ k) : q + dC T k q ≤ k := (dcF_spec (k - q) q (by omega)).1
theorem dC_dig {q j : Nat} (h : q ≤ k) (hj : j < dC T k q) : dg (T (q + j)) := (dcF_spec (k - q) q (by omega)).2 j hj
theorem vl_nat {q : Nat} : ∀ d : Nat, d ≤ 3 → (∀ j, j < d → dg (T (q + j))) → ∃ v, v < 10 ^ d ∧ vl T q d = nI v
  | 0, _, _ => ⟨0, by decide, rfl⟩
  | d + 1, hd, h => by
    obtain ⟨v, hv, e⟩ := vl_nat d (by omega) (fun j hj => h j (by omega))
    obtain ⟨h1, h2⟩ := h d (by omega)
    rw [le_i] at h1 h2
    have k1 : (48 : Int32).toInt = 48 := rfl
    have k2 : (57 : Int32).toInt = 57 := rfl
    have hc := cI_int (x := T (q + d)) (by omega)
    have hT : T (q + d) = nI (cI (T (q + d))) := nI_cI (by omega)
    have h10 : 10 ^ d ≤ 10 ^ 2 := Nat.pow_le_pow_right (by decide) (by omega)
    have hs : 10 ^ (d + 1) = 10 ^ d * 10 := Nat.pow_succ ..
    refine ⟨10 * v + cI (T (q + d)) - 48, by omega, ?_⟩
    rw [vl, e, hT, show (10 : Int32) = nI 10 from rfl, pk_mul, nI_add, show (48 : Int32) = nI 48 from rfl, pk_sub (by omega), ← hT]
theorem nmb_ok {mx : Int32} {p : Nat} (hp : p ≤ k) (h : (nmb T k mx p).1 = true) : p + 1 ≤ (nmb T k mx p).2.1 ∧ (nmb T k mx p).2.1 ≤ k ∧ ∃ v, v < 1000 ∧ (nmb T k mx p).2.2 = nI v ∧ nI v ≤ mx := by
  unfold nmb at h ⊢
  by_cases hc : (1 ≤ dC T k (sk T k p) ∧ dC T k (sk T k p) ≤ 3) ∧ vl T (sk T k p) (dC T k (sk T k p)) ≤ mx
  · rw [if_pos hc]
    have h1 := sk_ge (T := T) (k := k) p
    have h2 := dC_le (T := T) (sk_le (T := T) hp)
    obtain ⟨v, hv, e⟩ := vl_nat (T := T) (q := sk T k p) _ hc.1.2 (fun j hj => dC_dig (sk_le hp) hj)
    have h10 : 10 ^ dC T k (sk T k p) ≤ 10 ^ 3 := Nat.pow_le_pow_right (by decide) hc.1.2
    refine ⟨?_, h2, v, by omega, e, ?_⟩
    · show p + 1 ≤ sk T k p + dC T k (sk T k p); omega
    · rw [← e]; exact hc.2
  · rw [if_neg hc] at h; exact absurd h Bool.false_ne_true
theorem nmb_no {mx : Int32} {p : Nat} (h : ¬ (nmb T k mx p).1 = true) : (nmb T k mx p).2.1 = sk T k p := by
  unfold nmb at h ⊢
  by_cases hc : (1 ≤ dC T k (sk T k p) ∧ dC T k (sk T k p) ≤ 3) ∧ vl T (sk T k p) (dC T k (sk T k p)) ≤ mx
  · rw [if_pos hc] at h; exact absurd rfl h
  · rw [if_neg hc]
theorem sgn_ok {c : Int32} {p : Nat} (h : (sgn T k c p).1 = true) : p + 1 ≤ (sgn T k c p).2 ∧ (sgn T k c p).2 ≤ k := by
  have h1 := sk_ge (T := T) (k := k) p
  unfold sgn at h ⊢
  by_cases hc : sk T k p < k ∧ T (sk T k p) = c
  · rw [if_pos hc]; exact ⟨by show p + 1 ≤ sk T k p + 1; omega, hc.1⟩
  · rw [if_neg hc] at h; exact absurd h Bool.false_ne_true
theorem sgn_no {c : Int32} {p : Nat} (h : ¬ (sgn T k c p).1 = true) : (sgn T k c p).2 = sk T k p := by
  unfold sgn at h ⊢
  by_cases hc : sk T k p < k ∧ T (sk T k p) = c
  · rw [if_pos hc] at h; exact absurd rfl h
  · rw [if_neg hc]
theorem sgn_le {c : Int32} {p : Nat} (hp : p ≤ k) : (sgn T k c p).2 ≤ k := by
  by_cases h : (sgn T k c p).1 = true
  · exact (sgn_ok h).2
  · rw [sgn_no h]; exact sk_le hp
/-- what a read reading says -/
def RdOK (k : Nat) (n : Int32) (p : Nat) (r : kRd) : Prop := p ≤ r.2.1 ∧ r.2.1 ≤ k ∧ (∃ v, r.2.2.1 = nI v ∧ v < 1000 ∧ nI v ≤ n - 1) ∧ (0 ≤ r.2.2.2.1 ∧ r.2.2.2.1 ≤ 300) ∧ (0 ≤ r.2.2.2.2.1 ∧ r.2.2.2.2.1 ≤ 300) ∧ (0 ≤ r.2.2.2.2.2 ∧ r.2.2.2.2.2 ≤ 60)
theorem nn_of {x mx : Int32} (h : ∃ v, v < 1000 ∧ x = nI v ∧ nI v ≤ mx) : 0 ≤ x ∧ x ≤ mx := by
  obtain ⟨v, hv, rfl, h2⟩ := h
  exact ⟨by rw [le_i, i0, nI_toInt (by omega)]; omega, h2⟩
theorem rdg_spec {n : Int32} {p : Nat} (hp : p ≤ k) : ((rdg T k n p).1 = true → RdOK k n (p + 5) (rdg T k n p)) ∧ (¬ (rdg T k n p).1 = true → (rdg T k n p).2.1 ≤ k ∧ sk T k (rdg T k n p).2.1 = (rdg T k n p).2.1) := by
  unfold rdg
  by_cases h1 : (nmb T k (n - 1) p).1 = true
  · rw [if_pos h1]
    obtain ⟨a1, b1, v, hv, e1, hm⟩ := nmb_ok hp h1
    unfold rdg2
    by_cases h2 : (sgn T k 58 (nmb T k (n - 1) p).2.1).1 = true
    · rw [if_pos h2]
      obtain ⟨a2, b2⟩ := sgn_ok h2
      by_cases h3 : (nmb T k 300 (sgn T k 58 (nmb T k (n - 1) p).2.1).2).1 = true
      · rw [if_pos h3]
        obtain ⟨a3, b3, c3⟩ := nmb_ok b2 h3
        have d3 := nn_of c3
        generalize (nmb T k 300 (sgn T k 58 (nmb T k (n - 1) p).2.1).2).2.2 = iv at *
        generalize (nmb T k 300 (sgn T k 58 (nmb T k (n - 1) p).2.1).2).2.1 = p3 at *
        unfold rdg3
        by_cases h4 : (sgn T k 47 p3).1 = true
        · rw [if_pos h4]
          obtain ⟨a4, b4⟩ := sgn_ok h4
          by_cases h5 : (nmb T k 300 (sgn T k 47 p3).2).1 = true
          · rw [if_pos h5]
            obtain ⟨a5, b5, c5⟩ := nmb_ok b4 h5
            have d5 := nn_of c5
            generalize (nmb T k 300 (sgn T k 47 p3).2).2.2 = ov at *
            generalize (nmb T k 300 (sgn T k 47 p3).2).2.1 = p5 at *
            unfold rdg4
            by_cases h6 : (sgn T k 64 p5).1 = true
            · rw [if_pos h6]
              obtain ⟨a6, b6⟩ := sgn_ok h6
              by_cases h7 : (nmb T k 60 (sgn T k 64 p5).2).1 = true
              · rw [if_pos h7]
                obtain ⟨a7, b7, c7⟩ := nmb_ok b6 h7
                exact ⟨fun _ => ⟨by show p + 5 ≤ (nmb T k 60 (sgn T k 64 p5).2).2.1; omega, b7, ⟨v, e1, hv, hm⟩, d3, d5, nn_of c7⟩, fun q => absurd rfl q⟩
              · rw [if_neg h7]
                exact ⟨fun q => absurd q Bool.false_ne_true, fun _ => by show (nmb T k 60 (sgn T k 64 p5).2).2.1 ≤ k ∧ sk T k (nmb T k 60 (sgn T k 64 p5).2).2.1 = (nmb T k 60 (sgn T k 64 p5).2).2.1; rw [nmb_no h7]; exact ⟨sk_le b6, sk_sk _⟩⟩
            · rw [if_neg h6]
              have h8 := sk_ge (T := T) (k := k) p5
              exact ⟨fun _ => ⟨by show p + 5 ≤ (sgn T k 64 p5).2; rw [sgn_no h6]; omega, sgn_le b5, ⟨v, e1, hv, hm⟩, d3, d5, (show (0 : Int32) ≤ 0 by decide), (show (0 : Int32) ≤ 60 by decide)⟩, fun q => absurd rfl q⟩
          · rw [if_neg h5]
            exact ⟨fun q => absurd q Bool.false_ne_true, fun _ => by show (nmb T k 300 (sgn T k 47 p3).2).2.1 ≤ k ∧ sk T k (nmb T k 300 (sgn T k 47 p3).2).2.1 = (nmb T k 300 (sgn T k 47 p3).2).2.1; rw [nmb_no h5]; exact ⟨sk_le b4, sk_sk _⟩⟩
        · rw [if_neg h4]
          exact ⟨fun q => absurd q Bool.false_ne_true, fun _ => by show (sgn T k 47 p3).2 ≤ k ∧ sk T k (sgn T k 47 p3).2 = (sgn T k 47 p3).2; rw [sgn_no h4]; exact ⟨sk_le b3, sk_sk _⟩⟩
      · rw [if_neg h3]
        exact ⟨fun q => absurd q Bool.false_ne_true, fun _ => by show (nmb T k 300 (sgn T k 58 (nmb T k (n - 1) p).2.1).2).2.1 ≤ k ∧ sk T k (nmb T k 300 (sgn T k 58 (nmb T k (n - 1) p).2.1).2).2.1 = (nmb T k 300 (sgn T k 58 (nmb T k (n - 1) p).2.1).2).2.1; rw [nmb_no h3]; exact ⟨sk_le b2, sk_sk _⟩⟩
    · rw [if_neg h2]
      exact ⟨fun q => absurd q Bool.false_ne_true, fun _ => by show (sgn T k 58 (nmb T k (n - 1) p).2.1).2 ≤ k ∧ sk T k (sgn T k 58 (nmb T k (n - 1) p).2.1).2 = (sgn T k 58 (nmb T k (n - 1) p).2.1).2; rw [sgn_no h2]; exact ⟨sk_le b1, sk_sk _⟩⟩
  · rw [if_neg h1]
    exact ⟨fun q => absurd q Bool.false_ne_true, fun _ => by show (nmb T k (n - 1) p).2.1 ≤ k ∧ sk T k (nmb T k (n - 1) p).2.1 = (nmb T k (n - 1) p).2.1; rw [nmb_no h1]; exact ⟨sk_le hp, sk_sk _⟩⟩
theorem bdec (b : Bool) : b = decide (b = true) := by cases b <;> rfl
end TXL
def rFault (A : kA) : Int32 := if (lsR (aT A) (aK A) (aF A 1)).1 = true then -1 else nI (lsR (aT A) (aK A) (aF A 1)).2.1
def rReadAll (A : kA) : Int32 := if (lsR (aT A) (aK A) (aF A 1)).1 = true then nI (lsR (aT A) (aK A) (aF A 1)).2.2 else -4
def sReadAll (A : kA) : kA := if (lsR (aT A) (aK A) (aF A 1)).1 = true then setF (keepA A) (rdsF (aT A) (aK A) (aF A 1) (aF A) (lsR (aT A) (aK A) (aF A 1)).2.2) (aG A) else A
