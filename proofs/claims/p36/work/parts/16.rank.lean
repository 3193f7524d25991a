/-! ===== the repair order: counting and sorting ===== -/
def cnt (P : Nat → Bool) : Nat → Nat
  | 0 => 0
  | n + 1 => cnt P n + (if P n = true then 1 else 0)
theorem cnt_cong {P Q : Nat → Bool} : ∀ {n : Nat}, (∀ b, b < n → P b = Q b) → cnt P n = cnt Q n
  | 0, _ => rfl
  | n + 1, e => by rw [cnt, cnt, cnt_cong (fun b hb => e b (by omega)), e n (by omega)]
theorem cnt_le (P : Nat → Bool) : ∀ n : Nat, cnt P n ≤ n
  | 0 => Nat.le_refl 0
  | n + 1 => by
    have := cnt_le P n
    rw [cnt]
    split <;> omega
theorem cnt_ins {P Q : Nat → Bool} {x : Bool} {j : Nat} (h1 : ∀ p, p < j → Q p = P p) (h2 : Q j = x) : ∀ c : Nat, j ≤ c → (∀ p, j ≤ p → p < c → Q (p + 1) = P p) → cnt Q (c + 1) = cnt P c + (if x = true then 1 else 0)
  | 0, hj, _ => by
    obtain rfl : j = 0 := by omega
    rw [cnt, cnt, cnt, h2]
  | c + 1, hj, h3 => by
    by_cases hjc : j = c + 1
    · subst hjc
      rw [cnt, h2, cnt_cong (n := c + 1) h1]
    · rw [cnt, cnt_ins h1 h2 c (by omega) (fun p a b => h3 p a (by omega)), h3 c (by omega) (by omega), cnt]
      omega
theorem cnt_below (q : Nat) : ∀ n : Nat, q ≤ n → cnt (fun p => decide (p < q)) n = q := by
  have h : ∀ n : Nat, cnt (fun p => decide (p < q)) n = min q n := by
    intro n
    induction n with
    | zero => rw [cnt]; omega
    | succ n ih =>
      rw [cnt, ih]
      by_cases hq : n < q
      · rw [if_pos (decide_eq_true hq)]; omega
      · rw [if_neg (by simp [hq])]; omega
  intro n hn
  rw [h n]
  omega
theorem cnt_pos {P : Nat → Bool} {b : Nat} (h : P b = true) : ∀ {n : Nat}, b < n → 0 < cnt P n
  | 0, hb => absurd hb (Nat.not_lt_zero b)
  | n + 1, hb => by
    rw [cnt]
    by_cases hbn : b = n
    · subst hbn
      rw [if_pos h]
      omega
    · have := cnt_pos h (n := n) (by omega)
      omega
theorem cnt_ex {P : Nat → Bool} : ∀ {n : Nat}, 0 < cnt P n → ∃ b, b < n ∧ P b = true
  | 0, h => absurd h (Nat.not_lt_zero 0)
  | n + 1, h => by
    by_cases hp : P n = true
    · exact ⟨n, by omega, hp⟩
    · rw [cnt, if_neg hp] at h
      obtain ⟨b, h1, h2⟩ := cnt_ex (n := n) h
      exact ⟨b, by omega, h2⟩
theorem cnt_slt {P Q : Nat → Bool} {a : Nat} (hP : P a = false) (hQ : Q a = true) : ∀ {n : Nat}, (∀ b, b < n → P b = true → Q b = true) → cnt P n ≤ cnt Q n ∧ (a < n → cnt P n < cnt Q n)
  | 0, _ => ⟨Nat.le_refl _, fun h => absurd h (Nat.not_lt_zero a)⟩
  | n + 1, h => by
    obtain ⟨i1, i2⟩ := cnt_slt hP hQ (n := n) (fun b hb => h b (by omega))
    rw [cnt, cnt]
    by_cases hn : P n = true
    · rw [if_pos hn, if_pos (h n (by omega) hn)]
      refine ⟨by omega, fun ha => ?_⟩
      have : a ≠ n := fun q => by rw [q, hn] at hP; exact absurd hP (by decide)
      have := i2 (by omega)
      omega
    · rw [if_neg hn]
      refine ⟨by omega, fun ha => ?_⟩
      by_cases han : a = n
      · subst han
        rw [if_pos hQ]
        omega
      · have := i2 (by omega)
        omega
/-- one trap before another -/
def ahd (f : Fr) (a b : Nat) : Bool := if sPay f a = sPay f b then (decide (sLoss f b < sLoss f a) || (decide (sLoss f a = sLoss f b) && decide (a < b))) else decide (sPay f a < sPay f b)
theorem ahd_iff {f : Fr} {a b : Nat} : ahd f a b = true ↔ (sPay f a).toInt < (sPay f b).toInt ∨ ((sPay f a).toInt = (sPay f b).toInt ∧ ((sLoss f b).toInt < (sLoss f a).toInt ∨ ((sLoss f a).toInt = (sLoss f b).toInt ∧ a < b))) := by
  unfold ahd
  by_cases h : sPay f a = sPay f b
  · rw [if_pos h]
    have h' := congrArg Int64.toInt h
    simp only [Bool.or_eq_true, Bool.and_eq_true, decide_eq_true_eq, lt_i, eq_i]
    omega
  · rw [if_neg h]
    have h' : ¬ (sPay f a).toInt = (sPay f b).toInt := fun q => h (Int64.toInt_inj.mp q)
    simp only [decide_eq_true_eq, Int64.lt_iff_toInt_lt]
    omega
theorem ahd_asym {f : Fr} {a b : Nat} (h : ahd f a b = true) : ahd f b a = false := by
  rw [Bool.eq_false_iff]
  intro q
  rw [ahd_iff] at h q
  omega
theorem ahd_irr {f : Fr} {a : Nat} : ¬ ahd f a a = true := fun h => by rw [ahd_iff] at h; omega
theorem ahd_trans {f : Fr} {a b c : Nat} (h : ahd f a b = true) (h' : ahd f b c = true) : ahd f a c = true := by
  rw [ahd_iff] at *
  omega
def pos (f : Fr) (b : Nat) : Bool := decide (0 < sLoss f b)
def rkF (f : Fr) (a n : Nat) : Nat := cnt (fun b => !(b == a) && (pos f b && ahd f b a)) n
def mtc (f : Fr) (k : Int32) (a : Nat) : Bool := pos f a && decide (nI (rkF f a (cI (f 1))) = k)
def ordU (f : Fr) (k : Int32) : Nat → Nat → Int32
  | 0, _ => -1
  | m + 1, i => if mtc f k i = true then nI i else ordU f k m (i + 1)
def sOrd (f : Fr) (k : Int32) : Int32 := ordU f k (cI (f 1)) 0
theorem ordU_hit {f : Fr} {k : Int32} {a : Nat} (ha : mtc f k a = true) : ∀ m i : Nat, i ≤ a → a < i + m → (∀ b, b < i + m → mtc f k b = true → b = a) → ordU f k m i = nI a
  | 0, i, h1, h2, _ => by omega
  | m + 1, i, h1, h2, h3 => by
    rw [ordU]
    by_cases hi : mtc f k i = true
    · rw [if_pos hi, h3 i (by omega) hi]
    · rw [if_neg hi]
      refine ordU_hit ha m (i + 1) ?_ (by omega) (fun b hb => h3 b (by omega))
      have : i ≠ a := fun q => hi (q ▸ ha)
      omega
theorem ordU_none {f : Fr} {k : Int32} : ∀ m i : Nat, (∀ b, b < i + m → ¬ mtc f k b = true) → ordU f k m i = -1
  | 0, _, _ => rfl
  | m + 1, i, h => by rw [ordU, if_neg (h i (by omega)), ordU_none m (i + 1) (fun b hb => h b (by omega))]
theorem ordU_cases {f : Fr} {k : Int32} : ∀ m i : Nat, ordU f k m i = -1 ∨ ∃ a, a < i + m ∧ mtc f k a = true ∧ ordU f k m i = nI a
  | 0, _ => Or.inl rfl
  | m + 1, i => by
    rw [ordU]
    by_cases hi : mtc f k i = true
    · rw [if_pos hi]; exact Or.inr ⟨i, by omega, hi, rfl⟩
    · rw [if_neg hi]
      rcases ordU_cases (f := f) (k := k) m (i + 1) with h | ⟨a, h1, h2, h3⟩
      · exact Or.inl h
      · exact Or.inr ⟨a, by omega, h2, h3⟩
/-- the traps with a loss, in their order -/
def Rkd (f : Fr) (i : Nat) (rL : Nat → Nat) (c : Nat) : Prop :=
  (∀ Q : Nat → Bool, cnt (fun b => pos f b && Q b) i = cnt (fun p => Q (rL p)) c) ∧ (∀ p q, p < q → q < c → ahd f (rL p) (rL q) = true) ∧ (∀ p, p < c → rL p < i ∧ pos f (rL p) = true) ∧ c ≤ i
theorem Rkd.nil {f : Fr} {rL : Nat → Nat} : Rkd f 0 rL 0 := ⟨fun _ => rfl, fun p q _ h => absurd h (Nat.not_lt_zero q), fun p h => absurd h (Nat.not_lt_zero p), Nat.le_refl 0⟩
theorem Rkd.skip {f : Fr} {i c : Nat} {rL : Nat → Nat} (h : Rkd f i rL c) (hp : pos f i = false) : Rkd f (i + 1) rL c := by
  obtain ⟨h1, h2, h3, h4⟩ := h
  refine ⟨fun Q => ?_, h2, fun p hp => ⟨by have := (h3 p hp).1; omega, (h3 p hp).2⟩, by omega⟩
  rw [cnt, h1 Q, hp]
  rfl
def insL (rL : Nat → Nat) (j t : Nat) : Nat → Nat := fun p => if p < j then rL p else if p = j then t else rL (p - 1)
theorem Rkd.ins {f : Fr} {i c j : Nat} {rL : Nat → Nat} (h : Rkd f i rL c) (hp : pos f i = true) (hj : j ≤ c) (ha : ∀ p, j ≤ p → p < c → ahd f i (rL p) = true) (hb : ∀ p, p < j → ahd f (rL p) i = true) : Rkd f (i + 1) (insL rL j i) (c + 1) := by
  obtain ⟨h1, h2, h3, h4⟩ := h
  have e1 : ∀ p, p < j → insL rL j i p = rL p := fun p q => if_pos q
  have e2 : insL rL j i j = i := by unfold insL; rw [if_neg (Nat.lt_irrefl j), if_pos rfl]
  have e3 : ∀ p, j < p → insL rL j i p = rL (p - 1) := fun p q => by unfold insL; rw [if_neg (by omega), if_neg (by omega)]
  refine ⟨fun Q => ?_, fun p q hpq hq => ?_, fun p hpc => ?_, by omega⟩
  · rw [cnt, h1 Q, hp, Bool.true_and]
    exact (cnt_ins (P := fun p => Q (rL p)) (Q := fun p => Q (insL rL j i p)) (x := Q i) (j := j) (fun p q => by simp only [e1 p q]) (by simp only [e2]) c hj (fun p q _ => by simp only [e3 (p + 1) (by omega), Nat.add_sub_cancel])).symm
  · by_cases q1 : q < j
    · rw [e1 p (by omega), e1 q q1]; exact h2 p q hpq (by omega)
    · by_cases q2 : q = j
      · subst q2; rw [e1 p hpq, e2]; exact hb p hpq
      · rw [e3 q (by omega)]
        by_cases p1 : p < j
        · rw [e1 p p1]; exact h2 p (q - 1) (by omega) (by omega)
        · by_cases p2 : p = j
          · subst p2; rw [e2]; exact ha (q - 1) (by omega) (by omega)
          · rw [e3 p (by omega)]; exact h2 (p - 1) (q - 1) (by omega) (by omega)
  · by_cases p1 : p < j
    · rw [e1 p p1]; have := h3 p (by omega); exact ⟨by omega, this.2⟩
    · by_cases p2 : p = j
      · subst p2; rw [e2]; exact ⟨by omega, hp⟩
      · rw [e3 p (by omega)]; have := h3 (p - 1) (by omega); exact ⟨by omega, this.2⟩
theorem Rkd.inj {f : Fr} {i c : Nat} {rL : Nat → Nat} (h : Rkd f i rL c) {p q : Nat} (hp : p < c) (hq : q < c) (e : rL p = rL q) : p = q := by
  by_cases h1 : p < q
  · have := h.2.1 p q h1 hq; rw [e] at this; exact absurd this ahd_irr
  · by_cases h2 : q < p
    · have := h.2.1 q p h2 hp; rw [e] at this; exact absurd this ahd_irr
    · omega
theorem Rkd.rank {f : Fr} {n c : Nat} {rL : Nat → Nat} (h : Rkd f n rL c) {q : Nat} (hq : q < c) : rkF f (rL q) n = q := by
  have e1 : rkF f (rL q) n = cnt (fun b => pos f b && (!(b == rL q) && ahd f b (rL q))) n := cnt_cong (fun b _ => by cases pos f b <;> cases (b == rL q) <;> cases ahd f b (rL q) <;> rfl)
  rw [e1, h.1 (fun b => !(b == rL q) && ahd f b (rL q))]
  refine (cnt_cong (fun p hp => ?_)).trans (cnt_below q c (by omega))
  by_cases h1 : p < q
  · have h2 := h.2.1 p q h1 hq
    have h3 : (rL p == rL q) = false := by rw [beq_eq_false_iff_ne]; intro e; rw [e] at h2; exact ahd_irr h2
    simp only [h2, h3, decide_eq_true h1, Bool.not_false, Bool.and_self]
  · rw [decide_eq_false h1]
    by_cases h2 : p = q
    · subst h2; simp
    · rw [ahd_asym (h.2.1 q p (by omega) hp), Bool.and_false]
theorem Rkd.has {f : Fr} {n c : Nat} {rL : Nat → Nat} (h : Rkd f n rL c) {b : Nat} (hb : b < n) (hp : pos f b = true) : ∃ p, p < c ∧ rL p = b := by
  have h1 := cnt_pos (P := fun x => pos f x && (x == b)) (b := b) (by simp [hp]) hb
  rw [h.1 (fun x => x == b)] at h1
  obtain ⟨p, h2, h3⟩ := cnt_ex h1
  exact ⟨p, h2, by simpa using h3⟩
theorem Rkd.ord {f : Fr} {c : Nat} {rL : Nat → Nat} (h : Rkd f (cI (f 1)) rL c) (hn : cI (f 1) ≤ 16) (k : Int32) : sOrd f k = if 0 ≤ k ∧ k < nI c then nI (rL (cI k)) else -1 := by
  have hc := h.2.2.2
  have key : ∀ b, b < cI (f 1) → mtc f k b = true → ∃ p, p < c ∧ rL p = b ∧ nI p = k := by
    intro b hb hm
    unfold mtc at hm
    rw [Bool.and_eq_true, decide_eq_true_eq] at hm
    obtain ⟨p, hp, e⟩ := h.has hb hm.1
    refine ⟨p, hp, e, ?_⟩
    rw [← hm.2, ← e, h.rank hp]
  unfold sOrd
  by_cases hk : 0 ≤ k ∧ k < nI c
  · rw [if_pos hk]
    obtain ⟨k1, k2⟩ := hk
    rw [le_i, i0] at k1
    rw [lt_i, nI_toInt (by omega)] at k2
    have k3 := cI_int k1
    have hkc : cI k < c := by omega
    have hr := h.2.2.1 _ hkc
    refine ordU_hit ?_ _ 0 (Nat.zero_le _) (by omega) (fun b hb hm => ?_)
    · unfold mtc
      rw [hr.2, h.rank hkc, ← nI_cI k1, Bool.true_and, decide_eq_true rfl]
    · obtain ⟨p, hp, e, e2⟩ := key b (by omega) hm
      rw [← e2, cI_nI (by omega)]
      exact e.symm
  · rw [if_neg hk]
    refine ordU_none _ 0 (fun b hb hm => hk ?_)
    obtain ⟨p, hp, e, e2⟩ := key b (by omega) hm
    rw [← e2]
    exact ⟨by rw [le_i, i0, nI_toInt (by omega)]; omega, nI_lt hp (by omega)⟩
theorem sLoss_mend_ne {f : Fr} (hP : PInv f) {t b : Nat} (hb : b < cI (f 1)) (hne : b ≠ t) : sLoss (mendF f t) b = sLoss f b ∧ sPay (mendF f t) b = sPay f b := by
  have h1 := hP.ln hb
  have h2 := hP.hd hb
  have h3 := hP.nL
  have e : ∀ i, i ≠ 19 + 7 * t + 5 → i ≠ 6 → i ≠ 7 → mendF f t i = f i := fun i a1 a2 a3 => by unfold mendF; rw [va_up_ne _ _ a3, va_up_ne _ _ a2, va_up_ne _ _ a1]
  have es : ∀ w, w < 7 → sOf (mendF f t) b w = sOf f b w := fun w hw => e _ (by omega) (by omega) (by omega)
  have eh : sH (mendF f t) b = sH f b := by unfold sH; rw [es 0 (by decide), e _ (by omega) (by omega) (by omega)]
  have ep : sP (mendF f t) b = sP f b := by unfold sP; rw [eh, e _ (by omega) (by omega) (by omega)]
  have el : sLoss (mendF f t) b = sLoss f b := by unfold sLoss; rw [es 2 (by decide), es 5 (by decide), ep]
  have ew : sWorth (mendF f t) b = sWorth f b := by unfold sWorth worthQ; rw [el, e 2 (by omega) (by decide) (by decide), e 3 (by omega) (by decide) (by decide)]
  refine ⟨el, ?_⟩
  unfold sPay sCost
  rw [ew, es 1 (by decide), es 2 (by decide)]
theorem sLoss_mend_eq {f : Fr} {t : Nat} : sLoss (mendF f t) t = 0 := by
  have : sOf (mendF f t) t 5 = 1 := by unfold sOf mendF; rw [va_up_ne _ _ (by omega), va_up_ne _ _ (by omega), va_up_self]
  unfold sLoss lossQ
  rw [this, if_neg (by decide), if_neg (by decide)]
theorem mendF_1 {f : Fr} {t : Nat} : mendF f t 1 = f 1 := by
  unfold mendF
  rw [va_up_ne _ _ (by omega), va_up_ne _ _ (by omega), va_up_ne _ _ (by omega)]
theorem Rkd.mend {f : Fr} (hP : PInv f) {c : Nat} {rL : Nat → Nat} (h : Rkd f (cI (f 1)) rL (c + 1)) : Rkd (mendF f (rL 0)) (cI (mendF f (rL 0) 1)) (fun p => rL (p + 1)) c := by
  rw [mendF_1]
  have ne : ∀ p, p < c → rL (p + 1) ≠ rL 0 := fun p hp q => by have := h.inj (p := p + 1) (q := 0) (by omega) (by omega) q; omega
  have hp : ∀ b, b < cI (f 1) → pos (mendF f (rL 0)) b = (pos f b && !(b == rL 0)) := fun b hb => by
    unfold pos
    by_cases hb0 : b = rL 0
    · subst hb0
      rw [sLoss_mend_eq]
      simp
    · rw [(sLoss_mend_ne hP hb hb0).1, beq_eq_false_iff_ne.mpr hb0, Bool.not_false, Bool.and_true]
  have hah : ∀ a b, a < cI (f 1) → b < cI (f 1) → a ≠ rL 0 → b ≠ rL 0 → ahd (mendF f (rL 0)) a b = ahd f a b := fun a b ha hb na nb => by
    unfold ahd
    rw [(sLoss_mend_ne hP ha na).1, (sLoss_mend_ne hP ha na).2, (sLoss_mend_ne hP hb nb).1, (sLoss_mend_ne hP hb nb).2]
  refine ⟨fun Q => ?_, fun p q hpq hq => ?_, fun p hpc => ?_, by have := h.2.2.2; omega⟩
  · have e1 : cnt (fun b => pos (mendF f (rL 0)) b && Q b) (cI (f 1)) = cnt (fun b => pos f b && (!(b == rL 0) && Q b)) (cI (f 1)) := cnt_cong (fun b hb => by rw [hp b hb, Bool.and_assoc])
    rw [e1, h.1 (fun b => !(b == rL 0) && Q b)]
    exact cnt_ins (P := fun p => Q (rL (p + 1))) (Q := fun p => !(rL p == rL 0) && Q (rL p)) (x := false) (j := 0) (fun p q => absurd q (Nat.not_lt_zero p)) (by simp) c (Nat.zero_le _) (fun p _ hpc => by simp only [beq_eq_false_iff_ne.mpr (ne p hpc), Bool.not_false, Bool.true_and])
  · rw [hah _ _ (h.2.2.1 _ (by omega)).1 (h.2.2.1 _ (by omega)).1 (ne p (by omega)) (ne q hq)]
    exact h.2.1 _ _ (by omega) (by omega)
  · have := h.2.2.1 (p + 1) (by omega)
    exact ⟨this.1, by rw [hp _ this.1, this.2, beq_eq_false_iff_ne.mpr (ne p hpc)]; rfl⟩
/-- all that the money mends -/
def repA : Nat → Fr → Int32 → Int32 → Fr × Int32
  | 0, f, _, k => (f, k)
  | m + 1, f, a, k => if sOrd f 0 = -1 then (f, k) else if a < sCost f (cI (sOrd f 0)) then (f, k) else repA m (mendF f (cI (sOrd f 0))) (a - sCost f (cI (sOrd f 0))) (k + 1)
def rAll (A : kA) (a : Int32) : Int32 := if 0 ≤ a ∧ a ≤ 10000 then (repA 17 (aF A) a 0).2 else -3
def sAll (A : kA) (a : Int32) : kA := if 0 ≤ a ∧ a ≤ 10000 then setF (keepA A) (repA 17 (aF A) a 0).1 (aG A) else A
def nLoss (f : Fr) : Nat := cnt (pos f) (cI (f 1))
theorem ord_cases (f : Fr) (k : Int32) : sOrd f k = -1 ∨ ∃ a, a < cI (f 1) ∧ pos f a = true ∧ sOrd f k = nI a := by
  rcases ordU_cases (f := f) (k := k) (cI (f 1)) 0 with h | ⟨a, h1, h2, h3⟩
  · exact Or.inl h
  · unfold mtc at h2
    rw [Bool.and_eq_true] at h2
    exact Or.inr ⟨a, by omega, h2.1, h3⟩
theorem nLoss_mend {f : Fr} (hP : PInv f) {t : Nat} (ht : t < cI (f 1)) (hp : pos f t = true) : nLoss (mendF f t) < nLoss f := by
  unfold nLoss
  rw [mendF_1]
  refine (cnt_slt (P := pos (mendF f t)) (Q := pos f) (a := t) ?_ hp (fun b hb h => ?_)).2 ht
  · unfold pos; rw [sLoss_mend_eq]; decide
  · by_cases hbt : b = t
    · rw [hbt]; exact hp
    · unfold pos at h ⊢
      rwa [(sLoss_mend_ne hP hb hbt).1] at h
theorem repA_inv : ∀ (m : Nat) (f : Fr) (a k : Int32), PInv f → PInv (repA m f a k).1
  | 0, _, _, _, h => h
  | m + 1, f, a, k, h => by
    rw [repA]
    by_cases h1 : sOrd f 0 = -1
    · rw [if_pos h1]; exact h
    · rw [if_neg h1]
      by_cases h2 : a < sCost f (cI (sOrd f 0))
      · rw [if_pos h2]; exact h
      · rw [if_neg h2]
        rcases ord_cases f 0 with h3 | ⟨t, h3, h4, h5⟩
        · exact absurd h3 h1
        · have hn := h.nT
          rw [h5, cI_nI (by omega)]
          exact repA_inv m _ _ _ (h.mend h3)
theorem inv_all {A : kA} (hA : AInv A) (a : Int32) : AInv (sAll A a) := by
  unfold sAll
  split
  · exact AInv.set hA.keep (repA_inv _ _ _ _ hA.f)
  · exact hA
