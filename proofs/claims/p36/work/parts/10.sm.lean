/-! ===== how the picture of a plant moves ===== -/
section QN
variable {l : Launch} {cc : ByteArray} {own : String} {nL D K : Nat} {G : kG} {n0 : Nat} {J : kJ} {n : Nat} {I : kI} {L : kL} {X : kX} {pc : Nat} {lv : kV} {rest : List Value} {x y : Int32} {off : Int} {tgt : Nat}
theorem q_icmp_geN (hM : Mach l cc own nL D K G n0 J) (a b : Nat) (hx : x = nI a) (hy : y = nI b) (ha : a < 2 ^ 31) (hb : b < 2 ^ 31) (hd : decode cc pc = .ok (.if_icmp .ge off, 3)) (ht : (pc : Int) + off = (tgt : Int)) (kt : b ≤ a → J n I L X tgt lv rest) (kf : a < b → J n I L X (pc + 3) lv rest) : J n I L X pc lv (.int y :: .int x :: rest) := by
  subst hx; subst hy
  exact q_icmp_ge hM hd ht (fun h => kt ((nI_leI hb ha).mp h)) (fun h => kf (Nat.not_le.mp fun q => h ((nI_leI hb ha).mpr q)))
theorem q_icmp_ltN (hM : Mach l cc own nL D K G n0 J) (a b : Nat) (hx : x = nI a) (hy : y = nI b) (ha : a < 2 ^ 31) (hb : b < 2 ^ 31) (hd : decode cc pc = .ok (.if_icmp .lt off, 3)) (ht : (pc : Int) + off = (tgt : Int)) (kt : a < b → J n I L X tgt lv rest) (kf : b ≤ a → J n I L X (pc + 3) lv rest) : J n I L X pc lv (.int y :: .int x :: rest) := by
  subst hx; subst hy
  exact q_icmp_lt hM hd ht (fun h => kt ((nI_ltI ha hb).mp h)) (fun h => kf (Nat.not_lt.mp fun q => h ((nI_ltI ha hb).mpr q)))
theorem q_icmp_gtN (hM : Mach l cc own nL D K G n0 J) (a b : Nat) (hx : x = nI a) (hy : y = nI b) (ha : a < 2 ^ 31) (hb : b < 2 ^ 31) (hd : decode cc pc = .ok (.if_icmp .gt off, 3)) (ht : (pc : Int) + off = (tgt : Int)) (kt : b < a → J n I L X tgt lv rest) (kf : a ≤ b → J n I L X (pc + 3) lv rest) : J n I L X pc lv (.int y :: .int x :: rest) := by
  subst hx; subst hy
  exact q_icmp_gt hM hd ht (fun h => kt ((nI_ltI hb ha).mp h)) (fun h => kf (Nat.not_lt.mp fun q => h ((nI_ltI hb ha).mpr q)))
theorem q_icmp_eqN (hM : Mach l cc own nL D K G n0 J) (a b : Nat) (hx : x = nI a) (hy : y = nI b) (ha : a < 2 ^ 31) (hb : b < 2 ^ 31) (hd : decode cc pc = .ok (.if_icmp .eq off, 3)) (ht : (pc : Int) + off = (tgt : Int)) (kt : a = b → J n I L X tgt lv rest) (kf : a ≠ b → J n I L X (pc + 3) lv rest) : J n I L X pc lv (.int y :: .int x :: rest) := by
  subst hx; subst hy
  exact q_icmp_eq hM hd ht (fun h => kt ((nI_eq ha hb).mp h)) (fun h => kf (fun q => h ((nI_eq ha hb).mpr q)))
theorem q_icmp_neN (hM : Mach l cc own nL D K G n0 J) (a b : Nat) (hx : x = nI a) (hy : y = nI b) (ha : a < 2 ^ 31) (hb : b < 2 ^ 31) (hd : decode cc pc = .ok (.if_icmp .ne off, 3)) (ht : (pc : Int) + off = (tgt : Int)) (kt : a ≠ b → J n I L X tgt lv rest) (kf : a = b → J n I L X (pc + 3) lv rest) : J n I L X pc lv (.int y :: .int x :: rest) := by
  subst hx; subst hy
  exact q_icmp_ne hM hd ht (fun h => kt (fun q => h ((nI_eq ha hb).mpr q))) (fun h => kf ((nI_eq ha hb).mp h))
theorem q_if_leN (hM : Mach l cc own nL D K G n0 J) (a : Nat) (hx : x = nI a) (ha : a < 2 ^ 31) (hd : decode cc pc = .ok (.ifCond .le off, 3)) (ht : (pc : Int) + off = (tgt : Int)) (kt : a = 0 → J n I L X tgt lv rest) (kf : 0 < a → J n I L X (pc + 3) lv rest) : J n I L X pc lv (.int x :: rest) := by
  subst hx
  exact q_if_le hM hd ht (fun h => kt ((Nat.eq_zero_or_pos a).elim id (fun q => absurd h (nI_nle q ha)))) (fun h => kf ((Nat.eq_zero_or_pos a).elim (fun q => absurd (by rw [q]; decide) h) id))
end QN
section QT
variable {G : kG} {J : kJ} {n : Nat} {I : kI} {L : kL} {X : kX} {pc : Nat} {lv : kV} {rest : List Value}
theorem q_topi {x : Int32} (y : Int32) (h : x = y) (kk : J n I L X pc lv (.int y :: rest)) : J n I L X pc lv (.int x :: rest) := by rw [h]; exact kk
theorem q_topl {x : Int64} (y : Int64) (h : x = y) (kk : J n I L X pc lv (.long y :: rest)) : J n I L X pc lv (.long x :: rest) := by rw [h]; exact kk
theorem q_topb {z : Bool} (P : Prop) [Decidable P] (h : z = decide P) (kk : J n I L X pc lv (.int (bI (decide P)) :: rest)) : J n I L X pc lv (.int (bI z) :: rest) := by rw [h]; exact kk
end QT
theorem lgc_pos {x y : Int64} : 0 < lg_cmp x y ↔ y < x := by
  unfold lg_cmp
  simp only [gt_iff_lt, Int64.lt_iff_toInt_lt, ← Int64.toInt_inj]
  (repeat' split) <;> simp_all
theorem lgc_eq {x y : Int64} : lg_cmp x y = 0 ↔ x = y := by
  unfold lg_cmp
  simp only [gt_iff_lt, Int64.lt_iff_toInt_lt, ← Int64.toInt_inj]
  (repeat' split) <;> simp_all <;> omega
theorem lgc_neg {x y : Int64} : lg_cmp x y < 0 ↔ x < y := by
  unfold lg_cmp
  simp only [gt_iff_lt, Int64.lt_iff_toInt_lt, ← Int64.toInt_inj]
  (repeat' split) <;> simp_all <;> omega
/-- what isn't the present plant stays -/
def Fr1 (I I' : kI) (L L' : kL) : Prop := ∀ r, (r = 0 ∨ 21 ≤ r) → I' r = I r ∧ L' r = L r
theorem Fr1.rf {I : kI} {L : kL} : Fr1 I I L L := fun _ _ => ⟨rfl, rfl⟩
theorem Fr1.put {I I' : kI} {L L' : kL} {r j : Nat} {v : Int32} (h : Fr1 I I' L L') (h1 : 1 ≤ r) (h2 : r < 21) : Fr1 I (up2 I' r j v) L L' := fun x hx => ⟨by rw [up2_row (by omega)]; exact (h x hx).1, (h x hx).2⟩
theorem Fr1.putL {I I' : kI} {L L' : kL} {r j : Nat} {v : Int64} (h : Fr1 I I' L L') (h1 : 1 ≤ r) (h2 : r < 21) : Fr1 I I' L (up2 L' r j v) := fun x hx => ⟨(h x hx).1, by rw [up2_row (by omega)]; exact (h x hx).2⟩
theorem Fr1.trans {I I' I2 : kI} {L L' L2 : kL} (h : Fr1 I I' L L') (h' : Fr1 I' I2 L' L2) : Fr1 I I2 L L2 := fun x hx => ⟨(h' x hx).1.trans (h x hx).1, (h' x hx).2.trans (h x hx).2⟩
section SMU
variable {I I' : kI} {L L' : kL} {q : Nat} {f f' : Fr} {g g' : Gr}
theorem Sm.frame (h : Sm I L q f g) (hN : cI (f 1) ≤ 16) (hs : ∀ r, q ≤ r → r < q + 20 → I' r = I r ∧ L' r = L r) : Sm I' L' q f g := by
  obtain ⟨h1, h2, h3, h4, h5⟩ := h
  refine ⟨fun i hi => ?_, fun i hi => ?_, fun i hi => ?_, fun t ht => ⟨fun w hw => ?_, ?_⟩, fun t ht h16 => ?_⟩
  · rw [(hs q (by omega) (by omega)).1]; exact h1 i hi
  · rw [(hs (q + 1) (by omega) (by omega)).1]; exact h2 i hi
  · rw [(hs (q + 2) (by omega) (by omega)).1]; exact h3 i hi
  · rw [(hs (q + 4 + t) (by omega) (by omega)).1]; exact (h4 t ht).1 w hw
  · rw [(hs (q + 4 + t) (by omega) (by omega)).2]; exact (h4 t ht).2
  · rw [(hs (q + 4 + t) (by omega) (by omega)).1, (hs (q + 4 + t) (by omega) (by omega)).2]; exact h5 t ht h16
theorem Sm.congr (h : Sm I L q f g) (hg : ∀ t, t < cI (f 1) → g t = g' t) : Sm I L q f g' := by
  obtain ⟨h1, h2, h3, h4, h5⟩ := h
  exact ⟨h1, h2, h3, fun t ht => ⟨(h4 t ht).1, (h4 t ht).2.trans (hg t ht)⟩, h5⟩
theorem Sm.setT (h : Sm I L q f g) {t w : Nat} (ht : t < cI (f 1)) (hN : cI (f 1) ≤ 16) (hL : cI (f 0) ≤ 8) (hw : w < 7) (v : Int32) : Sm (up2 I (q + 4 + t) w v) L q (va_up f (19 + 7 * t + w) v) g := by
  have e0 : va_up f (19 + 7 * t + w) v 0 = f 0 := va_up_ne _ _ (by omega)
  have e1 : va_up f (19 + 7 * t + w) v 1 = f 1 := va_up_ne _ _ (by omega)
  obtain ⟨h1, h2, h3, h4, h5⟩ := h
  refine ⟨fun i hi => ?_, fun i hi => ?_, fun i hi => ?_, fun t' ht' => ⟨fun w' hw' => ?_, ?_⟩, fun t' ht' h16 => ?_⟩
  · rw [up2_ne (by omega), va_up_ne _ _ (by omega)]; exact h1 i hi
  · rw [up2_ne (by omega), va_up_ne _ _ (by omega)]; exact h2 i hi
  · rw [e0] at hi
    rw [up2_ne (by omega), va_up_ne _ _ (by omega)]; exact h3 i hi
  · rw [e1] at ht'
    unfold sOf
    by_cases hh : t' = t ∧ w' = w
    · obtain ⟨rfl, rfl⟩ := hh
      rw [up2_self, va_up_self]
    · rw [up2_ne (by omega), va_up_ne _ _ (by omega)]; exact (h4 t' ht').1 w' hw'
  · rw [e1] at ht'
    exact (h4 t' ht').2
  · rw [e1] at ht'
    rw [up2_ne (by omega), up2_ne (by omega)]; exact h5 t' ht' h16
theorem Sm.setG (h : Sm I L q f g) {t : Nat} (ht : t < cI (f 1)) (v : Int64) : Sm I (up2 L (q + 4 + t) 7 v) q f (va_up g t v) := by
  obtain ⟨h1, h2, h3, h4, h5⟩ := h
  refine ⟨h1, h2, h3, fun t' ht' => ⟨(h4 t' ht').1, ?_⟩, fun t' ht' h16 => ⟨(h5 t' ht' h16).1, (h5 t' ht' h16).2.1, ?_⟩⟩
  · by_cases hh : t' = t
    · subst hh
      rw [up2_self, va_up_self]
    · rw [up2_ne (by omega), va_up_ne _ _ hh]; exact (h4 t' ht').2
  · rw [up2_ne (by omega)]; exact (h5 t' ht' h16).2.2
theorem Sm.setS (h : Sm I L q f g) {i : Nat} (hi : i < 8) (h2 : 2 ≤ i) (v : Int32) : Sm (up2 I q (3 + i) v) L q (va_up f i v) g := by
  have e0 : va_up f i v 0 = f 0 := va_up_ne _ _ (by omega)
  have e1 : va_up f i v 1 = f 1 := va_up_ne _ _ (by omega)
  obtain ⟨k1, k2, k3, k4, k5⟩ := h
  refine ⟨fun j hj => ?_, fun j hj => ?_, fun j hj => ?_, fun t ht => ⟨fun w hw => ?_, ?_⟩, fun t ht h16 => ?_⟩
  · by_cases hh : j = i
    · subst hh
      rw [up2_self, va_up_self]
    · rw [up2_ne (by omega), va_up_ne _ _ hh]; exact k1 j hj
  · rw [up2_ne (by omega), va_up_ne _ _ (by omega)]; exact k2 j hj
  · rw [e0] at hj
    rw [up2_ne (by omega), va_up_ne _ _ (by omega)]; exact k3 j hj
  · rw [e1] at ht
    unfold sOf
    rw [up2_ne (by omega), va_up_ne _ _ (by omega)]; exact (k4 t ht).1 w hw
  · rw [e1] at ht
    exact (k4 t ht).2
  · rw [e1] at ht
    rw [up2_ne (by omega), up2_ne (by omega)]; exact k5 t ht h16
theorem Sm.setP (h : Sm I L q f g) {i : Nat} (hi : i < 3) (v : Int32) : Sm (up2 I (q + 1) i v) L q (va_up f (8 + i) v) g := by
  have e0 : va_up f (8 + i) v 0 = f 0 := va_up_ne _ _ (by omega)
  have e1 : va_up f (8 + i) v 1 = f 1 := va_up_ne _ _ (by omega)
  obtain ⟨k1, k2, k3, k4, k5⟩ := h
  refine ⟨fun j hj => ?_, fun j hj => ?_, fun j hj => ?_, fun t ht => ⟨fun w hw => ?_, ?_⟩, fun t ht h16 => ?_⟩
  · rw [up2_ne (by omega), va_up_ne _ _ (by omega)]; exact k1 j hj
  · by_cases hh : j = i
    · subst hh
      rw [up2_self, va_up_self]
    · rw [up2_ne (by omega), va_up_ne _ _ (by omega)]; exact k2 j hj
  · rw [e0] at hj
    rw [up2_ne (by omega), va_up_ne _ _ (by omega)]; exact k3 j hj
  · rw [e1] at ht
    unfold sOf
    rw [up2_ne (by omega), va_up_ne _ _ (by omega)]; exact (k4 t ht).1 w hw
  · rw [e1] at ht
    exact (k4 t ht).2
  · rw [e1] at ht
    rw [up2_ne (by omega), up2_ne (by omega)]; exact k5 t ht h16
theorem Sm.setH (h : Sm I L q f g) {i : Nat} (hi : i < 8) (v : Int32) : Sm (up2 I (q + 2) i v) L q (va_up f (11 + i) v) g := by
  have e0 : va_up f (11 + i) v 0 = f 0 := va_up_ne _ _ (by omega)
  have e1 : va_up f (11 + i) v 1 = f 1 := va_up_ne _ _ (by omega)
  obtain ⟨k1, k2, k3, k4, k5⟩ := h
  refine ⟨fun j hj => ?_, fun j hj => ?_, fun j hj => ?_, fun t ht => ⟨fun w hw => ?_, ?_⟩, fun t ht h16 => ?_⟩
  · rw [up2_ne (by omega), va_up_ne _ _ (by omega)]; exact k1 j hj
  · rw [up2_ne (by omega), va_up_ne _ _ (by omega)]; exact k2 j hj
  · rw [e0] at hj
    by_cases hh : j = i
    · subst hh
      rw [up2_self, va_up_self]
    · rw [up2_ne (by omega), va_up_ne _ _ (by omega)]; exact k3 j hj
  · rw [e1] at ht
    unfold sOf
    rw [up2_ne (by omega), va_up_ne _ _ (by omega)]; exact (k4 t ht).1 w hw
  · rw [e1] at ht
    exact (k4 t ht).2
  · rw [e1] at ht
    rw [up2_ne (by omega), up2_ne (by omega)]; exact k5 t ht h16
end SMU
