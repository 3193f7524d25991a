/-! ===== calls that leave the world, truth values, roles ===== -/
abbrev pE {α : Type} (e : α) (I : kI) (L : kL) (X : kX) : α → kI → kL → kX → Prop := fun v I' L' X' => v = e ∧ I' = I ∧ L' = L ∧ X' = X
section QE
variable {l : Launch} {cc : ByteArray} {own : String} {nL D K : Nat} {G : kG} {n0 : Nat} {J : kJ} {n : Nat} {I : kI} {L : kL} {X : kX} {pc : Nat} {lv : kV} {rest : List Value}
theorem callVe_i (hM : Mach l cc own nL D K G n0 J) {y : MethodName} {b' : ByteArray} {nL' D' cnt idx : Nat} {C : String} {T : u_T} {N : Nat} {tyf : Nat → FieldType} {ci : Nat} (mi : MIv y C b' nL' (some .int) cnt) (lk : Cond.methodLink own idx y ∈ TB) (cf : CF ci C T N tyf) {r : Nat} (hr : r < n) (hk : kd r = ci) {As : List Value} {e9 : Int32} (hC : Ki l y b' nL' D' G (.ref (ad G r) :: As) n n I L X (pE e9 I L X)) (hcnt : As.length = cnt) {st : List Value} (hst : st = As.reverse ++ .ref (ad G r) :: rest) (hD : D' + 1 ≤ D) (hn1 : n ≤ n) (hKc : n ≤ n0 + K) (hW : (rest.map fun v => v.category).sum ≤ 8) (hd : decode cc pc = .ok (.invokevirtual idx, 3)) (kk : J n I L X (pc + 3) lv (.int e9 :: rest)) : J n I L X pc lv st :=
  callV_i hM mi lk cf hr hk hC hcnt hst hD hn1 hKc hW hd (fun _ _ _ _ h => by obtain ⟨rfl, rfl, rfl, rfl⟩ := h; exact kk)
theorem callSe_i (hM : Mach l cc own nL D K G n0 J) {y : MethodName} {b' : ByteArray} {nL' D' cnt idx : Nat} (mi : MIs y b' nL' (some .int) cnt) (lk : Cond.methodLink own idx y ∈ TB) {As : List Value} {e9 : Int32} (hC : Ki l y b' nL' D' G As n n I L X (pE e9 I L X)) (hcnt : As.length = cnt) {st : List Value} (hst : st = As.reverse ++ rest) (hD : D' + 1 ≤ D) (hn1 : n ≤ n) (hKc : n ≤ n0 + K) (hW : (rest.map fun v => v.category).sum ≤ 8) (hd : decode cc pc = .ok (.invokestatic idx, 3)) (kk : J n I L X (pc + 3) lv (.int e9 :: rest)) : J n I L X pc lv st :=
  callS_i hM mi lk hC hcnt hst hD hn1 hKc hW hd (fun _ _ _ _ h => by obtain ⟨rfl, rfl, rfl, rfl⟩ := h; exact kk)
theorem callVe_z (hM : Mach l cc own nL D K G n0 J) {y : MethodName} {b' : ByteArray} {nL' D' cnt idx : Nat} {C : String} {T : u_T} {N : Nat} {tyf : Nat → FieldType} {ci : Nat} (mi : MIv y C b' nL' (some .boolean) cnt) (lk : Cond.methodLink own idx y ∈ TB) (cf : CF ci C T N tyf) {r : Nat} (hr : r < n) (hk : kd r = ci) {As : List Value} {e9 : Bool} (hC : Kz l y b' nL' D' G (.ref (ad G r) :: As) n n I L X (pE e9 I L X)) (hcnt : As.length = cnt) {st : List Value} (hst : st = As.reverse ++ .ref (ad G r) :: rest) (hD : D' + 1 ≤ D) (hn1 : n ≤ n) (hKc : n ≤ n0 + K) (hW : (rest.map fun v => v.category).sum ≤ 8) (hd : decode cc pc = .ok (.invokevirtual idx, 3)) (kk : J n I L X (pc + 3) lv (.int (bI e9) :: rest)) : J n I L X pc lv st :=
  callV_z hM mi lk cf hr hk hC hcnt hst hD hn1 hKc hW hd (fun _ _ _ _ h => by obtain ⟨rfl, rfl, rfl, rfl⟩ := h; exact kk)
theorem callSe_z (hM : Mach l cc own nL D K G n0 J) {y : MethodName} {b' : ByteArray} {nL' D' cnt idx : Nat} (mi : MIs y b' nL' (some .boolean) cnt) (lk : Cond.methodLink own idx y ∈ TB) {As : List Value} {e9 : Bool} (hC : Kz l y b' nL' D' G As n n I L X (pE e9 I L X)) (hcnt : As.length = cnt) {st : List Value} (hst : st = As.reverse ++ rest) (hD : D' + 1 ≤ D) (hn1 : n ≤ n) (hKc : n ≤ n0 + K) (hW : (rest.map fun v => v.category).sum ≤ 8) (hd : decode cc pc = .ok (.invokestatic idx, 3)) (kk : J n I L X (pc + 3) lv (.int (bI e9) :: rest)) : J n I L X pc lv st :=
  callS_z hM mi lk hC hcnt hst hD hn1 hKc hW hd (fun _ _ _ _ h => by obtain ⟨rfl, rfl, rfl, rfl⟩ := h; exact kk)
theorem callVe_l (hM : Mach l cc own nL D K G n0 J) {y : MethodName} {b' : ByteArray} {nL' D' cnt idx : Nat} {C : String} {T : u_T} {N : Nat} {tyf : Nat → FieldType} {ci : Nat} (mi : MIv y C b' nL' (some .long) cnt) (lk : Cond.methodLink own idx y ∈ TB) (cf : CF ci C T N tyf) {r : Nat} (hr : r < n) (hk : kd r = ci) {As : List Value} {e9 : Int64} (hC : Kl l y b' nL' D' G (.ref (ad G r) :: As) n n I L X (pE e9 I L X)) (hcnt : As.length = cnt) {st : List Value} (hst : st = As.reverse ++ .ref (ad G r) :: rest) (hD : D' + 1 ≤ D) (hn1 : n ≤ n) (hKc : n ≤ n0 + K) (hW : (rest.map fun v => v.category).sum ≤ 8) (hd : decode cc pc = .ok (.invokevirtual idx, 3)) (kk : J n I L X (pc + 3) lv (.long e9 :: rest)) : J n I L X pc lv st :=
  callV_l hM mi lk cf hr hk hC hcnt hst hD hn1 hKc hW hd (fun _ _ _ _ h => by obtain ⟨rfl, rfl, rfl, rfl⟩ := h; exact kk)
theorem callSe_l (hM : Mach l cc own nL D K G n0 J) {y : MethodName} {b' : ByteArray} {nL' D' cnt idx : Nat} (mi : MIs y b' nL' (some .long) cnt) (lk : Cond.methodLink own idx y ∈ TB) {As : List Value} {e9 : Int64} (hC : Kl l y b' nL' D' G As n n I L X (pE e9 I L X)) (hcnt : As.length = cnt) {st : List Value} (hst : st = As.reverse ++ rest) (hD : D' + 1 ≤ D) (hn1 : n ≤ n) (hKc : n ≤ n0 + K) (hW : (rest.map fun v => v.category).sum ≤ 8) (hd : decode cc pc = .ok (.invokestatic idx, 3)) (kk : J n I L X (pc + 3) lv (.long e9 :: rest)) : J n I L X pc lv st :=
  callS_l hM mi lk hC hcnt hst hD hn1 hKc hW hd (fun _ _ _ _ h => by obtain ⟨rfl, rfl, rfl, rfl⟩ := h; exact kk)
theorem callVe_q (hM : Mach l cc own nL D K G n0 J) {y : MethodName} {b' : ByteArray} {nL' D' cnt idx : Nat} {Cr : String} {C : String} {T : u_T} {N : Nat} {tyf : Nat → FieldType} {ci : Nat} (mi : MIv y C b' nL' (some (.object Cr)) cnt) (lk : Cond.methodLink own idx y ∈ TB) (cf : CF ci C T N tyf) {r : Nat} (hr : r < n) (hk : kd r = ci) {As : List Value} {e9 : Option Nat} (hC : Kq l y b' nL' Cr D' G (.ref (ad G r) :: As) n n I L X (pE e9 I L X)) (hcnt : As.length = cnt) {st : List Value} (hst : st = As.reverse ++ .ref (ad G r) :: rest) (hD : D' + 1 ≤ D) (hn1 : n ≤ n) (hKc : n ≤ n0 + K) (hW : (rest.map fun v => v.category).sum ≤ 8) (hd : decode cc pc = .ok (.invokevirtual idx, 3)) (kk : J n I L X (pc + 3) lv (rfv G e9 :: rest)) : J n I L X pc lv st :=
  callV_q hM mi lk cf hr hk hC hcnt hst hD hn1 hKc hW hd (fun _ _ _ _ h => by obtain ⟨rfl, rfl, rfl, rfl⟩ := h; exact kk)
theorem callSNe_z (hM : Mach l cc own nL D K G n0 J) {y : MethodName} {b' : ByteArray} {nL' D' cnt idx : Nat} {host : String} (mi : MIs y b' nL' (some .boolean) cnt) (lk : InT (Cond.methodLinkNest own idx y host)) {As : List Value} {e9 : Bool} (hC : Kz l y b' nL' D' G As n n I L X (pE e9 I L X)) (hcnt : As.length = cnt) {st : List Value} (hst : st = As.reverse ++ rest) (hD : D' + 1 ≤ D) (hn1 : n ≤ n) (hKc : n ≤ n0 + K) (hW : (rest.map fun v => v.category).sum ≤ 8) (hd : decode cc pc = .ok (.invokestatic idx, 3)) (kk : J n I L X (pc + 3) lv (.int (bI e9) :: rest)) : J n I L X pc lv st :=
  callSN_z hM mi lk hC hcnt hst hD hn1 hKc hW hd (fun _ _ _ _ h => by obtain ⟨rfl, rfl, rfl, rfl⟩ := h; exact kk)
theorem bI_0 {b : Bool} : bI b = 0 ↔ b = false := by cases b <;> decide
theorem q_ifd_eq (hM : Mach l cc own nL D K G n0 J) {P : Prop} [Decidable P] {off : Int} {tgt : Nat} (hd : decode cc pc = .ok (.ifCond .eq off, 3)) (ht : (pc : Int) + off = (tgt : Int)) (kt : ¬ P → J n I L X tgt lv rest) (kf : P → J n I L X (pc + 3) lv rest) : J n I L X pc lv (.int (bI (decide P)) :: rest) :=
  q_if_eq hM hd ht (fun h => kt (of_decide_eq_false (bI_0.mp h))) (fun h => kf (Classical.byContradiction fun hp => h (bI_0.mpr (decide_eq_false hp))))
theorem q_ifd_ne (hM : Mach l cc own nL D K G n0 J) {P : Prop} [Decidable P] {off : Int} {tgt : Nat} (hd : decode cc pc = .ok (.ifCond .ne off, 3)) (ht : (pc : Int) + off = (tgt : Int)) (kt : P → J n I L X tgt lv rest) (kf : ¬ P → J n I L X (pc + 3) lv rest) : J n I L X pc lv (.int (bI (decide P)) :: rest) :=
  q_if_ne hM hd ht (fun h => kt (Classical.byContradiction fun hp => h (bI_0.mpr (decide_eq_false hp)))) (fun h => kf (of_decide_eq_false (bI_0.mp h)))
theorem q_copyi (hM : Mach l cc own nL D K G n0 J) {idx : Nat} (lk : Cond.methodLink own idx arraycopyName ∈ TB) {r r' : Nat} (hr : r < n) (hk : kd r = 8) (hr' : r' < n) (hk' : kd r' = 8) {sp dp m9 : Int32} (a b z : Nat) (ha : sp = nI a) (hb9 : dp = nI b) (hz9 : m9 = nI z) (h1 : a + z ≤ kl r) (h2 : b + z ≤ kl r') (hD : 1 ≤ D) (hW : (rest.map fun v => v.category).sum = 0) (hd : decode cc pc = .ok (.invokestatic idx, 3)) (kk : J n (fun x => if x = r' then va_cpy (I r) (I r') a b z else I x) L X (pc + 3) lv rest) : J n I L X pc lv (.int m9 :: .int dp :: .ref (ad G r') :: .int sp :: .ref (ad G r) :: rest) := by
  obtain ⟨p, e, Rm, s, m, args, below, meth, c, H0, Q, rfl, hx, hb, hml, hown, hT, hK, hbs, hR⟩ := hM
  intro hn H locs ls hz hP hS hl
  have hTB : ∀ w ∈ TB, w.before args s = true := fun w hw => hT w (inT_TB hw)
  have k1 := kl_le r
  have k2 := kl_le r'
  subst ha; subst hb9; subst hz9
  obtain ⟨r1, r2, r3, r4⟩ := hR
  have hnf : nativeFrameWords "java/lang/System" "arraycopy" 5 + 11 ≤ 36 := by decide +kernel
  intro T hTH Xs
  have he : (wl G n I L X)[r]? = some (ad G r, .inl (G.2.2 0, kl r, .inl (I r))) := by rw [wl_get hr, ce_int hk]
  have he' : (wl G n I L X)[r']? = some (ad G r', .inl (G.2.2 0, kl r', .inl (I r'))) := by rw [wl_get hr', ce_int hk']
  have hc0 : H[ad G r]? = some (vp_cell (G.2.2 0) (kl r, .inl (I r))) := hP r _ he
  have hc1 : H[ad G r']? = some (vp_cell (G.2.2 0) (kl r', .inl (I r'))) := hP r' _ he'
  obtain ⟨-, k0, hk0, cm0, hkk0⟩ := (hK.2 0 _ rfl).1 (kl r) (fun j => .int (I r j))
  obtain ⟨-, k1', hk1, cm1, hkk1⟩ := (hK.2 0 _ rfl).1 (kl r') (fun j => .int (I r' j))
  obtain ⟨vm', X', step⟩ := Xs.arraycopy hx hown (hTB _ lk) (hTB _ w_ac_n) (hTB _ w_ac_s) (hTB _ w_ac_i) (src := ad G r) (dst := ad G r') (cs := vp_cell (G.2.2 0) (kl r, .inl (I r))) (cd := vp_cell (G.2.2 0) (kl r', .inl (I r'))) (srcPos := nI a) (destPos := nI b) (n := nI z) (by rw [hTH]; exact hc0) (by rw [hTH]; exact hc1)
    (fun _ h => by cases h) (fun _ h => by cases h) (fun h => by cases h) (fun h => by cases h) hk0 hk1 hkk0 hkk1 (by simp [refKind]) (nI_pos (by omega)) (nI_pos (by omega)) (nI_pos (by omega))
    (by rw [nI_toInt (by omega), nI_toInt (by omega)]; show ¬ _ > ((arrV (G.2.2 0) (kl r) (fun j => .int (I r j))).slots.size : Int); rw [arrV_size]; omega)
    (by rw [nI_toInt (by omega), nI_toInt (by omega)]; show ¬ _ > ((arrV (G.2.2 0) (kl r') (fun j => .int (I r' j))).slots.size : Int); rw [arrV_size]; omega)
    (fun vm₁ _ i hi => by
      rw [nI_clamp (by omega)] at hi
      have e : (vp_cell (G.2.2 0) (kl r, .inl (I r))).slots.getD ((nI a).toNatClampNeg + i) .null = .int (I r ((nI a).toNatClampNeg + i)) := by
        show (arrV (G.2.2 0) (kl r) (fun j => .int (I r j))).slots.getD _ _ = _
        rw [nI_clamp (by omega), Array.getD_eq_getD_getElem?, arrV_read _ _ (by omega)]
        rfl
      refine ⟨?_, ?_⟩
      · rw [e]
        rfl
      · rw [e]
        exact trivial)
    (g := F0 m pc ls (.int (nI z) :: .int (nI b) :: .ref (ad G r') :: .int (nI a) :: .ref (ad G r) :: rest)) rfl (by rw [hml]; exact hl.1) (rest := rest) rfl (by rw [hb]; exact hd) (by omega) (by show 2 * 0 + _ + _ ≤ _; rw [hW]; omega)
  have e1 : copied (vp_cell (G.2.2 0) (kl r, .inl (I r))) (vp_cell (G.2.2 0) (kl r', .inl (I r'))) (nI a) (nI b) (nI z) = vp_cell (G.2.2 0) (kl r', .inl (va_cpy (I r) (I r') (nI a).toNatClampNeg (nI b).toNatClampNeg (nI z).toNatClampNeg)) := va_copied (fun z => .int z) (G.2.2 0) (G.2.2 0) (I r) (I r') (by rw [nI_clamp (by omega), nI_clamp (by omega)]; omega)
  rw [e1, nI_clamp (n := a) (by omega), nI_clamp (n := b) (by omega), nI_clamp (n := z) (by omega)] at X' step
  have hlr : ad G r' < H.size := (Array.getElem?_eq_some_iff.mp hc1).1
  have hheap : ((T.setVm vm').setCell (ad G r') (vp_cell (G.2.2 0) (kl r', .inl (va_cpy (I r) (I r') a b z)))).heap = H.setIfInBounds (ad G r') (vp_cell (G.2.2 0) (kl r', .inl (va_cpy (I r) (I r') a b z))) := by rw [← hTH]; rfl
  have oq : ∀ q : Nat, q ≠ ad G r' → (H.setIfInBounds (ad G r') (vp_cell (G.2.2 0) (kl r', .inl (va_cpy (I r) (I r') a b z))))[q]? = H[q]? := fun q hq => by simp [Array.getElem?_setIfInBounds, Ne.symm hq]
  obtain ⟨t, a1, b1⟩ := kk hn (H.setIfInBounds (ad G r') (vp_cell (G.2.2 0) (kl r', .inl (va_cpy (I r) (I r') a b z)))) _ ls (by rw [Array.size_setIfInBounds]; exact hz) (wl_store hP hr' (e := .inl (G.2.2 0, kl r', .inl (va_cpy (I r) (I r') a b z))) (show (H.setIfInBounds (ad G r') _)[ad G r']? = some _ by simp [Array.getElem?_setIfInBounds, hlr]) (by rw [ce_int hk', if_pos rfl]) (fun q hq => ce_row (by rw [if_neg hq]) rfl rfl) oq) ⟨by rw [Array.size_setIfInBounds]; exact hS.1, fun q g1 g2 => by
      rw [oq q (fun e => g2 (by rw [e]; exact Nat.le_add_right _ _))]
      exact hS.2.1 q g1 g2, fun q hq => by
      rcases List.mem_append.mp hq with h | h
      · exact hS.2.2 q h
      · obtain ⟨z, -, hz⟩ := List.mem_map.mp h
        rw [← hz]
        exact Nat.le_add_right _ _⟩ hl _ hheap X'
  exact ⟨t, step t a1, b1⟩
end QE
theorem inc1 (i : Nat) : nI i + Int32.ofInt 1 = nI (i + 1) := nI_1 i
/-! roles -/
def isP (q : Nat) : Prop := q = 1 ∨ ∃ i, i < 5 ∧ q = 23 + 20 * i
theorem isP_1 : isP 1 := Or.inl rfl
theorem isP_h {i : Nat} (h : i < 5) : isP (23 + 20 * i) := Or.inr ⟨i, h, rfl⟩
theorem isP.lt {q : Nat} (h : isP q) : q + 19 < 153 := by
  rcases h with rfl | ⟨i, hi, rfl⟩ <;> omega
theorem kdP_h : ∀ i, i < 5 → ∀ j, j < 20 → kd (23 + 20 * i + j) = kdP j ∧ kl (23 + 20 * i + j) = klP j := by decide +kernel
theorem kdP_1 : ∀ j, j < 20 → kd (1 + j) = kdP j ∧ kl (1 + j) = klP j := by decide +kernel
theorem isP.kj {q : Nat} (h : isP q) {j : Nat} (hj : j < 20) : kd (q + j) = kdP j ∧ kl (q + j) = klP j := by
  rcases h with rfl | ⟨i, hi, rfl⟩
  · exact kdP_1 j hj
  · exact kdP_h i hi j hj

theorem isP.k0 {q : Nat} (h : isP q) : kd q = 1 := (h.kj (j := 0) (by decide)).1
theorem isP.kt {q t : Nat} (h : isP q) (ht : t < 16) : kd (q + 4 + t) = 5 := by
  have := (h.kj (j := 4 + t) (by omega)).1
  rw [show q + 4 + t = q + (4 + t) by omega, this]
  unfold kdP
  rw [if_neg (by omega), if_neg (by omega), if_neg (by omega)]
theorem isP.lt0 {q : Nat} (h : isP q) : q < 153 := by have := h.lt; omega
theorem isP.ltt {q t : Nat} (h : isP q) (ht : t < 16) : q + 4 + t < 153 := by have := h.lt; omega
theorem ltT {t : Nat} (h : t < 16) : 5 + t < 153 := by omega
theorem kdT {t : Nat} (h : t < 16) : kd (5 + t) = 5 := isP_1.kt h
def Refs (X : kX) (pm : Nat → Nat) : Prop :=
  (X 0 0 = some 1 ∧ X 0 1 = some 21 ∧ X 0 2 = some 123 ∧ X 0 3 = some 127 ∧ X 0 4 = some 130) ∧
  (∀ q, isP q → X q 0 = some (q + 1) ∧ X q 1 = some (q + 2) ∧ X q 2 = some (q + 3) ∧ ∀ i, i < 16 → X (q + 3) i = some (q + 4 + i)) ∧
  (X 21 0 = some 22 ∧ ∀ i, i < 5 → X 22 i = some (pm i)) ∧ (X 123 0 = some 124 ∧ X 123 1 = some 125 ∧ X 123 2 = some 126) ∧ (X 127 0 = some 128 ∧ X 127 1 = some 129) ∧
  (X 130 0 = some 131 ∧ X 130 1 = some 132 ∧ ∀ i, i < 20 → X 132 i = some (133 + i))
section RF
variable {X : kX} {pm : Nat → Nat}
theorem Refs.x0 (h : Refs X pm) : X 0 0 = some 1 := h.1.1
theorem Refs.x1 (h : Refs X pm) : X 0 1 = some 21 := h.1.2.1
theorem Refs.x2 (h : Refs X pm) : X 0 2 = some 123 := h.1.2.2.1
theorem Refs.x3 (h : Refs X pm) : X 0 3 = some 127 := h.1.2.2.2.1
theorem Refs.x4 (h : Refs X pm) : X 0 4 = some 130 := h.1.2.2.2.2
theorem Refs.q0 (h : Refs X pm) {q : Nat} (hq : isP q) : X q 0 = some (q + 1) := (h.2.1 q hq).1
theorem Refs.q1 (h : Refs X pm) {q : Nat} (hq : isP q) : X q 1 = some (q + 2) := (h.2.1 q hq).2.1
theorem Refs.q2 (h : Refs X pm) {q : Nat} (hq : isP q) : X q 2 = some (q + 3) := (h.2.1 q hq).2.2.1
theorem Refs.qt (h : Refs X pm) {q : Nat} (hq : isP q) {t : Nat} (ht : t < 16) : X (q + 3) t = some (q + 4 + t) := (h.2.1 q hq).2.2.2 t ht
theorem Refs.p0 (h : Refs X pm) : X 1 0 = some 2 := h.q0 isP_1
theorem Refs.p1 (h : Refs X pm) : X 1 1 = some 3 := h.q1 isP_1
theorem Refs.p2 (h : Refs X pm) : X 1 2 = some 4 := h.q2 isP_1
theorem Refs.pt (h : Refs X pm) {t : Nat} (ht : t < 16) : X 4 t = some (5 + t) := h.qt isP_1 ht
theorem Refs.h0 (h : Refs X pm) : X 21 0 = some 22 := h.2.2.1.1
theorem Refs.hi (h : Refs X pm) {i : Nat} (hi : i < 5) : X 22 i = some (pm i) := h.2.2.1.2 i hi
theorem Refs.o0 (h : Refs X pm) : X 123 0 = some 124 := h.2.2.2.1.1
theorem Refs.o1 (h : Refs X pm) : X 123 1 = some 125 := h.2.2.2.1.2.1
theorem Refs.o2 (h : Refs X pm) : X 123 2 = some 126 := h.2.2.2.1.2.2
theorem Refs.s0 (h : Refs X pm) : X 127 0 = some 128 := h.2.2.2.2.1.1
theorem Refs.s1 (h : Refs X pm) : X 127 1 = some 129 := h.2.2.2.2.1.2
theorem Refs.t0 (h : Refs X pm) : X 130 0 = some 131 := h.2.2.2.2.2.1
theorem Refs.t1 (h : Refs X pm) : X 130 1 = some 132 := h.2.2.2.2.2.2.1
theorem Refs.ti (h : Refs X pm) {i : Nat} (hi : i < 20) : X 132 i = some (133 + i) := h.2.2.2.2.2.2.2 i hi
end RF
def RefM (X : kX) : Prop := X 153 0 = some 154 ∧ X 153 1 = some 155 ∧ X 153 3 = some 156 ∧ X 153 4 = some 157 ∧ X 153 7 = some 158
theorem RefM.m0 {X : kX} (h : RefM X) : X 153 0 = some 154 := h.1
theorem RefM.m1 {X : kX} (h : RefM X) : X 153 1 = some 155 := h.2.1
theorem RefM.m3 {X : kX} (h : RefM X) : X 153 3 = some 156 := h.2.2.1
theorem RefM.m4 {X : kX} (h : RefM X) : X 153 4 = some 157 := h.2.2.2.1
theorem RefM.m7 {X : kX} (h : RefM X) : X 153 7 = some 158 := h.2.2.2.2
