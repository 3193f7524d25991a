/-! ===== fields and arrays ===== -/
def CF (ci : Nat) (C : String) (T : u_T) (N : Nat) (ty : Nat → FieldType) : Prop :=
  vwCl[ci]? = some (C, T, N) ∧ ci < 8 ∧ nf ci = N ∧ (∀ w ∈ u_ws C T N, InT w) ∧ (∀ k, k < N → parseFieldDescriptor (T k).2.2.1 = some (ty k)) ∧ (∀ a, a < N → ∀ b, b < N → a ≠ b → (T a).2.1 ≠ (T b).2.1)
def FL (own : String) (idx : Nat) (ref name desc : String) : Prop := InT (.fieldLink own idx ref name desc) ∨ ∃ host : String, InT (.fieldLinkNest own idx ref name desc host)
def Zr (f : kI) (g : kL) (h : kX) (r : Nat) : Prop := ∀ j, f r j = 0 ∧ g r j = 0 ∧ h r j = none
section QF
variable {l : Launch} {cc : ByteArray} {own : String} {nL D K : Nat} {G : kG} {n0 : Nat} {J : kJ} {n : Nat} {I : kI} {L : kL} {X : kX} {pc : Nat} {lv : kV} {rest : List Value} {ci : Nat} {C : String} {T : u_T} {N : Nat} {ty : Nat → FieldType}
theorem q_get (hM : Mach l cc own nL D K G n0 J) (cf : CF ci C T N ty) {r j idx : Nat} (hj : j < N) (fl : FL own idx (T j).1 (T j).2.1 (T j).2.2.1) (hr : r < n) (hk : kd r = ci) {v : Value} (hv : fv G I L X ci r j = v) (hd : decode cc pc = .ok (.getfield idx, 3)) (kk : J n I L X (pc + 3) lv (v :: rest)) : J n I L X pc lv (.ref (ad G r) :: rest) := by
  obtain ⟨c1, c2, c3, c4, c5, c6⟩ := cf
  obtain ⟨p, e, Rm, s, m, args, below, meth, c, H0, Q, rfl, hx, hb, hml, hown, hT, hK, hbs, hR⟩ := hM
  intro hn H locs ls hz hP hS hl
  have he : (wl G n I L X)[r]? = some (ad G r, .inr (ci, flds G I L X ci r)) := by rw [wl_get hr, ce_obj hk c2]
  have hv' : (flds G I L X ci r)[j]? = some v := by rw [flds_get (by omega), hv]
  rcases fl with fl | ⟨host, fl⟩
  · exact va_get (Ts := u_ws C T N) hx hb (fun w hw => hT w (c4 w hw)) (fun _ h => h) hown hK hP r he c1 j hj (hT _ fl) (fun _ h => h) hv' hd (kk hn H locs ls hz hP hS hl)
  · exact va_getN (Ts := u_ws C T N) hx hb (fun w hw => hT w (c4 w hw)) (fun _ h => h) hown hK hP r he c1 j hj (hT _ fl) (fun _ h => h) hv' hd (kk hn H locs ls hz hP hS hl)
theorem wl_store {H H1 : Heap} {r : Nat} {e : va_E} {I' : kI} {L' : kL} {X' : kX} (hP : va_P G.1 vwCl (wl G n I L X) H) (hr : r < n) (he : va_at G.1 vwCl (ad G r, e) H1) (heq : ce G I' L' X' r = e) (ho : ∀ q, q ≠ r → ce G I' L' X' q = ce G I L X q) (oq : ∀ q, q ≠ ad G r → H1[q]? = H[q]?) : va_P G.1 vwCl (wl G n I' L' X') H1 := by
  rw [← wl_set heq ho]
  exact hP.set (wl_D G n I L X) (wl_get hr) he oq
theorem q_put0 (hM : Mach l cc own nL D K G n0 J) (cf : CF ci C T N ty) {r j idx : Nat} (hj : j < N) (fl : FL own idx (T j).1 (T j).2.1 (T j).2.2.1) (hr : r < n) (hk : kd r = ci) {v : Value} {I' : kI} {L' : kL} {X' : kX} (hv : fv G I' L' X' ci r j = v) (ho : ∀ k, k ≠ j → fv G I' L' X' ci r k = fv G I L X ci r k) (hq : ∀ q, q ≠ r → ce G I' L' X' q = ce G I L X q) (hfin : (T j).2.2.2 = false) (hn0 : narrow (ty j) v = v) (hfit : fits (ty j) v = true) (hd : decode cc pc = .ok (.putfield idx, 3)) (kk : J n I' L' X' (pc + 3) lv rest) : J n I L X pc lv (v :: .ref (ad G r) :: rest) := by
  obtain ⟨c1, c2, c3, c4, c5, c6⟩ := cf
  obtain ⟨p, e, Rm, s, m, args, below, meth, c, H0, Q, rfl, hx, hb, hml, hown, hT, hK, hbs, hR⟩ := hM
  intro hn H locs ls hz hP hS hl
  have he : (wl G n I L X)[r]? = some (ad G r, .inr (ci, flds G I L X ci r)) := by rw [wl_get hr, ce_obj hk c2]
  have hlen : j < (flds G I L X ci r).length := by rw [flds_len]; omega
  have hts : ∀ w ∈ u_ws C T N, w.before args s = true := fun w hw => hT w (c4 w hw)
  have hap := va_apart (own := own) hts (fun _ h => h) ty c5 c6 hK c1
  obtain ⟨r', h1, cell, q1, q2, q3, q4⟩ := hP r _ he
  have hr' : r' = (C, T, N) := Option.some.inj (h1.symm.trans c1)
  subst hr'
  obtain ⟨hS0, hfc, kC, hkC, hkind⟩ := hK.1 ci _ c1
  obtain ⟨cf, kf, fi, f, hi, hsl⟩ := hS0 j hj
  have hlay := hts _ (u_in_lay hj)
  unfold u_lay at hlay
  rw [if_neg (by rw [hfin]; decide)] at hlay
  have hst := (u_facts hfc hkC (u_lays hts (fun _ h => h) hj) hi).1
  have h6 := u_store hfc hkC hkind hlay hi (c5 j hj) hn0 hfit
  have fin : ∀ H' : Heap, H'[ad G r]? = some (cell.setSlot f.slot v) → H'.size = H.size → (∀ q, q ≠ ad G r → H'[q]? = H[q]?) → W p l e Rm s m args below meth c H' (locs ++ [⟨ad G r, f.slot⟩]) (n - n0) (800 * (n - n0)) Q (F0 m (pc + 3) ls rest) := by
    intro H' e1 e2 e3
    refine kk hn H' _ ls (e2.trans hz) (wl_store hP hr (e := .inr (ci, (flds G I L X ci r).set j v)) ?_ (by rw [ce_obj hk c2, flds_set hv ho]) hq e3) (hS.put e2 e3 (Nat.le_add_right _ _)) hl
    rw [hsl] at e1
    exact ⟨_, c1, t_OB.to (V := updV (vp_V (flds G I L X ci r)) j v) ⟨_, e1, q2, q3, t_set q4 hap hj v⟩ (fun k _ => vp_updV_set hlen v k)⟩
  rcases fl with fl | ⟨host, fl⟩
  · exact W.putK hx hb (f := f) ⟨hown, hT _ fl, ⟨_, _, _, hi⟩, hst⟩ (by rw [q2]; exact h6) q1 q3 (by rw [hsl]; exact k2_hasslot (q4 j hj)) rfl rfl hd fin
  · exact va_WputK hx hb (f := f) hown (hT _ fl) hi hst (by rw [q2]; exact h6) q1 q3 (by rw [hsl]; exact k2_hasslot (q4 j hj)) rfl rfl hd fin
theorem q_puti (hM : Mach l cc own nL D K G n0 J) (cf : CF ci C T N ty) {r j idx : Nat} (hj : j < N) (fl : FL own idx (T j).1 (T j).2.1 (T j).2.2.1) (hr : r < n) (hk : kd r = ci) {v : Int32} (hf : fk ci j = 0) (hfin : (T j).2.2.2 = false) (ht : ty j = .int) (hd : decode cc pc = .ok (.putfield idx, 3)) (kk : J n (up2 I r j v) L X (pc + 3) lv rest) : J n I L X pc lv (.int v :: .ref (ad G r) :: rest) := by
  refine q_put0 hM cf hj fl hr hk (by simp [fv, hf, up2]) (fun k hkj => ?_) (fun q hq => ce_row (up2_row hq) rfl rfl) hfin (by rw [ht]; rfl) (by rw [ht]; rfl) hd kk
  simp [fv, up2, hkj]
theorem q_putl (hM : Mach l cc own nL D K G n0 J) (cf : CF ci C T N ty) {r j idx : Nat} (hj : j < N) (fl : FL own idx (T j).1 (T j).2.1 (T j).2.2.1) (hr : r < n) (hk : kd r = ci) {v : Int64} (hf : fk ci j = 1) (hfin : (T j).2.2.2 = false) (ht : ty j = .long) (hd : decode cc pc = .ok (.putfield idx, 3)) (kk : J n I (up2 L r j v) X (pc + 3) lv rest) : J n I L X pc lv (.long v :: .ref (ad G r) :: rest) := by
  refine q_put0 hM cf hj fl hr hk (by simp [fv, hf, up2]) (fun k hkj => ?_) (fun q hq => ce_row rfl (up2_row hq) rfl) hfin (by rw [ht]; rfl) (by rw [ht]; rfl) hd kk
  simp [fv, up2, hkj]
/-! arrays -/
theorem kl_le (r : Nat) : kl r ≤ 786 := by
  unfold kl klP
  (repeat' split) <;> omega
theorem q_iald (hM : Mach l cc own nL D K G n0 J) {r : Nat} (hr : r < n) (hk : kd r = 8) {i : Int32} (j : Nat) (hi : i = nI j) (hj : j < kl r) (hd : decode cc pc = .ok (.iaload, 1)) (kk : J n I L X (pc + 1) lv (.int (I r j) :: rest)) : J n I L X pc lv (.int i :: .ref (ad G r) :: rest) := by
  obtain ⟨p, e, Rm, s, m, args, below, meth, c, H0, Q, rfl, hx, hb, hml, hown, hT, hK, hbs, hR⟩ := hM
  intro hn H locs ls hz hP hS hl
  have hb31 : j < 2 ^ 31 := by have := kl_le r; omega
  subst hi
  refine va_iald hx hb hK hP r 0 (by rw [wl_get hr, ce_int hk]) rfl (vp_in_nI hj (by have := kl_le r; omega)) hd ?_
  rw [nI_clamp hb31]
  exact kk hn H locs ls hz hP hS hl
theorem q_lald (hM : Mach l cc own nL D K G n0 J) {r : Nat} (hr : r < n) (hk : kd r = 9) {i : Int32} (j : Nat) (hi : i = nI j) (hj : j < kl r) (hd : decode cc pc = .ok (.laload, 1)) (kk : J n I L X (pc + 1) lv (.long (L r j) :: rest)) : J n I L X pc lv (.int i :: .ref (ad G r) :: rest) := by
  obtain ⟨p, e, Rm, s, m, args, below, meth, c, H0, Q, rfl, hx, hb, hml, hown, hT, hK, hbs, hR⟩ := hM
  intro hn H locs ls hz hP hS hl
  have hb31 : j < 2 ^ 31 := by have := kl_le r; omega
  subst hi
  refine va_lald hx hb hK hP r 1 (by rw [wl_get hr, ce_long hk]) rfl (vp_in_nI hj (by have := kl_le r; omega)) hd ?_
  rw [nI_clamp hb31]
  exact kk hn H locs ls hz hP hS hl
theorem q_zald (hM : Mach l cc own nL D K G n0 J) {r : Nat} (hr : r < n) (hk : kd r = 10) {i : Int32} (j : Nat) (hi : i = nI j) (hj : j < kl r) (hd : decode cc pc = .ok (.baload, 1)) (kk : J n I L X (pc + 1) lv (.int (I r j) :: rest)) : J n I L X pc lv (.int i :: .ref (ad G r) :: rest) := by
  obtain ⟨p, e, Rm, s, m, args, below, meth, c, H0, Q, rfl, hx, hb, hml, hown, hT, hK, hbs, hR⟩ := hM
  intro hn H locs ls hz hP hS hl
  have hb31 : j < 2 ^ 31 := by have := kl_le r; omega
  subst hi
  refine va_zald hx hb hK hP r 2 (by rw [wl_get hr, ce_bool hk]) rfl (vp_in_nI hj (by have := kl_le r; omega)) hd ?_
  rw [nI_clamp hb31]
  exact kk hn H locs ls hz hP hS hl
theorem q_aald (hM : Mach l cc own nL D K G n0 J) {r : Nat} (hr : r < n) (k : Nat) (hk : kd r = k) (hkk : k = 11 ∨ k = 12 ∨ k = 13) {i : Int32} (j : Nat) (hi : i = nI j) (hj : j < kl r) {q : Nat} (hX : X r j = some q) (hd : decode cc pc = .ok (.aaload, 1)) (kk : J n I L X (pc + 1) lv (.ref (ad G q) :: rest)) : J n I L X pc lv (.int i :: .ref (ad G r) :: rest) := by
  obtain ⟨p, e, Rm, s, m, args, below, meth, c, H0, Q, rfl, hx, hb, hml, hown, hT, hK, hbs, hR⟩ := hM
  intro hn H locs ls hz hP hS hl
  have hb31 : j < 2 ^ 31 := by have := kl_le r; omega
  subst hi
  have he : (wl G n I L X)[r]? = some (ad G r, .inl (G.2.2 (k - 8), kl r, .inr (.inr (.inr (.inr (fun j => (X r j).map (ad G))))))) := by rw [wl_get hr, ce_ref (by omega), hk]
  have hc := hP r _ he
  have fin : W p l e Rm s m args below meth c H locs (n - n0) (800 * (n - n0)) Q (F0 m (pc + 1) ls (va_rf ((X r j).map (ad G)) :: rest)) := by
    rw [hX]
    exact kk hn H locs ls hz hP hS hl
  have hin : vp_in (nI j) (kl r) := vp_in_nI hj (by have := kl_le r; omega)
  have key : ∀ (t0 : Nat) (ty : FieldType), (tys G)[t0]? = some (G.2.2 (k - 8), ty) → ty.isReference = true → W p l e Rm s m args below meth c H locs (n - n0) (800 * (n - n0)) Q (F0 m pc ls (.int (nI j) :: .ref (ad G r) :: rest)) := by
    intro t0 ty ht hty
    refine W.aald (v := va_rf ((X r j).map (ad G))) (ty := ty) hx hb hc ((hK.2 t0 _ ht).1 (kl r) (fun j => va_rf ((X r j).map (ad G)))) hty (fun q => by cases q) (by show ¬ (_ < 0 ∨ (arrV _ _ _).slots.size ≤ _); rw [arrV_size]; exact hin) ?_ rfl rfl hd fin
    show (arrV _ _ _).slots[_]? = _
    rw [nI_clamp hb31, arrV_read _ _ hj]
  rcases hkk with rfl | rfl | rfl
  · exact key 3 _ rfl rfl
  · exact key 4 _ rfl rfl
  · exact key 5 _ rfl rfl
theorem q_iast (hM : Mach l cc own nL D K G n0 J) {r : Nat} (hr : r < n) (hk : kd r = 8) {i v : Int32} (j : Nat) (hi : i = nI j) (hj : j < kl r) (hd : decode cc pc = .ok (.iastore, 1)) (kk : J n (up2 I r j v) L X (pc + 1) lv rest) : J n I L X pc lv (.int v :: .int i :: .ref (ad G r) :: rest) := by
  obtain ⟨p, e, Rm, s, m, args, below, meth, c, H0, Q, rfl, hx, hb, hml, hown, hT, hK, hbs, hR⟩ := hM
  intro hn H locs ls hz hP hS hl
  have hb31 : j < 2 ^ 31 := by have := kl_le r; omega
  subst hi
  have he : (wl G n I L X)[r]? = some (ad G r, .inl (G.2.2 0, kl r, .inl (I r))) := by rw [wl_get hr, ce_int hk]
  have hin : vp_in (nI j) (kl r) := vp_in_nI hj (by have := kl_le r; omega)
  refine W.iast hx hb (hP r _ he) ((hK.2 0 _ rfl).1 (kl r) (fun j => .int (I r j))) (fun q => by cases q) (by show ¬ (_ < 0 ∨ (arrV _ _ _).slots.size ≤ _); rw [arrV_size]; exact hin) rfl rfl hd fun H1 e z oq => ?_
  refine kk hn H1 _ ls (z.trans hz) (wl_store hP hr (e := .inl (G.2.2 0, kl r, .inl (va_up (I r) j v))) ?_ (by rw [ce_int hk, up2_same]) (fun q hq => ce_row (up2_row hq) rfl rfl) oq) (hS.put z oq (Nat.le_add_right _ _)) hl
  show H1[ad G r]? = some (vp_cell _ _)
  rw [e, nI_clamp hb31, vp_cell_i, vp_cell_i, arrV_store]
  congr 2
  funext q
  by_cases hq : q = j
  · simp [updV, va_up, hq]
  · simp [updV, va_up, hq]
theorem q_last (hM : Mach l cc own nL D K G n0 J) {r : Nat} (hr : r < n) (hk : kd r = 9) {i : Int32} {v : Int64} (j : Nat) (hi : i = nI j) (hj : j < kl r) (hd : decode cc pc = .ok (.lastore, 1)) (kk : J n I (up2 L r j v) X (pc + 1) lv rest) : J n I L X pc lv (.long v :: .int i :: .ref (ad G r) :: rest) := by
  obtain ⟨p, e, Rm, s, m, args, below, meth, c, H0, Q, rfl, hx, hb, hml, hown, hT, hK, hbs, hR⟩ := hM
  intro hn H locs ls hz hP hS hl
  have hb31 : j < 2 ^ 31 := by have := kl_le r; omega
  subst hi
  have he : (wl G n I L X)[r]? = some (ad G r, .inl (G.2.2 1, kl r, .inr (.inl (L r)))) := by rw [wl_get hr, ce_long hk]
  have hin : vp_in (nI j) (kl r) := vp_in_nI hj (by have := kl_le r; omega)
  refine W.last hx hb (hP r _ he) ((hK.2 1 _ rfl).1 (kl r) (fun j => .long (L r j))) (fun q => by cases q) (by show ¬ (_ < 0 ∨ (arrV _ _ _).slots.size ≤ _); rw [arrV_size]; exact hin) rfl rfl hd fun H1 e z oq => ?_
  refine kk hn H1 _ ls (z.trans hz) (wl_store hP hr (e := .inl (G.2.2 1, kl r, .inr (.inl (va_up (L r) j v)))) ?_ (by rw [ce_long hk, up2_same]) (fun q hq => ce_row rfl (up2_row hq) rfl) oq) (hS.put z oq (Nat.le_add_right _ _)) hl
  show H1[ad G r]? = some (vp_cell _ _)
  rw [e, nI_clamp hb31, vp_cell_l, vp_cell_l, arrV_store]
  congr 2
  funext q
  by_cases hq : q = j
  · simp [updV, va_up, hq]
  · simp [updV, va_up, hq]
theorem q_zast (hM : Mach l cc own nL D K G n0 J) {r : Nat} (hr : r < n) (hk : kd r = 10) {i v : Int32} (hv : narrow .boolean (.int v) = .int v) (j : Nat) (hi : i = nI j) (hj : j < kl r) (hd : decode cc pc = .ok (.bastore, 1)) (kk : J n (up2 I r j v) L X (pc + 1) lv rest) : J n I L X pc lv (.int v :: .int i :: .ref (ad G r) :: rest) := by
  obtain ⟨p, e, Rm, s, m, args, below, meth, c, H0, Q, rfl, hx, hb, hml, hown, hT, hK, hbs, hR⟩ := hM
  intro hn H locs ls hz hP hS hl
  have hb31 : j < 2 ^ 31 := by have := kl_le r; omega
  subst hi
  have he : (wl G n I L X)[r]? = some (ad G r, .inl (G.2.2 2, kl r, .inl (I r))) := by rw [wl_get hr, ce_bool hk]
  have hin : vp_in (nI j) (kl r) := vp_in_nI hj (by have := kl_le r; omega)
  refine W.zast hx hb (hP r _ he) ((hK.2 2 _ rfl).1 (kl r) (fun j => .int (I r j))) (fun q => by cases q) (by show ¬ (_ < 0 ∨ (arrV _ _ _).slots.size ≤ _); rw [arrV_size]; exact hin) rfl rfl hd fun H1 e z oq => ?_
  refine kk hn H1 _ ls (z.trans hz) (wl_store hP hr (e := .inl (G.2.2 2, kl r, .inl (va_up (I r) j v))) ?_ (by rw [ce_bool hk, up2_same]) (fun q hq => ce_row (up2_row hq) rfl rfl) oq) (hS.put z oq (Nat.le_add_right _ _)) hl
  show H1[ad G r]? = some (vp_cell _ _)
  rw [e, nI_clamp hb31, hv, vp_cell_i, vp_cell_i, arrV_store]
  congr 2
  funext q
  by_cases hq : q = j
  · simp [updV, va_up, hq]
  · simp [updV, va_up, hq]
theorem q_aast (hM : Mach l cc own nL D K G n0 J) {r : Nat} (hr : r < n) {q : Nat} (hq : q < n) (hk : kd r = 12 ∧ kd q = 5 ∨ kd r = 13 ∧ kd q = 1) {i : Int32} (j : Nat) (hi : i = nI j) (hj : j < kl r) (hd : decode cc pc = .ok (.aastore, 1)) (kk : J n I L (up2 X r j (some q)) (pc + 1) lv rest) : J n I L X pc lv (.ref (ad G q) :: .int i :: .ref (ad G r) :: rest) := by
  obtain ⟨p, e, Rm, s, m, args, below, meth, c, H0, Q, rfl, hx, hb, hml, hown, hT, hK, hbs, hR⟩ := hM
  intro hn H locs ls hz hP hS hl
  have hb31 : j < 2 ^ 31 := by have := kl_le r; omega
  subst hi
  have he : (wl G n I L X)[r]? = some (ad G r, .inl (G.2.2 (kd r - 8), kl r, .inr (.inr (.inr (.inr (fun j => (X r j).map (ad G))))))) := by rw [wl_get hr, ce_ref (by omega)]
  have hev : (wl G n I L X)[q]? = some (ad G q, .inr (kd q, flds G I L X (kd q) q)) := by rw [wl_get hq, ce_obj rfl (by omega)]
  obtain ⟨r', hr', cellV, g1, g2, g3, -⟩ := hP q _ hev
  have key : ∀ (t0 ci : Nat) (rc : vw_C), (tys G)[t0]? = some (G.2.2 (kd r - 8), .object rc.1) → kd q = ci → vwCl[ci]? = some rc → W p l e Rm s m args below meth c H locs (n - n0) (800 * (n - n0)) Q (F0 m pc ls (.ref (ad G q) :: .int (nI j) :: .ref (ad G r) :: rest)) := by
    intro t0 ci rc ht hci hc
    rw [hci] at g2
    have hcls := (hK.1 ci rc hc).2
    obtain ⟨kA, comp, k1, k2, k3, -⟩ := (hK.2 t0 _ ht).2
    have hcomp : comp = G.1.1 ci := Option.some.inj (k3.symm.trans hcls.1)
    subst hcomp
    obtain ⟨kC, hkC, -⟩ := hcls.2
    refine W.aast hx hb (hP r _ he) (fun q h => by cases h) (fun h => by cases h) k1 k2 rfl hkC ⟨nI_pos hb31, by show _ < (arrV _ _ _).slots.size; rw [arrV_size, nI_clamp hb31]; exact hj⟩ g1 (fun q h => by rw [g3] at h; cases h) (by rw [g2]; exact hkC) (by rw [g2]; exact va_assign hcls) rfl rfl hd fun H1 e z oq => ?_
    refine kk hn H1 _ ls (z.trans hz) (wl_store hP hr (e := .inl (G.2.2 (kd r - 8), kl r, .inr (.inr (.inr (.inr (va_up (fun j => (X r j).map (ad G)) j (some (ad G q)))))))) ?_ ?_ (fun q hq => ce_row rfl rfl (up2_row hq)) oq) (hS.put z oq (Nat.le_add_right _ _)) hl
    · show H1[ad G r]? = some (vp_cell _ _)
      rw [e, nI_clamp hb31, vp_cell_q, vp_cell_q, arrV_store]
      congr 2
      funext x
      by_cases hxj : x = j
      · simp [updV, va_up, hxj, va_rf]
      · simp [updV, va_up, hxj]
    · have hfun : (fun a => (up2 X r j (some q) r a).map (ad G)) = va_up (fun a => (X r a).map (ad G)) j (some (ad G q)) := by
        funext x
        by_cases hxj : x = j
        · simp [up2, va_up, hxj]
        · simp [up2, va_up, hxj]
      rw [ce_ref (by omega), hfun]
  rcases hk with ⟨h1, h2⟩ | ⟨h1, h2⟩
  · exact key 4 5 (RX5, TX5, 8) (by rw [h1]; rfl) h2 rfl
  · exact key 5 1 (RX1, TX1, 11) (by rw [h1]; rfl) h2 rfl
end QF
set_option maxRecDepth 20000 in
theorem cl_X0 : ∀ w ∈ u_ws RX0 TX0 2, InT w := by
  intro w hw
  obtain ⟨k, hk, rfl⟩ := List.mem_map.mp hw
  rw [List.mem_range] at hk
  match k, hk with
  | 0, _ => exact inT_of 145 (by decide +kernel) (by decide +kernel)
  | 1, _ => exact inT_of 147 (by decide +kernel) (by decide +kernel)
  | k + 2, hk => exact absurd hk (by omega)
theorem cf_X0 : CF 0 RX0 TX0 2 tyX0 := ⟨rfl, by decide, rfl, cl_X0, tyX0_ok, nmX0⟩
set_option maxRecDepth 20000 in
theorem cl_X1 : ∀ w ∈ u_ws RX1 TX1 11, InT w := by
  intro w hw
  obtain ⟨k, hk, rfl⟩ := List.mem_map.mp hw
  rw [List.mem_range] at hk
  match k, hk with
  | 0, _ => exact inT_of 110 (by decide +kernel) (by decide +kernel)
  | 1, _ => exact inT_of 112 (by decide +kernel) (by decide +kernel)
  | 2, _ => exact inT_of 114 (by decide +kernel) (by decide +kernel)
  | 3, _ => exact inT_of 116 (by decide +kernel) (by decide +kernel)
  | 4, _ => exact inT_of 118 (by decide +kernel) (by decide +kernel)
  | 5, _ => exact inT_of 120 (by decide +kernel) (by decide +kernel)
  | 6, _ => exact inT_of 122 (by decide +kernel) (by decide +kernel)
  | 7, _ => exact inT_of 124 (by decide +kernel) (by decide +kernel)
  | 8, _ => exact inT_of 126 (by decide +kernel) (by decide +kernel)
  | 9, _ => exact inT_of 128 (by decide +kernel) (by decide +kernel)
  | 10, _ => exact inT_of 130 (by decide +kernel) (by decide +kernel)
  | k + 11, hk => exact absurd hk (by omega)
theorem cf_X1 : CF 1 RX1 TX1 11 tyX1 := ⟨rfl, by decide, rfl, cl_X1, tyX1_ok, nmX1⟩
set_option maxRecDepth 20000 in
theorem cl_X2 : ∀ w ∈ u_ws RX2 TX2 5, InT w := by
  intro w hw
  obtain ⟨k, hk, rfl⟩ := List.mem_map.mp hw
  rw [List.mem_range] at hk
  match k, hk with
  | 0, _ => exact inT_of 206 (by decide +kernel) (by decide +kernel)
  | 1, _ => exact inT_of 208 (by decide +kernel) (by decide +kernel)
  | 2, _ => exact inT_of 210 (by decide +kernel) (by decide +kernel)
  | 3, _ => exact inT_of 212 (by decide +kernel) (by decide +kernel)
  | 4, _ => exact inT_of 214 (by decide +kernel) (by decide +kernel)
  | k + 5, hk => exact absurd hk (by omega)
theorem cf_X2 : CF 2 RX2 TX2 5 tyX2 := ⟨rfl, by decide, rfl, cl_X2, tyX2_ok, nmX2⟩
set_option maxRecDepth 20000 in
theorem cl_X3 : ∀ w ∈ u_ws RX3 TX3 4, InT w := by
  intro w hw
  obtain ⟨k, hk, rfl⟩ := List.mem_map.mp hw
  rw [List.mem_range] at hk
  match k, hk with
  | 0, _ => exact inT_of 160 (by decide +kernel) (by decide +kernel)
  | 1, _ => exact inT_of 162 (by decide +kernel) (by decide +kernel)
  | 2, _ => exact inT_of 164 (by decide +kernel) (by decide +kernel)
  | 3, _ => exact inT_of 166 (by decide +kernel) (by decide +kernel)
  | k + 4, hk => exact absurd hk (by omega)
theorem cf_X3 : CF 3 RX3 TX3 4 tyX3 := ⟨rfl, by decide, rfl, cl_X3, tyX3_ok, nmX3⟩
set_option maxRecDepth 20000 in
theorem cl_X4 : ∀ w ∈ u_ws RX4 TX4 4, InT w := by
  intro w hw
  obtain ⟨k, hk, rfl⟩ := List.mem_map.mp hw
  rw [List.mem_range] at hk
  match k, hk with
  | 0, _ => exact inT_of 181 (by decide +kernel) (by decide +kernel)
  | 1, _ => exact inT_of 183 (by decide +kernel) (by decide +kernel)
  | 2, _ => exact inT_of 185 (by decide +kernel) (by decide +kernel)
  | 3, _ => exact inT_of 187 (by decide +kernel) (by decide +kernel)
  | k + 4, hk => exact absurd hk (by omega)
theorem cf_X4 : CF 4 RX4 TX4 4 tyX4 := ⟨rfl, by decide, rfl, cl_X4, tyX4_ok, nmX4⟩
set_option maxRecDepth 20000 in
theorem cl_X5 : ∀ w ∈ u_ws RX5 TX5 8, InT w := by
  intro w hw
  obtain ⟨k, hk, rfl⟩ := List.mem_map.mp hw
  rw [List.mem_range] at hk
  match k, hk with
  | 0, _ => exact inT_of 66 (by decide +kernel) (by decide +kernel)
  | 1, _ => exact inT_of 68 (by decide +kernel) (by decide +kernel)
  | 2, _ => exact inT_of 70 (by decide +kernel) (by decide +kernel)
  | 3, _ => exact inT_of 72 (by decide +kernel) (by decide +kernel)
  | 4, _ => exact inT_of 74 (by decide +kernel) (by decide +kernel)
  | 5, _ => exact inT_of 76 (by decide +kernel) (by decide +kernel)
  | 6, _ => exact inT_of 78 (by decide +kernel) (by decide +kernel)
  | 7, _ => exact inT_of 80 (by decide +kernel) (by decide +kernel)
  | k + 8, hk => exact absurd hk (by omega)
theorem cf_X5 : CF 5 RX5 TX5 8 tyX5 := ⟨rfl, by decide, rfl, cl_X5, tyX5_ok, nmX5⟩
set_option maxRecDepth 20000 in
theorem cl_X6 : ∀ w ∈ u_ws RX6 TX6 5, InT w := by
  intro w hw
  obtain ⟨k, hk, rfl⟩ := List.mem_map.mp hw
  rw [List.mem_range] at hk
  match k, hk with
  | 0, _ => exact inT_of 222 (by decide +kernel) (by decide +kernel)
  | 1, _ => exact inT_of 224 (by decide +kernel) (by decide +kernel)
  | 2, _ => exact inT_of 226 (by decide +kernel) (by decide +kernel)
  | 3, _ => exact inT_of 228 (by decide +kernel) (by decide +kernel)
  | 4, _ => exact inT_of 230 (by decide +kernel) (by decide +kernel)
  | k + 5, hk => exact absurd hk (by omega)
theorem cf_X6 : CF 6 RX6 TX6 5 tyX6 := ⟨rfl, by decide, rfl, cl_X6, tyX6_ok, nmX6⟩
set_option maxRecDepth 20000 in
theorem fl_X5_22 : FL RX5 22 RX5 "line" "I" := Or.inl (inT_of 44 (by decide +kernel) (by decide +kernel))
set_option maxRecDepth 20000 in
theorem fl_X1_73 : FL RX1 73 RX5 "line" "I" := Or.inr ⟨"TrapSurvey", inT_of 45 (by decide +kernel) (by decide +kernel)⟩
set_option maxRecDepth 20000 in
theorem fl_X6_105 : FL RX6 105 RX5 "line" "I" := Or.inr ⟨"TrapSurvey", inT_of 46 (by decide +kernel) (by decide +kernel)⟩
set_option maxRecDepth 20000 in
theorem fl_X5_25 : FL RX5 25 RX5 "kind" "I" := Or.inl (inT_of 47 (by decide +kernel) (by decide +kernel))
set_option maxRecDepth 20000 in
theorem fl_X6_108 : FL RX6 108 RX5 "kind" "I" := Or.inr ⟨"TrapSurvey", inT_of 48 (by decide +kernel) (by decide +kernel)⟩
set_option maxRecDepth 20000 in
theorem fl_X5_28 : FL RX5 28 RX5 "size" "I" := Or.inl (inT_of 49 (by decide +kernel) (by decide +kernel))
set_option maxRecDepth 20000 in
theorem fl_X6_111 : FL RX6 111 RX5 "size" "I" := Or.inr ⟨"TrapSurvey", inT_of 50 (by decide +kernel) (by decide +kernel)⟩
set_option maxRecDepth 20000 in
theorem fl_X5_31 : FL RX5 31 RX5 "x" "I" := Or.inl (inT_of 51 (by decide +kernel) (by decide +kernel))
set_option maxRecDepth 20000 in
theorem fl_X4_49 : FL RX4 49 RX5 "x" "I" := Or.inr ⟨"TrapSurvey", inT_of 52 (by decide +kernel) (by decide +kernel)⟩
set_option maxRecDepth 20000 in
theorem fl_X6_114 : FL RX6 114 RX5 "x" "I" := Or.inr ⟨"TrapSurvey", inT_of 53 (by decide +kernel) (by decide +kernel)⟩
set_option maxRecDepth 20000 in
theorem fl_X5_34 : FL RX5 34 RX5 "y" "I" := Or.inl (inT_of 54 (by decide +kernel) (by decide +kernel))
set_option maxRecDepth 20000 in
theorem fl_X4_52 : FL RX4 52 RX5 "y" "I" := Or.inr ⟨"TrapSurvey", inT_of 55 (by decide +kernel) (by decide +kernel)⟩
set_option maxRecDepth 20000 in
theorem fl_X6_117 : FL RX6 117 RX5 "y" "I" := Or.inr ⟨"TrapSurvey", inT_of 56 (by decide +kernel) (by decide +kernel)⟩
set_option maxRecDepth 20000 in
theorem fl_X5_9 : FL RX5 9 RX5 "state" "I" := Or.inl (inT_of 57 (by decide +kernel) (by decide +kernel))
set_option maxRecDepth 20000 in
theorem fl_X6_120 : FL RX6 120 RX5 "state" "I" := Or.inr ⟨"TrapSurvey", inT_of 58 (by decide +kernel) (by decide +kernel)⟩
set_option maxRecDepth 20000 in
theorem fl_X1_95 : FL RX1 95 RX5 "state" "I" := Or.inr ⟨"TrapSurvey", inT_of 59 (by decide +kernel) (by decide +kernel)⟩
set_option maxRecDepth 20000 in
theorem fl_X5_15 : FL RX5 15 RX5 "readDay" "I" := Or.inl (inT_of 60 (by decide +kernel) (by decide +kernel))
set_option maxRecDepth 20000 in
theorem fl_X6_123 : FL RX6 123 RX5 "readDay" "I" := Or.inr ⟨"TrapSurvey", inT_of 61 (by decide +kernel) (by decide +kernel)⟩
set_option maxRecDepth 20000 in
theorem fl_X1_98 : FL RX1 98 RX5 "readDay" "I" := Or.inr ⟨"TrapSurvey", inT_of 62 (by decide +kernel) (by decide +kernel)⟩
set_option maxRecDepth 20000 in
theorem fl_X5_18 : FL RX5 18 RX5 "lostSteam" "J" := Or.inl (inT_of 63 (by decide +kernel) (by decide +kernel))
set_option maxRecDepth 20000 in
theorem fl_X1_101 : FL RX1 101 RX5 "lostSteam" "J" := Or.inr ⟨"TrapSurvey", inT_of 64 (by decide +kernel) (by decide +kernel)⟩
set_option maxRecDepth 20000 in
theorem fl_X6_170 : FL RX6 170 RX5 "lostSteam" "J" := Or.inr ⟨"TrapSurvey", inT_of 65 (by decide +kernel) (by decide +kernel)⟩
set_option maxRecDepth 20000 in
theorem fl_X1_9 : FL RX1 9 RX1 "pressures" "[I" := Or.inl (inT_of 84 (by decide +kernel) (by decide +kernel))
set_option maxRecDepth 20000 in
theorem fl_X6_56 : FL RX6 56 RX1 "pressures" "[I" := Or.inr ⟨"TrapSurvey", inT_of 85 (by decide +kernel) (by decide +kernel)⟩
set_option maxRecDepth 20000 in
theorem fl_X1_15 : FL RX1 15 RX1 "lineHeaders" "[I" := Or.inl (inT_of 86 (by decide +kernel) (by decide +kernel))
set_option maxRecDepth 20000 in
theorem fl_X6_64 : FL RX6 64 RX1 "lineHeaders" "[I" := Or.inr ⟨"TrapSurvey", inT_of 87 (by decide +kernel) (by decide +kernel)⟩
set_option maxRecDepth 20000 in
theorem fl_X1_20 : FL RX1 20 RX1 "traps" "[LTrapSurvey$Trap;" := Or.inl (inT_of 88 (by decide +kernel) (by decide +kernel))
set_option maxRecDepth 20000 in
theorem fl_X3_31 : FL RX3 31 RX1 "traps" "[LTrapSurvey$Trap;" := Or.inr ⟨"TrapSurvey", inT_of 89 (by decide +kernel) (by decide +kernel)⟩
set_option maxRecDepth 20000 in
theorem fl_X4_31 : FL RX4 31 RX1 "traps" "[LTrapSurvey$Trap;" := Or.inr ⟨"TrapSurvey", inT_of 90 (by decide +kernel) (by decide +kernel)⟩
set_option maxRecDepth 20000 in
theorem fl_X6_73 : FL RX6 73 RX1 "traps" "[LTrapSurvey$Trap;" := Or.inr ⟨"TrapSurvey", inT_of 91 (by decide +kernel) (by decide +kernel)⟩
set_option maxRecDepth 20000 in
theorem fl_X1_24 : FL RX1 24 RX1 "lineCount" "I" := Or.inl (inT_of 92 (by decide +kernel) (by decide +kernel))
set_option maxRecDepth 20000 in
theorem fl_X6_60 : FL RX6 60 RX1 "lineCount" "I" := Or.inr ⟨"TrapSurvey", inT_of 93 (by decide +kernel) (by decide +kernel)⟩
set_option maxRecDepth 20000 in
theorem fl_X1_28 : FL RX1 28 RX1 "trapCount" "I" := Or.inl (inT_of 94 (by decide +kernel) (by decide +kernel))
set_option maxRecDepth 20000 in
theorem fl_X3_26 : FL RX3 26 RX1 "trapCount" "I" := Or.inr ⟨"TrapSurvey", inT_of 95 (by decide +kernel) (by decide +kernel)⟩
set_option maxRecDepth 20000 in
theorem fl_X4_26 : FL RX4 26 RX1 "trapCount" "I" := Or.inr ⟨"TrapSurvey", inT_of 96 (by decide +kernel) (by decide +kernel)⟩
set_option maxRecDepth 20000 in
theorem fl_X6_70 : FL RX6 70 RX1 "trapCount" "I" := Or.inr ⟨"TrapSurvey", inT_of 97 (by decide +kernel) (by decide +kernel)⟩
set_option maxRecDepth 20000 in
theorem fl_X1_31 : FL RX1 31 RX1 "hours" "I" := Or.inl (inT_of 98 (by decide +kernel) (by decide +kernel))
set_option maxRecDepth 20000 in
theorem fl_X6_83 : FL RX6 83 RX1 "hours" "I" := Or.inr ⟨"TrapSurvey", inT_of 99 (by decide +kernel) (by decide +kernel)⟩
set_option maxRecDepth 20000 in
theorem fl_X1_34 : FL RX1 34 RX1 "price" "I" := Or.inl (inT_of 100 (by decide +kernel) (by decide +kernel))
set_option maxRecDepth 20000 in
theorem fl_X6_86 : FL RX6 86 RX1 "price" "I" := Or.inr ⟨"TrapSurvey", inT_of 101 (by decide +kernel) (by decide +kernel)⟩
set_option maxRecDepth 20000 in
theorem fl_X1_37 : FL RX1 37 RX1 "interval" "I" := Or.inl (inT_of 102 (by decide +kernel) (by decide +kernel))
set_option maxRecDepth 20000 in
theorem fl_X6_89 : FL RX6 89 RX1 "interval" "I" := Or.inr ⟨"TrapSurvey", inT_of 103 (by decide +kernel) (by decide +kernel)⟩
set_option maxRecDepth 20000 in
theorem fl_X1_40 : FL RX1 40 RX1 "day" "I" := Or.inl (inT_of 104 (by decide +kernel) (by decide +kernel))
set_option maxRecDepth 20000 in
theorem fl_X6_92 : FL RX6 92 RX1 "day" "I" := Or.inr ⟨"TrapSurvey", inT_of 105 (by decide +kernel) (by decide +kernel)⟩
set_option maxRecDepth 20000 in
theorem fl_X1_43 : FL RX1 43 RX1 "spent" "I" := Or.inl (inT_of 106 (by decide +kernel) (by decide +kernel))
set_option maxRecDepth 20000 in
theorem fl_X6_95 : FL RX6 95 RX1 "spent" "I" := Or.inr ⟨"TrapSurvey", inT_of 107 (by decide +kernel) (by decide +kernel)⟩
set_option maxRecDepth 20000 in
theorem fl_X1_46 : FL RX1 46 RX1 "repairs" "I" := Or.inl (inT_of 108 (by decide +kernel) (by decide +kernel))
set_option maxRecDepth 20000 in
theorem fl_X6_98 : FL RX6 98 RX1 "repairs" "I" := Or.inr ⟨"TrapSurvey", inT_of 109 (by decide +kernel) (by decide +kernel)⟩
set_option maxRecDepth 20000 in
theorem fl_X0_11 : FL RX0 11 RX0 "states" "[LTrapSurvey$Plant;" := Or.inl (inT_of 142 (by decide +kernel) (by decide +kernel))
set_option maxRecDepth 20000 in
theorem fl_X0_17 : FL RX0 17 RX0 "size" "I" := Or.inl (inT_of 143 (by decide +kernel) (by decide +kernel))
set_option maxRecDepth 20000 in
theorem fl_X6_215 : FL RX6 215 RX0 "size" "I" := Or.inr ⟨"TrapSurvey", inT_of 144 (by decide +kernel) (by decide +kernel)⟩
set_option maxRecDepth 20000 in
theorem fl_X3_9 : FL RX3 9 RX3 "ranked" "[I" := Or.inl (inT_of 156 (by decide +kernel) (by decide +kernel))
set_option maxRecDepth 20000 in
theorem fl_X3_15 : FL RX3 15 RX3 "losses" "[I" := Or.inl (inT_of 157 (by decide +kernel) (by decide +kernel))
set_option maxRecDepth 20000 in
theorem fl_X3_18 : FL RX3 18 RX3 "paybacks" "[J" := Or.inl (inT_of 158 (by decide +kernel) (by decide +kernel))
set_option maxRecDepth 20000 in
theorem fl_X3_22 : FL RX3 22 RX3 "size" "I" := Or.inl (inT_of 159 (by decide +kernel) (by decide +kernel))
set_option maxRecDepth 20000 in
theorem fl_X4_9 : FL RX4 9 RX4 "stops" "[I" := Or.inl (inT_of 176 (by decide +kernel) (by decide +kernel))
set_option maxRecDepth 20000 in
theorem fl_X4_15 : FL RX4 15 RX4 "waits" "[Z" := Or.inl (inT_of 177 (by decide +kernel) (by decide +kernel))
set_option maxRecDepth 20000 in
theorem fl_X4_19 : FL RX4 19 RX4 "size" "I" := Or.inl (inT_of 178 (by decide +kernel) (by decide +kernel))
set_option maxRecDepth 20000 in
theorem fl_X4_23 : FL RX4 23 RX4 "length" "I" := Or.inl (inT_of 179 (by decide +kernel) (by decide +kernel))
set_option maxRecDepth 20000 in
theorem fl_X6_208 : FL RX6 208 RX4 "length" "I" := Or.inr ⟨"TrapSurvey", inT_of 180 (by decide +kernel) (by decide +kernel)⟩
set_option maxRecDepth 20000 in
theorem fl_X2_9 : FL RX2 9 RX2 "codes" "[I" := Or.inl (inT_of 199 (by decide +kernel) (by decide +kernel))
set_option maxRecDepth 20000 in
theorem fl_X2_17 : FL RX2 17 RX2 "readings" "[[I" := Or.inl (inT_of 200 (by decide +kernel) (by decide +kernel))
set_option maxRecDepth 20000 in
theorem fl_X6_226 : FL RX6 226 RX2 "readings" "[[I" := Or.inr ⟨"TrapSurvey", inT_of 201 (by decide +kernel) (by decide +kernel)⟩
set_option maxRecDepth 20000 in
theorem fl_X2_20 : FL RX2 20 RX2 "length" "I" := Or.inl (inT_of 202 (by decide +kernel) (by decide +kernel))
set_option maxRecDepth 20000 in
theorem fl_X2_24 : FL RX2 24 RX2 "readingCount" "I" := Or.inl (inT_of 203 (by decide +kernel) (by decide +kernel))
set_option maxRecDepth 20000 in
theorem fl_X6_223 : FL RX6 223 RX2 "readingCount" "I" := Or.inr ⟨"TrapSurvey", inT_of 204 (by decide +kernel) (by decide +kernel)⟩
set_option maxRecDepth 20000 in
theorem fl_X2_27 : FL RX2 27 RX2 "position" "I" := Or.inl (inT_of 205 (by decide +kernel) (by decide +kernel))
set_option maxRecDepth 20000 in
theorem fl_X6_10 : FL RX6 10 RX6 "plant" "LTrapSurvey$Plant;" := Or.inl (inT_of 217 (by decide +kernel) (by decide +kernel))
set_option maxRecDepth 20000 in
theorem fl_X6_19 : FL RX6 19 RX6 "history" "LTrapSurvey$History;" := Or.inl (inT_of 218 (by decide +kernel) (by decide +kernel))
set_option maxRecDepth 20000 in
theorem fl_X6_26 : FL RX6 26 RX6 "repairOrder" "LTrapSurvey$RepairOrder;" := Or.inl (inT_of 219 (by decide +kernel) (by decide +kernel))
set_option maxRecDepth 20000 in
theorem fl_X6_33 : FL RX6 33 RX6 "surveyRound" "LTrapSurvey$SurveyRound;" := Or.inl (inT_of 220 (by decide +kernel) (by decide +kernel))
set_option maxRecDepth 20000 in
theorem fl_X6_40 : FL RX6 40 RX6 "text" "LTrapSurvey$ReadingText;" := Or.inl (inT_of 221 (by decide +kernel) (by decide +kernel))
section QG
variable {l : Launch} {cc : ByteArray} {nL D K : Nat} {G : kG} {n0 : Nat} {J : kJ} {n : Nat} {I : kI} {L : kL} {X : kX} {pc : Nat} {lv : kV} {rest : List Value}
theorem g_X5_22 (hM : Mach l cc RX5 nL D K G n0 J) {r : Nat} (hr : r < n) (hk : kd r = 5) (hd : decode cc pc = .ok (.getfield 22, 3)) (kk : J n I L X (pc + 3) lv (.int (I r 0) :: rest)) : J n I L X pc lv (.ref (ad G r) :: rest) := q_get hM cf_X5 (j := 0) (by decide) fl_X5_22 hr hk rfl hd kk
theorem p_X5_22 (hM : Mach l cc RX5 nL D K G n0 J) {r : Nat} (hr : r < n) (hk : kd r = 5) {v : Int32} (hd : decode cc pc = .ok (.putfield 22, 3)) (kk : J n (up2 I r 0 v) L X (pc + 3) lv rest) : J n I L X pc lv (.int v :: .ref (ad G r) :: rest) := q_puti hM cf_X5 (j := 0) (by decide) fl_X5_22 hr hk rfl rfl rfl hd kk
theorem g_X1_73 (hM : Mach l cc RX1 nL D K G n0 J) {r : Nat} (hr : r < n) (hk : kd r = 5) (hd : decode cc pc = .ok (.getfield 73, 3)) (kk : J n I L X (pc + 3) lv (.int (I r 0) :: rest)) : J n I L X pc lv (.ref (ad G r) :: rest) := q_get hM cf_X5 (j := 0) (by decide) fl_X1_73 hr hk rfl hd kk
theorem p_X1_73 (hM : Mach l cc RX1 nL D K G n0 J) {r : Nat} (hr : r < n) (hk : kd r = 5) {v : Int32} (hd : decode cc pc = .ok (.putfield 73, 3)) (kk : J n (up2 I r 0 v) L X (pc + 3) lv rest) : J n I L X pc lv (.int v :: .ref (ad G r) :: rest) := q_puti hM cf_X5 (j := 0) (by decide) fl_X1_73 hr hk rfl rfl rfl hd kk
theorem g_X6_105 (hM : Mach l cc RX6 nL D K G n0 J) {r : Nat} (hr : r < n) (hk : kd r = 5) (hd : decode cc pc = .ok (.getfield 105, 3)) (kk : J n I L X (pc + 3) lv (.int (I r 0) :: rest)) : J n I L X pc lv (.ref (ad G r) :: rest) := q_get hM cf_X5 (j := 0) (by decide) fl_X6_105 hr hk rfl hd kk
theorem p_X6_105 (hM : Mach l cc RX6 nL D K G n0 J) {r : Nat} (hr : r < n) (hk : kd r = 5) {v : Int32} (hd : decode cc pc = .ok (.putfield 105, 3)) (kk : J n (up2 I r 0 v) L X (pc + 3) lv rest) : J n I L X pc lv (.int v :: .ref (ad G r) :: rest) := q_puti hM cf_X5 (j := 0) (by decide) fl_X6_105 hr hk rfl rfl rfl hd kk
theorem g_X5_25 (hM : Mach l cc RX5 nL D K G n0 J) {r : Nat} (hr : r < n) (hk : kd r = 5) (hd : decode cc pc = .ok (.getfield 25, 3)) (kk : J n I L X (pc + 3) lv (.int (I r 1) :: rest)) : J n I L X pc lv (.ref (ad G r) :: rest) := q_get hM cf_X5 (j := 1) (by decide) fl_X5_25 hr hk rfl hd kk
theorem p_X5_25 (hM : Mach l cc RX5 nL D K G n0 J) {r : Nat} (hr : r < n) (hk : kd r = 5) {v : Int32} (hd : decode cc pc = .ok (.putfield 25, 3)) (kk : J n (up2 I r 1 v) L X (pc + 3) lv rest) : J n I L X pc lv (.int v :: .ref (ad G r) :: rest) := q_puti hM cf_X5 (j := 1) (by decide) fl_X5_25 hr hk rfl rfl rfl hd kk
theorem g_X6_108 (hM : Mach l cc RX6 nL D K G n0 J) {r : Nat} (hr : r < n) (hk : kd r = 5) (hd : decode cc pc = .ok (.getfield 108, 3)) (kk : J n I L X (pc + 3) lv (.int (I r 1) :: rest)) : J n I L X pc lv (.ref (ad G r) :: rest) := q_get hM cf_X5 (j := 1) (by decide) fl_X6_108 hr hk rfl hd kk
theorem p_X6_108 (hM : Mach l cc RX6 nL D K G n0 J) {r : Nat} (hr : r < n) (hk : kd r = 5) {v : Int32} (hd : decode cc pc = .ok (.putfield 108, 3)) (kk : J n (up2 I r 1 v) L X (pc + 3) lv rest) : J n I L X pc lv (.int v :: .ref (ad G r) :: rest) := q_puti hM cf_X5 (j := 1) (by decide) fl_X6_108 hr hk rfl rfl rfl hd kk
theorem g_X5_28 (hM : Mach l cc RX5 nL D K G n0 J) {r : Nat} (hr : r < n) (hk : kd r = 5) (hd : decode cc pc = .ok (.getfield 28, 3)) (kk : J n I L X (pc + 3) lv (.int (I r 2) :: rest)) : J n I L X pc lv (.ref (ad G r) :: rest) := q_get hM cf_X5 (j := 2) (by decide) fl_X5_28 hr hk rfl hd kk
theorem p_X5_28 (hM : Mach l cc RX5 nL D K G n0 J) {r : Nat} (hr : r < n) (hk : kd r = 5) {v : Int32} (hd : decode cc pc = .ok (.putfield 28, 3)) (kk : J n (up2 I r 2 v) L X (pc + 3) lv rest) : J n I L X pc lv (.int v :: .ref (ad G r) :: rest) := q_puti hM cf_X5 (j := 2) (by decide) fl_X5_28 hr hk rfl rfl rfl hd kk
theorem g_X6_111 (hM : Mach l cc RX6 nL D K G n0 J) {r : Nat} (hr : r < n) (hk : kd r = 5) (hd : decode cc pc = .ok (.getfield 111, 3)) (kk : J n I L X (pc + 3) lv (.int (I r 2) :: rest)) : J n I L X pc lv (.ref (ad G r) :: rest) := q_get hM cf_X5 (j := 2) (by decide) fl_X6_111 hr hk rfl hd kk
theorem p_X6_111 (hM : Mach l cc RX6 nL D K G n0 J) {r : Nat} (hr : r < n) (hk : kd r = 5) {v : Int32} (hd : decode cc pc = .ok (.putfield 111, 3)) (kk : J n (up2 I r 2 v) L X (pc + 3) lv rest) : J n I L X pc lv (.int v :: .ref (ad G r) :: rest) := q_puti hM cf_X5 (j := 2) (by decide) fl_X6_111 hr hk rfl rfl rfl hd kk
theorem g_X5_31 (hM : Mach l cc RX5 nL D K G n0 J) {r : Nat} (hr : r < n) (hk : kd r = 5) (hd : decode cc pc = .ok (.getfield 31, 3)) (kk : J n I L X (pc + 3) lv (.int (I r 3) :: rest)) : J n I L X pc lv (.ref (ad G r) :: rest) := q_get hM cf_X5 (j := 3) (by decide) fl_X5_31 hr hk rfl hd kk
theorem p_X5_31 (hM : Mach l cc RX5 nL D K G n0 J) {r : Nat} (hr : r < n) (hk : kd r = 5) {v : Int32} (hd : decode cc pc = .ok (.putfield 31, 3)) (kk : J n (up2 I r 3 v) L X (pc + 3) lv rest) : J n I L X pc lv (.int v :: .ref (ad G r) :: rest) := q_puti hM cf_X5 (j := 3) (by decide) fl_X5_31 hr hk rfl rfl rfl hd kk
theorem g_X4_49 (hM : Mach l cc RX4 nL D K G n0 J) {r : Nat} (hr : r < n) (hk : kd r = 5) (hd : decode cc pc = .ok (.getfield 49, 3)) (kk : J n I L X (pc + 3) lv (.int (I r 3) :: rest)) : J n I L X pc lv (.ref (ad G r) :: rest) := q_get hM cf_X5 (j := 3) (by decide) fl_X4_49 hr hk rfl hd kk
theorem p_X4_49 (hM : Mach l cc RX4 nL D K G n0 J) {r : Nat} (hr : r < n) (hk : kd r = 5) {v : Int32} (hd : decode cc pc = .ok (.putfield 49, 3)) (kk : J n (up2 I r 3 v) L X (pc + 3) lv rest) : J n I L X pc lv (.int v :: .ref (ad G r) :: rest) := q_puti hM cf_X5 (j := 3) (by decide) fl_X4_49 hr hk rfl rfl rfl hd kk
theorem g_X6_114 (hM : Mach l cc RX6 nL D K G n0 J) {r : Nat} (hr : r < n) (hk : kd r = 5) (hd : decode cc pc = .ok (.getfield 114, 3)) (kk : J n I L X (pc + 3) lv (.int (I r 3) :: rest)) : J n I L X pc lv (.ref (ad G r) :: rest) := q_get hM cf_X5 (j := 3) (by decide) fl_X6_114 hr hk rfl hd kk
theorem p_X6_114 (hM : Mach l cc RX6 nL D K G n0 J) {r : Nat} (hr : r < n) (hk : kd r = 5) {v : Int32} (hd : decode cc pc = .ok (.putfield 114, 3)) (kk : J n (up2 I r 3 v) L X (pc + 3) lv rest) : J n I L X pc lv (.int v :: .ref (ad G r) :: rest) := q_puti hM cf_X5 (j := 3) (by decide) fl_X6_114 hr hk rfl rfl rfl hd kk
theorem g_X5_34 (hM : Mach l cc RX5 nL D K G n0 J) {r : Nat} (hr : r < n) (hk : kd r = 5) (hd : decode cc pc = .ok (.getfield 34, 3)) (kk : J n I L X (pc + 3) lv (.int (I r 4) :: rest)) : J n I L X pc lv (.ref (ad G r) :: rest) := q_get hM cf_X5 (j := 4) (by decide) fl_X5_34 hr hk rfl hd kk
theorem p_X5_34 (hM : Mach l cc RX5 nL D K G n0 J) {r : Nat} (hr : r < n) (hk : kd r = 5) {v : Int32} (hd : decode cc pc = .ok (.putfield 34, 3)) (kk : J n (up2 I r 4 v) L X (pc + 3) lv rest) : J n I L X pc lv (.int v :: .ref (ad G r) :: rest) := q_puti hM cf_X5 (j := 4) (by decide) fl_X5_34 hr hk rfl rfl rfl hd kk
theorem g_X4_52 (hM : Mach l cc RX4 nL D K G n0 J) {r : Nat} (hr : r < n) (hk : kd r = 5) (hd : decode cc pc = .ok (.getfield 52, 3)) (kk : J n I L X (pc + 3) lv (.int (I r 4) :: rest)) : J n I L X pc lv (.ref (ad G r) :: rest) := q_get hM cf_X5 (j := 4) (by decide) fl_X4_52 hr hk rfl hd kk
theorem p_X4_52 (hM : Mach l cc RX4 nL D K G n0 J) {r : Nat} (hr : r < n) (hk : kd r = 5) {v : Int32} (hd : decode cc pc = .ok (.putfield 52, 3)) (kk : J n (up2 I r 4 v) L X (pc + 3) lv rest) : J n I L X pc lv (.int v :: .ref (ad G r) :: rest) := q_puti hM cf_X5 (j := 4) (by decide) fl_X4_52 hr hk rfl rfl rfl hd kk
theorem g_X6_117 (hM : Mach l cc RX6 nL D K G n0 J) {r : Nat} (hr : r < n) (hk : kd r = 5) (hd : decode cc pc = .ok (.getfield 117, 3)) (kk : J n I L X (pc + 3) lv (.int (I r 4) :: rest)) : J n I L X pc lv (.ref (ad G r) :: rest) := q_get hM cf_X5 (j := 4) (by decide) fl_X6_117 hr hk rfl hd kk
theorem p_X6_117 (hM : Mach l cc RX6 nL D K G n0 J) {r : Nat} (hr : r < n) (hk : kd r = 5) {v : Int32} (hd : decode cc pc = .ok (.putfield 117, 3)) (kk : J n (up2 I r 4 v) L X (pc + 3) lv rest) : J n I L X pc lv (.int v :: .ref (ad G r) :: rest) := q_puti hM cf_X5 (j := 4) (by decide) fl_X6_117 hr hk rfl rfl rfl hd kk
theorem g_X5_9 (hM : Mach l cc RX5 nL D K G n0 J) {r : Nat} (hr : r < n) (hk : kd r = 5) (hd : decode cc pc = .ok (.getfield 9, 3)) (kk : J n I L X (pc + 3) lv (.int (I r 5) :: rest)) : J n I L X pc lv (.ref (ad G r) :: rest) := q_get hM cf_X5 (j := 5) (by decide) fl_X5_9 hr hk rfl hd kk
theorem p_X5_9 (hM : Mach l cc RX5 nL D K G n0 J) {r : Nat} (hr : r < n) (hk : kd r = 5) {v : Int32} (hd : decode cc pc = .ok (.putfield 9, 3)) (kk : J n (up2 I r 5 v) L X (pc + 3) lv rest) : J n I L X pc lv (.int v :: .ref (ad G r) :: rest) := q_puti hM cf_X5 (j := 5) (by decide) fl_X5_9 hr hk rfl rfl rfl hd kk
theorem g_X6_120 (hM : Mach l cc RX6 nL D K G n0 J) {r : Nat} (hr : r < n) (hk : kd r = 5) (hd : decode cc pc = .ok (.getfield 120, 3)) (kk : J n I L X (pc + 3) lv (.int (I r 5) :: rest)) : J n I L X pc lv (.ref (ad G r) :: rest) := q_get hM cf_X5 (j := 5) (by decide) fl_X6_120 hr hk rfl hd kk
theorem p_X6_120 (hM : Mach l cc RX6 nL D K G n0 J) {r : Nat} (hr : r < n) (hk : kd r = 5) {v : Int32} (hd : decode cc pc = .ok (.putfield 120, 3)) (kk : J n (up2 I r 5 v) L X (pc + 3) lv rest) : J n I L X pc lv (.int v :: .ref (ad G r) :: rest) := q_puti hM cf_X5 (j := 5) (by decide) fl_X6_120 hr hk rfl rfl rfl hd kk
theorem g_X1_95 (hM : Mach l cc RX1 nL D K G n0 J) {r : Nat} (hr : r < n) (hk : kd r = 5) (hd : decode cc pc = .ok (.getfield 95, 3)) (kk : J n I L X (pc + 3) lv (.int (I r 5) :: rest)) : J n I L X pc lv (.ref (ad G r) :: rest) := q_get hM cf_X5 (j := 5) (by decide) fl_X1_95 hr hk rfl hd kk
theorem p_X1_95 (hM : Mach l cc RX1 nL D K G n0 J) {r : Nat} (hr : r < n) (hk : kd r = 5) {v : Int32} (hd : decode cc pc = .ok (.putfield 95, 3)) (kk : J n (up2 I r 5 v) L X (pc + 3) lv rest) : J n I L X pc lv (.int v :: .ref (ad G r) :: rest) := q_puti hM cf_X5 (j := 5) (by decide) fl_X1_95 hr hk rfl rfl rfl hd kk
theorem g_X5_15 (hM : Mach l cc RX5 nL D K G n0 J) {r : Nat} (hr : r < n) (hk : kd r = 5) (hd : decode cc pc = .ok (.getfield 15, 3)) (kk : J n I L X (pc + 3) lv (.int (I r 6) :: rest)) : J n I L X pc lv (.ref (ad G r) :: rest) := q_get hM cf_X5 (j := 6) (by decide) fl_X5_15 hr hk rfl hd kk
theorem p_X5_15 (hM : Mach l cc RX5 nL D K G n0 J) {r : Nat} (hr : r < n) (hk : kd r = 5) {v : Int32} (hd : decode cc pc = .ok (.putfield 15, 3)) (kk : J n (up2 I r 6 v) L X (pc + 3) lv rest) : J n I L X pc lv (.int v :: .ref (ad G r) :: rest) := q_puti hM cf_X5 (j := 6) (by decide) fl_X5_15 hr hk rfl rfl rfl hd kk
theorem g_X6_123 (hM : Mach l cc RX6 nL D K G n0 J) {r : Nat} (hr : r < n) (hk : kd r = 5) (hd : decode cc pc = .ok (.getfield 123, 3)) (kk : J n I L X (pc + 3) lv (.int (I r 6) :: rest)) : J n I L X pc lv (.ref (ad G r) :: rest) := q_get hM cf_X5 (j := 6) (by decide) fl_X6_123 hr hk rfl hd kk
theorem p_X6_123 (hM : Mach l cc RX6 nL D K G n0 J) {r : Nat} (hr : r < n) (hk : kd r = 5) {v : Int32} (hd : decode cc pc = .ok (.putfield 123, 3)) (kk : J n (up2 I r 6 v) L X (pc + 3) lv rest) : J n I L X pc lv (.int v :: .ref (ad G r) :: rest) := q_puti hM cf_X5 (j := 6) (by decide) fl_X6_123 hr hk rfl rfl rfl hd kk
theorem g_X1_98 (hM : Mach l cc RX1 nL D K G n0 J) {r : Nat} (hr : r < n) (hk : kd r = 5) (hd : decode cc pc = .ok (.getfield 98, 3)) (kk : J n I L X (pc + 3) lv (.int (I r 6) :: rest)) : J n I L X pc lv (.ref (ad G r) :: rest) := q_get hM cf_X5 (j := 6) (by decide) fl_X1_98 hr hk rfl hd kk
theorem p_X1_98 (hM : Mach l cc RX1 nL D K G n0 J) {r : Nat} (hr : r < n) (hk : kd r = 5) {v : Int32} (hd : decode cc pc = .ok (.putfield 98, 3)) (kk : J n (up2 I r 6 v) L X (pc + 3) lv rest) : J n I L X pc lv (.int v :: .ref (ad G r) :: rest) := q_puti hM cf_X5 (j := 6) (by decide) fl_X1_98 hr hk rfl rfl rfl hd kk
theorem g_X5_18 (hM : Mach l cc RX5 nL D K G n0 J) {r : Nat} (hr : r < n) (hk : kd r = 5) (hd : decode cc pc = .ok (.getfield 18, 3)) (kk : J n I L X (pc + 3) lv (.long (L r 7) :: rest)) : J n I L X pc lv (.ref (ad G r) :: rest) := q_get hM cf_X5 (j := 7) (by decide) fl_X5_18 hr hk rfl hd kk
theorem p_X5_18 (hM : Mach l cc RX5 nL D K G n0 J) {r : Nat} (hr : r < n) (hk : kd r = 5) {v : Int64} (hd : decode cc pc = .ok (.putfield 18, 3)) (kk : J n I (up2 L r 7 v) X (pc + 3) lv rest) : J n I L X pc lv (.long v :: .ref (ad G r) :: rest) := q_putl hM cf_X5 (j := 7) (by decide) fl_X5_18 hr hk rfl rfl rfl hd kk
theorem g_X1_101 (hM : Mach l cc RX1 nL D K G n0 J) {r : Nat} (hr : r < n) (hk : kd r = 5) (hd : decode cc pc = .ok (.getfield 101, 3)) (kk : J n I L X (pc + 3) lv (.long (L r 7) :: rest)) : J n I L X pc lv (.ref (ad G r) :: rest) := q_get hM cf_X5 (j := 7) (by decide) fl_X1_101 hr hk rfl hd kk
theorem p_X1_101 (hM : Mach l cc RX1 nL D K G n0 J) {r : Nat} (hr : r < n) (hk : kd r = 5) {v : Int64} (hd : decode cc pc = .ok (.putfield 101, 3)) (kk : J n I (up2 L r 7 v) X (pc + 3) lv rest) : J n I L X pc lv (.long v :: .ref (ad G r) :: rest) := q_putl hM cf_X5 (j := 7) (by decide) fl_X1_101 hr hk rfl rfl rfl hd kk
theorem g_X6_170 (hM : Mach l cc RX6 nL D K G n0 J) {r : Nat} (hr : r < n) (hk : kd r = 5) (hd : decode cc pc = .ok (.getfield 170, 3)) (kk : J n I L X (pc + 3) lv (.long (L r 7) :: rest)) : J n I L X pc lv (.ref (ad G r) :: rest) := q_get hM cf_X5 (j := 7) (by decide) fl_X6_170 hr hk rfl hd kk
theorem p_X6_170 (hM : Mach l cc RX6 nL D K G n0 J) {r : Nat} (hr : r < n) (hk : kd r = 5) {v : Int64} (hd : decode cc pc = .ok (.putfield 170, 3)) (kk : J n I (up2 L r 7 v) X (pc + 3) lv rest) : J n I L X pc lv (.long v :: .ref (ad G r) :: rest) := q_putl hM cf_X5 (j := 7) (by decide) fl_X6_170 hr hk rfl rfl rfl hd kk
theorem g_X1_9 (hM : Mach l cc RX1 nL D K G n0 J) {r q : Nat} (hr : r < n) (hk : kd r = 1) (hX : X r 0 = some q) (hd : decode cc pc = .ok (.getfield 9, 3)) (kk : J n I L X (pc + 3) lv (.ref (ad G q) :: rest)) : J n I L X pc lv (.ref (ad G r) :: rest) := q_get hM cf_X1 (j := 0) (by decide) fl_X1_9 hr hk (by show rfv G (X r 0) = _; rw [hX]; rfl) hd kk
theorem g_X6_56 (hM : Mach l cc RX6 nL D K G n0 J) {r q : Nat} (hr : r < n) (hk : kd r = 1) (hX : X r 0 = some q) (hd : decode cc pc = .ok (.getfield 56, 3)) (kk : J n I L X (pc + 3) lv (.ref (ad G q) :: rest)) : J n I L X pc lv (.ref (ad G r) :: rest) := q_get hM cf_X1 (j := 0) (by decide) fl_X6_56 hr hk (by show rfv G (X r 0) = _; rw [hX]; rfl) hd kk
theorem g_X1_15 (hM : Mach l cc RX1 nL D K G n0 J) {r q : Nat} (hr : r < n) (hk : kd r = 1) (hX : X r 1 = some q) (hd : decode cc pc = .ok (.getfield 15, 3)) (kk : J n I L X (pc + 3) lv (.ref (ad G q) :: rest)) : J n I L X pc lv (.ref (ad G r) :: rest) := q_get hM cf_X1 (j := 1) (by decide) fl_X1_15 hr hk (by show rfv G (X r 1) = _; rw [hX]; rfl) hd kk
theorem g_X6_64 (hM : Mach l cc RX6 nL D K G n0 J) {r q : Nat} (hr : r < n) (hk : kd r = 1) (hX : X r 1 = some q) (hd : decode cc pc = .ok (.getfield 64, 3)) (kk : J n I L X (pc + 3) lv (.ref (ad G q) :: rest)) : J n I L X pc lv (.ref (ad G r) :: rest) := q_get hM cf_X1 (j := 1) (by decide) fl_X6_64 hr hk (by show rfv G (X r 1) = _; rw [hX]; rfl) hd kk
theorem g_X1_20 (hM : Mach l cc RX1 nL D K G n0 J) {r q : Nat} (hr : r < n) (hk : kd r = 1) (hX : X r 2 = some q) (hd : decode cc pc = .ok (.getfield 20, 3)) (kk : J n I L X (pc + 3) lv (.ref (ad G q) :: rest)) : J n I L X pc lv (.ref (ad G r) :: rest) := q_get hM cf_X1 (j := 2) (by decide) fl_X1_20 hr hk (by show rfv G (X r 2) = _; rw [hX]; rfl) hd kk
theorem g_X3_31 (hM : Mach l cc RX3 nL D K G n0 J) {r q : Nat} (hr : r < n) (hk : kd r = 1) (hX : X r 2 = some q) (hd : decode cc pc = .ok (.getfield 31, 3)) (kk : J n I L X (pc + 3) lv (.ref (ad G q) :: rest)) : J n I L X pc lv (.ref (ad G r) :: rest) := q_get hM cf_X1 (j := 2) (by decide) fl_X3_31 hr hk (by show rfv G (X r 2) = _; rw [hX]; rfl) hd kk
theorem g_X4_31 (hM : Mach l cc RX4 nL D K G n0 J) {r q : Nat} (hr : r < n) (hk : kd r = 1) (hX : X r 2 = some q) (hd : decode cc pc = .ok (.getfield 31, 3)) (kk : J n I L X (pc + 3) lv (.ref (ad G q) :: rest)) : J n I L X pc lv (.ref (ad G r) :: rest) := q_get hM cf_X1 (j := 2) (by decide) fl_X4_31 hr hk (by show rfv G (X r 2) = _; rw [hX]; rfl) hd kk
theorem g_X6_73 (hM : Mach l cc RX6 nL D K G n0 J) {r q : Nat} (hr : r < n) (hk : kd r = 1) (hX : X r 2 = some q) (hd : decode cc pc = .ok (.getfield 73, 3)) (kk : J n I L X (pc + 3) lv (.ref (ad G q) :: rest)) : J n I L X pc lv (.ref (ad G r) :: rest) := q_get hM cf_X1 (j := 2) (by decide) fl_X6_73 hr hk (by show rfv G (X r 2) = _; rw [hX]; rfl) hd kk
theorem g_X1_24 (hM : Mach l cc RX1 nL D K G n0 J) {r : Nat} (hr : r < n) (hk : kd r = 1) (hd : decode cc pc = .ok (.getfield 24, 3)) (kk : J n I L X (pc + 3) lv (.int (I r 3) :: rest)) : J n I L X pc lv (.ref (ad G r) :: rest) := q_get hM cf_X1 (j := 3) (by decide) fl_X1_24 hr hk rfl hd kk
theorem p_X1_24 (hM : Mach l cc RX1 nL D K G n0 J) {r : Nat} (hr : r < n) (hk : kd r = 1) {v : Int32} (hd : decode cc pc = .ok (.putfield 24, 3)) (kk : J n (up2 I r 3 v) L X (pc + 3) lv rest) : J n I L X pc lv (.int v :: .ref (ad G r) :: rest) := q_puti hM cf_X1 (j := 3) (by decide) fl_X1_24 hr hk rfl rfl rfl hd kk
theorem g_X6_60 (hM : Mach l cc RX6 nL D K G n0 J) {r : Nat} (hr : r < n) (hk : kd r = 1) (hd : decode cc pc = .ok (.getfield 60, 3)) (kk : J n I L X (pc + 3) lv (.int (I r 3) :: rest)) : J n I L X pc lv (.ref (ad G r) :: rest) := q_get hM cf_X1 (j := 3) (by decide) fl_X6_60 hr hk rfl hd kk
theorem p_X6_60 (hM : Mach l cc RX6 nL D K G n0 J) {r : Nat} (hr : r < n) (hk : kd r = 1) {v : Int32} (hd : decode cc pc = .ok (.putfield 60, 3)) (kk : J n (up2 I r 3 v) L X (pc + 3) lv rest) : J n I L X pc lv (.int v :: .ref (ad G r) :: rest) := q_puti hM cf_X1 (j := 3) (by decide) fl_X6_60 hr hk rfl rfl rfl hd kk
theorem g_X1_28 (hM : Mach l cc RX1 nL D K G n0 J) {r : Nat} (hr : r < n) (hk : kd r = 1) (hd : decode cc pc = .ok (.getfield 28, 3)) (kk : J n I L X (pc + 3) lv (.int (I r 4) :: rest)) : J n I L X pc lv (.ref (ad G r) :: rest) := q_get hM cf_X1 (j := 4) (by decide) fl_X1_28 hr hk rfl hd kk
theorem p_X1_28 (hM : Mach l cc RX1 nL D K G n0 J) {r : Nat} (hr : r < n) (hk : kd r = 1) {v : Int32} (hd : decode cc pc = .ok (.putfield 28, 3)) (kk : J n (up2 I r 4 v) L X (pc + 3) lv rest) : J n I L X pc lv (.int v :: .ref (ad G r) :: rest) := q_puti hM cf_X1 (j := 4) (by decide) fl_X1_28 hr hk rfl rfl rfl hd kk
theorem g_X3_26 (hM : Mach l cc RX3 nL D K G n0 J) {r : Nat} (hr : r < n) (hk : kd r = 1) (hd : decode cc pc = .ok (.getfield 26, 3)) (kk : J n I L X (pc + 3) lv (.int (I r 4) :: rest)) : J n I L X pc lv (.ref (ad G r) :: rest) := q_get hM cf_X1 (j := 4) (by decide) fl_X3_26 hr hk rfl hd kk
theorem p_X3_26 (hM : Mach l cc RX3 nL D K G n0 J) {r : Nat} (hr : r < n) (hk : kd r = 1) {v : Int32} (hd : decode cc pc = .ok (.putfield 26, 3)) (kk : J n (up2 I r 4 v) L X (pc + 3) lv rest) : J n I L X pc lv (.int v :: .ref (ad G r) :: rest) := q_puti hM cf_X1 (j := 4) (by decide) fl_X3_26 hr hk rfl rfl rfl hd kk
theorem g_X4_26 (hM : Mach l cc RX4 nL D K G n0 J) {r : Nat} (hr : r < n) (hk : kd r = 1) (hd : decode cc pc = .ok (.getfield 26, 3)) (kk : J n I L X (pc + 3) lv (.int (I r 4) :: rest)) : J n I L X pc lv (.ref (ad G r) :: rest) := q_get hM cf_X1 (j := 4) (by decide) fl_X4_26 hr hk rfl hd kk
theorem p_X4_26 (hM : Mach l cc RX4 nL D K G n0 J) {r : Nat} (hr : r < n) (hk : kd r = 1) {v : Int32} (hd : decode cc pc = .ok (.putfield 26, 3)) (kk : J n (up2 I r 4 v) L X (pc + 3) lv rest) : J n I L X pc lv (.int v :: .ref (ad G r) :: rest) := q_puti hM cf_X1 (j := 4) (by decide) fl_X4_26 hr hk rfl rfl rfl hd kk
theorem g_X6_70 (hM : Mach l cc RX6 nL D K G n0 J) {r : Nat} (hr : r < n) (hk : kd r = 1) (hd : decode cc pc = .ok (.getfield 70, 3)) (kk : J n I L X (pc + 3) lv (.int (I r 4) :: rest)) : J n I L X pc lv (.ref (ad G r) :: rest) := q_get hM cf_X1 (j := 4) (by decide) fl_X6_70 hr hk rfl hd kk
theorem p_X6_70 (hM : Mach l cc RX6 nL D K G n0 J) {r : Nat} (hr : r < n) (hk : kd r = 1) {v : Int32} (hd : decode cc pc = .ok (.putfield 70, 3)) (kk : J n (up2 I r 4 v) L X (pc + 3) lv rest) : J n I L X pc lv (.int v :: .ref (ad G r) :: rest) := q_puti hM cf_X1 (j := 4) (by decide) fl_X6_70 hr hk rfl rfl rfl hd kk
theorem g_X1_31 (hM : Mach l cc RX1 nL D K G n0 J) {r : Nat} (hr : r < n) (hk : kd r = 1) (hd : decode cc pc = .ok (.getfield 31, 3)) (kk : J n I L X (pc + 3) lv (.int (I r 5) :: rest)) : J n I L X pc lv (.ref (ad G r) :: rest) := q_get hM cf_X1 (j := 5) (by decide) fl_X1_31 hr hk rfl hd kk
theorem p_X1_31 (hM : Mach l cc RX1 nL D K G n0 J) {r : Nat} (hr : r < n) (hk : kd r = 1) {v : Int32} (hd : decode cc pc = .ok (.putfield 31, 3)) (kk : J n (up2 I r 5 v) L X (pc + 3) lv rest) : J n I L X pc lv (.int v :: .ref (ad G r) :: rest) := q_puti hM cf_X1 (j := 5) (by decide) fl_X1_31 hr hk rfl rfl rfl hd kk
theorem g_X6_83 (hM : Mach l cc RX6 nL D K G n0 J) {r : Nat} (hr : r < n) (hk : kd r = 1) (hd : decode cc pc = .ok (.getfield 83, 3)) (kk : J n I L X (pc + 3) lv (.int (I r 5) :: rest)) : J n I L X pc lv (.ref (ad G r) :: rest) := q_get hM cf_X1 (j := 5) (by decide) fl_X6_83 hr hk rfl hd kk
theorem p_X6_83 (hM : Mach l cc RX6 nL D K G n0 J) {r : Nat} (hr : r < n) (hk : kd r = 1) {v : Int32} (hd : decode cc pc = .ok (.putfield 83, 3)) (kk : J n (up2 I r 5 v) L X (pc + 3) lv rest) : J n I L X pc lv (.int v :: .ref (ad G r) :: rest) := q_puti hM cf_X1 (j := 5) (by decide) fl_X6_83 hr hk rfl rfl rfl hd kk
theorem g_X1_34 (hM : Mach l cc RX1 nL D K G n0 J) {r : Nat} (hr : r < n) (hk : kd r = 1) (hd : decode cc pc = .ok (.getfield 34, 3)) (kk : J n I L X (pc + 3) lv (.int (I r 6) :: rest)) : J n I L X pc lv (.ref (ad G r) :: rest) := q_get hM cf_X1 (j := 6) (by decide) fl_X1_34 hr hk rfl hd kk
theorem p_X1_34 (hM : Mach l cc RX1 nL D K G n0 J) {r : Nat} (hr : r < n) (hk : kd r = 1) {v : Int32} (hd : decode cc pc = .ok (.putfield 34, 3)) (kk : J n (up2 I r 6 v) L X (pc + 3) lv rest) : J n I L X pc lv (.int v :: .ref (ad G r) :: rest) := q_puti hM cf_X1 (j := 6) (by decide) fl_X1_34 hr hk rfl rfl rfl hd kk
theorem g_X6_86 (hM : Mach l cc RX6 nL D K G n0 J) {r : Nat} (hr : r < n) (hk : kd r = 1) (hd : decode cc pc = .ok (.getfield 86, 3)) (kk : J n I L X (pc + 3) lv (.int (I r 6) :: rest)) : J n I L X pc lv (.ref (ad G r) :: rest) := q_get hM cf_X1 (j := 6) (by decide) fl_X6_86 hr hk rfl hd kk
theorem p_X6_86 (hM : Mach l cc RX6 nL D K G n0 J) {r : Nat} (hr : r < n) (hk : kd r = 1) {v : Int32} (hd : decode cc pc = .ok (.putfield 86, 3)) (kk : J n (up2 I r 6 v) L X (pc + 3) lv rest) : J n I L X pc lv (.int v :: .ref (ad G r) :: rest) := q_puti hM cf_X1 (j := 6) (by decide) fl_X6_86 hr hk rfl rfl rfl hd kk
theorem g_X1_37 (hM : Mach l cc RX1 nL D K G n0 J) {r : Nat} (hr : r < n) (hk : kd r = 1) (hd : decode cc pc = .ok (.getfield 37, 3)) (kk : J n I L X (pc + 3) lv (.int (I r 7) :: rest)) : J n I L X pc lv (.ref (ad G r) :: rest) := q_get hM cf_X1 (j := 7) (by decide) fl_X1_37 hr hk rfl hd kk
theorem p_X1_37 (hM : Mach l cc RX1 nL D K G n0 J) {r : Nat} (hr : r < n) (hk : kd r = 1) {v : Int32} (hd : decode cc pc = .ok (.putfield 37, 3)) (kk : J n (up2 I r 7 v) L X (pc + 3) lv rest) : J n I L X pc lv (.int v :: .ref (ad G r) :: rest) := q_puti hM cf_X1 (j := 7) (by decide) fl_X1_37 hr hk rfl rfl rfl hd kk
theorem g_X6_89 (hM : Mach l cc RX6 nL D K G n0 J) {r : Nat} (hr : r < n) (hk : kd r = 1) (hd : decode cc pc = .ok (.getfield 89, 3)) (kk : J n I L X (pc + 3) lv (.int (I r 7) :: rest)) : J n I L X pc lv (.ref (ad G r) :: rest) := q_get hM cf_X1 (j := 7) (by decide) fl_X6_89 hr hk rfl hd kk
theorem p_X6_89 (hM : Mach l cc RX6 nL D K G n0 J) {r : Nat} (hr : r < n) (hk : kd r = 1) {v : Int32} (hd : decode cc pc = .ok (.putfield 89, 3)) (kk : J n (up2 I r 7 v) L X (pc + 3) lv rest) : J n I L X pc lv (.int v :: .ref (ad G r) :: rest) := q_puti hM cf_X1 (j := 7) (by decide) fl_X6_89 hr hk rfl rfl rfl hd kk
theorem g_X1_40 (hM : Mach l cc RX1 nL D K G n0 J) {r : Nat} (hr : r < n) (hk : kd r = 1) (hd : decode cc pc = .ok (.getfield 40, 3)) (kk : J n I L X (pc + 3) lv (.int (I r 8) :: rest)) : J n I L X pc lv (.ref (ad G r) :: rest) := q_get hM cf_X1 (j := 8) (by decide) fl_X1_40 hr hk rfl hd kk
theorem p_X1_40 (hM : Mach l cc RX1 nL D K G n0 J) {r : Nat} (hr : r < n) (hk : kd r = 1) {v : Int32} (hd : decode cc pc = .ok (.putfield 40, 3)) (kk : J n (up2 I r 8 v) L X (pc + 3) lv rest) : J n I L X pc lv (.int v :: .ref (ad G r) :: rest) := q_puti hM cf_X1 (j := 8) (by decide) fl_X1_40 hr hk rfl rfl rfl hd kk
theorem g_X6_92 (hM : Mach l cc RX6 nL D K G n0 J) {r : Nat} (hr : r < n) (hk : kd r = 1) (hd : decode cc pc = .ok (.getfield 92, 3)) (kk : J n I L X (pc + 3) lv (.int (I r 8) :: rest)) : J n I L X pc lv (.ref (ad G r) :: rest) := q_get hM cf_X1 (j := 8) (by decide) fl_X6_92 hr hk rfl hd kk
theorem p_X6_92 (hM : Mach l cc RX6 nL D K G n0 J) {r : Nat} (hr : r < n) (hk : kd r = 1) {v : Int32} (hd : decode cc pc = .ok (.putfield 92, 3)) (kk : J n (up2 I r 8 v) L X (pc + 3) lv rest) : J n I L X pc lv (.int v :: .ref (ad G r) :: rest) := q_puti hM cf_X1 (j := 8) (by decide) fl_X6_92 hr hk rfl rfl rfl hd kk
theorem g_X1_43 (hM : Mach l cc RX1 nL D K G n0 J) {r : Nat} (hr : r < n) (hk : kd r = 1) (hd : decode cc pc = .ok (.getfield 43, 3)) (kk : J n I L X (pc + 3) lv (.int (I r 9) :: rest)) : J n I L X pc lv (.ref (ad G r) :: rest) := q_get hM cf_X1 (j := 9) (by decide) fl_X1_43 hr hk rfl hd kk
theorem p_X1_43 (hM : Mach l cc RX1 nL D K G n0 J) {r : Nat} (hr : r < n) (hk : kd r = 1) {v : Int32} (hd : decode cc pc = .ok (.putfield 43, 3)) (kk : J n (up2 I r 9 v) L X (pc + 3) lv rest) : J n I L X pc lv (.int v :: .ref (ad G r) :: rest) := q_puti hM cf_X1 (j := 9) (by decide) fl_X1_43 hr hk rfl rfl rfl hd kk
theorem g_X6_95 (hM : Mach l cc RX6 nL D K G n0 J) {r : Nat} (hr : r < n) (hk : kd r = 1) (hd : decode cc pc = .ok (.getfield 95, 3)) (kk : J n I L X (pc + 3) lv (.int (I r 9) :: rest)) : J n I L X pc lv (.ref (ad G r) :: rest) := q_get hM cf_X1 (j := 9) (by decide) fl_X6_95 hr hk rfl hd kk
theorem p_X6_95 (hM : Mach l cc RX6 nL D K G n0 J) {r : Nat} (hr : r < n) (hk : kd r = 1) {v : Int32} (hd : decode cc pc = .ok (.putfield 95, 3)) (kk : J n (up2 I r 9 v) L X (pc + 3) lv rest) : J n I L X pc lv (.int v :: .ref (ad G r) :: rest) := q_puti hM cf_X1 (j := 9) (by decide) fl_X6_95 hr hk rfl rfl rfl hd kk
theorem g_X1_46 (hM : Mach l cc RX1 nL D K G n0 J) {r : Nat} (hr : r < n) (hk : kd r = 1) (hd : decode cc pc = .ok (.getfield 46, 3)) (kk : J n I L X (pc + 3) lv (.int (I r 10) :: rest)) : J n I L X pc lv (.ref (ad G r) :: rest) := q_get hM cf_X1 (j := 10) (by decide) fl_X1_46 hr hk rfl hd kk
theorem p_X1_46 (hM : Mach l cc RX1 nL D K G n0 J) {r : Nat} (hr : r < n) (hk : kd r = 1) {v : Int32} (hd : decode cc pc = .ok (.putfield 46, 3)) (kk : J n (up2 I r 10 v) L X (pc + 3) lv rest) : J n I L X pc lv (.int v :: .ref (ad G r) :: rest) := q_puti hM cf_X1 (j := 10) (by decide) fl_X1_46 hr hk rfl rfl rfl hd kk
theorem g_X6_98 (hM : Mach l cc RX6 nL D K G n0 J) {r : Nat} (hr : r < n) (hk : kd r = 1) (hd : decode cc pc = .ok (.getfield 98, 3)) (kk : J n I L X (pc + 3) lv (.int (I r 10) :: rest)) : J n I L X pc lv (.ref (ad G r) :: rest) := q_get hM cf_X1 (j := 10) (by decide) fl_X6_98 hr hk rfl hd kk
theorem p_X6_98 (hM : Mach l cc RX6 nL D K G n0 J) {r : Nat} (hr : r < n) (hk : kd r = 1) {v : Int32} (hd : decode cc pc = .ok (.putfield 98, 3)) (kk : J n (up2 I r 10 v) L X (pc + 3) lv rest) : J n I L X pc lv (.int v :: .ref (ad G r) :: rest) := q_puti hM cf_X1 (j := 10) (by decide) fl_X6_98 hr hk rfl rfl rfl hd kk
theorem g_X0_11 (hM : Mach l cc RX0 nL D K G n0 J) {r q : Nat} (hr : r < n) (hk : kd r = 0) (hX : X r 0 = some q) (hd : decode cc pc = .ok (.getfield 11, 3)) (kk : J n I L X (pc + 3) lv (.ref (ad G q) :: rest)) : J n I L X pc lv (.ref (ad G r) :: rest) := q_get hM cf_X0 (j := 0) (by decide) fl_X0_11 hr hk (by show rfv G (X r 0) = _; rw [hX]; rfl) hd kk
theorem g_X0_17 (hM : Mach l cc RX0 nL D K G n0 J) {r : Nat} (hr : r < n) (hk : kd r = 0) (hd : decode cc pc = .ok (.getfield 17, 3)) (kk : J n I L X (pc + 3) lv (.int (I r 1) :: rest)) : J n I L X pc lv (.ref (ad G r) :: rest) := q_get hM cf_X0 (j := 1) (by decide) fl_X0_17 hr hk rfl hd kk
theorem p_X0_17 (hM : Mach l cc RX0 nL D K G n0 J) {r : Nat} (hr : r < n) (hk : kd r = 0) {v : Int32} (hd : decode cc pc = .ok (.putfield 17, 3)) (kk : J n (up2 I r 1 v) L X (pc + 3) lv rest) : J n I L X pc lv (.int v :: .ref (ad G r) :: rest) := q_puti hM cf_X0 (j := 1) (by decide) fl_X0_17 hr hk rfl rfl rfl hd kk
theorem g_X6_215 (hM : Mach l cc RX6 nL D K G n0 J) {r : Nat} (hr : r < n) (hk : kd r = 0) (hd : decode cc pc = .ok (.getfield 215, 3)) (kk : J n I L X (pc + 3) lv (.int (I r 1) :: rest)) : J n I L X pc lv (.ref (ad G r) :: rest) := q_get hM cf_X0 (j := 1) (by decide) fl_X6_215 hr hk rfl hd kk
theorem p_X6_215 (hM : Mach l cc RX6 nL D K G n0 J) {r : Nat} (hr : r < n) (hk : kd r = 0) {v : Int32} (hd : decode cc pc = .ok (.putfield 215, 3)) (kk : J n (up2 I r 1 v) L X (pc + 3) lv rest) : J n I L X pc lv (.int v :: .ref (ad G r) :: rest) := q_puti hM cf_X0 (j := 1) (by decide) fl_X6_215 hr hk rfl rfl rfl hd kk
theorem g_X3_9 (hM : Mach l cc RX3 nL D K G n0 J) {r q : Nat} (hr : r < n) (hk : kd r = 3) (hX : X r 0 = some q) (hd : decode cc pc = .ok (.getfield 9, 3)) (kk : J n I L X (pc + 3) lv (.ref (ad G q) :: rest)) : J n I L X pc lv (.ref (ad G r) :: rest) := q_get hM cf_X3 (j := 0) (by decide) fl_X3_9 hr hk (by show rfv G (X r 0) = _; rw [hX]; rfl) hd kk
theorem g_X3_15 (hM : Mach l cc RX3 nL D K G n0 J) {r q : Nat} (hr : r < n) (hk : kd r = 3) (hX : X r 1 = some q) (hd : decode cc pc = .ok (.getfield 15, 3)) (kk : J n I L X (pc + 3) lv (.ref (ad G q) :: rest)) : J n I L X pc lv (.ref (ad G r) :: rest) := q_get hM cf_X3 (j := 1) (by decide) fl_X3_15 hr hk (by show rfv G (X r 1) = _; rw [hX]; rfl) hd kk
theorem g_X3_18 (hM : Mach l cc RX3 nL D K G n0 J) {r q : Nat} (hr : r < n) (hk : kd r = 3) (hX : X r 2 = some q) (hd : decode cc pc = .ok (.getfield 18, 3)) (kk : J n I L X (pc + 3) lv (.ref (ad G q) :: rest)) : J n I L X pc lv (.ref (ad G r) :: rest) := q_get hM cf_X3 (j := 2) (by decide) fl_X3_18 hr hk (by show rfv G (X r 2) = _; rw [hX]; rfl) hd kk
theorem g_X3_22 (hM : Mach l cc RX3 nL D K G n0 J) {r : Nat} (hr : r < n) (hk : kd r = 3) (hd : decode cc pc = .ok (.getfield 22, 3)) (kk : J n I L X (pc + 3) lv (.int (I r 3) :: rest)) : J n I L X pc lv (.ref (ad G r) :: rest) := q_get hM cf_X3 (j := 3) (by decide) fl_X3_22 hr hk rfl hd kk
theorem p_X3_22 (hM : Mach l cc RX3 nL D K G n0 J) {r : Nat} (hr : r < n) (hk : kd r = 3) {v : Int32} (hd : decode cc pc = .ok (.putfield 22, 3)) (kk : J n (up2 I r 3 v) L X (pc + 3) lv rest) : J n I L X pc lv (.int v :: .ref (ad G r) :: rest) := q_puti hM cf_X3 (j := 3) (by decide) fl_X3_22 hr hk rfl rfl rfl hd kk
theorem g_X4_9 (hM : Mach l cc RX4 nL D K G n0 J) {r q : Nat} (hr : r < n) (hk : kd r = 4) (hX : X r 0 = some q) (hd : decode cc pc = .ok (.getfield 9, 3)) (kk : J n I L X (pc + 3) lv (.ref (ad G q) :: rest)) : J n I L X pc lv (.ref (ad G r) :: rest) := q_get hM cf_X4 (j := 0) (by decide) fl_X4_9 hr hk (by show rfv G (X r 0) = _; rw [hX]; rfl) hd kk
theorem g_X4_15 (hM : Mach l cc RX4 nL D K G n0 J) {r q : Nat} (hr : r < n) (hk : kd r = 4) (hX : X r 1 = some q) (hd : decode cc pc = .ok (.getfield 15, 3)) (kk : J n I L X (pc + 3) lv (.ref (ad G q) :: rest)) : J n I L X pc lv (.ref (ad G r) :: rest) := q_get hM cf_X4 (j := 1) (by decide) fl_X4_15 hr hk (by show rfv G (X r 1) = _; rw [hX]; rfl) hd kk
theorem g_X4_19 (hM : Mach l cc RX4 nL D K G n0 J) {r : Nat} (hr : r < n) (hk : kd r = 4) (hd : decode cc pc = .ok (.getfield 19, 3)) (kk : J n I L X (pc + 3) lv (.int (I r 2) :: rest)) : J n I L X pc lv (.ref (ad G r) :: rest) := q_get hM cf_X4 (j := 2) (by decide) fl_X4_19 hr hk rfl hd kk
theorem p_X4_19 (hM : Mach l cc RX4 nL D K G n0 J) {r : Nat} (hr : r < n) (hk : kd r = 4) {v : Int32} (hd : decode cc pc = .ok (.putfield 19, 3)) (kk : J n (up2 I r 2 v) L X (pc + 3) lv rest) : J n I L X pc lv (.int v :: .ref (ad G r) :: rest) := q_puti hM cf_X4 (j := 2) (by decide) fl_X4_19 hr hk rfl rfl rfl hd kk
theorem g_X4_23 (hM : Mach l cc RX4 nL D K G n0 J) {r : Nat} (hr : r < n) (hk : kd r = 4) (hd : decode cc pc = .ok (.getfield 23, 3)) (kk : J n I L X (pc + 3) lv (.int (I r 3) :: rest)) : J n I L X pc lv (.ref (ad G r) :: rest) := q_get hM cf_X4 (j := 3) (by decide) fl_X4_23 hr hk rfl hd kk
theorem p_X4_23 (hM : Mach l cc RX4 nL D K G n0 J) {r : Nat} (hr : r < n) (hk : kd r = 4) {v : Int32} (hd : decode cc pc = .ok (.putfield 23, 3)) (kk : J n (up2 I r 3 v) L X (pc + 3) lv rest) : J n I L X pc lv (.int v :: .ref (ad G r) :: rest) := q_puti hM cf_X4 (j := 3) (by decide) fl_X4_23 hr hk rfl rfl rfl hd kk
theorem g_X6_208 (hM : Mach l cc RX6 nL D K G n0 J) {r : Nat} (hr : r < n) (hk : kd r = 4) (hd : decode cc pc = .ok (.getfield 208, 3)) (kk : J n I L X (pc + 3) lv (.int (I r 3) :: rest)) : J n I L X pc lv (.ref (ad G r) :: rest) := q_get hM cf_X4 (j := 3) (by decide) fl_X6_208 hr hk rfl hd kk
theorem p_X6_208 (hM : Mach l cc RX6 nL D K G n0 J) {r : Nat} (hr : r < n) (hk : kd r = 4) {v : Int32} (hd : decode cc pc = .ok (.putfield 208, 3)) (kk : J n (up2 I r 3 v) L X (pc + 3) lv rest) : J n I L X pc lv (.int v :: .ref (ad G r) :: rest) := q_puti hM cf_X4 (j := 3) (by decide) fl_X6_208 hr hk rfl rfl rfl hd kk
theorem g_X2_9 (hM : Mach l cc RX2 nL D K G n0 J) {r q : Nat} (hr : r < n) (hk : kd r = 2) (hX : X r 0 = some q) (hd : decode cc pc = .ok (.getfield 9, 3)) (kk : J n I L X (pc + 3) lv (.ref (ad G q) :: rest)) : J n I L X pc lv (.ref (ad G r) :: rest) := q_get hM cf_X2 (j := 0) (by decide) fl_X2_9 hr hk (by show rfv G (X r 0) = _; rw [hX]; rfl) hd kk
theorem g_X2_17 (hM : Mach l cc RX2 nL D K G n0 J) {r q : Nat} (hr : r < n) (hk : kd r = 2) (hX : X r 1 = some q) (hd : decode cc pc = .ok (.getfield 17, 3)) (kk : J n I L X (pc + 3) lv (.ref (ad G q) :: rest)) : J n I L X pc lv (.ref (ad G r) :: rest) := q_get hM cf_X2 (j := 1) (by decide) fl_X2_17 hr hk (by show rfv G (X r 1) = _; rw [hX]; rfl) hd kk
theorem g_X6_226 (hM : Mach l cc RX6 nL D K G n0 J) {r q : Nat} (hr : r < n) (hk : kd r = 2) (hX : X r 1 = some q) (hd : decode cc pc = .ok (.getfield 226, 3)) (kk : J n I L X (pc + 3) lv (.ref (ad G q) :: rest)) : J n I L X pc lv (.ref (ad G r) :: rest) := q_get hM cf_X2 (j := 1) (by decide) fl_X6_226 hr hk (by show rfv G (X r 1) = _; rw [hX]; rfl) hd kk
theorem g_X2_20 (hM : Mach l cc RX2 nL D K G n0 J) {r : Nat} (hr : r < n) (hk : kd r = 2) (hd : decode cc pc = .ok (.getfield 20, 3)) (kk : J n I L X (pc + 3) lv (.int (I r 2) :: rest)) : J n I L X pc lv (.ref (ad G r) :: rest) := q_get hM cf_X2 (j := 2) (by decide) fl_X2_20 hr hk rfl hd kk
theorem p_X2_20 (hM : Mach l cc RX2 nL D K G n0 J) {r : Nat} (hr : r < n) (hk : kd r = 2) {v : Int32} (hd : decode cc pc = .ok (.putfield 20, 3)) (kk : J n (up2 I r 2 v) L X (pc + 3) lv rest) : J n I L X pc lv (.int v :: .ref (ad G r) :: rest) := q_puti hM cf_X2 (j := 2) (by decide) fl_X2_20 hr hk rfl rfl rfl hd kk
theorem g_X2_24 (hM : Mach l cc RX2 nL D K G n0 J) {r : Nat} (hr : r < n) (hk : kd r = 2) (hd : decode cc pc = .ok (.getfield 24, 3)) (kk : J n I L X (pc + 3) lv (.int (I r 3) :: rest)) : J n I L X pc lv (.ref (ad G r) :: rest) := q_get hM cf_X2 (j := 3) (by decide) fl_X2_24 hr hk rfl hd kk
theorem p_X2_24 (hM : Mach l cc RX2 nL D K G n0 J) {r : Nat} (hr : r < n) (hk : kd r = 2) {v : Int32} (hd : decode cc pc = .ok (.putfield 24, 3)) (kk : J n (up2 I r 3 v) L X (pc + 3) lv rest) : J n I L X pc lv (.int v :: .ref (ad G r) :: rest) := q_puti hM cf_X2 (j := 3) (by decide) fl_X2_24 hr hk rfl rfl rfl hd kk
theorem g_X6_223 (hM : Mach l cc RX6 nL D K G n0 J) {r : Nat} (hr : r < n) (hk : kd r = 2) (hd : decode cc pc = .ok (.getfield 223, 3)) (kk : J n I L X (pc + 3) lv (.int (I r 3) :: rest)) : J n I L X pc lv (.ref (ad G r) :: rest) := q_get hM cf_X2 (j := 3) (by decide) fl_X6_223 hr hk rfl hd kk
theorem p_X6_223 (hM : Mach l cc RX6 nL D K G n0 J) {r : Nat} (hr : r < n) (hk : kd r = 2) {v : Int32} (hd : decode cc pc = .ok (.putfield 223, 3)) (kk : J n (up2 I r 3 v) L X (pc + 3) lv rest) : J n I L X pc lv (.int v :: .ref (ad G r) :: rest) := q_puti hM cf_X2 (j := 3) (by decide) fl_X6_223 hr hk rfl rfl rfl hd kk
theorem g_X2_27 (hM : Mach l cc RX2 nL D K G n0 J) {r : Nat} (hr : r < n) (hk : kd r = 2) (hd : decode cc pc = .ok (.getfield 27, 3)) (kk : J n I L X (pc + 3) lv (.int (I r 4) :: rest)) : J n I L X pc lv (.ref (ad G r) :: rest) := q_get hM cf_X2 (j := 4) (by decide) fl_X2_27 hr hk rfl hd kk
theorem p_X2_27 (hM : Mach l cc RX2 nL D K G n0 J) {r : Nat} (hr : r < n) (hk : kd r = 2) {v : Int32} (hd : decode cc pc = .ok (.putfield 27, 3)) (kk : J n (up2 I r 4 v) L X (pc + 3) lv rest) : J n I L X pc lv (.int v :: .ref (ad G r) :: rest) := q_puti hM cf_X2 (j := 4) (by decide) fl_X2_27 hr hk rfl rfl rfl hd kk
theorem g_X6_10 (hM : Mach l cc RX6 nL D K G n0 J) {r q : Nat} (hr : r < n) (hk : kd r = 6) (hX : X r 0 = some q) (hd : decode cc pc = .ok (.getfield 10, 3)) (kk : J n I L X (pc + 3) lv (.ref (ad G q) :: rest)) : J n I L X pc lv (.ref (ad G r) :: rest) := q_get hM cf_X6 (j := 0) (by decide) fl_X6_10 hr hk (by show rfv G (X r 0) = _; rw [hX]; rfl) hd kk
theorem g_X6_19 (hM : Mach l cc RX6 nL D K G n0 J) {r q : Nat} (hr : r < n) (hk : kd r = 6) (hX : X r 1 = some q) (hd : decode cc pc = .ok (.getfield 19, 3)) (kk : J n I L X (pc + 3) lv (.ref (ad G q) :: rest)) : J n I L X pc lv (.ref (ad G r) :: rest) := q_get hM cf_X6 (j := 1) (by decide) fl_X6_19 hr hk (by show rfv G (X r 1) = _; rw [hX]; rfl) hd kk
theorem g_X6_26 (hM : Mach l cc RX6 nL D K G n0 J) {r q : Nat} (hr : r < n) (hk : kd r = 6) (hX : X r 2 = some q) (hd : decode cc pc = .ok (.getfield 26, 3)) (kk : J n I L X (pc + 3) lv (.ref (ad G q) :: rest)) : J n I L X pc lv (.ref (ad G r) :: rest) := q_get hM cf_X6 (j := 2) (by decide) fl_X6_26 hr hk (by show rfv G (X r 2) = _; rw [hX]; rfl) hd kk
theorem g_X6_33 (hM : Mach l cc RX6 nL D K G n0 J) {r q : Nat} (hr : r < n) (hk : kd r = 6) (hX : X r 3 = some q) (hd : decode cc pc = .ok (.getfield 33, 3)) (kk : J n I L X (pc + 3) lv (.ref (ad G q) :: rest)) : J n I L X pc lv (.ref (ad G r) :: rest) := q_get hM cf_X6 (j := 3) (by decide) fl_X6_33 hr hk (by show rfv G (X r 3) = _; rw [hX]; rfl) hd kk
theorem g_X6_40 (hM : Mach l cc RX6 nL D K G n0 J) {r q : Nat} (hr : r < n) (hk : kd r = 6) (hX : X r 4 = some q) (hd : decode cc pc = .ok (.getfield 40, 3)) (kk : J n I L X (pc + 3) lv (.ref (ad G q) :: rest)) : J n I L X pc lv (.ref (ad G r) :: rest) := q_get hM cf_X6 (j := 4) (by decide) fl_X6_40 hr hk (by show rfv G (X r 4) = _; rw [hX]; rfl) hd kk
end QG
