/-! ===== the law from its entry ===== -/
theorem arr_known {s : State} {cA : ClassId} {k : Class} {comp : ClassId} {ty : FieldType} (h : s.vm.classes[cA]? = some k) (hk : k.kind = .array comp ty) : ArrOfT s cA ty := fun n z => ⟨fun x => by simp [arrV], k, h, comp, hk⟩
theorem tys_known {s : State} {args : Array Value} (hts : ∀ w ∈ lw_tbl, w.before args s = true) : ∃ dA : Nat → ClassId, ∀ (D : va_G) (z : Nat) (k : Nat) (q : ClassId × FieldType), (tys (D, z, dA))[k]? = some q → ArrOfT s q.1 q.2 ∧ va_RA s q.1 q.2 := by
  have hTB : ∀ {w : Cond}, w ∈ TB → w.before args s = true := fun hw => hts _ (inT_TB hw).1
  obtain ⟨c0, k0, p0, n0, h0, e0⟩ := Cond.arrayClass_spec (hTB ac_int)
  obtain ⟨c1, k1, p1, n1, h1, e1⟩ := Cond.arrayClass_spec (hTB ac_long)
  obtain ⟨c2, k2, p2, n2, h2, e2⟩ := Cond.arrayClass_spec (hTB ac_boolean)
  obtain ⟨p3, c3, k3, f3, -, h3, e3, n3⟩ := arrayOverA_spec (hts _ ao_I)
  obtain ⟨p4, c4, k4, f4, -, h4, e4, n4⟩ := Cond.arrayOver_spec (hts _ ao_T)
  obtain ⟨p5, c5, k5, f5, -, h5, e5, n5⟩ := Cond.arrayOver_spec (hts _ ao_P)
  refine ⟨fun k => [c0, c1, c2, c3, c4, c5].getD k c0, fun D z k q hq => ?_⟩
  match k, hq with
  | 0, hq => cases hq; exact ⟨arr_known h0 e0, n0⟩
  | 1, hq => cases hq; exact ⟨arr_known h1 e1, n1⟩
  | 2, hq => cases hq; exact ⟨arr_known h2 e2, n2⟩
  | 3, hq => cases hq; exact ⟨arr_known h3 e3, n3⟩
  | 4, hq => cases hq; exact ⟨arr_known h4 e4, k4, p4, h4, e4, f4, n4⟩
  | 5, hq => cases hq; exact ⟨arr_known h5 e5, k5, p5, h5, e5, f5, n5⟩
  | k + 6, hq => simp [tys] at hq
theorem cls_known {s : State} {args : Array Value} (hts : ∀ w ∈ lw_tbl, w.before args s = true) : ∃ D : va_G, ∀ (k : Nat) (q : vw_C), vwCl[k]? = some q → u_Kn s q.1 q.2.1 q.2.2 (D.1 k) (D.2 k) := by
  have hTB : ∀ {w : Cond}, w ∈ TB → w.before args s = true := fun hw => hts _ (inT_TB hw).1
  have hc : ∀ {ci : Nat} {C : String} {T : u_T} {N : Nat} {ty : Nat → FieldType}, CF ci C T N ty → ∀ w ∈ u_ws C T N, w ∈ lw_tbl := fun cf w hw => (cf.2.2.2.1 w hw).1
  obtain ⟨c0, i0, g0⟩ := u_known (C := RX0) (T := TX0) (N := 2) hts (hc cf_X0) (hTB in_X0.1)
  obtain ⟨c1, i1, g1⟩ := u_known (C := RX1) (T := TX1) (N := 11) hts (hc cf_X1) (hTB in_X1.1)
  obtain ⟨c2, i2, g2⟩ := u_known (C := RX2) (T := TX2) (N := 5) hts (hc cf_X2) (hTB in_X2.1)
  obtain ⟨c3, i3, g3⟩ := u_known (C := RX3) (T := TX3) (N := 4) hts (hc cf_X3) (hTB in_X3.1)
  obtain ⟨c4, i4, g4⟩ := u_known (C := RX4) (T := TX4) (N := 4) hts (hc cf_X4) (hTB in_X4.1)
  obtain ⟨c5, i5, g5⟩ := u_known (C := RX5) (T := TX5) (N := 8) hts (hc cf_X5) (hTB in_X5.1)
  obtain ⟨c6, i6, g6⟩ := u_known (C := RX6) (T := TX6) (N := 5) hts (hc cf_X6) (hTB in_X6.1)
  refine ⟨(fun k => [c0, c1, c2, c3, c4, c5, c6].getD k c0, fun k => [i0, i1, i2, i3, i4, i5, i6].getD k i0), fun k q hq => ?_⟩
  match k, hq with
  | 0, hq => cases hq; exact g0
  | 1, hq => cases hq; exact g1
  | 2, hq => cases hq; exact g2
  | 3, hq => cases hq; exact g3
  | 4, hq => cases hq; exact g4
  | 5, hq => cases hq; exact g5
  | 6, hq => cases hq; exact g6
  | k + 7, hq => simp at hq
theorem whole_start {p : Program} {e : Env} {s : State} {m : MethodId} {below : List Frame} {meth : Method} {c : Code} (l : Launch) (hflags : l.flags = flags0) {b L : Nat} {xs : Nat → Int32} (hL : L ≤ 260) (C0 : lw_At p s m meth c b L xs) : W p l e room_1 s m #[Value.ref b] below meth c s.heap [] 0 0 (lw_Z below #[Value.ref b] s) (entryFrame m ([Value.ref b] : List Value).toArray 11) := by
  obtain ⟨hx, hb, hr, hml, hown, hts, hX, hbl, hlk, hgv⟩ := id C0
  obtain ⟨dA, hdA⟩ := tys_known hts
  obtain ⟨D, hD⟩ := cls_known hts
  have hAO : kAO s := ⟨va_AO.of (hts _ ao_T), va_AO.of (hts _ ao_P), hts _ ao_I⟩
  rw [lg_entry_eq]
  have hl := lvO_entry [Value.ref b] (nL := 11) (m := 10) (Nat.le_of_ble_eq_true rfl)
  generalize (lg_sl [Value.ref b] ++ List.replicate (11 - (lg_sl [Value.ref b]).length) Slot.unset).toArray = ls at hl ⊢
  have hW : MachW b L xs l (D, s.heap.size, dA) (kVd p l e room_1 s m #[Value.ref b] below meth c 11 (D, s.heap.size, dA) s.heap (lw_Z below #[Value.ref b] s) 0) := ⟨p, e, s, m, below, meth, c, rfl, C0, ⟨hD, fun k q hq => hdA D s.heap.size k q hq⟩, rfl, hAO⟩
  exact law_start hW hL (Nat.le_refl 0) s.heap [] ls rfl (fun k q hk => absurd (wl_some hk).1 (Nat.not_lt_zero k)) va_S.rf hl
