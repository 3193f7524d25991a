/-! ===== new objects and arrays ===== -/
section NEW
variable {l : Launch} {cc : ByteArray} {own : String} {nL D K : Nat} {G : kG} {n0 : Nat} {J : kJ} {n : Nat} {I : kI} {L : kL} {X : kX} {pc : Nat} {lv : kV} {rest : List Value} {ci : Nat} {C : String} {T : u_T} {N : Nat} {ty : Nat → FieldType}
theorem wl_succ : wl G (n + 1) I L X = wl G n I L X ++ [(ad G n, ce G I L X n)] := by
  unfold wl
  rw [List.range_succ, List.map_append]
  rfl
theorem wl_push {H H1 : Heap} (hP : va_P G.1 vwCl (wl G n I L X) H) (o1 : ∀ q, q < H.size → H1[q]? = H[q]?) (he : va_at G.1 vwCl (ad G n, ce G I L X n) H1) : va_P G.1 vwCl (wl G (n + 1) I L X) H1 := by
  rw [wl_succ]
  refine (hP.kept fun k x hx => o1 x.1 ((hP k x hx).lt)).app fun k x hx => ?_
  have hz : k < 1 := (List.getElem?_eq_some_iff.mp hx).1
  rw [show k = 0 by omega] at hx
  cases hx
  exact he
theorem S_push {A : Nat → Prop} {H0 H H1 : Heap} {locs : List Loc} (hS : va_S A H0 H locs) (z1 : H1.size = H.size + 1) (o1 : ∀ q, q < H.size → H1[q]? = H[q]?) : va_S A H0 H1 locs := ⟨Nat.le_trans hS.1 (by omega), fun x h1 h2 => (o1 x (Nat.lt_of_lt_of_le h1 hS.1)).trans (hS.2.1 x h1 h2), hS.2.2⟩
/-- a field's value at birth -/
def fv0 (c j : Nat) : Value := match fk c j with | 0 => .int 0 | 1 => .long 0 | _ => .null
theorem q_new (hM : Mach l cc own nL D K G n0 J) (cf : CF ci C T N ty) {idx : Nat} (kl : Cond.classLink own idx C ∈ TB) (hi : Cond.instantiable C N ∈ TB ∧ Cond.initialized C ∈ TB) (hN : N ≤ 800) (hdef : ∀ j, j < N → defaultValue (ty j) = fv0 ci j) (hk : kd n = ci) (hz0 : Zr I L X n) (hKc : n < n0 + K) (hd : decode cc pc = .ok (.new idx, 3)) (kk : J (n + 1) I L X (pc + 3) lv (.ref (ad G n) :: rest)) : J n I L X pc lv rest := by
  obtain ⟨c1, c2, c3, c4, c5, c6⟩ := cf
  obtain ⟨p, e, Rm, s, m, args, below, meth, c, H0, Q, rfl, hx, hb, hml, hown, hT, hK, hbs, hR⟩ := hM
  obtain ⟨r1, r2, r3, r4⟩ := hR
  intro hn H locs ls hz hP hS hl
  have hKn := hK.1 ci _ c1
  have hTB : ∀ w ∈ TB, w.before args s = true := fun w hw => hT w (inT_TB hw)
  refine W.newcK hx hb hown (hTB _ kl) (hTB _ hi.1) (hTB _ hi.2) rfl hd (by omega) (by omega) hKn.2.1 (h := ad G n) (by rw [hz]; rfl) fun H1 kC hkC e1 z1 o1 => ?_
  have hs : H.size = ad G n := by rw [hz]; rfl
  refine W.widen (k := n + 1 - n0) (n := 800 * (n + 1 - n0)) (by omega) (by omega) (kk (by omega) H1 locs ls (by rw [z1]; unfold ad; omega) (wl_push hP (fun q hq => o1 q (by omega)) ?_) (S_push hS (by omega) (fun q hq => o1 q (by omega))) hl)
  rw [ce_obj hk c2]
  refine ⟨_, c1, (u_born (ws := u_ws C T N) ty (fun w hw => hT w (c4 w hw)) (fun _ h => h) hKn hkC e1 c5).to (fun j hj => ?_)⟩
  show defaultValue (ty j) = vp_V (flds G I L X ci n) j
  unfold vp_V
  rw [List.getD_eq_getElem?_getD, flds_get (by omega), Option.getD_some, hdef j hj]
  obtain ⟨z1, z2, z3⟩ := hz0 j
  unfold fv0 fv
  rw [z1, z2, z3]
  cases fk ci j with
  | zero => rfl
  | succ a => cases a with
    | zero => rfl
    | succ b => rfl
end NEW
section NEWA
variable {l : Launch} {cc : ByteArray} {own : String} {nL D K : Nat} {G : kG} {n0 : Nat} {J : kJ} {n : Nat} {I : kI} {L : kL} {X : kX} {pc : Nat} {lv : kV} {rest : List Value} {ci : Nat} {C : String} {T : u_T} {N : Nat} {ty : Nat → FieldType}
theorem q_newi (hM : Mach l cc own nL D K G n0 J) (hk : kd n = 8) (hz0 : Zr I L X n) {x : Int32} (hx0 : x = nI (kl n)) (hKc : n < n0 + K) (hd : decode cc pc = .ok (.newarray .int, 2)) (kk : J (n + 1) I L X (pc + 2) lv (.ref (ad G n) :: rest)) : J n I L X pc lv (.int x :: rest) := by
  subst hx0
  obtain ⟨p, e, Rm, s, m, args, below, meth, c, H0, Q, rfl, hx, hb, hml, hown, hT, hK, hbs, hR⟩ := hM
  obtain ⟨r1, r2, r3, r4⟩ := hR
  intro hn H locs ls hz hP hS hl
  have hkl := kl_le n
  have hs : H.size = ad G n := by rw [hz]; rfl
  refine va_newaK (atype := .int) hx hb (hT _ (inT_TB ac_int)) rfl hd rfl (Int32.not_lt.mpr (by rw [le_i, i0, nI_toInt (by omega)]; omega)) (nI_clamp (by omega)) (by show kl n * 4 ≤ _; omega) (by omega) (by omega) hs fun H1 cA e1 z1 o1 hAr hNm => ?_
  obtain rfl : cA = G.2.2 0 := Option.some.inj (hNm.symm.trans (hK.2 0 _ rfl).2)
  refine W.widen (k := n + 1 - n0) (n := 800 * (n + 1 - n0)) (by omega) (by omega) (kk (by omega) H1 locs ls (by rw [z1]; unfold ad; omega) (wl_push hP (fun q hq => o1 q (by omega)) ?_) (S_push hS (by omega) (fun q hq => o1 q (by omega))) hl)
  rw [ce_int hk]
  show H1[ad G n]? = some (vp_cell _ _)
  rw [e1, vp_cell_i]
  congr 2
  funext j
  rw [(hz0 j).1]
  rfl
theorem q_newl (hM : Mach l cc own nL D K G n0 J) (hk : kd n = 9) (hz0 : Zr I L X n) {x : Int32} (hx0 : x = nI (kl n)) (hKc : n < n0 + K) (hd : decode cc pc = .ok (.newarray .long, 2)) (kk : J (n + 1) I L X (pc + 2) lv (.ref (ad G n) :: rest)) : J n I L X pc lv (.int x :: rest) := by
  subst hx0
  obtain ⟨p, e, Rm, s, m, args, below, meth, c, H0, Q, rfl, hx, hb, hml, hown, hT, hK, hbs, hR⟩ := hM
  obtain ⟨r1, r2, r3, r4⟩ := hR
  intro hn H locs ls hz hP hS hl
  have hkl := kl_le n
  have hs : H.size = ad G n := by rw [hz]; rfl
  refine va_newaK (atype := .long) hx hb (hT _ (inT_TB ac_long)) rfl hd rfl (Int32.not_lt.mpr (by rw [le_i, i0, nI_toInt (by omega)]; omega)) (nI_clamp (by omega)) (by show kl n * 8 ≤ _; omega) (by omega) (by omega) hs fun H1 cA e1 z1 o1 hAr hNm => ?_
  obtain rfl : cA = G.2.2 1 := Option.some.inj (hNm.symm.trans (hK.2 1 _ rfl).2)
  refine W.widen (k := n + 1 - n0) (n := 800 * (n + 1 - n0)) (by omega) (by omega) (kk (by omega) H1 locs ls (by rw [z1]; unfold ad; omega) (wl_push hP (fun q hq => o1 q (by omega)) ?_) (S_push hS (by omega) (fun q hq => o1 q (by omega))) hl)
  rw [ce_long hk]
  show H1[ad G n]? = some (vp_cell _ _)
  rw [e1, vp_cell_l]
  congr 2
  funext j
  rw [(hz0 j).2.1]
  rfl
theorem q_newz (hM : Mach l cc own nL D K G n0 J) (hk : kd n = 10) (hz0 : Zr I L X n) {x : Int32} (hx0 : x = nI (kl n)) (hKc : n < n0 + K) (hd : decode cc pc = .ok (.newarray .boolean, 2)) (kk : J (n + 1) I L X (pc + 2) lv (.ref (ad G n) :: rest)) : J n I L X pc lv (.int x :: rest) := by
  subst hx0
  obtain ⟨p, e, Rm, s, m, args, below, meth, c, H0, Q, rfl, hx, hb, hml, hown, hT, hK, hbs, hR⟩ := hM
  obtain ⟨r1, r2, r3, r4⟩ := hR
  intro hn H locs ls hz hP hS hl
  have hkl := kl_le n
  have hs : H.size = ad G n := by rw [hz]; rfl
  refine va_newaK (atype := .boolean) hx hb (hT _ (inT_TB ac_boolean)) rfl hd rfl (Int32.not_lt.mpr (by rw [le_i, i0, nI_toInt (by omega)]; omega)) (nI_clamp (by omega)) (by show kl n * 1 ≤ _; omega) (by omega) (by omega) hs fun H1 cA e1 z1 o1 hAr hNm => ?_
  obtain rfl : cA = G.2.2 2 := Option.some.inj (hNm.symm.trans (hK.2 2 _ rfl).2)
  refine W.widen (k := n + 1 - n0) (n := 800 * (n + 1 - n0)) (by omega) (by omega) (kk (by omega) H1 locs ls (by rw [z1]; unfold ad; omega) (wl_push hP (fun q hq => o1 q (by omega)) ?_) (S_push hS (by omega) (fun q hq => o1 q (by omega))) hl)
  rw [ce_bool hk]
  show H1[ad G n]? = some (vp_cell _ _)
  rw [e1, vp_cell_i]
  congr 2
  funext j
  rw [(hz0 j).1]
  rfl
end NEWA
