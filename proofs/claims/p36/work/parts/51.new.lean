/-! ===== new objects and arrays ===== -/
section NEW
variable {l : Launch} {cc : ByteArray} {own : String} {nL D K : Nat} {G : kG} {n0 : Nat} {J : kJ} {n : Nat} {I : kI} {L : kL} {X : kX} {pc : Nat} {lv : kV} {rest : List Value} {ci : Nat} {C : String} {T : u_T} {N : Nat} {ty : Nat → FieldType}
theorem wl_succ : wl G (n + 1) I L X = wl G n I L X ++ [(ad G n, ce G I L X n)] := by
  unfold wl
  rw [List.range_succ, List.map_append]
  rfl
theorem wl_push {H H1 : Heap} (hP : va_P G.1 vwCl (wl G n I L X) H) (o1 : ∀ q, q < H.size → H1[q]? = H[q]?) (he : va_at G.1 vwCl (ad G n, ce G I L X n) H1) : va_P G.1 vwCl (wl G (n + 1) I L X) H1 := by
  rw [wl_succ]
  refine (hP.kept fun k x hx => o1 x.1 ((hP k x hx).lt)).app fun k x hx => ?_
  have hz : k < 1 := (List.getElem?_eq_some_iff.mp hx).1
  rw [show k = 0 by omega] at hx
  cases hx
  exact he
theorem S_push {A : Nat → Prop} {H0 H H1 : Heap} {locs : List Loc} (hS : va_S A H0 H locs) (z1 : H1.size = H.size + 1) (o1 : ∀ q, q < H.size → H1[q]? = H[q]?) : va_S A H0 H1 locs := ⟨Nat.le_trans hS.1 (by omega), fun x h1 h2 => (o1 x (Nat.lt_of_lt_of_le h1 hS.1)).trans (hS.2.1 x h1 h2), hS.2.2⟩
/-- a field's value at birth -/
def fv0 (c j : Nat) : Value := match fk c j with | 0 => .int 0 | 1 => .long 0 | _ => .null
theorem q_new (hM : Mach l cc own nL D K G n0 J) (cf : CF ci C T N ty) {idx : Nat} (kl : Cond.classLink own idx C ∈ TB) (hi : Cond.instantiable C N ∈ TB ∧ Cond.initialized C ∈ TB) (hN : N ≤ 800) (hdef : ∀ j, j < N → defaultValue (ty j) = fv0 ci j) (hk : kd n = ci) (hz0 : Zr I L X n) (hKc : n < n0 + K) (hd : decode cc pc = .ok (.new idx, 3)) (kk : J (n + 1) I L X (pc + 3) lv (.ref (ad G n) :: rest)) : J n I L X pc lv rest := by
  obtain ⟨c1, c2, c3, c4, c5, c6⟩ := cf
  obtain ⟨p, e, Rm, s, m, args, below, meth, c, H0, Q, rfl, hx, hb, hml, hown, hT, hK, hbs, hR⟩ := hM
  obtain ⟨r1, r2, r3, r4⟩ := hR
  intro hn H locs ls hz hP hS hl
  have hKn := hK.1 ci _ c1
  have hTB : ∀ w ∈ TB, w.before args s = true := fun w hw => hT w (inT_TB hw)
  refine W.newcK hx hb hown (hTB _ kl) (hTB _ hi.1) (hTB _ hi.2) rfl hd (by omega) (by omega) hKn.2.1 (h := ad G n) (by rw [hz]; rfl) fun H1 kC hkC e1 z1 o1 => ?_
  have hs : H.size = ad G n := by rw [hz]; rfl
  refine W.widen (k := n + 1 - n0) (n := 800 * (n + 1 - n0)) (by omega) (by omega) (kk (by omega) H1 locs ls (by rw [z1]; unfold ad; omega) (wl_push hP (fun q hq => o1 q (by omega)) ?_) (S_push hS (by omega) (fun q hq => o1 q (by omega))) hl)
  rw [ce_obj hk c2]
  refine ⟨_, c1, (u_born (ws := u_ws C T N) ty (fun w hw => hT w (c4 w hw)) (fun _ h => h) hKn hkC e1 c5).to (fun j hj => ?_)⟩
  show defaultValue (ty j) = vp_V (flds G I L X ci n) j
  unfold vp_V
  rw [List.getD_eq_getElem?_getD, flds_get (by omega), Option.getD_some, hdef j hj]
  obtain ⟨z1, z2, z3⟩ := hz0 j
  unfold fv0 fv
  rw [z1, z2, z3]
  cases fk ci j with
  | zero => rfl
  | succ a => cases a with
    | zero => rfl
    | succ b => rfl
end NEW
section NEWA
variable {l : Launch} {cc : ByteArray} {own : String} {nL D K : Nat} {G : kG} {n0 : Nat} {J : kJ} {n : Nat} {I : kI} {L : kL} {X : kX} {pc : Nat} {lv : kV} {rest : List Value} {ci : Nat} {C : String} {T : u_T} {N : Nat} {ty : Nat → FieldType}
theorem q_newi (hM : Mach l cc own nL D K G n0 J) (hk : kd n = 8) (hz0 : Zr I L X n) {x : Int32} (hx0 : x = nI (kl n)) (hKc : n < n0 + K) (hd : decode cc pc = .ok (.newarray .int, 2)) (kk : J (n + 1) I L X (pc + 2) lv (.ref (ad G n) :: rest)) : J n I L X pc lv (.int x :: rest) := by
  subst hx0
  obtain ⟨p, e, Rm, s, m, args, below, meth, c, H0, Q, rfl, hx, hb, hml, hown, hT, hK, hbs, hR⟩ := hM
  obtain ⟨r1, r2, r3, r4⟩ := hR
  intro hn H locs ls hz hP hS hl
  have hkl := kl_le n
  have hs : H.size = ad G n := by rw [hz]; rfl
  refine va_newaK (atype := .int) hx hb (hT _ (inT_TB ac_int)) rfl hd rfl (Int32.not_lt.mpr (by rw [le_i, i0, nI_toInt (by omega)]; omega)) (nI_clamp (by omega)) (by show kl n * 4 ≤ _; omega) (by omega) (by omega) hs fun H1 cA e1 z1 o1 hAr hNm => ?_
  obtain rfl : cA = G.2.2 0 := Option.some.inj (hNm.symm.trans (hK.2 0 _ rfl).2)
  refine W.widen (k := n + 1 - n0) (n := 800 * (n + 1 - n0)) (by omega) (by omega) (kk (by omega) H1 locs ls (by rw [z1]; unfold ad; omega) (wl_push hP (fun q hq => o1 q (by omega)) ?_) (S_push hS (by omega) (fun q hq => o1 q (by omega))) hl)
  rw [ce_int hk]
  show H1[ad G n]? = some (vp_cell _ _)
  rw [e1, vp_cell_i]
  congr 2
  funext j
  rw [(hz0 j).1]
  rfl
theorem q_newl (hM : Mach l cc own nL D K G n0 J) (hk : kd n = 9) (hz0 : Zr I L X n) {x : Int32} (hx0 : x = nI (kl n)) (hKc : n < n0 + K) (hd : decode cc pc = .ok (.newarray .long, 2)) (kk : J (n + 1) I L X (pc + 2) lv (.ref (ad G n) :: rest)) : J n I L X pc lv (.int x :: rest) := by
  subst hx0
  obtain ⟨p, e, Rm, s, m, args, below, meth, c, H0, Q, rfl, hx, hb, hml, hown, hT, hK, hbs, hR⟩ := hM
  obtain ⟨r1, r2, r3, r4⟩ := hR
  intro hn H locs ls hz hP hS hl
  have hkl := kl_le n
  have hs : H.size = ad G n := by rw [hz]; rfl
  refine va_newaK (atype := .long) hx hb (hT _ (inT_TB ac_long)) rfl hd rfl (Int32.not_lt.mpr (by rw [le_i, i0, nI_toInt (by omega)]; omega)) (nI_clamp (by omega)) (by show kl n * 8 ≤ _; omega) (by omega) (by omega) hs fun H1 cA e1 z1 o1 hAr hNm => ?_
  obtain rfl : cA = G.2.2 1 := Option.some.inj (hNm.symm.trans (hK.2 1 _ rfl).2)
  refine W.widen (k := n + 1 - n0) (n := 800 * (n + 1 - n0)) (by omega) (by omega) (kk (by omega) H1 locs ls (by rw [z1]; unfold ad; omega) (wl_push hP (fun q hq => o1 q (by omega)) ?_) (S_push hS (by omega) (fun q hq => o1 q (by omega))) hl)
  rw [ce_long hk]
  show H1[ad G n]? = some (vp_cell _ _)
  rw [e1, vp_cell_l]
  congr 2
  funext j
  rw [(hz0 j).2.1]
  rfl
theorem q_newz (hM : Mach l cc own nL D K G n0 J) (hk : kd n = 10) (hz0 : Zr I L X n) {x : Int32} (hx0 : x = nI (kl n)) (hKc : n < n0 + K) (hd : decode cc pc = .ok (.newarray .boolean, 2)) (kk : J (n + 1) I L X (pc + 2) lv (.ref (ad G n) :: rest)) : J n I L X pc lv (.int x :: rest) := by
  subst hx0
  obtain ⟨p, e, Rm, s, m, args, below, meth, c, H0, Q, rfl, hx, hb, hml, hown, hT, hK, hbs, hR⟩ := hM
  obtain ⟨r1, r2, r3, r4⟩ := hR
  intro hn H locs ls hz hP hS hl
  have hkl := kl_le n
  have hs : H.size = ad G n := by rw [hz]; rfl
  refine va_newaK (atype := .boolean) hx hb (hT _ (inT_TB ac_boolean)) rfl hd rfl (Int32.not_lt.mpr (by rw [le_i, i0, nI_toInt (by omega)]; omega)) (nI_clamp (by omega)) (by show kl n * 1 ≤ _; omega) (by omega) (by omega) hs fun H1 cA e1 z1 o1 hAr hNm => ?_
  obtain rfl : cA = G.2.2 2 := Option.some.inj (hNm.symm.trans (hK.2 2 _ rfl).2)
  refine W.widen (k := n + 1 - n0) (n := 800 * (n + 1 - n0)) (by omega) (by omega) (kk (by omega) H1 locs ls (by rw [z1]; unfold ad; omega) (wl_push hP (fun q hq => o1 q (by omega)) ?_) (S_push hS (by omega) (fun q hq => o1 q (by omega))) hl)
  rw [ce_bool hk]
  show H1[ad G n]? = some (vp_cell _ _)
  rw [e1, vp_cell_i]
  congr 2
  funext j
  rw [(hz0 j).1]
  rfl
end NEWA

/-! ===== constructors: the frame knows that it is one ===== -/
def MachC (l : Launch) (cc : ByteArray) (own : String) (nL D K : Nat) (G : kG) (n0 : Nat) (J : kJ) : Prop :=
  ∃ (p : Program) (e : Env) (Rm : Room) (s : State) (m : MethodId) (args : Array Value) (below : List Frame) (meth : Method) (c : Code) (H0 : Heap) (Q : State → Prop),
    J = kVd p l e Rm s m args below meth c nL G H0 Q n0 ∧ meth.name = "<init>" ∧ p.tables.exec = Jvm.exec ∧ c.code = cc ∧ c.maxLocals = nL ∧ s.vm.findClass own = some m.cls ∧ (∀ w, InT w → w.before args s = true) ∧ va_K G.1 vwCl (tys G) s ∧ (G.2.1 ≤ H0.size ∧ kAO s) ∧
    (D ≤ Rm.frames ∧ 36 * D ≤ Rm.locals ∧ K ≤ Rm.cells ∧ 800 * K ≤ Rm.slots)
theorem MachC.to {l : Launch} {cc : ByteArray} {own : String} {nL D K : Nat} {G : kG} {n0 : Nat} {J : kJ} (h : MachC l cc own nL D K G n0 J) : Mach l cc own nL D K G n0 J := by
  obtain ⟨p, e, Rm, s, m, args, below, meth, c, H0, Q, hJ, -, h9⟩ := h
  exact ⟨p, e, Rm, s, m, args, below, meth, c, H0, Q, hJ, h9⟩
theorem KvC_intro {l : Launch} {y : MethodName} {b : ByteArray} {nL D : Nat} {G : kG} {av : List Value} {n n1 : Nat} {I : kI} {L : kL} {X : kX} {post : kI → kL → kX → Prop} {own : String} {lv0 : kV} (mm : Nat) (hin9 : y.name = "<init>") (hy : plainName y.cls = true) (hown : y.cls = own) (hlv : lvI av ++ List.replicate mm none = lv0) (hlen : (lg_sl av).length ≤ nL) (hn1 : n ≤ n1)
    (body : ∀ J : kJ, MachC l b own nL D (n1 - n) G n J → (∀ (I' : kI) (L' : kL) (X' : kX) (pc : Nat) (lv : kV), post I' L' X' → decode b pc = .ok (.return_, 1) → J n1 I' L' X' pc lv []) → J n I L X 0 lv0 []) : Kv l y b nL D G av n n1 I L X post := by
  refine Met.ofW (cc := b) (maxL := nL) (ret := none) hy rfl ?_
  intro p e s m args below meth c s₁ B hml hv
  obtain ⟨rfl, hsz, hP, hK, hNw, hAO⟩ := hv
  have hx := B.exec
  have hb := B.bytes
  have hr := B.returns
  have hts := atoms_spec (ws := .code y b nL none :: TB) B.pre
  have hown' : s.vm.findClass own = some m.cls := by rw [← hown]; exact findClass_of_methodNamed B.named
  have hlocks := B.notSynchronized
  have hT : ∀ w, InT w → w.before av.toArray s = true := by
    intro w hw
    by_cases hg : goodWord w = true
    · exact hts w (List.mem_cons_of_mem _ (List.mem_filter.mpr ⟨hw.1, hg⟩))
    · have h1 := hw.2
      rw [Bool.eq_false_iff.mpr hg, Bool.false_or] at h1
      exact va_Nw.use (nest_tab h1) (hNw w ⟨hw.1, h1⟩)
  rw [lg_entry_eq]
  have hl := lvO_entry (m := mm) av hlen
  rw [hlv] at hl
  generalize (lg_sl av ++ List.replicate (nL - (lg_sl av).length) Slot.unset).toArray = ls at hl ⊢
  have K := body (kVd p l e (rmd D (n1 - n)) s m av.toArray below meth c nL G s.heap (MQ below (va_Qv (fun (u : kS) => post u.1 u.2.1 u.2.2) (fun (u : kS) t => kW G n1 u.1 u.2.1 u.2.2 t) (kF G)) av.toArray s (n1 - n) (800 * (n1 - n)) (kF G)) n) ⟨p, e, _, s, m, _, below, meth, c, s.heap, _, rfl, (name_of_methodNamed B.named B.method).1.trans hin9, hx, hb, hml, hown', hT, hK, ⟨by omega, hAO⟩, ⟨Nat.le_refl _, Nat.le_refl _, Nat.le_refl _, Nat.le_refl _⟩⟩ ?_ (Nat.le_refl n) s.heap [] ls hsz hP va_S.rf hl
  · rw [Nat.sub_self] at K
    exact K
  · intro I' L' X' pc lv hp hd hn' H locs ls' hz hP' hS hl'
    have fin : ∀ t : State, t.heap = H → s.WarmedH t.vm → kW G n1 I' L' X' t := fun t ht hW => ⟨by rw [ht]; exact hz, by rw [ht]; exact hP', va_K.moved hW.alike hK, fun w hw => nest_warm hw.2 hW (hNw w hw), hAO.moved hW.alike⟩
    exact W.vret hx hb hr (fun t ht hW => ⟨⟨(I', L', X'), rfl, hp, fin t ht hW⟩, hS.F ht⟩) hS.2.2 hd

section NEWR
variable {l : Launch} {cc : ByteArray} {own : String} {nL D K : Nat} {G : kG} {n0 : Nat} {J : kJ} {n : Nat} {I : kI} {L : kL} {X : kX} {pc : Nat} {lv : kV} {rest : List Value} {ci : Nat} {C : String} {T : u_T} {N : Nat} {ty : Nat → FieldType}
theorem q_newq (hM : Mach l cc own nL D K G n0 J) {idx t0 : Nat} (ht : (tys G)[t0]? = some (G.2.2 t0, .object C)) (hAO : ∀ s, kAO s → va_AO C s) (kl9 : Cond.classLink own idx C ∈ TB) (hk : kd n = t0 + 8) (h3 : 3 ≤ t0) (hz0 : Zr I L X n) {x : Int32} (hx0 : x = nI (kl n)) (hKc : n < n0 + K) (hd : decode cc pc = .ok (.anewarray idx, 3)) (kk : J (n + 1) I L X (pc + 3) lv (.ref (ad G n) :: rest)) : J n I L X pc lv (.int x :: rest) := by
  subst hx0
  obtain ⟨p, e, Rm, s, m, args, below, meth, c, H0, Q, rfl, hx, hb, hml, hown, hT, hK, hbs, hR⟩ := hM
  obtain ⟨r1, r2, r3, r4⟩ := hR
  intro hn H locs ls hz hP hS hl
  have hkl := kl_le n
  have hs : H.size = ad G n := by rw [hz]; rfl
  have hcl : (nI (kl n)).toNatClampNeg = kl n := nI_clamp (by omega)
  obtain ⟨kA', comp', -, -, -, hfc⟩ := (hK.2 t0 _ ht).2
  refine W.anew hx hb hown (hT _ (inT_TB kl9)) (hAO s hbs.2).use rfl hd rfl (Int32.not_lt.mpr (by rw [le_i, i0, nI_toInt (by omega)]; omega)) (by rw [hcl]; omega) (by omega) (by rw [hcl]; omega) fun cA kA comp h1 h2 h3' h4 => ?_
  obtain rfl : cA = G.2.2 t0 := Option.some.inj (h1.symm.trans hfc)
  rw [hcl, hs]
  refine W.widen (k := n + 1 - n0) (n := 800 * (n + 1 - n0)) (by omega) (by omega) (kk (by omega) _ locs ls (by rw [Array.size_push, hs]; unfold ad; omega) (wl_push hP (fun q hq => by rw [Array.getElem?_push, if_neg (Nat.ne_of_lt hq)]) ?_) (S_push hS (by rw [Array.size_push]) (fun q hq => by rw [Array.getElem?_push, if_neg (Nat.ne_of_lt hq)])) hl)
  rw [ce_ref (by omega), show kd n - 8 = t0 by omega]
  show (H.push _)[ad G n]? = some (vp_cell _ _)
  rw [← hs, Array.getElem?_push, if_pos rfl, arrV_new, vp_cell_q]
  congr 2
  funext j
  rw [(hz0 j).2.2]
  rfl
theorem q_alen0 (hM : Mach l cc own nL D K G n0 J) {t0 r : Nat} {x : vp_A} {ty9 : FieldType} (ht : (tys G)[t0]? = some (G.2.2 t0, ty9)) (hr : r < n) (he : ce G I L X r = .inl (G.2.2 t0, kl r, x.2)) (hx1 : x.1 = kl r) (hd : decode cc pc = .ok (.arraylength, 1)) (kk : J n I L X (pc + 1) lv (.int (nI (kl r)) :: rest)) : J n I L X pc lv (.ref (ad G r) :: rest) := by
  obtain ⟨p, e, Rm, s, m, args, below, meth, c, H0, Q, rfl, hx, hb, hml, hown, hT, hK, hbs, hR⟩ := hM
  intro hn H locs ls hz hP hS hl
  have he2 : (wl G n I L X)[r]? = some (ad G r, .inl (G.2.2 t0, (kl r, x.2))) := by rw [wl_get hr, he]
  exact va_alen hx hb hK hP r t0 he2 ht rfl hd (kk hn H locs ls hz hP hS hl)
theorem q_alenq (hM : Mach l cc own nL D K G n0 J) {r : Nat} (hr : r < n) (hk : kd r = 12 ∨ kd r = 13) (hd : decode cc pc = .ok (.arraylength, 1)) (kk : J n I L X (pc + 1) lv (.int (nI (kl r)) :: rest)) : J n I L X pc lv (.ref (ad G r) :: rest) := by
  rcases hk with hk | hk
  · exact q_alen0 hM (t0 := 4) (x := (kl r, _)) rfl hr (by rw [ce_ref (by omega), hk]) rfl hd kk
  · exact q_alen0 hM (t0 := 5) (x := (kl r, _)) rfl hr (by rw [ce_ref (by omega), hk]) rfl hd kk
theorem q_aleni (hM : Mach l cc own nL D K G n0 J) {r : Nat} (hr : r < n) (hk : kd r = 8) (hd : decode cc pc = .ok (.arraylength, 1)) (kk : J n I L X (pc + 1) lv (.int (nI (kl r)) :: rest)) : J n I L X pc lv (.ref (ad G r) :: rest) :=
  q_alen0 hM (t0 := 0) (x := (kl r, _)) rfl hr (ce_int hk) rfl hd kk
end NEWR
section PUTF
variable {l : Launch} {cc : ByteArray} {own : String} {nL D K : Nat} {G : kG} {n0 : Nat} {J : kJ} {n : Nat} {I : kI} {L : kL} {X : kX} {pc : Nat} {lv : kV} {rest : List Value} {ci : Nat} {C : String} {T : u_T} {N : Nat} {ty : Nat → FieldType}
theorem q_putF (hM : MachC l cc own nL D K G n0 J) (cf : CF ci C T N ty) {r q j idx : Nat} (hj : j < N) (fl : InT (.fieldLink own idx (T j).1 (T j).2.1 (T j).2.2.1)) (hr : r < n) (hk : kd r = ci) (hf : fk ci j = 2) (hfin : (T j).2.2.2 = true) (hdecl : (T j).1 = own) (hn0 : narrow (ty j) (.ref (ad G q)) = .ref (ad G q)) (hfit : fits (ty j) (.ref (ad G q)) = true) (hd : decode cc pc = .ok (.putfield idx, 3)) (kk : J n I L (up2 X r j (some q)) (pc + 3) lv rest) : J n I L X pc lv (.ref (ad G q) :: .ref (ad G r) :: rest) := by
  obtain ⟨c1, c2, c3, c4, c5, c6⟩ := cf
  obtain ⟨p, e, Rm, s, m, args, below, meth, c, H0, Q, rfl, hin2, hx, hb, hml, hown, hT, hK, hbs, hR⟩ := hM
  intro hn H locs ls hz hP hS hl
  have he : (wl G n I L X)[r]? = some (ad G r, .inr (ci, flds G I L X ci r)) := by rw [wl_get hr, ce_obj hk c2]
  have hlen : j < (flds G I L X ci r).length := by rw [flds_len]; omega
  have hts : ∀ w ∈ u_ws C T N, w.before args s = true := fun w hw => hT w (c4 w hw)
  have hap := va_apart (own := own) hts (fun _ h => h) ty c5 c6 hK c1
  obtain ⟨r', h1, cell, q1, q2, q3, q4⟩ := hP r _ he
  have hr' : r' = (C, T, N) := Option.some.inj (h1.symm.trans c1)
  subst hr'
  obtain ⟨hS0, hfc, kC, hkC, hkind⟩ := hK.1 ci _ c1
  obtain ⟨fc, kf, fi, f, hi, hsl⟩ := hS0 j hj
  have hlay := hts _ (u_in_lay hj)
  unfold u_lay at hlay
  rw [if_pos hfin] at hlay
  have hst := (u_facts hfc hkC (u_lays hts (fun _ h => h) hj) hi).1
  have hcf : m.cls = fc := by
    obtain ⟨_, _, c', _, _, _, -, -, hf', -, -, -, hown2, -⟩ := Cond.laysFinal_spec hlay
    have e1 : c' = fc := by have := hi.symm.trans hf'; simp at this; exact this.1.symm
    rw [hdecl] at hown2
    rw [← e1]; exact Option.some.inj (hown.symm.trans hown2)
  have h6 := u_fits hfc hkC hkind (Or.inr hlay) hi (c5 j hj) hn0 hfit
  have hv : fv G I L (up2 X r j (some q)) ci r j = .ref (ad G q) := by simp [fv, hf, up2, rfv, va_rf]
  have ho : ∀ k, k ≠ j → fv G I L (up2 X r j (some q)) ci r k = fv G I L X ci r k := fun k hkj => by simp [fv, up2, hkj]
  refine W.putFinK hx hb hown (hT _ fl) hi hst hcf hin2 (by rw [q2]; exact h6) q1 q3 (by rw [hsl]; exact k2_hasslot (q4 j hj)) rfl rfl hd fun H' e1 e2 e3 => ?_
  refine kk hn H' _ ls (e2.trans hz) (wl_store hP hr (e := .inr (ci, (flds G I L X ci r).set j (.ref (ad G q)))) ?_ (by rw [ce_obj hk c2, flds_set hv ho]) (fun q' hq' => ce_row rfl rfl (up2_row hq')) e3) (hS.put e2 e3 (Nat.le_add_right _ _)) hl
  rw [hsl] at e1
  exact ⟨_, c1, t_OB.to (V := updV (vp_V (flds G I L X ci r)) j (.ref (ad G q))) ⟨_, e1, q2, q3, t_set q4 hap hj _⟩ (fun k _ => vp_updV_set hlen _ k)⟩
end PUTF
