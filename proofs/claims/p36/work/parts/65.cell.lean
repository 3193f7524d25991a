/-! ===== a frame that sees the script; the law's cell() ===== -/
def MachS (b N : Nat) (xs : Nat → Int32) (l : Launch) (cc : ByteArray) (own : String) (nL D K : Nat) (G : kG) (n0 : Nat) (J : kJ) : Prop :=
  ∃ (p : Program) (e : Env) (Rm : Room) (s : State) (m : MethodId) (args : Array Value) (below : List Frame) (meth : Method) (c : Code) (H0 : Heap) (Q : State → Prop),
    (J = kVd p l e Rm s m args below meth c nL G H0 Q n0 ∧ p.tables.exec = Jvm.exec ∧ c.code = cc ∧ c.maxLocals = nL ∧ s.vm.findClass own = some m.cls ∧ (∀ w, InT w → w.before args s = true) ∧ va_K G.1 vwCl (tys G) s ∧ (G.2.1 ≤ H0.size ∧ kAO s) ∧
    (D ≤ Rm.frames ∧ 36 * D ≤ Rm.locals ∧ K ≤ Rm.cells ∧ 800 * K ≤ Rm.slots)) ∧ va_X b N xs s H0 ∧ b < G.2.1
theorem MachS.to {b N : Nat} {xs : Nat → Int32} {l : Launch} {cc : ByteArray} {own : String} {nL D K : Nat} {G : kG} {n0 : Nat} {J : kJ} (h : MachS b N xs l cc own nL D K G n0 J) : Mach l cc own nL D K G n0 J := by
  obtain ⟨p, e, Rm, s, m, args, below, meth, c, H0, Q, h1, -⟩ := h
  exact ⟨p, e, Rm, s, m, args, below, meth, c, H0, Q, h1⟩
def cellV (N : Nat) (xs : Nat → Int32) (k : Nat) : Int32 := if k < N then xs k else 7919 * (nI k + 3) * (nI k + 11)
def KS (l : Launch) (b N : Nat) (xs : Nat → Int32) (G : kG) (k n : Nat) (I : kI) (L : kL) (X : kX) : Prop :=
  Met l yL_cell (.code yL_cell cL_cell 2 (some .int) :: TB) (rmd 0 (n - n)) (va_Pc [.ref b, .int (nI k)] (fun U => kW G n I L X U ∧ va_X b N xs U U.heap ∧ b < G.2.1)) (va_Qi (fun r (u : kS) => r = cellV N xs k ∧ u = (I, L, X)) (fun u t => kW G n u.1 u.2.1 u.2.2 t) (kF G)) (n - n) (800 * (n - n)) (kF G)
theorem kS_blind {av : List Value} {G : kG} {n b N : Nat} {xs : Nat → Int32} {I : kI} {L : kL} {X : kX} : FrameBlind (va_Pc av (fun U => kW G n I L X U ∧ va_X b N xs U U.heap ∧ b < G.2.1)) := by
  intro a U g mk h
  obtain ⟨h1, h2, h3, h4⟩ := h
  exact ⟨h1, (kW_blind (av := av) a U g mk ⟨h1, h2⟩).2, va_X.moved (u := U) (U := U.calling g mk a) (Vm.Alike.refl U.vm) h3, h4⟩
section QS
variable {b N : Nat} {xs : Nat → Int32} {l : Launch} {cc : ByteArray} {own : String} {nL D K : Nat} {G : kG} {n0 : Nat} {J : kJ} {n : Nat} {I : kI} {L : kL} {X : kX} {pc : Nat} {lv : kV} {rest : List Value}
theorem q_slen (hW : MachS b N xs l cc own nL D K G n0 J) (hd : decode cc pc = .ok (.arraylength, 1)) (kk : J n I L X (pc + 1) lv (.int (nI N) :: rest)) : J n I L X pc lv (.ref b :: rest) := by
  obtain ⟨p, e, Rm, s, m, args, below, meth, c, H0, Q, ⟨rfl, hx, hb, hml, hown, hT, hK, hbs, hR⟩, hX, hbl⟩ := hW
  intro hn H locs ls hz hP hS hl
  exact va_slen hx hb hX (by omega) (by show ¬ G.2.1 ≤ b; omega) hS hd (kk hn H locs ls hz hP hS hl)
theorem q_sld (hW : MachS b N xs l cc own nL D K G n0 J) (hN : N ≤ 260) (j : Nat) {x : Int32} (hx0 : x = nI j) (hj : j < N) (hd : decode cc pc = .ok (.iaload, 1)) (kk : J n I L X (pc + 1) lv (.int (xs j) :: rest)) : J n I L X pc lv (.int x :: .ref b :: rest) := by
  subst hx0
  obtain ⟨p, e, Rm, s, m, args, below, meth, c, H0, Q, ⟨rfl, hx, hb, hml, hown, hT, hK, hbs, hR⟩, hX, hbl⟩ := hW
  intro hn H locs ls hz hP hS hl
  refine va_sld hx hb hX (by omega) (by show ¬ G.2.1 ≤ b; omega) hS (vp_in_nI hj (by omega)) hd ?_
  rw [nI_clamp (by omega)]
  exact kk hn H locs ls hz hP hS hl
theorem q_cell (hM : MachS b N xs l cc own nL D K G n0 J) {cnt idx : Nat} (mi : MIs yL_cell cL_cell 2 (some .int) cnt) (lk : Cond.methodLink own idx yL_cell ∈ TB) {k : Nat} (hC : KS l b N xs G k n I L X) (hcnt : [Value.ref b, .int (nI k)].length = cnt) {st : List Value} (hst : st = [Value.ref b, .int (nI k)].reverse ++ rest) (hD : 0 + 1 ≤ D) (hKc : n ≤ n0 + K) (hW : (rest.map fun v => v.category).sum ≤ 8) (hd : decode cc pc = .ok (.invokestatic idx, 3)) (kk : J n I L X (pc + 3) lv (.int (cellV N xs k) :: rest)) : J n I L X pc lv st := by
  subst hst
  obtain ⟨p, e, Rm, s, m, args, below, meth, c, H0, Q, ⟨rfl, hx, hb, hml, hown, hT, hK, hbs, hR⟩, hX, hbl⟩ := hM
  intro hn H locs ls hz hP hS hl
  have hTB : ∀ w ∈ TB, w.before args s = true := fun w hw => hT w (inT_TB hw)
  have hUU : ∀ U : State, U.heap = H → s.WarmedH U.vm → kW G n I L X U := fun U hU hW => ⟨by rw [hU]; exact hz, by rw [hU]; exact hP, va_K.moved hW.alike hK, fun w hw => nest_warm hw.2 hW (va_Nw.of (nest_tab hw.2) (hT w ⟨hw.1, by rw [hw.2]; exact Bool.or_true _⟩)), hbs.2.moved hW.alike⟩
  obtain ⟨r1, r2, r3, r4⟩ := hR
  obtain ⟨i1, i2, i3, i5, i6⟩ := mi
  have hpre : PreS s H (va_Pc [.ref b, .int (nI k)] (fun U => kW G n I L X U ∧ va_X b N xs U U.heap ∧ b < G.2.1)) [.ref b, .int (nI k)] := ⟨kS_blind, fun U hU hW => ⟨rfl, hUU U hU hW, by rw [hU]; exact va_X.moved hW.alike (hX.kept (hS.2.1 b (by omega) (by show ¬ G.2.1 ≤ b; omega))), hbl⟩⟩
  refine va_calli (va_runS (Ts := TB) (rest := rest) ⟨hx, hb, hml, hown, hTB⟩ hC ⟨callB_of cnt hTB (goodIn_TB (code_TB i3)) rfl rfl rfl (hTB _ i2) (hTB _ lk) i5 ⟨by show 0 + 1 ≤ _; omega, by show 8 + (2 + 11) + 36 * 0 ≤ _; omega⟩, hTB _ i1⟩ hpre rfl hcnt hl.1 rfl (lv_room hW) hd ⟨by omega, by omega⟩) hS (fun q _ h => ?_) (fun q h => h) (fun v u t H1 locs1 ht hvm hp hB hz1 hk1 hS1 => by
    obtain ⟨b1, b2, -⟩ := hB
    obtain ⟨rfl, rfl⟩ := hp
    have K9 := kk (by omega) H1 locs1 ls (by rw [← ht]; exact b1) (by rw [← ht]; exact b2) hS1 hl
    rw [show n - n0 + (n - n) = n - n0 by omega, show 800 * (n - n0) + 800 * (n - n) = 800 * (n - n0) by omega]
    exact K9)
  exact h
end QS
theorem KS_intro {l : Launch} {b N : Nat} {xs : Nat → Int32} {G : kG} {k n : Nat} {I : kI} {L : kL} {X : kX}
    (body : ∀ J : kJ, MachS b N xs l cL_cell RL 2 0 (n - n) G n J → (∀ (pc : Nat) (lv : kV), decode cL_cell pc = .ok (.ireturn, 1) → J n I L X pc lv [.int (cellV N xs k)]) → J n I L X 0 [some (.ref b), some (.int (nI k))] []) : KS l b N xs G k n I L X := by
  refine Met.ofW (cc := cL_cell) (maxL := 2) (ret := (some .int)) (by decide +kernel) rfl ?_
  intro p e s m args below meth c s₁ B hml hv
  obtain ⟨rfl, ⟨hsz, hP, hK, hNw, hAO⟩, hX, hbl⟩ := hv
  have hx := B.exec
  have hb := B.bytes
  have hr := B.returns
  have hts := atoms_spec (ws := .code yL_cell cL_cell 2 (some .int) :: TB) B.pre
  have hown' : s.vm.findClass RL = some m.cls := findClass_of_methodNamed B.named
  have hT : ∀ w, InT w → w.before [Value.ref b, .int (nI k)].toArray s = true := by
    intro w hw
    by_cases hg : goodWord w = true
    · exact hts w (List.mem_cons_of_mem _ (List.mem_filter.mpr ⟨hw.1, hg⟩))
    · have h1 := hw.2
      rw [Bool.eq_false_iff.mpr hg, Bool.false_or] at h1
      exact va_Nw.use (nest_tab h1) (hNw w ⟨hw.1, h1⟩)
  rw [lg_entry_eq]
  have hl := lvO_entry (nL := 2) (m := 0) [Value.ref b, .int (nI k)] (Nat.le_of_ble_eq_true rfl)
  generalize (lg_sl [Value.ref b, .int (nI k)] ++ List.replicate (2 - (lg_sl [Value.ref b, .int (nI k)]).length) Slot.unset).toArray = ls at hl ⊢
  have K := body (kVd p l e (rmd 0 (n - n)) s m [Value.ref b, .int (nI k)].toArray below meth c 2 G s.heap (MQ below (va_Qi (fun r (u : kS) => r = cellV N xs k ∧ u = (I, L, X)) (fun (u : kS) t => kW G n u.1 u.2.1 u.2.2 t) (kF G)) [Value.ref b, .int (nI k)].toArray s (n - n) (800 * (n - n)) (kF G)) n) ⟨p, e, _, s, m, _, below, meth, c, s.heap, _, ⟨rfl, hx, hb, hml, hown', hT, hK, ⟨by omega, hAO⟩, ⟨Nat.le_refl _, Nat.le_refl _, Nat.le_refl _, Nat.le_refl _⟩⟩, hX, hbl⟩ ?_ (Nat.le_refl n) s.heap [] ls hsz hP va_S.rf hl
  · rw [Nat.sub_self] at K ⊢
    exact K
  · intro pc lv hd hn' H locs ls' hz hP' hS hl'
    have fin : ∀ t : State, t.heap = H → s.WarmedH t.vm → kW G n I L X t := fun t ht hW => ⟨by rw [ht]; exact hz, by rw [ht]; exact hP', va_K.moved hW.alike hK, fun w hw => nest_warm hw.2 hW (hNw w hw), hAO.moved hW.alike⟩
    exact W.iret hx hb hr (fun t ht hW => ⟨⟨_, (I, L, X), rfl, ⟨rfl, rfl⟩, fin t ht hW⟩, hS.F ht⟩) hS.2.2 hd
set_option maxRecDepth 100000 in
theorem c_L_cell (l : Launch) {b N : Nat} {xs : Nat → Int32} (hN : N ≤ 260) (G : kG) {k n : Nat} (hk : k < 1000) {I : kI} {L : kL} {X : kX} : KS l b N xs G k n I L X := by
  refine KS_intro (fun J hS hret => ?_)
  have hM := hS.to
  refine q_iload_n hM dL_cell_0 rfl ?_
  refine q_aload_n hM dL_cell_1 rfl ?_
  refine q_slen hS dL_cell_2 ?_
  refine q_icmp_geN (tgt := 12) hM k N rfl rfl (by omega) (by omega) dL_cell_3 (by decide) (fun c3 => ?_) (fun c3 => ?_)
  · refine q_sipush (v := 7919) hM dL_cell_12 (by decide) ?_
    refine q_iload_n hM dL_cell_15 rfl ?_
    refine q_iconst (v := 3) hM dL_cell_16 (by decide) ?_
    refine q_iadd hM dL_cell_17 ?_
    refine q_imul hM dL_cell_18 ?_
    refine q_iload_n hM dL_cell_19 rfl ?_
    refine q_bipush (v := 11) hM dL_cell_20 (by decide) ?_
    refine q_iadd hM dL_cell_22 ?_
    refine q_imul hM dL_cell_23 ?_
    have e : 7919 * (nI k + 3) * (nI k + 11) = cellV N xs k := by unfold cellV; rw [if_neg (by omega)]
    refine q_topi _ e ?_
    exact hret _ _ dL_cell_24
  · refine q_aload_n hM dL_cell_6 rfl ?_
    refine q_iload_n hM dL_cell_7 rfl ?_
    refine q_sld hS hN k rfl c3 dL_cell_8 ?_
    refine q_goto (tgt := 24) hM dL_cell_9 (by decide) ?_
    have e : xs k = cellV N xs k := by unfold cellV; rw [if_pos c3]
    refine q_topi _ e ?_
    exact hret _ _ dL_cell_24
