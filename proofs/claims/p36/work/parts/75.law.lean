/-! THE CLAIM OUT OF ONE WALK OF THE LAW'S BODY. Your part is whole_start (and what it stands on); all else here is the same for every law, but numbers. -/
def R_law : String := "TrapSurveyLaw"
def lw_P (b : Addr) (xs : List Int32) (args : Array Value) (s : State) : Prop := args = #[.ref b] ∧ s.IntsAt b xs ∧ xs.length ≤ 260 ∧ (Jvm.Cond.and given_1 narrow_1).before args s = true
def lw_Q (_ : Array Value) (s : State) (o : Outcome) (t : State) : Prop := o = .returned (some (.int 1)) ∧ Framed s o t [] 600000 7302250
def lw_Z (below : List Frame) (a : Array Value) (s : State) : State → Prop := fun t => ∃ o, t.status = .running ∧ Ended t below o ∧ lw_Q a s o t
/-- the law's own end, with 1 on the stack, nothing written that was there before, its room as the claim has it -/
theorem lw_ret {p : Program} {l : Launch} {e : Env} {s : State} {m : MethodId} {below : List Frame} {meth : Method} {c : Code} {b : Nat} (hx : p.tables.exec = Jvm.exec) (hb : c.code = code) (hr : meth.sig.returnType = ret) (hlocks : meth.locks = false) {pc : Nat} {H : Heap} {ls : Array Slot} (hdg : decode code pc = .ok (.ireturn, 1)) : W p l e room_1 s m #[Value.ref b] below meth c H [] 600000 7302250 (lw_Z below #[Value.ref b] s) (F0 m pc ls [.int 1]) := by
  intro T hT X
  obtain ⟨fs, hret, hrun, hended, hW, hframe⟩ := X.leave (v := some (.int 1)) (hlocks := hlocks) (fun h => by rw [hr] at h; cases h)
  have hmeth' : T.vm.method? m = some meth := X.method'
  refine ⟨T.setFrames fs, ?_, .returned (some (.int 1)), hrun, hended, rfl, ⟨_, rfl⟩, hW, hframe⟩
  jvm_step X.here [X.here.top, hx, hb, hdg, hmeth', hr, ret, narrow_b1]
  (try refine ⟨rfl, ?_⟩); (try refine ⟨rfl, ?_⟩)
  first | (intro acts; rw [hret _ acts rfl rfl rfl]) | rw [hret _ _ rfl rfl rfl]
  exact Steps.refl _
/-- what holds at the law's entry: the machine, the code, the tables' words (any of lw_tbl by 'hts w (by decide +kernel)'), the script of L ints xs at the cell b, what the Statement gives of the start (any of its parts by flat_of_before) -/
def lw_At (p : Program) (s : State) (m : MethodId) (meth : Method) (c : Code) (b L : Nat) (xs : Nat → Int32) : Prop :=
  p.tables.exec = Jvm.exec ∧ c.code = code ∧ meth.sig.returnType = ret ∧ c.maxLocals = 11 ∧ s.vm.findClass R_law = some m.cls ∧ (∀ w ∈ lw_tbl, w.before #[Value.ref b] s = true) ∧ va_X b L xs s s.heap ∧ b < s.heap.size ∧ meth.locks = false ∧ (Jvm.Cond.and given_1 narrow_1).before #[Value.ref b] s = true
/-! ===== the law's frame: the judgement with the script beside it ===== -/
def MachW (b N : Nat) (xs : Nat → Int32) (l : Launch) (G : kG) (J : kJ) : Prop :=
  ∃ (p : Program) (e : Env) (s : State) (m : MethodId) (below : List Frame) (meth : Method) (c : Code),
    J = kVd p l e room_1 s m #[Value.ref b] below meth c 11 G s.heap (lw_Z below #[Value.ref b] s) 0 ∧ lw_At p s m meth c b N xs ∧ va_K G.1 vwCl (tys G) s ∧ G.2.1 = s.heap.size ∧ kAO s
theorem MachW.toS {b N : Nat} {xs : Nat → Int32} {l : Launch} {G : kG} {J : kJ} (h : MachW b N xs l G J) : MachS b N xs l cL_law RL 11 10 153 G 0 J := by
  obtain ⟨p, e, s, m, below, meth, c, hJ, ⟨hx, hb, hr, hml, hown, hts, hX, hbl, hlk, hgv⟩, hK, hG, hAO⟩ := h
  exact ⟨p, e, room_1, s, m, _, below, meth, c, s.heap, _, ⟨hJ, hx, hb, hml, hown, fun w hw => hts w hw.1, hK, ⟨Nat.le_of_eq hG, hAO⟩, Nat.le_of_ble_eq_true rfl, Nat.le_of_ble_eq_true rfl, Nat.le_of_ble_eq_true rfl, Nat.le_of_ble_eq_true rfl⟩, hX, by rw [hG]; exact hbl⟩
theorem q_send {b N : Nat} {xs : Nat → Int32} {l : Launch} {G : kG} {J : kJ} {I : kI} {L : kL} {X : kX} {pc : Nat} {lv : kV} (hW : MachW b N xs l G J) (hd : decode cL_law pc = .ok (.ireturn, 1)) : J 153 I L X pc lv [.int 1] := by
  obtain ⟨p, e, s, m, below, meth, c, rfl, ⟨hx, hb, hr, hml, hown, hts, hX, hbl, hlk, hgv⟩, hK, hG, hAO⟩ := hW
  intro hn H locs ls hz hP hS hl
  refine va_forget (fun q hq => by have := hS.2.2 q hq; omega) ?_
  refine W.widen (k := 600000) (n := 7302250) (Nat.le_of_ble_eq_true rfl) (Nat.le_of_ble_eq_true rfl) ?_
  exact lw_ret hx hb hr hlk hd
/-- what holds between two calls of the law -/
def LI (I : kI) (L : kL) (X : kX) (A : kA) : Prop := RC I L X A ∧ AInv A ∧ QI (aF A)
