/-! ===== an array of arrays of ints ===== -/
/-- the heap while the rows are made, i of them -/
def muS (T : State) (cA cI : ClassId) (N M : Nat) : Nat → State
  | 0 => T.pushCell (arrV cA N (fun _ => .null))
  | i + 1 => ((muS T cA cI N M i).pushCell (arrV cI M (fun _ => .int 0))).setCell T.heap.size (arrV cA N (fun j => if j < i + 1 then .ref (T.heap.size + 1 + j) else .null))
def muF (T U : State) (cA cI : ClassId) (N M i : Nat) : Prop :=
  U.heap.size = T.heap.size + 1 + i ∧ U.vm = T.vm ∧ U.slotsUsed = T.slotsUsed + N + i * M ∧ (∀ q, q < T.heap.size → U.heap[q]? = T.heap[q]?) ∧
  U.heap[T.heap.size]? = some (arrV cA N (fun j => if j < i then .ref (T.heap.size + 1 + j) else .null)) ∧ ∀ j, j < i → U.heap[T.heap.size + 1 + j]? = some (arrV cI M (fun _ => .int 0))
theorem mu_up (h0 i : Nat) : updV (fun j => if j < i then Value.ref (h0 + 1 + j) else .null) i (.ref (h0 + 1 + i)) = fun j => if j < i + 1 then Value.ref (h0 + 1 + j) else .null := by
  funext j
  unfold updV
  by_cases hj : j = i
  · subst hj
    rw [if_pos rfl, if_pos (by omega)]
  · rw [if_neg hj]
    dsimp only
    by_cases h2 : j < i
    · rw [if_pos h2, if_pos (by omega)]
    · rw [if_neg h2, if_neg (by omega)]
theorem mu_f (T : State) (cA cI : ClassId) (N M : Nat) : ∀ i, muF T (muS T cA cI N M i) cA cI N M i
  | 0 => by
    refine ⟨by simp [muS], rfl, by simp [muS, arrV_size], fun q hq => ?_, ?_, fun j hj => absurd hj (Nat.not_lt_zero j)⟩
    · show (T.heap.push _)[q]? = T.heap[q]?
      rw [Array.getElem?_push, if_neg (Nat.ne_of_lt hq)]
    · show (T.heap.push _)[T.heap.size]? = _
      rw [Array.getElem?_push, if_pos rfl]
      rfl
  | i + 1 => by
    obtain ⟨f1, f2, f3, f4, f5, f6⟩ := mu_f T cA cI N M i
    have e : ∀ q, q ≠ T.heap.size → (muS T cA cI N M (i + 1)).heap[q]? = ((muS T cA cI N M i).heap.push (arrV cI M (fun _ => .int 0)))[q]? := fun q hq => heapAt_setCell_ne _ (Ne.symm hq)
    refine ⟨?_, f2, ?_, fun q hq => ?_, ?_, fun j hj => ?_⟩
    · simp [muS, State.setCell, f1]; omega
    · simp [muS, f3, arrV_size, Nat.succ_mul]; omega
    · rw [e q (by omega), Array.getElem?_push, if_neg (by omega)]
      exact f4 q hq
    · exact heapAt_setCell_self _ (by show T.heap.size < ((muS T cA cI N M i).heap.push _).size; rw [Array.size_push]; omega)
    · rw [e _ (by omega), Array.getElem?_push]
      by_cases hji : j = i
      · subst hji
        rw [if_pos (by omega)]
      · rw [if_neg (by omega)]
        exact f6 j (by omega)
theorem mu_top (T : State) (f : JFrame) (cA cI : ClassId) (N M : Nat) : ∀ i, muS (T.setTop f) cA cI N M i = (muS T cA cI N M i).setTop f
  | 0 => rfl
  | i + 1 => by simp only [muS, mu_top T f cA cI N M i, State.heap_setTop, State.pushCell_setTop, State.setCell_setTop]
theorem mu_X {p : Program} {l : Launch} {e : Env} {R : Room} {s : State} {m : MethodId} {args : Array Value} {below : List Frame} {meth : Method} {c : Code} {T : State} {locs : List Loc} {cells slots : Nat} (X : Stand p l e R s m args below meth c T locs cells slots) (cA cI : ClassId) (N M : Nat) :
    ∀ i, Stand p l e R s m args below meth c (muS T cA cI N M i) locs (cells + 1 + i) (slots + N + i * M)
  | 0 => by
    have h := X.pushed (arrV cA N (fun _ => .null))
    rw [arrV_size] at h
    simpa [muS] using h
  | i + 1 => by
    have Xi := mu_X X cA cI N M i
    obtain ⟨f1, f2, f3, f4, f5, f6⟩ := mu_f T cA cI N M i
    have hc : ((muS T cA cI N M i).pushCell (arrV cI M (fun _ => .int 0))).heap[T.heap.size]? = some (arrV cA N (fun j => if j < i then .ref (T.heap.size + 1 + j) else .null)) := by
      show ((muS T cA cI N M i).heap.push _)[T.heap.size]? = _
      rw [Array.getElem?_push, if_neg (by omega)]
      exact f5
    have h := (Xi.pushed (arrV cI M (fun _ => .int 0))).stored hc i (.ref (T.heap.size + 1 + i))
    rw [arrV_size, arrV_store, mu_up] at h
    rw [show slots + N + (i + 1) * M = slots + N + i * M + M by rw [Nat.succ_mul]; omega]
    exact h.dropFresh (J := [⟨T.heap.size, i⟩]) (fun x hx => by rw [List.mem_singleton.mp hx]; exact X.heapGrown)
section MUW
variable {E : CtlPost} {e : Env} {d : Bool} {acts : List Action} {s : State}
theorem mu_row {cI cc : ClassId} {kC : Class} {k : Int32} (hkC : s.vm.classes[cI]? = some kC) (hkind : kC.kind = .array cc .int) (hk : ¬ k < 0) (h1 : ¬ k.toNatClampNeg > e.platform.arrayLengthLimit) (h2 : ¬ k.toNatClampNeg * componentBytes .int > e.platform.maxHeapBytes) (h3 : s.heap.size < e.platform.maxCells) (h4 : s.slotsUsed + k.toNatClampNeg ≤ e.platform.maxSlots)
    {Q : Addr → Pre} (hq : ∀ acts', Q s.heap.size d acts' (s.pushCell (arrV cI k.toNatClampNeg (fun _ => .int 0)))) : wp (Jvm.Op.multianewarray.make cI [k]) Q E e d acts s := by
  rw [Jvm.Op.multianewarray.make]
  simp only [wp_bind', W.ite, hk, if_false, wp_pure', W.theClass, hkC, hkind, Option.some.injEq, exists_eq_left']
  refine W.newArray_of hkC hkind h1 h2 h3 h4 rfl (fun acts' => ?_)
  have h9 := hq acts'
  rw [← arrV_new] at h9
  exact h9
theorem mu_make {cA cI cc : ClassId} {kA kC : Class} {n k : Int32} (hkA : s.vm.classes[cA]? = some kA) (hkindA : kA.kind = .array cI (.array .int)) (hkC : s.vm.classes[cI]? = some kC) (hkind : kC.kind = .array cc .int) (hn : ¬ n < 0) (hk : ¬ k < 0)
    (g1 : ¬ n.toNatClampNeg > e.platform.arrayLengthLimit) (g2 : ¬ n.toNatClampNeg * componentBytes (.array .int) > e.platform.maxHeapBytes) (h1 : ¬ k.toNatClampNeg > e.platform.arrayLengthLimit) (h2 : ¬ k.toNatClampNeg * componentBytes .int > e.platform.maxHeapBytes)
    (h3 : s.heap.size + 1 + n.toNatClampNeg ≤ e.platform.maxCells) (h4 : s.slotsUsed + n.toNatClampNeg + n.toNatClampNeg * k.toNatClampNeg ≤ e.platform.maxSlots)
    {Q : Addr → Pre} (hq : ∀ d' acts', Q s.heap.size d' acts' (muS s cA cI n.toNatClampNeg k.toNatClampNeg n.toNatClampNeg)) : wp (Jvm.Op.multianewarray.make cA [n, k]) Q E e d acts s := by
  have hf : ([k].find? (· < 0)) = none := by simp [hk]
  generalize hN : n.toNatClampNeg = N at g1 g2 h3 h4 hq
  generalize hM : k.toNatClampNeg = M at h1 h2 h4 hq
  rw [Jvm.Op.multianewarray.make]
  simp only [wp_bind', W.ite, hn, if_false, wp_pure', W.theClass, hkA, hkindA, Option.some.injEq, exists_eq_left', hN]
  refine W.newArray_of hkA hkindA g1 g2 (by omega) (by have := Nat.zero_le (N * M); omega) rfl (fun acts1 => ?_)
  simp only [hf]
  rw [ite_self, wp_bind', Std.Legacy.Range.forIn_eq_forIn_range']
  rw [show ([:N] : Std.Legacy.Range).size = N by simp [Std.Legacy.Range.size]]
  show wp (forIn (List.range' 0 N 1) PUnit.unit _) _ E e d acts1 _
  have e0 : ∀ i, i < N → List.range' i (N - i) = i :: List.range' (i + 1) (N - (i + 1)) := fun i hi => by
    rw [show N - i = (N - (i + 1)) + 1 by omega, List.range'_succ]
  refine wp_forIn_inv (fun rest s' => ∃ i, i ≤ N ∧ rest = List.range' i (N - i) ∧ s' = muS s cA cI N M i) _ _ ⟨0, Nat.zero_le _, rfl, ?_⟩ ?_ ?_
  · show s.pushCell _ = s.pushCell _
    rw [← arrV_new]
  · rintro x rest s' d' acts' Q' ⟨i, hi, hl, rfl⟩ hnext
    have hlt : i < N := by
      rcases Nat.lt_or_ge i N with h | h
      · exact h
      · rw [show N - i = 0 by omega] at hl; simp at hl
    rw [e0 i hlt] at hl
    obtain ⟨rfl, rfl⟩ : x = i ∧ rest = List.range' (i + 1) (N - (i + 1)) := ⟨(List.cons.inj hl).1, (List.cons.inj hl).2⟩
    obtain ⟨f1, f2, f3, f4, f5, f6⟩ := mu_f s cA cI N M x
    have hmul : x * M + M ≤ N * M := by
      have := Nat.mul_le_mul_right M (show x + 1 ≤ N from hlt)
      rw [Nat.succ_mul] at this; exact this
    simp only [wp_bind']
    refine mu_row (by rw [f2]; exact hkC) hkind hk (by rw [hM]; exact h1) (by rw [hM]; exact h2) (by rw [f1]; omega) (by rw [f3, hM]; omega) (fun acts2 => ?_)
    rw [hM]
    have hc : ((muS s cA cI N M x).pushCell (arrV cI M (fun _ => .int 0))).heap[s.heap.size]? = some (arrV cA N (fun j => if j < x then .ref (s.heap.size + 1 + j) else .null)) := by
      show ((muS s cA cI N M x).heap.push _)[s.heap.size]? = _
      rw [Array.getElem?_push, if_neg (by omega)]
      exact f5
    simp only [wp_bind', W.writeLoc, wp_pure']
    refine ⟨_, hc, by simp [arrV], by rw [arrV_size]; exact hlt, ?_, hnext _ _ _ ⟨x + 1, hlt, rfl, ?_⟩⟩
    · have hvm : ((muS s cA cI N M x).pushCell (arrV cI M (fun _ => .int 0))).vm.classes[cA]? = some kA := by
        show (muS s cA cI N M x).vm.classes[cA]? = some kA
        rw [f2]; exact hkA
      simp [State.fitsSlot, State.slotType?, arrV, f2, hkA, hkindA, fits]
    · rw [f1, arrV_store, mu_up]
      rfl
  · rintro s' d' acts' ⟨i, hi, hl, rfl⟩
    have hiN : i = N := by
      rcases Nat.lt_or_ge i N with h | h
      · rw [e0 i h] at hl; cases hl
      · omega
    subst hiN
    simp only [wp_pure']
    exact hq _ _
end MUW
theorem mu_W {p : Program} {l : Launch} {e : Env} {R : Room} {s : State} {m : MethodId} {args : Array Value} {below : List Frame} {meth : Method} {c : Code} {H : Heap} {locs : List Loc} {cells slots : Nat} {Q : State → Prop} {cc : ByteArray} (hexec : p.tables.exec = Jvm.exec) (hb : c.code = cc) {own : String} {index : Nat} (hown : s.vm.findClass own = some m.cls) (hclink : (Cond.classLink own index "[[I").before args s = true) (hover : aoA .int s) (harr : (Cond.arrayClass .int).before args s = true)
    {g : JFrame} (hg : g.method = m) (hdg : decode cc g.pc = .ok (.multianewarray index 2, 4)) {n k : Int32} {rest : List Value} (hstack : g.stack = .int k :: .int n :: rest) (hn : ¬ n < 0) (hk : ¬ k < 0) {N M : Nat} (hN : n.toNatClampNeg = N) (hM : k.toNatClampNeg = M) (hN9 : N ≤ 1000) (hM9 : M ≤ 1000) (hcells : cells + (1 + N) ≤ R.cells) (hslots : slots + (N + N * M) ≤ R.slots)
    (kk : ∀ (cA cI : ClassId) (H1 : Heap), s.vm.findClass "[[I" = some cA → s.vm.findClass "[I" = some cI → H1.size = H.size + 1 + N → (∀ q, q < H.size → H1[q]? = H[q]?) → H1[H.size]? = some (arrV cA N (fun j => if j < N then .ref (H.size + 1 + j) else .null)) → (∀ j, j < N → H1[H.size + 1 + j]? = some (arrV cI M (fun _ => .int 0))) →
      W p l e R s m args below meth c H1 locs (cells + 1 + N) (slots + N + N * M) Q { g with pc := g.pc + 4, stack := .ref H.size :: rest }) : W p l e R s m args below meth c H locs cells slots Q g := by
  intro T hT X
  subst hT; subst hb; subst hg
  have hpl : e.platform.magicAccessors = ({} : Platform).magicAccessors := by rw [X.admits.platform]
  obtain ⟨comp, cA, kA, hcomp, hidx, hkA, hkindA, hnameA⟩ := arrayOverA_spec hover
  obtain ⟨comp', kC, cc, hcomp', hkC, hkindC⟩ := Cond.arrayClass_spec harr
  cases Option.some.inj (hcomp'.symm.trans hcomp)
  have hs1 : (FieldType.array .int).toString = "[I" := by decide +kernel
  have hs2 : "[" ++ (FieldType.array .int).toString = "[[I" := by decide +kernel
  rw [hs2] at hnameA
  rw [hs1] at hcomp
  obtain ⟨c0, hfc0, hcl⟩ := Cond.classLink_spec hown hclink e.platform hpl
  cases Option.some.inj (hnameA.symm.trans hfc0)
  obtain ⟨hg₁, hwarm₁, hready₁⟩ := State.classEntry (e := e) X.warmed hcl
  generalize T.vm.noted g.method.cls index (.cls cA) = vm₁ at hg₁ hwarm₁ hready₁
  have hal : s.vm.Alike vm₁ := hwarm₁.alike
  obtain ⟨kA₁, hkA₁, heA⟩ := hal.2.2 _ _ hkA
  obtain ⟨kC₁, hkC₁, heC⟩ := hal.2.2 _ _ hkC
  have hkindA₁ : kA₁.kind = .array comp (.array .int) := by rw [heA]; exact hkindA
  have hkindC₁ : kC₁.kind = .array cc .int := by rw [heC]; exact hkindC
  have X₁ := X.noted hwarm₁
  obtain ⟨hr1, hr2⟩ := X.roomAbove hcells hslots
  have XF := mu_X X₁ cA comp N M N
  obtain ⟨f1, f2, f3, f4, f5, f6⟩ := mu_f (T.setVm vm₁) cA comp N M N
  obtain ⟨t, a1, b1⟩ := kk cA comp (muS (T.setVm vm₁) cA comp N M N).heap hnameA hcomp f1 f4 f5 f6 (muS (T.setVm vm₁) cA comp N M N) rfl XF
  refine ⟨t, ?_, b1⟩
  have hl1 : ¬ n.toNatClampNeg > e.platform.arrayLengthLimit := by rw [Launch.admits_arrayLengthLimit X.admits]; omega
  have hh1 : ¬ n.toNatClampNeg * componentBytes (.array .int) > e.platform.maxHeapBytes := by
    rw [Launch.admits_maxHeapBytes X.admits]; show ¬ n.toNatClampNeg * 4 > 536870912; omega
  have hl2 : ¬ k.toNatClampNeg > e.platform.arrayLengthLimit := by rw [Launch.admits_arrayLengthLimit X.admits]; omega
  have hh2 : ¬ k.toNatClampNeg * componentBytes .int > e.platform.maxHeapBytes := by
    rw [Launch.admits_maxHeapBytes X.admits]; show ¬ k.toNatClampNeg * 4 > 536870912; omega
  jvm_step X.here [hexec, hdg]
  simp only [Jvm.Op.multianewarray.sem, wp_bind', W.resolveClassAt_links (State.method?_setTop g X.here.top) hg₁]
  rw [W.popN, if_neg (by decide)]
  refine ⟨g, State.topJava?_setTop' (s := T.setVm vm₁) g X.here.top, [.int n, .int k], rest, rfl, hstack, ?_⟩
  simp only [List.mapM_cons, List.mapM_nil, wp_bind', wp_pure']
  refine mu_make (kA := kA₁) (kC := kC₁) (cI := comp) (cc := cc) hkA₁ hkindA₁ hkC₁ hkindC₁ hn hk hl1 hh1 hl2 hh2 (by rw [hN]; show T.heap.size + 1 + _ ≤ _; omega) (by rw [hN, hM]; show T.slotsUsed + _ + _ ≤ _; omega) (fun d' acts' => ?_)
  rw [hN, hM]
  have eS : ((T.setTop g).setVm vm₁).setTop { g with stack := rest } = (T.setVm vm₁).setTop { g with stack := rest } := by
    show ((T.setVm vm₁).setTop g).setTop _ = _
    rw [State.setTop_setTop]
  rw [eS, mu_top]
  simp only [wp_bind', W.mark, W.pushRef, State.topJava?_setTop' _ XF.here.top, Option.some.injEq, exists_eq_left', State.setTop_setTop, State.heap_setTop]
  intro acts
  simp [jvm, XF.here.top]
  exact a1
section MULTI
variable {l : Launch} {cc : ByteArray} {own : String} {nL D K : Nat} {G : kG} {n0 : Nat} {J : kJ} {n : Nat} {I : kI} {L : kL} {X : kX} {pc : Nat} {lv : kV} {rest : List Value}
/-- the rows of the outer array -/
def mulX (X : kX) (n : Nat) : kX := fun r j => if r = n ∧ j < 20 then some (n + 1 + j) else X r j
theorem wl_pushN {H H1 : Heap} {X' : kX} (hP : va_P G.1 vwCl (wl G n I L X) H) (hX : ∀ r, r < n → X' r = X r) (m : Nat) (o1 : ∀ q, q < H.size → H1[q]? = H[q]?) (he : ∀ r, n ≤ r → r < n + m → va_at G.1 vwCl (ad G r, ce G I L X' r) H1) : va_P G.1 vwCl (wl G (n + m) I L X') H1 := by
  intro k q hk
  obtain ⟨hkn, rfl⟩ := wl_some hk
  by_cases h : k < n
  · rw [ce_row rfl rfl (hX k h)]
    have h0 := hP k _ (wl_get h)
    exact h0.kept (o1 _ h0.lt)
  · exact he k (by omega) hkn
theorem at_outer {H1 : Heap} {N : Nat} (hk : kd n = 11) (hkl : kl n = N) (h1 : H1[ad G n]? = some (arrV (G.2.2 3) N (fun j => if j < N then .ref (ad G n + 1 + j) else .null))) (hX : ∀ j, X n j = if j < N then some (n + 1 + j) else none) : va_at G.1 vwCl (ad G n, ce G I L X n) H1 := by
  rw [ce_ref (by omega), hk, hkl]
  show H1[ad G n]? = some (vp_cell _ _)
  rw [h1, vp_cell_q]
  refine congrArg some (congrArg (arrV _ N) (funext fun j => ?_))
  rw [hX j]
  by_cases hj : j < N
  · rw [if_pos hj, if_pos hj]
    show Value.ref (ad G n + 1 + j) = Value.ref (ad G (n + 1 + j))
    rw [show ad G n + 1 + j = ad G (n + 1 + j) by unfold ad; omega]
  · rw [if_neg hj, if_neg hj]
    rfl
theorem at_row {H1 : Heap} {M : Nat} (hk : kd n = 8) (hkl : kl n = M) (h1 : H1[ad G n]? = some (arrV (G.2.2 0) M (fun _ => .int 0))) (hI : ∀ j, I n j = 0) : va_at G.1 vwCl (ad G n, ce G I L X n) H1 := by
  rw [ce_int hk, hkl]
  show H1[ad G n]? = some (vp_cell _ _)
  rw [h1, vp_cell_i]
  refine congrArg some (congrArg (arrV _ M) (funext fun j => ?_))
  rw [hI j]
theorem q_multi (hM : Mach l cc own nL D K G n0 J) {idx : Nat} (kl9 : Cond.classLink own idx "[[I" ∈ TB) (hk : kd n = 11) (hkl : kl n = 20) (hks : ∀ i, i < 20 → kd (n + 1 + i) = 8 ∧ kl (n + 1 + i) = 4) (hz0 : ∀ r, n ≤ r → Zr I L X r) (hKc : n + 20 < n0 + K) (hd : decode cc pc = .ok (.multianewarray idx 2, 4)) (kk : J (n + 21) I L (mulX X n) (pc + 4) lv (.ref (ad G n) :: rest)) : J n I L X pc lv (.int 4 :: .int 20 :: rest) := by
  obtain ⟨p, e, Rm, s, m, args, below, meth, c, H0, Q, rfl, hx, hb, hml, hown, hT, hK, hbs, hR⟩ := hM
  obtain ⟨r1, r2, r3, r4⟩ := hR
  intro hn H locs ls hz hP hS hl
  have hs : H.size = ad G n := by rw [hz]; rfl
  refine mu_W (n := 20) (k := 4) (N := 20) (M := 4) (rest := rest) hx hb hown (hT _ (inT_TB kl9)) hbs.2.2.2 (hT _ (inT_TB ac_int)) rfl hd rfl (by decide) (by decide) (by decide) (by decide) (by decide) (by decide) (by omega) (by omega) fun cA cI H1 hA hC z1 o1 u1 u2 => ?_
  obtain rfl : cA = G.2.2 3 := Option.some.inj (hA.symm.trans (hK.2 3 _ rfl).2)
  obtain rfl : cI = G.2.2 0 := Option.some.inj (hC.symm.trans (hK.2 0 _ rfl).2)
  rw [hs] at u1
  have K9 := kk (by omega) H1 locs ls (by rw [z1, hs]; unfold ad; omega) (wl_pushN hP (fun r hr => by funext j; unfold mulX; rw [if_neg (by omega)]) 21 o1 (fun r h1 h2 => ?_)) ⟨Nat.le_trans hS.1 (by omega), fun x h1 h2 => (o1 x (Nat.lt_of_lt_of_le h1 hS.1)).trans (hS.2.1 x h1 h2), hS.2.2⟩ hl
  · rw [hs]
    exact W.widen (k := n + 21 - n0) (n := 800 * (n + 21 - n0)) (by omega) (by omega) K9
  · by_cases hr : r = n
    · subst hr
      refine at_outer hk hkl u1 (fun j => ?_)
      unfold mulX
      by_cases hj : j < 20
      · rw [if_pos ⟨rfl, hj⟩, if_pos hj]
      · rw [if_neg (fun q => hj q.2), if_neg hj]
        exact (hz0 r (Nat.le_refl _) j).2.2
    · obtain ⟨i, hi, rfl⟩ : ∃ i, i < 20 ∧ r = n + 1 + i := ⟨r - n - 1, by omega, by omega⟩
      have g3 := u2 i hi
      rw [hs, show ad G n + 1 + i = ad G (n + 1 + i) by unfold ad; omega] at g3
      exact at_row (hks i hi).1 (hks i hi).2 g3 (fun j => (hz0 (n + 1 + i) (by omega) j).1)
end MULTI
