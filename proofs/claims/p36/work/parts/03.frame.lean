/-! ===== the words that hold everywhere ===== -/
def isNest : Cond → Bool
  | .fieldLinkNest .. => true
  | .methodLinkNest .. => true
  | _ => false
def InT (w : Cond) : Prop := w ∈ lw_tbl ∧ (goodWord w || isNest w) = true
def TB : List Cond := lw_tbl.filter goodWord
def NwT (w : Cond) : Prop := w ∈ lw_tbl ∧ isNest w = true
theorem inT_of (i : Nat) {w : Cond} (h : lw_tbl[i]? = some w) (hg : (goodWord w || isNest w) = true) : InT w := ⟨List.mem_of_getElem? h, hg⟩
theorem inTB_of (i : Nat) {w : Cond} (h : lw_tbl[i]? = some w) (hg : goodWord w = true) : w ∈ TB := List.mem_filter.mpr ⟨List.mem_of_getElem? h, hg⟩
theorem inT_TB {w : Cond} (h : w ∈ TB) : InT w := ⟨(List.mem_filter.mp h).1, by rw [(List.mem_filter.mp h).2]; rfl⟩
theorem good_TB {w : Cond} (h : w ∈ TB) : w ∈ TB ∧ ((w.onTables && w.keeps) = true ∨ ∃ ty, w = .arrayClass ty) := ⟨h, good_of_word (List.mem_filter.mp h).2⟩
theorem goodIn_TB {ws : List Cond} (h : ∀ w ∈ ws, w ∈ TB) : GoodIn TB ws := fun w hw => good_TB (h w hw)
theorem nest_tab {w : Cond} (h : isNest w = true) : w.onTables = true := by
  cases w <;> first | rfl | (simp [isNest] at h)
theorem nest_warm {w : Cond} (h : isNest w = true) {s U : State} (hW : s.WarmedH U.vm) (hZ : va_Nw w s) : va_Nw w U := by
  cases w <;> first | (simp [isNest] at h; done) | exact va_Nw.warmF hW hZ | exact va_Nw.warmM hW hZ
theorem idx_alike {u U : Vm} (h : u.Alike U) {q : Class → Bool} (hq : ∀ x y : Class, x.kind = y.kind → q x = q y) : U.classes.findIdx? q = u.classes.findIdx? q := by
  have hf : ∀ v : Vm, v.classes.findIdx? q = v.bare.classes.findIdx? q := by
    intro v
    show _ = (v.classes.map Class.bare).findIdx? q
    rw [Array.findIdx?_map]
    congr 1
    funext x
    exact hq _ _ rfl
  rw [hf U, hf u, h.bare_eq]
def aoA (t : FieldType) (U : State) : Prop := (Cond.arrayOver (.array t)).before #[] U = true
theorem aoA.moved {t : FieldType} {u U : State} (hvm : u.vm.Alike U.vm) (h : aoA t u) : aoA t U := by
  unfold aoA Cond.before Cond.holds at h ⊢
  simp only [Cond.value, beq_iff_eq] at h ⊢
  rw [hvm.findClass]
  cases hc : u.vm.findClass (FieldType.array t).toString with
  | none => rw [hc] at h; simp at h
  | some comp =>
    rw [hc] at h
    simp only [Option.bind_some, Option.bind_eq_some_iff, Option.map_eq_some_iff] at h ⊢
    obtain ⟨c, hi, k, hk, hb⟩ := h
    obtain ⟨k', hk', he⟩ := hvm.2.2 _ _ hk
    refine ⟨c, (idx_alike hvm (fun x y hxy => by simp only [hxy])).trans hi, k', hk', ?_⟩
    have hkind : k'.kind = k.kind := by rw [he]
    rw [hkind, hvm.findClass]
    exact hb
def kAO (U : State) : Prop := va_AO RX5 U ∧ va_AO RX1 U ∧ aoA .int U
theorem kAO.moved {u U : State} (hvm : u.vm.Alike U.vm) (h : kAO u) : kAO U := ⟨h.1.moved hvm, h.2.1.moved hvm, h.2.2.moved hvm⟩
/-! ===== the geometry: roles ===== -/
abbrev kG : Type := va_G × Nat × (Nat → ClassId)
abbrev kI : Type := Nat → Nat → Int32
abbrev kL : Type := Nat → Nat → Int64
abbrev kX : Type := Nat → Nat → Option Nat
abbrev kV : Type := List (Option Value)
def ad (G : kG) (r : Nat) : Nat := G.2.1 + r
def rfv (G : kG) (o : Option Nat) : Value := va_rf (o.map (ad G))
def kdP (j : Nat) : Nat := if j = 0 then 1 else if j < 3 then 8 else if j = 3 then 12 else 5
def klP (j : Nat) : Nat := if j = 1 then 3 else if j = 2 then 8 else 16
def kd (r : Nat) : Nat :=
  if r = 0 then 6 else if r < 21 then kdP (r - 1) else if r = 21 then 0 else if r = 22 then 13 else if r < 123 then kdP ((r - 23) % 20)
  else if r = 123 then 3 else if r < 126 then 8 else if r = 126 then 9 else if r = 127 then 4 else if r = 128 then 8 else if r = 129 then 10
  else if r = 130 then 2 else if r = 131 then 8 else if r = 132 then 11 else if r < 153 then 8 else if r = 153 then 7 else if r = 154 then 8
  else if r = 155 then 9 else if r = 156 then 10 else 8
def kl (r : Nat) : Nat :=
  if r < 21 then klP (r - 1) else if r = 22 then 5 else if r < 123 then klP ((r - 23) % 20) else if r < 131 then 16 else if r = 131 then 100
  else if r = 132 then 20 else if r < 153 then 4 else if r = 154 then 786 else if r = 155 then 96 else if r < 158 then 16 else 100
/-- number of fields of a class -/
def nf (c : Nat) : Nat := match c with | 0 => 2 | 1 => 11 | 2 => 5 | 3 => 4 | 4 => 4 | 5 => 8 | 6 => 5 | _ => 13
/-- kind of a field: 0 int, 1 long, 2 reference -/
def fk (c j : Nat) : Nat := match c with
  | 0 => if j = 0 then 2 else 0
  | 1 => if j < 3 then 2 else 0
  | 2 => if j < 2 then 2 else 0
  | 3 => if j < 3 then 2 else 0
  | 4 => if j < 2 then 2 else 0
  | 5 => if j = 7 then 1 else 0
  | 6 => 2
  | _ => if j < 2 then 2 else if j = 2 then 0 else if j < 5 then 2 else if j < 7 then 0 else if j = 7 then 2 else if j < 12 then 0 else 1
def fv (G : kG) (I : kI) (L : kL) (X : kX) (c r j : Nat) : Value := match fk c j with | 0 => .int (I r j) | 1 => .long (L r j) | _ => rfv G (X r j)
def flds (G : kG) (I : kI) (L : kL) (X : kX) (c r : Nat) : List Value := (List.range (nf c)).map (fv G I L X c r)
def ce (G : kG) (I : kI) (L : kL) (X : kX) (r : Nat) : va_E :=
  if kd r < 8 then .inr (kd r, flds G I L X (kd r) r)
  else if kd r = 8 then .inl (G.2.2 0, kl r, .inl (I r))
  else if kd r = 9 then .inl (G.2.2 1, kl r, .inr (.inl (L r)))
  else if kd r = 10 then .inl (G.2.2 2, kl r, .inl (I r))
  else .inl (G.2.2 (kd r - 8), kl r, .inr (.inr (.inr (.inr (fun j => (X r j).map (ad G))))))
def wl (G : kG) (n : Nat) (I : kI) (L : kL) (X : kX) : va_W := (List.range n).map (fun r => (ad G r, ce G I L X r))
def tys (G : kG) : List (ClassId × FieldType) := [(G.2.2 0, .int), (G.2.2 1, .long), (G.2.2 2, .boolean), (G.2.2 3, .array .int), (G.2.2 4, .object RX5), (G.2.2 5, .object RX1)]
theorem wl_get {G : kG} {n : Nat} {I : kI} {L : kL} {X : kX} {r : Nat} (h : r < n) : (wl G n I L X)[r]? = some (ad G r, ce G I L X r) := by
  simp [wl, h]
theorem wl_some {G : kG} {n : Nat} {I : kI} {L : kL} {X : kX} {r : Nat} {q : Nat × va_E} (h : (wl G n I L X)[r]? = some q) : r < n ∧ q = (ad G r, ce G I L X r) := by
  have hl : r < n := by
    have := (List.getElem?_eq_some_iff.mp h).1
    simpa [wl] using this
  rw [wl_get hl] at h
  exact ⟨hl, (Option.some.inj h).symm⟩
theorem wl_D (G : kG) (n : Nat) (I : kI) (L : kL) (X : kX) : va_D (fun q => G.2.1 ≤ q) (wl G n I L X) := by
  refine ⟨fun i j p q hi hj h => ?_, fun k q hk => ?_⟩
  · obtain ⟨-, rfl⟩ := wl_some hi
    obtain ⟨-, rfl⟩ := wl_some hj
    have h' : ad G i = ad G j := h
    unfold ad at h'
    omega
  · obtain ⟨-, rfl⟩ := wl_some hk
    exact Nat.le_add_right _ _
theorem wl_set {G : kG} {n : Nat} {I I' : kI} {L L' : kL} {X X' : kX} {r : Nat} {e : va_E} (he : ce G I' L' X' r = e) (ho : ∀ q, q ≠ r → ce G I' L' X' q = ce G I L X q) :
    (wl G n I L X).set r (ad G r, e) = wl G n I' L' X' := by
  apply List.ext_getElem?
  intro k
  by_cases hk : k = r
  · subst hk
    by_cases hn : k < n
    · rw [List.getElem?_set_self (by simpa [wl] using hn), wl_get hn, he]
    · rw [List.getElem?_eq_none (by simpa [wl] using hn), List.getElem?_eq_none (by simpa [wl] using hn)]
  · rw [List.getElem?_set_ne (Ne.symm hk)]
    by_cases hn : k < n
    · rw [wl_get hn, wl_get hn, ho k hk]
    · rw [List.getElem?_eq_none (by simpa [wl] using hn), List.getElem?_eq_none (by simpa [wl] using hn)]
/-! updates -/
def up2 {α : Type} (f : Nat → Nat → α) (r j : Nat) (v : α) : Nat → Nat → α := fun a b => if a = r ∧ b = j then v else f a b
theorem up2_self {α : Type} (f : Nat → Nat → α) (r j : Nat) (v : α) : up2 f r j v r j = v := by simp [up2]
theorem up2_ne {α : Type} {f : Nat → Nat → α} {r j a b : Nat} {v : α} (h : a ≠ r ∨ b ≠ j) : up2 f r j v a b = f a b := by
  unfold up2
  rw [if_neg]
  omega
theorem up2_row {α : Type} {f : Nat → Nat → α} {r j a : Nat} {v : α} (h : a ≠ r) : up2 f r j v a = f a := by
  funext b
  exact up2_ne (Or.inl h)
theorem up2_same {α : Type} (f : Nat → Nat → α) (r j : Nat) (v : α) : up2 f r j v r = va_up (f r) j v := by
  funext b
  simp [up2, va_up]
theorem ce_row {G : kG} {I I' : kI} {L L' : kL} {X X' : kX} {q : Nat} (h1 : I' q = I q) (h2 : L' q = L q) (h3 : X' q = X q) : ce G I' L' X' q = ce G I L X q := by
  unfold ce flds fv
  rw [h1, h2, h3]
theorem ce_obj {G : kG} {I : kI} {L : kL} {X : kX} {r c : Nat} (h : kd r = c) (hc : c < 8) : ce G I L X r = .inr (c, flds G I L X c r) := by
  unfold ce
  rw [if_pos (by omega), h]
theorem ce_int {G : kG} {I : kI} {L : kL} {X : kX} {r : Nat} (h : kd r = 8) : ce G I L X r = .inl (G.2.2 0, kl r, .inl (I r)) := by simp [ce, h]
theorem ce_long {G : kG} {I : kI} {L : kL} {X : kX} {r : Nat} (h : kd r = 9) : ce G I L X r = .inl (G.2.2 1, kl r, .inr (.inl (L r))) := by simp [ce, h]
theorem ce_bool {G : kG} {I : kI} {L : kL} {X : kX} {r : Nat} (h : kd r = 10) : ce G I L X r = .inl (G.2.2 2, kl r, .inl (I r)) := by simp [ce, h]
theorem ce_ref {G : kG} {I : kI} {L : kL} {X : kX} {r : Nat} (h : 11 ≤ kd r) : ce G I L X r = .inl (G.2.2 (kd r - 8), kl r, .inr (.inr (.inr (.inr (fun j => (X r j).map (ad G)))))) := by
  unfold ce
  rw [if_neg (by omega), if_neg (by omega), if_neg (by omega), if_neg (by omega)]
theorem flds_get {G : kG} {I : kI} {L : kL} {X : kX} {c r j : Nat} (h : j < nf c) : (flds G I L X c r)[j]? = some (fv G I L X c r j) := by simp [flds, h]
theorem flds_len (G : kG) (I : kI) (L : kL) (X : kX) (c r : Nat) : (flds G I L X c r).length = nf c := by simp [flds]
theorem flds_set {G : kG} {I I' : kI} {L L' : kL} {X X' : kX} {c r j : Nat} {v : Value} (hv : fv G I' L' X' c r j = v) (ho : ∀ k, k ≠ j → fv G I' L' X' c r k = fv G I L X c r k) : (flds G I L X c r).set j v = flds G I' L' X' c r := by
  apply List.ext_getElem?
  intro k
  by_cases hk : k = j
  · subst hk
    by_cases hn : k < nf c
    · rw [List.getElem?_set_self (by rw [flds_len]; exact hn), flds_get hn, hv]
    · rw [List.getElem?_eq_none (by rw [List.length_set, flds_len]; omega), List.getElem?_eq_none (by rw [flds_len]; omega)]
  · rw [List.getElem?_set_ne (Ne.symm hk)]
    by_cases hn : k < nf c
    · rw [flds_get hn, flds_get hn, ho k hk]
    · rw [List.getElem?_eq_none (by rw [flds_len]; omega), List.getElem?_eq_none (by rw [flds_len]; omega)]
/-! ===== locals ===== -/
def lvO (ls : Array Slot) (nL : Nat) (lv : kV) : Prop := ls.size = nL ∧ lv_wf ls ∧ ∀ (i : Nat) (v : Value), lv[i]? = some (some v) → ls[i]? = some (.val v)
def lvL (lv : kV) : List (Nat × Value) := (List.range lv.length).filterMap (fun i => (lv.getD i none).map (fun v => (i, v)))
theorem lvL_mem {lv : kV} {i : Nat} {v : Value} : (i, v) ∈ lvL lv ↔ lv[i]? = some (some v) := by
  unfold lvL
  rw [List.mem_filterMap]
  constructor
  · rintro ⟨a, ha, h⟩
    rw [Option.map_eq_some_iff] at h
    obtain ⟨w, hw, he⟩ := h
    cases he
    rw [List.mem_range] at ha
    rw [List.getD_eq_getElem?_getD, List.getElem?_eq_getElem ha, Option.getD_some] at hw
    rw [List.getElem?_eq_getElem ha, hw]
  · intro h
    have hl := (List.getElem?_eq_some_iff.mp h).1
    refine ⟨i, List.mem_range.mpr hl, ?_⟩
    rw [List.getD_eq_getElem?_getD, h]
    rfl
theorem lvO.has {ls : Array Slot} {nL : Nat} {lv : kV} (h : lvO ls nL lv) : lv_has ls nL (lvL lv) := ⟨h.1, h.2.1, fun q hq => h.2.2 q.1 q.2 (lvL_mem.mp hq)⟩
def oc1 : Option Value → Bool
  | none => true
  | some v => v.category == 1
/-- one slot: what is held behind a store of a value of one slot at i -/
theorem lvO.of1 {ls' : Array Slot} {nL i : Nat} {lv : kV} {v : Value} (h : lv_has ls' nL ((i, v) :: (lvL lv).filter (fun q => !(q.1 == i) && !(q.1 + 1 == i && q.2.category == 2)))) (hp : i ≠ 0 → oc1 (lv.getD (i - 1) none) = true) : lvO ls' nL (lv.set i (some v)) := by
  refine ⟨h.1, h.2.1, fun j w hj => ?_⟩
  by_cases hji : j = i
  · subst hji
    have hl : j < lv.length := by have := (List.getElem?_eq_some_iff.mp hj).1; simpa using this
    rw [List.getElem?_set_self hl] at hj
    cases hj
    exact h.2.2 (j, v) List.mem_cons_self
  · rw [List.getElem?_set_ne (Ne.symm hji)] at hj
    refine h.2.2 (j, w) (List.mem_cons_of_mem _ (List.mem_filter.mpr ⟨lvL_mem.mpr hj, ?_⟩))
    by_cases hj1 : j + 1 = i
    · have h2 := hp (by omega)
      rw [show i - 1 = j by omega, List.getD_eq_getElem?_getD, hj] at h2
      have h3 : w.category = 1 := by simpa [oc1] using h2
      simp [hji, h3]
    · simp [hji, hj1]
theorem lvO.sub {ls : Array Slot} {nL : Nat} {lv lv' : kV} (h : lvO ls nL lv) (hs : ∀ (i : Nat) (v : Value), lv'[i]? = some (some v) → lv[i]? = some (some v)) : lvO ls nL lv' := ⟨h.1, h.2.1, fun i v hv => h.2.2 i v (hs i v hv)⟩
/-- the locals at entry -/
def lvI : List Value → kV
  | [] => []
  | v :: vs => if v.category = 2 then some v :: none :: lvI vs else some v :: lvI vs
theorem lvI_args : ∀ (vs : List Value) (k i : Nat) (v : Value), (lvI vs)[i]? = some (some v) → (k + i, v) ∈ lv_args k vs
  | [], k, i, v, h => by simp [lvI] at h
  | a :: vs, k, i, v, h => by
    unfold lvI at h
    unfold lv_args
    by_cases hc : a.category = 2
    · rw [if_pos hc] at h
      rw [if_pos hc]
      match i, h with
      | 0, h => cases h; exact List.mem_cons_self
      | 1, h => cases h
      | i + 2, h =>
        rw [List.getElem?_cons_succ, List.getElem?_cons_succ] at h
        have := lvI_args vs (k + 2) i v h
        rw [show k + 2 + i = k + (i + 2) by omega] at this
        exact List.mem_cons_of_mem _ this
    · rw [if_neg hc] at h
      rw [if_neg hc]
      match i, h with
      | 0, h => cases h; exact List.mem_cons_self
      | i + 1, h =>
        rw [List.getElem?_cons_succ] at h
        have := lvI_args vs (k + 1) i v h
        rw [show k + 1 + i = k + (i + 1) by omega] at this
        exact List.mem_cons_of_mem _ this
theorem lvO_entry (vs : List Value) {nL m : Nat} (h : (lg_sl vs).length ≤ nL) : lvO ((lg_sl vs ++ List.replicate (nL - (lg_sl vs).length) Slot.unset).toArray) nL (lvI vs ++ List.replicate m none) := by
  have h0 := lv_entry vs h
  refine ⟨h0.1, h0.2.1, fun i v hv => ?_⟩
  by_cases hl : i < (lvI vs).length
  · rw [List.getElem?_append_left hl] at hv
    have := lvI_args vs 0 i v hv
    rw [Nat.zero_add] at this
    exact h0.2.2 (i, v) this
  · rw [List.getElem?_append_right (by omega)] at hv
    have := List.mem_of_getElem? hv
    rw [List.mem_replicate] at this
    cases this.2
/-! ===== the judgement ===== -/
def kVd (p : Program) (l : Launch) (e : Env) (Rm : Room) (s : State) (m : MethodId) (args : Array Value) (below : List Frame) (meth : Method) (c : Code) (nL : Nat) (G : kG) (H0 : Heap) (Q : State → Prop) (n0 : Nat) :
    Nat → kI → kL → kX → Nat → kV → List Value → Prop := fun n I L X pc lv st => n0 ≤ n → ∀ (H : Heap) (locs : List Loc) (ls : Array Slot), H.size = G.2.1 + n → va_P G.1 vwCl (wl G n I L X) H → va_S (fun q => G.2.1 ≤ q) H0 H locs → lvO ls nL lv →
      W p l e Rm s m args below meth c H locs (n - n0) (800 * (n - n0)) Q (F0 m pc ls st)
abbrev kJ : Type := Nat → kI → kL → kX → Nat → kV → List Value → Prop
def Mach (l : Launch) (cc : ByteArray) (own : String) (nL D K : Nat) (G : kG) (n0 : Nat) (J : kJ) : Prop :=
  ∃ (p : Program) (e : Env) (Rm : Room) (s : State) (m : MethodId) (args : Array Value) (below : List Frame) (meth : Method) (c : Code) (H0 : Heap) (Q : State → Prop),
    J = kVd p l e Rm s m args below meth c nL G H0 Q n0 ∧ p.tables.exec = Jvm.exec ∧ c.code = cc ∧ c.maxLocals = nL ∧ s.vm.findClass own = some m.cls ∧ (∀ w, InT w → w.before args s = true) ∧ va_K G.1 vwCl (tys G) s ∧ (G.2.1 ≤ H0.size ∧ kAO s) ∧
    (D ≤ Rm.frames ∧ 36 * D ≤ Rm.locals ∧ K ≤ Rm.cells ∧ 800 * K ≤ Rm.slots)
def rmd (D k : Nat) : Room := { frames := D, cells := k, slots := 800 * k, locals := 36 * D }
def kW (G : kG) (n : Nat) (I : kI) (L : kL) (X : kX) (U : State) : Prop := U.heap.size = G.2.1 + n ∧ va_P G.1 vwCl (wl G n I L X) U.heap ∧ va_K G.1 vwCl (tys G) U ∧ (∀ w, NwT w → va_Nw w U) ∧ kAO U
abbrev kS : Type := kI × kL × kX
abbrev kF (G : kG) : Nat → Prop := fun q => G.2.1 ≤ q
/-- contracts: int, boolean, long, nothing, reference -/
def Ki (l : Launch) (y : MethodName) (b : ByteArray) (nL D : Nat) (G : kG) (av : List Value) (n n1 : Nat) (I : kI) (L : kL) (X : kX) (post : Int32 → kI → kL → kX → Prop) : Prop :=
  Met l y (.code y b nL (some .int) :: TB) (rmd D (n1 - n)) (va_Pc av (kW G n I L X)) (va_Qi (fun r (u : kS) => post r u.1 u.2.1 u.2.2) (fun u t => kW G n1 u.1 u.2.1 u.2.2 t) (kF G)) (n1 - n) (800 * (n1 - n)) (kF G)
def bI (b : Bool) : Int32 := if b then 1 else 0
def Kz (l : Launch) (y : MethodName) (b : ByteArray) (nL D : Nat) (G : kG) (av : List Value) (n n1 : Nat) (I : kI) (L : kL) (X : kX) (post : Bool → kI → kL → kX → Prop) : Prop :=
  Met l y (.code y b nL (some .boolean) :: TB) (rmd D (n1 - n)) (va_Pc av (kW G n I L X)) (va_Qi (fun r (u : kS) => ∃ z : Bool, r = bI z ∧ post z u.1 u.2.1 u.2.2) (fun u t => kW G n1 u.1 u.2.1 u.2.2 t) (kF G)) (n1 - n) (800 * (n1 - n)) (kF G)
def Kl (l : Launch) (y : MethodName) (b : ByteArray) (nL D : Nat) (G : kG) (av : List Value) (n n1 : Nat) (I : kI) (L : kL) (X : kX) (post : Int64 → kI → kL → kX → Prop) : Prop :=
  Met l y (.code y b nL (some .long) :: TB) (rmd D (n1 - n)) (va_Pc av (kW G n I L X)) (va_Ql (fun r (u : kS) => post r u.1 u.2.1 u.2.2) (fun u t => kW G n1 u.1 u.2.1 u.2.2 t) (kF G)) (n1 - n) (800 * (n1 - n)) (kF G)
def Kv (l : Launch) (y : MethodName) (b : ByteArray) (nL D : Nat) (G : kG) (av : List Value) (n n1 : Nat) (I : kI) (L : kL) (X : kX) (post : kI → kL → kX → Prop) : Prop :=
  Met l y (.code y b nL none :: TB) (rmd D (n1 - n)) (va_Pc av (kW G n I L X)) (va_Qv (fun (u : kS) => post u.1 u.2.1 u.2.2) (fun u t => kW G n1 u.1 u.2.1 u.2.2 t) (kF G)) (n1 - n) (800 * (n1 - n)) (kF G)
def Kq (l : Launch) (y : MethodName) (b : ByteArray) (nL : Nat) (C : String) (D : Nat) (G : kG) (av : List Value) (n n1 : Nat) (I : kI) (L : kL) (X : kX) (post : Option Nat → kI → kL → kX → Prop) : Prop :=
  Met l y (.code y b nL (some (.object C)) :: TB) (rmd D (n1 - n)) (va_Pc av (kW G n I L X)) (va_Qq (fun r (u : kS) => ∃ q : Option Nat, r = q.map (ad G) ∧ post q u.1 u.2.1 u.2.2) (fun u t => kW G n1 u.1 u.2.1 u.2.2 t) (kF G)) (n1 - n) (800 * (n1 - n)) (kF G)
theorem kW_blind {av : List Value} {G : kG} {n : Nat} {I : kI} {L : kL} {X : kX} : FrameBlind (va_Pc av (kW G n I L X)) := by
  intro a U g mk h
  obtain ⟨h1, h2, h3, h4, h5, h6⟩ := h
  exact ⟨h1, h2, h3, va_K.moved (u := U) (U := U.calling g mk a) (Vm.Alike.refl U.vm) h4, fun w hw => va_Nw.same (u := U) (U := U.calling g mk a) (nest_tab hw.2) rfl (h5 w hw), kAO.moved (u := U) (U := U.calling g mk a) (Vm.Alike.refl U.vm) h6⟩
