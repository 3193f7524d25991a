/-! ===== an array of arrays ===== -/
theorem multi_in (s : State) (c comp : ClassId) (N M : Nat) (dv : Value) : ∀ i, (∀ q, q < s.heap.size → (Jvm.Free.Multi.fill s c comp N M dv i).heap[q]? = s.heap[q]?) ∧ ∀ j, j < i → (Jvm.Free.Multi.fill s c comp N M dv i).heap[s.heap.size + 1 + j]? = some (Jvm.Free.Multi.innerC comp M dv)
  | 0 => ⟨fun q hq => by
      show (s.heap.push _)[q]? = s.heap[q]?
      rw [Array.getElem?_push, if_neg (Nat.ne_of_lt hq)], fun j hj => absurd hj (Nat.not_lt_zero j)⟩
  | i + 1 => by
    obtain ⟨h1, h2⟩ := multi_in s c comp N M dv i
    obtain ⟨f1, f2, f3, f4⟩ := Jvm.Free.Multi.fill_facts s c comp N M dv i
    have e : ∀ q, q ≠ s.heap.size → (Jvm.Free.Multi.fill s c comp N M dv (i + 1)).heap[q]? = ((Jvm.Free.Multi.fill s c comp N M dv i).heap.push (Jvm.Free.Multi.innerC comp M dv))[q]? := fun q hq => heapAt_setCell_ne _ (Ne.symm hq)
    refine ⟨fun q hq => ?_, fun j hj => ?_⟩
    · rw [e q (by omega), Array.getElem?_push, if_neg (by omega)]
      exact h1 q hq
    · rw [e _ (by omega), Array.getElem?_push]
      by_cases hji : j = i
      · subst hji
        rw [if_pos (by omega)]
      · rw [if_neg (by omega)]
        exact h2 j (by omega)
theorem outer_arrV (c : ClassId) (N h0 : Nat) : ∀ i, i ≤ N → Jvm.Free.Multi.outerC c N h0 i = arrV c N (fun j => if j < i then .ref (h0 + 1 + j) else .null)
  | 0, _ => by
    show ({ cls := c, slots := Array.replicate N .null, vm := .none } : Cell) = _
    rw [arrV_new]
    congr 1
  | i + 1, hi => by
    rw [Jvm.Free.Multi.outerC, outer_arrV c N h0 i (by omega), arrV_store]
    congr 1
    funext j
    unfold updV
    by_cases hj : j = i
    · subst hj
      rw [if_pos rfl, if_pos (by omega)]
    · rw [if_neg hj]
      dsimp only
      by_cases h2 : j < i
      · rw [if_pos h2, if_pos (by omega)]
      · rw [if_neg h2, if_neg (by omega)]
section MULTI
variable {l : Launch} {cc : ByteArray} {own : String} {nL D K : Nat} {G : kG} {n0 : Nat} {J : kJ} {n : Nat} {I : kI} {L : kL} {X : kX} {pc : Nat} {lv : kV} {rest : List Value}
/-- the rows of the outer array -/
def mulX (X : kX) (n : Nat) : kX := fun r j => if r = n ∧ j < 20 then some (n + 1 + j) else X r j
theorem wl_pushN {H H1 : Heap} {X' : kX} (hP : va_P G.1 vwCl (wl G n I L X) H) (hX : ∀ r, r < n → X' r = X r) (m : Nat) (o1 : ∀ q, q < H.size → H1[q]? = H[q]?) (he : ∀ r, n ≤ r → r < n + m → va_at G.1 vwCl (ad G r, ce G I L X' r) H1) : va_P G.1 vwCl (wl G (n + m) I L X') H1 := by
  intro k q hk
  obtain ⟨hkn, rfl⟩ := wl_some hk
  by_cases h : k < n
  · rw [ce_row rfl rfl (hX k h)]
    have h0 := hP k _ (wl_get h)
    exact h0.kept (o1 _ h0.lt)
  · exact he k (by omega) hkn
end MULTI
