/-! ===== an array of arrays ===== -/
theorem multi_in (s : State) (c comp : ClassId) (N M : Nat) (dv : Value) : ∀ i, (∀ q, q < s.heap.size → (Jvm.Free.Multi.fill s c comp N M dv i).heap[q]? = s.heap[q]?) ∧ ∀ j, j < i → (Jvm.Free.Multi.fill s c comp N M dv i).heap[s.heap.size + 1 + j]? = some (Jvm.Free.Multi.innerC comp M dv)
  | 0 => ⟨fun q hq => by
      show (s.heap.push _)[q]? = s.heap[q]?
      rw [Array.getElem?_push, if_neg (Nat.ne_of_lt hq)], fun j hj => absurd hj (Nat.not_lt_zero j)⟩
  | i + 1 => by
    obtain ⟨h1, h2⟩ := multi_in s c comp N M dv i
    obtain ⟨f1, f2, f3, f4⟩ := Jvm.Free.Multi.fill_facts s c comp N M dv i
    have e : ∀ q, q ≠ s.heap.size → (Jvm.Free.Multi.fill s c comp N M dv (i + 1)).heap[q]? = ((Jvm.Free.Multi.fill s c comp N M dv i).heap.push (Jvm.Free.Multi.innerC comp M dv))[q]? := fun q hq => heapAt_setCell_ne _ (Ne.symm hq)
    refine ⟨fun q hq => ?_, fun j hj => ?_⟩
    · rw [e q (by omega), Array.getElem?_push, if_neg (by omega)]
      exact h1 q hq
    · rw [e _ (by omega), Array.getElem?_push]
      by_cases hji : j = i
      · subst hji
        rw [if_pos (by omega)]
      · rw [if_neg (by omega)]
        exact h2 j (by omega)
