/-! ===== the reference's constructor ===== -/
/-- a new plant, as numbers -/
def f00 : Fr := fun j => if j = 2 then 24 else if j = 3 then 20 else if j = 4 then 90 else if 8 ≤ j ∧ j < 11 then 10 else 0
def A00 : kA := (fun k => if k = 0 then f00 else fun _ => 0, fun _ _ => 0, 0, fun _ => 0, 0)
theorem f00_inv : PInv f00 := by
  refine ⟨⟨⟨by decide, by decide⟩, ⟨by decide, by decide⟩⟩, ⟨⟨by decide, by decide⟩, ⟨by decide, by decide⟩, ⟨by decide, by decide⟩, ⟨by decide, by decide⟩⟩, fun h hh => ?_, fun i hi => absurd hi (by decide +revert), fun t ht => absurd ht (by decide +revert)⟩
  rcases (show h = 0 ∨ h = 1 ∨ h = 2 by omega) with rfl | rfl | rfl <;> exact ⟨by decide, by decide⟩
theorem A00_inv : AInv A00 := by
  refine ⟨by decide, by decide, fun k hk => ?_⟩
  have hk0 : k = 0 := Nat.le_zero.mp hk
  subst hk0
  exact f00_inv

