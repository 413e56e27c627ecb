/-! THE START: what holds of it -/
def og00 : Og := fun k => if k < 6 then sg00 else fun _ _ => 0
theorem inv_n0 : InvN sg00 0 0 0 0 0 (24 * 0) (fun _ => 0) := by
  refine ⟨⟨rfl, rfl, rfl, rfl, rfl, by decide, by decide, by decide, by decide, by decide⟩, fun m hm => absurd hm (Nat.not_lt_zero _), fun a b ha => absurd ha (Nat.not_lt_zero _), fun p _ => ⟨0, 0, 0, rfl, rfl, rfl, by decide, by decide, by decide, by decide⟩, fun v _ => ⟨0, 0, 0, rfl, rfl, rfl, by decide, by decide, Nat.le_refl _, Nat.le_refl _, fun _ => rfl, fun h => absurd h (Nat.not_lt_zero _)⟩, ⟨⟨4, by decide, by decide, by decide +kernel⟩, ⟨3, by decide, by decide, by decide +kernel⟩, ⟨24, by decide, by decide, by decide +kernel⟩, ⟨1, by decide, by decide, by decide +kernel⟩⟩, fun l _ _ => ⟨rfl, rfl⟩, by decide +kernel, by decide +kernel⟩
theorem inv_sg : InvS sg00 := ⟨0, 0, 0, 0, 0, inv_n0⟩
theorem inv00 : InvO og00 := by
  refine ⟨⟨fun i => by show narrow .char (.int 0) = .int 0; decide, by decide, by decide, by decide, by decide⟩, fun k hk _ => ?_, 0, by decide, rfl⟩
  have e : og00 k = sg00 := if_pos hk
  rw [e]
  exact inv_sg
