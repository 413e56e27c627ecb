/-! THE START: both sides are related -/
def og00 : Og := fun k => if k < 6 then sg00 else fun _ _ => 0
theorem adj0 {k i : Nat} : adj (fun _ => 0) k i = 0 := by
  unfold adj
  split <;> rfl
theorem rr00B : ∀ k, k < 6 → ∀ i, i < 192 → (!dm k i || decide (mu00 0 (tr k i) = sg00 k i)) = true := by decide +kernel
theorem nM00 : nM sg00 = 0 := by decide +kernel
theorem rel00 : RelN sg00 (mu00 0) := by
  refine ⟨fun k i hd => ?_, ?_, ?_, ?_, ?_, ?_, ?_, ?_⟩
  · have h := rr00B k (dm_lt hd).1 i (dm_lt hd).2
    rw [hd] at h
    rw [adj0, Int32.add_zero]
    exact of_decide_eq_true h
  · refine ⟨by decide +kernel, by decide +kernel, by decide +kernel, by decide +kernel, by decide +kernel, by decide +kernel, by decide +kernel⟩
  · refine ⟨by decide +kernel, by decide +kernel, by decide +kernel, by decide +kernel⟩
  · have h : ∀ m, m < 24 → sg00 1 (8 * m + 5) = mu00 0 (52 + 8 * m + 5) := by decide +kernel
    exact fun m hm _ => h m hm
  · exact fun m _ _ => rfl
  · refine ⟨fun l hl => ?_, fun l _ hl => rfl⟩
    rw [nM00]
    exact ⟨by show rg (0 : Int32) 9; decide, by show ((cnt (inL sg00 l) 0 : Nat) : Int) ≤ (0 : Int32).toInt; exact Int.le_refl _⟩
  · intro a b ha
    rw [nM00] at ha
    exact absurd ha (Nat.not_lt_zero _)
  · unfold Cq
    rw [nM00]
    refine ⟨by decide +kernel, by decide +kernel, by decide +kernel⟩
theorem big00 : Big og00 mu00 := by
  have hz : hZn og00 = 0 := rfl
  refine ⟨⟨fun i => by show narrow .char (.int 0) = .int 0; decide, by decide, by decide, by decide, by decide⟩, rel00, ⟨by decide, by decide⟩, rfl, fun i hi => ?_, rfl, fun i _ => rfl⟩
  rw [hz] at hi
  exact absurd hi (Nat.not_lt_zero _)
