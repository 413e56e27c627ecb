/-! THE START: what the tables and the statement say of the machine -/
theorem mem_ps {big : List Cond} (ws : List Cond) (ps : List Nat) (hp : ws = ps.filterMap (fun i => big[i]?)) : ∀ w ∈ ws, w ∈ big := by
  intro w hw
  rw [hp] at hw
  obtain ⟨i, -, h⟩ := List.mem_filterMap.mp hw
  exact List.mem_of_getElem? h
theorem nwF_in : ∀ q ∈ nwF, Cond.fieldLinkNest q.1 q.2.1 q.2.2.1 q.2.2.2.1 q.2.2.2.2 "MealLockers" ∈ lw_tbl := by
  have h := (mem_ps (big := lw_tbl) (nwF.map (fun q => Cond.fieldLinkNest q.1 q.2.1 q.2.2.1 q.2.2.2.1 q.2.2.2.2 "MealLockers")) [63, 73, 74, 76, 77, 79, 80, 82, 83, 86, 88, 89, 174, 177, 179, 181, 530] (by decide +kernel))
  exact fun q hq => h _ (List.mem_map.mpr ⟨q, hq, rfl⟩)
theorem nwM_in : ∀ q ∈ nwM, Cond.methodLinkNest q.1 q.2 yX7_isWithin "MealLockers" ∈ lw_tbl := by
  have h := (mem_ps (big := lw_tbl) (nwM.map (fun q => Cond.methodLinkNest q.1 q.2 yX7_isWithin "MealLockers")) [257, 327, 585, 637] (by decide +kernel))
  exact fun q hq => h _ (List.mem_map.mpr ⟨q, hq, rfl⟩)
theorem nn_tab {args : Array Value} {s : State} (hts0 : ∀ w ∈ lw_tbl, w.before args s = true) : NN s :=
  ⟨fun q hq => va_Nw.of rfl (hts0 _ (nwF_in q hq)), fun q hq => va_Nw.of rfl (hts0 _ (nwM_in q hq))⟩
set_option maxHeartbeats 4000000 in
theorem dk_of {args : Array Value} {s : State} (hts0 : ∀ w ∈ lw_tbl, w.before args s = true) : ∃ D : va_G, ∀ (k : Nat) (q : vw_C), vwCl[k]? = some q → u_Kn s q.1 q.2.1 q.2.2 (D.1 k) (D.2 k) := by
  obtain ⟨c0, i0, h0⟩ := u_known (C := RX0) (T := TX0) (N := 5) (n := 5) hts0 liX0 (hts0 (.instantiable RX0 5) (List.mem_of_getElem? (i := 104) (by decide +kernel)))
  obtain ⟨c1, i1, h1⟩ := u_known (C := RX1) (T := TX1) (N := 3) (n := 3) hts0 liX1 (hts0 (.instantiable RX1 3) (List.mem_of_getElem? (i := 148) (by decide +kernel)))
  obtain ⟨c2, i2, h2⟩ := u_known (C := RX2) (T := TX2) (N := 3) (n := 3) hts0 liX2 (hts0 (.instantiable RX2 3) (List.mem_of_getElem? (i := 200) (by decide +kernel)))
  obtain ⟨c3, i3, h3⟩ := u_known (C := RX3) (T := TX3) (N := 5) (n := 5) hts0 liX3 (hts0 (.instantiable RX3 5) (List.mem_of_getElem? (i := 126) (by decide +kernel)))
  obtain ⟨c4, i4, h4⟩ := u_known (C := RX4) (T := TX4) (N := 6) (n := 6) hts0 liX4 (hts0 (.instantiable RX4 6) (List.mem_of_getElem? (i := 35) (by decide +kernel)))
  obtain ⟨c5, i5, h5⟩ := u_known (C := RX5) (T := TX5) (N := 4) (n := 4) hts0 liX5 (hts0 (.instantiable RX5 4) (List.mem_of_getElem? (i := 41) (by decide +kernel)))
  obtain ⟨c6, i6, h6⟩ := u_known (C := RX6) (T := TX6) (N := 7) (n := 7) hts0 liX6 (hts0 (.instantiable RX6 7) (List.mem_of_getElem? (i := 167) (by decide +kernel)))
  obtain ⟨c7, i7, h7⟩ := u_known (C := RX7) (T := TX7) (N := 7) (n := 7) hts0 liX7 (hts0 (.instantiable RX7 7) (List.mem_of_getElem? (i := 27) (by decide +kernel)))
  refine ⟨(fun k => match k with | 0 => c0 | 1 => c1 | 2 => c2 | 3 => c3 | 4 => c4 | 5 => c5 | 6 => c6 | _ => c7, fun k => match k with | 0 => i0 | 1 => i1 | 2 => i2 | 3 => i3 | 4 => i4 | 5 => i5 | 6 => i6 | _ => i7), ?_⟩
  intro k q hq
  match k, hq with
  | 0, hq => cases hq; exact h0
  | 1, hq => cases hq; exact h1
  | 2, hq => cases hq; exact h2
  | 3, hq => cases hq; exact h3
  | 4, hq => cases hq; exact h4
  | 5, hq => cases hq; exact h5
  | 6, hq => cases hq; exact h6
  | 7, hq => cases hq; exact h7
  | k + 8, hq => simp [vwCl] at hq
theorem ra_of {args : Array Value} {s : State} {c : Cond} {ty : FieldType} (hc : c = .arrayClass ty) (h : c.before args s = true) : ∃ cA kA comp, s.vm.findClass ("[" ++ ty.toString) = some cA ∧ s.vm.classes[cA]? = some kA ∧ kA.kind = .array comp ty := by
  subst hc
  exact Cond.arrayClass_spec h
set_option maxHeartbeats 4000000 in
theorem ck_of {args : Array Value} {s : State} (hts0 : ∀ w ∈ lw_tbl, w.before args s = true) : ∃ (D : va_G) (y : Y3), CK D y s := by
  obtain ⟨D, hD⟩ := dk_of hts0
  obtain ⟨cI, kI, pI, a1, a2, a3⟩ := ra_of rfl (hts0 (.arrayClass .int) (List.mem_of_getElem? (i := 62) (by decide +kernel)))
  obtain ⟨cC, kC, pC, b1, b2, b3⟩ := ra_of rfl (hts0 (.arrayClass .char) (List.mem_of_getElem? (i := 198) (by decide +kernel)))
  obtain ⟨pO, cO, kO, d1, d2, d3, d4, d5⟩ := Cond.arrayOver_spec (hts0 (.arrayOver (.object "MealLockers$State")) (List.mem_of_getElem? (i := 154) (by decide +kernel)))
  refine ⟨D, (cI, cC, cO), ⟨hD, ?_⟩, nn_tab hts0⟩
  intro k q hq
  match k, hq with
  | 0, hq =>
    cases hq
    exact ⟨fun N z => ⟨(fun k h => by cases h), kI, a2, pI, a3⟩, a1⟩
  | 1, hq =>
    cases hq
    exact ⟨fun N z => ⟨(fun k h => by cases h), kC, b2, pC, b3⟩, b1⟩
  | 2, hq =>
    cases hq
    exact ⟨fun N z => ⟨(fun k h => by cases h), kO, d3, pO, d4⟩, ⟨kO, pO, d3, d4, d1, d5⟩⟩
  | k + 3, hq => simp at hq
theorem ao_of {args : Array Value} {s : State} (hts0 : ∀ w ∈ lw_tbl, w.before args s = true) : va_AO "MealLockers$State" s := va_AO.of (hts0 (.arrayOver (.object "MealLockers$State")) (List.mem_of_getElem? (i := 154) (by decide +kernel)))
set_option maxHeartbeats 4000000 in
theorem stm_of {args : Array Value} {s : State} (hts0 : ∀ w ∈ lw_tbl, w.before args s = true) (hgv : (Jvm.Cond.and given_1 narrow_1).before args s = true) : ∃ tM tF : Nat, STM s.heap.size tM tF s s.heap := by
  have hs := flat_of_before _ hgv
  have hA : ∀ a : Nat, a < s.heap.size → ¬ (fun q : Nat => s.heap.size ≤ q) a := fun a h => Nat.not_le.mpr h
  have hi : (Cond.initialized "MealLockers").before args s = true := hts0 _ (List.mem_of_getElem? (i := 16) (by decide +kernel))
  have four : ∀ {P : Nat → Prop}, P 0 → P 1 → P 2 → P 3 → ∀ j : Nat, j < 4 → P j := fun h0 h1 h2 h3 j hj => by
    rcases (show j = 0 ∨ j = 1 ∨ j = 2 ∨ j = 3 by omega) with rfl | rfl | rfl | rfl
    · exact h0
    · exact h1
    · exact h2
    · exact h3
  obtain ⟨tM, eM, hM⟩ := va_Tof (tm := .static "MealLockers" "MOST_OF_SETTING" "[I") (ty := .int) (N := 4) (f := fun j => .int (mostI j)) (A := fun q => s.heap.size ≤ q) (args := args) (s := s) (by decide) (hs _ (by decide +kernel)) (va_eqt (hs (.eq (.length (.static "MealLockers" "MOST_OF_SETTING" "[I")) (.int 4)) (by decide +kernel)))
    (four (va_eqt (hs (.eq (.elem (.static "MealLockers" "MOST_OF_SETTING" "[I") (.int 0)) (.int 48)) (by decide +kernel))) (va_eqt (hs (.eq (.elem (.static "MealLockers" "MOST_OF_SETTING" "[I") (.int 1)) (.int 9)) (by decide +kernel))) (va_eqt (hs (.eq (.elem (.static "MealLockers" "MOST_OF_SETTING" "[I") (.int 2)) (.int 99)) (by decide +kernel))) (va_eqt (hs (.eq (.elem (.static "MealLockers" "MOST_OF_SETTING" "[I") (.int 3)) (.int 9)) (by decide +kernel)))) hA
  obtain ⟨tF, eF, hF⟩ := va_Tof (tm := .static "MealLockers" "FIRST_OF_SETTING" "[I") (ty := .int) (N := 4) (f := fun j => .int (firstI j)) (A := fun q => s.heap.size ≤ q) (args := args) (s := s) (by decide) (hs _ (by decide +kernel)) (va_eqt (hs (.eq (.length (.static "MealLockers" "FIRST_OF_SETTING" "[I")) (.int 4)) (by decide +kernel)))
    (four (va_eqt (hs (.eq (.elem (.static "MealLockers" "FIRST_OF_SETTING" "[I") (.int 0)) (.int 4)) (by decide +kernel))) (va_eqt (hs (.eq (.elem (.static "MealLockers" "FIRST_OF_SETTING" "[I") (.int 1)) (.int 3)) (by decide +kernel))) (va_eqt (hs (.eq (.elem (.static "MealLockers" "FIRST_OF_SETTING" "[I") (.int 2)) (.int 24)) (by decide +kernel))) (va_eqt (hs (.eq (.elem (.static "MealLockers" "FIRST_OF_SETTING" "[I") (.int 3)) (.int 1)) (by decide +kernel)))) hA
  exact ⟨tM, tF, ⟨va_Zof (hts0 (.laysStatic "MealLockers" "MOST_OF_SETTING" "[I") (List.mem_of_getElem? (i := 531) (by decide +kernel))) hi eM hA, hM⟩, va_Zof (hts0 (.laysStatic "MealLockers" "FIRST_OF_SETTING" "[I") (List.mem_of_getElem? (i := 64) (by decide +kernel))) hi eF hA, hF⟩
