/-! THE PUBLIC CALLS, BOTH SIDES -/
theorem pr_eta {α β : Type} (p : α × β) : (p.1, p.2) = p := rfl
theorem hh_tx {Ω : Og} {f : Nat → Nat → Int32} (hh : ∀ i, i < hZn Ω → RelN (Ω ((hO Ω + i) % 4 + 2)) (f i)) (τ : Sg) : ∀ i, i < hZn (oS Ω 6 τ) → RelN (oS Ω 6 τ ((hO (oS Ω 6 τ) + i) % 4 + 2)) (f i) := fun i hi => by
  have e : oS Ω 6 τ ((hO Ω + i) % 4 + 2) = Ω ((hO Ω + i) % 4 + 2) := if_neg (by omega)
  show RelN (oS Ω 6 τ ((hO Ω + i) % 4 + 2)) (f i)
  rw [e]
  exact hh i hi
theorem oS_id {Ω : Og} {k : Nat} : oS Ω k (Ω k) = Ω := by
  funext j
  show (if j = k then Ω k else Ω j) = Ω j
  by_cases e : j = k
  · rw [if_pos e, e]
  · rw [if_neg e]
theorem on_T {Ω : Og} {μ : Sg} (H : Big Ω μ) (τ : Sg) : SameO Ω (oS (zonT Ω) 1 τ) := ⟨rfl, fun k h2 h6 => by
  unfold zonT oS
  rw [if_neg (by omega), if_neg (by omega)], rfl, H.1.1, rfl, rfl⟩
theorem be_M {Ω : Og} {μ : Sg} (H : Big Ω μ) : SameM μ (zX8_begins μ) := ⟨rfl, rfl, rfl, rfl, H.2.2.1⟩
theorem gd_M {Ω : Og} {μ ν : Sg} (H : Big Ω μ) (g : ∀ j, j ≠ 0 → ν j = zX8_begins μ j) : SameM μ ν ∧ ν 1 = μ 0 := by
  have e4 : ν 4 = μ 4 := g 4 (by decide)
  refine ⟨⟨g 2 (by decide), g 3 (by decide), by rw [e4], by rw [e4], ?_⟩, g 1 (by decide)⟩
  unfold InvT
  rw [e4]
  exact H.2.2.1
theorem rel_b {Ω : Og} {μ : Sg} (H : Big Ω μ) : Rel (fun _ => 0) 5001 (Ω 0) ((zX8_begins μ) 0) := H.2.1
theorem Big.I {Ω : Og} {μ : Sg} (H : Big Ω μ) : InvM μ := H.2.1.I
theorem lk_j {b : Sg} {x1 x2 : Int32} (j : Nat) (hj : j ≠ 0) : lkS b x1 x2 j = b j := (if_neg hj).trans ((if_neg hj).trans (if_neg hj))
theorem pe_j {b : Sg} {x1 : Int32} (j : Nat) (hj : j ≠ 0) : peS b x1 j = b j := (if_neg hj).trans (if_neg hj)
theorem vo_j {b : Sg} {x1 x2 : Int32} (j : Nat) (hj : j ≠ 0) : voS b x1 x2 j = b j := (if_neg hj).trans ((if_neg hj).trans (if_neg hj))
theorem neg13 : (-1 : Int32) < 0 ∧ (-3 : Int32) < 0 := by decide
theorem pub_locker {Ω : Og} {μ : Sg} (H : Big Ω μ) (x1 x2 : Int32) : (zX7_locker Ω x1 x2).1 = (zX8_locker μ x1 x2).1 ∧ Big (zX7_locker Ω x1 x2).2 (zX8_locker μ x1 x2).2 := by
  have op := op_locker (rel_b H) x1 x2
  show (zX7_settle (oS (zonT Ω) 1 (zX0_addLocker (Ω 0) x1 x2).2) ((zX0_addLocker (Ω 0) x1 x2).1)).1 = _ ∧ Big (zX7_settle (oS (zonT Ω) 1 (zX0_addLocker (Ω 0) x1 x2).2) ((zX0_addLocker (Ω 0) x1 x2).1)).2 _
  by_cases c0 : zX8_in x1 1 8 = 0
  · have ep : lkP (zX8_begins μ) x1 x2 = (-1, zX8_begins μ) := by
      unfold lkP
      rw [if_pos c0]
    have ez : zX8_locker μ x1 x2 = (-1, zX8_begins μ) := by
      unfold zX8_locker
      rw [if_pos c0]
    rw [ep] at op
    rw [ez, op.1]
    exact big_err H (on_T H _) (be_M H) rfl neg13.1
  by_cases c1 : zX8_in x2 0 1 = 0
  · have ep : lkP (zX8_begins μ) x1 x2 = (-1, zX8_begins μ) := by
      unfold lkP
      rw [if_neg c0, if_pos c1]
    have ez : zX8_locker μ x1 x2 = (-1, zX8_begins μ) := by
      unfold zX8_locker
      rw [if_neg c0, if_pos c1]
    rw [ep] at op
    rw [ez, op.1]
    exact big_err H (on_T H _) (be_M H) rfl neg13.1
  by_cases c2 : (zX8_begins μ) 0 0 = 5
  · have ep : lkP (zX8_begins μ) x1 x2 = (-3, zX8_begins μ) := by
      unfold lkP
      rw [if_neg c0, if_neg c1, if_pos c2]
    have ez : zX8_locker μ x1 x2 = (-3, zX8_begins μ) := by
      unfold zX8_locker
      rw [if_neg c0, if_neg c1, if_pos c2]
    rw [ep] at op
    rw [ez, op.1]
    exact big_err H (on_T H _) (be_M H) rfl neg13.2
  have ep : lkP (zX8_begins μ) x1 x2 = ((lkS (zX8_begins μ) x1 x2) 0 0 - 1, lkS (zX8_begins μ) x1 x2) := by
    unfold lkP
    rw [if_neg c0, if_neg c1, if_neg c2]
  have ez : zX8_locker μ x1 x2 = zX8_acted (lkS (zX8_begins μ) x1 x2) ((lkS (zX8_begins μ) x1 x2) 0 0 - 1) := by
    unfold zX8_locker
    rw [if_neg c0, if_neg c1, if_neg c2]
    unfold lkS
    exact pr_eta _
  rw [ep] at op
  obtain ⟨op1, op2⟩ := op
  have op1 : (zX0_addLocker (Ω 0) x1 x2).1 = (lkS (zX8_begins μ) x1 x2) 0 0 - 1 := op1
  have op2 : Rel (fun _ => 0) 5001 (zX0_addLocker (Ω 0) x1 x2).2 ((lkS (zX8_begins μ) x1 x2) 0) := op2
  have gm := gd_M H (ν := lkS (zX8_begins μ) x1 x2) (fun j hj => lk_j j hj)
  rw [ez, op1]
  exact big_set H (on_T H _) gm.1 gm.2 (fun _ => op2)
theorem pub_person {Ω : Og} {μ : Sg} (H : Big Ω μ) (x1 : Int32) : (zX7_person Ω x1).1 = (zX8_person μ x1).1 ∧ Big (zX7_person Ω x1).2 (zX8_person μ x1).2 := by
  have op := op_person (rel_b H) x1
  show (zX7_settle (oS (zonT Ω) 1 (zX0_addPerson (Ω 0) x1).2) ((zX0_addPerson (Ω 0) x1).1)).1 = _ ∧ Big (zX7_settle (oS (zonT Ω) 1 (zX0_addPerson (Ω 0) x1).2) ((zX0_addPerson (Ω 0) x1).1)).2 _
  by_cases c0 : zX8_in x1 0 31 = 0
  · have ep : peP (zX8_begins μ) x1 = (-1, zX8_begins μ) := by
      unfold peP
      rw [if_pos c0]
    have ez : zX8_person μ x1 = (-1, zX8_begins μ) := by
      unfold zX8_person
      rw [if_pos c0]
    rw [ep] at op
    rw [ez, op.1]
    exact big_err H (on_T H _) (be_M H) rfl neg13.1
  by_cases c1 : (zX8_begins μ) 0 2 = 8
  · have ep : peP (zX8_begins μ) x1 = (-3, zX8_begins μ) := by
      unfold peP
      rw [if_neg c0, if_pos c1]
    have ez : zX8_person μ x1 = (-3, zX8_begins μ) := by
      unfold zX8_person
      rw [if_neg c0, if_pos c1]
    rw [ep] at op
    rw [ez, op.1]
    exact big_err H (on_T H _) (be_M H) rfl neg13.2
  have ep : peP (zX8_begins μ) x1 = ((peS (zX8_begins μ) x1) 0 2 - 1, peS (zX8_begins μ) x1) := by
    unfold peP
    rw [if_neg c0, if_neg c1]
  have ez : zX8_person μ x1 = zX8_acted (peS (zX8_begins μ) x1) ((peS (zX8_begins μ) x1) 0 2 - 1) := by
    unfold zX8_person
    rw [if_neg c0, if_neg c1]
    unfold peS
    exact pr_eta _
  rw [ep] at op
  obtain ⟨op1, op2⟩ := op
  have op1 : (zX0_addPerson (Ω 0) x1).1 = (peS (zX8_begins μ) x1) 0 2 - 1 := op1
  have op2 : Rel (fun _ => 0) 5001 (zX0_addPerson (Ω 0) x1).2 ((peS (zX8_begins μ) x1) 0) := op2
  have gm := gd_M H (ν := peS (zX8_begins μ) x1) (fun j hj => pe_j j hj)
  rw [ez, op1]
  exact big_set H (on_T H _) gm.1 gm.2 (fun _ => op2)
theorem pub_volunteer {Ω : Og} {μ : Sg} (H : Big Ω μ) (x1 x2 : Int32) : (zX7_volunteer Ω x1 x2).1 = (zX8_volunteer μ x1 x2).1 ∧ Big (zX7_volunteer Ω x1 x2).2 (zX8_volunteer μ x1 x2).2 := by
  have op := op_volunteer (rel_b H) x1 x2
  show (zX7_settle (oS (zonT Ω) 1 (zX0_addVolunteer (Ω 0) x1 x2).2) ((zX0_addVolunteer (Ω 0) x1 x2).1)).1 = _ ∧ Big (zX7_settle (oS (zonT Ω) 1 (zX0_addVolunteer (Ω 0) x1 x2).2) ((zX0_addVolunteer (Ω 0) x1 x2).1)).2 _
  by_cases c0 : zX8_isLocker (zX8_begins μ) x1 = 0
  · have ep : voP (zX8_begins μ) x1 x2 = (-1, zX8_begins μ) := by
      unfold voP
      rw [if_pos c0]
    have ez : zX8_volunteer μ x1 x2 = (-1, zX8_begins μ) := by
      unfold zX8_volunteer
      rw [if_pos c0]
    rw [ep] at op
    rw [ez, op.1]
    exact big_err H (on_T H _) (be_M H) rfl neg13.1
  by_cases c1 : zX8_in x2 1 4 = 0
  · have ep : voP (zX8_begins μ) x1 x2 = (-1, zX8_begins μ) := by
      unfold voP
      rw [if_neg c0, if_pos c1]
    have ez : zX8_volunteer μ x1 x2 = (-1, zX8_begins μ) := by
      unfold zX8_volunteer
      rw [if_neg c0, if_pos c1]
    rw [ep] at op
    rw [ez, op.1]
    exact big_err H (on_T H _) (be_M H) rfl neg13.1
  by_cases c2 : (zX8_begins μ) 0 3 = 3
  · have ep : voP (zX8_begins μ) x1 x2 = (-3, zX8_begins μ) := by
      unfold voP
      rw [if_neg c0, if_neg c1, if_pos c2]
    have ez : zX8_volunteer μ x1 x2 = (-3, zX8_begins μ) := by
      unfold zX8_volunteer
      rw [if_neg c0, if_neg c1, if_pos c2]
    rw [ep] at op
    rw [ez, op.1]
    exact big_err H (on_T H _) (be_M H) rfl neg13.2
  have ep : voP (zX8_begins μ) x1 x2 = ((voS (zX8_begins μ) x1 x2) 0 3 - 1, voS (zX8_begins μ) x1 x2) := by
    unfold voP
    rw [if_neg c0, if_neg c1, if_neg c2]
  have ez : zX8_volunteer μ x1 x2 = zX8_acted (voS (zX8_begins μ) x1 x2) ((voS (zX8_begins μ) x1 x2) 0 3 - 1) := by
    unfold zX8_volunteer
    rw [if_neg c0, if_neg c1, if_neg c2]
    unfold voS
    exact pr_eta _
  rw [ep] at op
  obtain ⟨op1, op2⟩ := op
  have op1 : (zX0_addVolunteer (Ω 0) x1 x2).1 = (voS (zX8_begins μ) x1 x2) 0 3 - 1 := op1
  have op2 : Rel (fun _ => 0) 5001 (zX0_addVolunteer (Ω 0) x1 x2).2 ((voS (zX8_begins μ) x1 x2) 0) := op2
  have gm := gd_M H (ν := voS (zX8_begins μ) x1 x2) (fun j hj => vo_j j hj)
  rw [ez, op1]
  exact big_set H (on_T H _) gm.1 gm.2 (fun _ => op2)
theorem ad_j {b : Sg} {x1 x2 x3 : Int32} (j : Nat) (hj : j ≠ 0) : (meP b x1 x2 x3).2 j = b j := by
  unfold meP zX8_addsMeal
  by_cases c0 : zX8_isLocker b x1 = 0
  · rw [if_pos c0]
  rw [if_neg c0]
  by_cases c1 : zX8_in x2 1 99 = 0
  · rw [if_pos c1]
  rw [if_neg c1]
  by_cases c2 : zX8_in x3 0 31 = 0
  · rw [if_pos c2]
  rw [if_neg c2]
  by_cases c3 : zX8_freeCells b x1 = 0
  · rw [if_pos c3]
  rw [if_neg c3]
  by_cases c4 : b 0 1 = 24
  · rw [if_pos c4]
  rw [if_neg c4]
  exact (if_neg hj).trans ((if_neg hj).trans ((if_neg hj).trans ((if_neg hj).trans ((if_neg hj).trans (if_neg hj)))))
theorem me_e (μ : Sg) (x1 x2 x3 : Int32) : zX8_meal μ x1 x2 x3 = zX8_acted (meP (zX8_begins μ) x1 x2 x3).2 (meP (zX8_begins μ) x1 x2 x3).1 := by
  unfold zX8_meal meP
  by_cases c0 : zX8_isLocker (zX8_begins μ) x1 = 0
  · rw [if_pos c0, if_pos c0]
  rw [if_neg c0, if_neg c0]
  by_cases c1 : zX8_in x2 1 99 = 0
  · rw [if_pos c1, if_pos c1]
  rw [if_neg c1, if_neg c1]
  by_cases c2 : zX8_in x3 0 31 = 0
  · rw [if_pos c2, if_pos c2]
  rw [if_neg c2, if_neg c2]
theorem pub_meal {Ω : Og} {μ : Sg} (H : Big Ω μ) (x1 x2 x3 : Int32) : (zX7_meal Ω x1 x2 x3).1 = (zX8_meal μ x1 x2 x3).1 ∧ Big (zX7_meal Ω x1 x2 x3).2 (zX8_meal μ x1 x2 x3).2 := by
  obtain ⟨op1, op2⟩ := op_meal (rel_b H) x1 x2 x3
  have gm := gd_M H (ν := (meP (zX8_begins μ) x1 x2 x3).2) (fun j hj => ad_j j hj)
  show (zX7_settle (oS (zonT Ω) 1 (zX0_addMeal (Ω 0) x1 x2 x3).2) ((zX0_addMeal (Ω 0) x1 x2 x3).1)).1 = _ ∧ Big (zX7_settle (oS (zonT Ω) 1 (zX0_addMeal (Ω 0) x1 x2 x3).2) ((zX0_addMeal (Ω 0) x1 x2 x3).1)).2 _
  have ez : zX8_meal μ x1 x2 x3 = zX8_acted (meP (zX8_begins μ) x1 x2 x3).2 (meP (zX8_begins μ) x1 x2 x3).1 := me_e μ x1 x2 x3
  rw [ez, op1]
  exact big_set H (on_T H _) gm.1 gm.2 (fun _ => op2)
theorem pub_reserve {Ω : Og} {μ : Sg} (H : Big Ω μ) (x1 x2 : Int32) : (zX7_reserve Ω x1 x2).1 = (zX8_reserve μ x1 x2).1 ∧ Big (zX7_reserve Ω x1 x2).2 (zX8_reserve μ x1 x2).2 := by
  obtain ⟨op1, op2⟩ := op_reserve (rel_b H) (by decide) x1 x2
  have gm := gd_M H (ν := (zX8_reserves (zX8_begins μ) x1 x2).2) ((gd_X8_reserves (μ := zX8_begins μ) H.I x1 x2).2.2)
  show (zX7_settle (oS (zonT Ω) 1 (zX0_reserveMeal (Ω 0) x1 x2).2) ((zX0_reserveMeal (Ω 0) x1 x2).1)).1 = _ ∧ Big (zX7_settle (oS (zonT Ω) 1 (zX0_reserveMeal (Ω 0) x1 x2).2) ((zX0_reserveMeal (Ω 0) x1 x2).1)).2 _
  have ez : zX8_reserve μ x1 x2 = zX8_acted (zX8_reserves (zX8_begins μ) x1 x2).2 (zX8_reserves (zX8_begins μ) x1 x2).1 := rfl
  rw [ez, op1]
  exact big_set H (on_T H _) gm.1 gm.2 (fun _ => op2)
theorem pub_fetch {Ω : Og} {μ : Sg} (H : Big Ω μ) (x1 x2 x3 : Int32) : (zX7_fetch Ω x1 x2 x3).1 = (zX8_fetch μ x1 x2 x3).1 ∧ Big (zX7_fetch Ω x1 x2 x3).2 (zX8_fetch μ x1 x2 x3).2 := by
  obtain ⟨op1, op2⟩ := op_fetch (rel_b H) x1 x2 x3
  have gm := gd_M H (ν := (zX8_fetches (zX8_begins μ) x1 x2 x3).2) ((gd_X8_fetches (μ := zX8_begins μ) H.I x1 x2 x3).2.2)
  show (zX7_settle (oS (zonT Ω) 1 (zX0_endReservation (Ω 0) x1 x2 x3).2) ((zX0_endReservation (Ω 0) x1 x2 x3).1)).1 = _ ∧ Big (zX7_settle (oS (zonT Ω) 1 (zX0_endReservation (Ω 0) x1 x2 x3).2) ((zX0_endReservation (Ω 0) x1 x2 x3).1)).2 _
  have ez : zX8_fetch μ x1 x2 x3 = zX8_acted (zX8_fetches (zX8_begins μ) x1 x2 x3).2 (zX8_fetches (zX8_begins μ) x1 x2 x3).1 := rfl
  rw [ez, op1]
  exact big_set H (on_T H _) gm.1 gm.2 (fun _ => op2)
theorem pub_take {Ω : Og} {μ : Sg} (H : Big Ω μ) (x1 x2 : Int32) : (zX7_take Ω x1 x2).1 = (zX8_take μ x1 x2).1 ∧ Big (zX7_take Ω x1 x2).2 (zX8_take μ x1 x2).2 := by
  obtain ⟨op1, op2⟩ := op_take (rel_b H) (by decide) x1 x2
  have gm := gd_M H (ν := (zX8_takes (zX8_begins μ) x1 x2).2) ((gd_X8_takes (μ := zX8_begins μ) H.I x1 x2).2.2)
  show (zX7_settle (oS (zonT Ω) 1 (zX0_takeMeal (Ω 0) x1 x2).2) ((zX0_takeMeal (Ω 0) x1 x2).1)).1 = _ ∧ Big (zX7_settle (oS (zonT Ω) 1 (zX0_takeMeal (Ω 0) x1 x2).2) ((zX0_takeMeal (Ω 0) x1 x2).1)).2 _
  have ez : zX8_take μ x1 x2 = zX8_acted (zX8_takes (zX8_begins μ) x1 x2).2 (zX8_takes (zX8_begins μ) x1 x2).1 := rfl
  rw [ez, op1]
  exact big_set H (on_T H _) gm.1 gm.2 (fun _ => op2)
theorem pub_go {Ω : Og} {μ : Sg} (H : Big Ω μ) (x1 x2 : Int32) : (zX7_go Ω x1 x2).1 = (zX8_go μ x1 x2).1 ∧ Big (zX7_go Ω x1 x2).2 (zX8_go μ x1 x2).2 := by
  obtain ⟨op1, op2⟩ := op_go (rel_b H) (by decide) x1 x2
  have gm := gd_M H (ν := (zX8_goes (zX8_begins μ) x1 x2).2) ((gd_X8_goes (μ := zX8_begins μ) H.I x1 x2).2.2)
  show (zX7_settle (oS (zonT Ω) 1 (zX0_sendVolunteer (Ω 0) x1 x2).2) ((zX0_sendVolunteer (Ω 0) x1 x2).1)).1 = _ ∧ Big (zX7_settle (oS (zonT Ω) 1 (zX0_sendVolunteer (Ω 0) x1 x2).2) ((zX0_sendVolunteer (Ω 0) x1 x2).1)).2 _
  have ez : zX8_go μ x1 x2 = zX8_acted (zX8_goes (zX8_begins μ) x1 x2).2 (zX8_goes (zX8_begins μ) x1 x2).1 := rfl
  rw [ez, op1]
  exact big_set H (on_T H _) gm.1 gm.2 (fun _ => op2)
theorem pub_put {Ω : Og} {μ : Sg} (H : Big Ω μ) (x1 : Int32) : (zX7_put Ω x1).1 = (zX8_put μ x1).1 ∧ Big (zX7_put Ω x1).2 (zX8_put μ x1).2 := by
  obtain ⟨op1, op2⟩ := op_put (rel_b H) (by decide) x1
  have gm := gd_M H (ν := (zX8_puts (zX8_begins μ) x1).2) ((gd_X8_puts (μ := zX8_begins μ) H.I x1).2.2)
  show (zX7_settle (oS (zonT Ω) 1 (zX0_putMealsIn (Ω 0) x1).2) ((zX0_putMealsIn (Ω 0) x1).1)).1 = _ ∧ Big (zX7_settle (oS (zonT Ω) 1 (zX0_putMealsIn (Ω 0) x1).2) ((zX0_putMealsIn (Ω 0) x1).1)).2 _
  have ez : zX8_put μ x1 = zX8_acted (zX8_puts (zX8_begins μ) x1).2 (zX8_puts (zX8_begins μ) x1).1 := rfl
  rw [ez, op1]
  exact big_set H (on_T H _) gm.1 gm.2 (fun _ => op2)
theorem pub_pass {Ω : Og} {μ : Sg} (H : Big Ω μ) (x1 : Int32) : (zX7_pass Ω x1).1 = (zX8_pass μ x1).1 ∧ Big (zX7_pass Ω x1).2 (zX8_pass μ x1).2 := by
  obtain ⟨op1, op2⟩ := op_pass (rel_b H) x1
  have gm := gd_M H (ν := (zX8_lets (zX8_begins μ) x1).2) ((gd_X8_lets (μ := zX8_begins μ) H.I x1).2.2)
  show (zX7_settle (oS (zonT Ω) 1 (zX0_passHours (Ω 0) x1 5000).2) ((zX0_passHours (Ω 0) x1 5000).1)).1 = _ ∧ Big (zX7_settle (oS (zonT Ω) 1 (zX0_passHours (Ω 0) x1 5000).2) ((zX0_passHours (Ω 0) x1 5000).1)).2 _
  have ez : zX8_pass μ x1 = zX8_acted (zX8_lets (zX8_begins μ) x1).2 (zX8_lets (zX8_begins μ) x1).1 := rfl
  rw [ez, op1]
  exact big_set H (on_T H _) gm.1 gm.2 (fun _ => op2)
theorem se_e (μ : Sg) (x1 x2 : Int32) : zX8_set μ x1 x2 = if (zX8_in x1 0 3) = 0 then ((-1), zX8_begins μ) else (if (zX8_in x2 1 (if x1 = 0 then 48 else if x1 = 2 then 99 else 9)) = 0 then ((-1), zX8_begins μ) else zX8_acted (mU (zX8_begins μ) 0 (upd ((zX8_begins μ) 0) (5 + x1).toNatClampNeg x2)) ((zX8_begins μ) 0 (5 + x1).toNatClampNeg)) := by
  unfold zX8_set
  by_cases c0 : x1 = 0
  · rw [if_pos c0, if_pos c0]
  · rw [if_neg c0, if_neg c0]
    by_cases c1 : x1 = 2
    · rw [if_pos c1, if_pos c1]
    · rw [if_neg c1, if_neg c1]
theorem pub_set {Ω : Og} {μ : Sg} (H : Big Ω μ) (x1 x2 : Int32) : (zX7_set Ω x1 x2).1 = (zX8_set μ x1 x2).1 ∧ Big (zX7_set Ω x1 x2).2 (zX8_set μ x1 x2).2 := by
  have op := op_set (rel_b H) x1 x2
  show (zX7_settle (oS (zonT Ω) 1 (zX0_changeSetting (Ω 0) x1 x2).2) ((zX0_changeSetting (Ω 0) x1 x2).1)).1 = _ ∧ Big (zX7_settle (oS (zonT Ω) 1 (zX0_changeSetting (Ω 0) x1 x2).2) ((zX0_changeSetting (Ω 0) x1 x2).1)).2 _
  rw [se_e]
  unfold seP at op
  by_cases c0 : zX8_in x1 0 3 = 0
  · rw [if_pos c0] at op ⊢
    rw [op.1]
    exact big_err H (on_T H _) (be_M H) rfl neg13.1
  rw [if_neg c0] at op ⊢
  by_cases c1 : zX8_in x2 1 (if x1 = 0 then 48 else if x1 = 2 then 99 else 9) = 0
  · rw [if_pos c1] at op ⊢
    rw [op.1]
    exact big_err H (on_T H _) (be_M H) rfl neg13.1
  rw [if_neg c1] at op ⊢
  obtain ⟨op1, op2⟩ := op
  have op1 : (zX0_changeSetting (Ω 0) x1 x2).1 = (zX8_begins μ) 0 (5 + x1).toNatClampNeg := op1
  have op2 : Rel (fun _ => 0) 5001 (zX0_changeSetting (Ω 0) x1 x2).2 ((mU (zX8_begins μ) 0 (upd ((zX8_begins μ) 0) (5 + x1).toNatClampNeg x2)) 0) := op2
  have gm := gd_M H (ν := mU (zX8_begins μ) 0 (upd ((zX8_begins μ) 0) (5 + x1).toNatClampNeg x2)) (fun j hj => if_neg hj)
  rw [op1]
  exact big_set H (on_T H _) gm.1 gm.2 (fun _ => op2)
theorem pub_wouldSpoil {Ω : Og} {μ : Sg} (H : Big Ω μ) (x1 : Int32) : (zX7_wouldSpoil Ω x1).1 = (zX8_wouldSpoil μ x1).1 ∧ Big (zX7_wouldSpoil Ω x1).2 (zX8_wouldSpoil μ x1).2 := by
  have e7 : zX7_wouldSpoil Ω x1 = if 0 ≤ (zX0_passHours (Ω 0) x1 1000000).1 then (((zX4_mealsSpoilt (zX0_passHours (Ω 0) x1 1000000).2) &&& ((zX4_mealsSpoilt (Ω 0)) ^^^ (-1))), oS (zonT Ω) 1 (zX0_passHours (Ω 0) x1 1000000).2) else ((zX0_passHours (Ω 0) x1 1000000).1, oS (zonT Ω) 1 (zX0_passHours (Ω 0) x1 1000000).2) := rfl
  rw [e7]
  unfold zX8_wouldSpoil zX0_passHours
  rw [wi_in]
  have h : Rel (fun _ => 0) 5001 (Ω 0) ((zX8_begins μ) 0) := rel_b H
  by_cases h1 : zX8_in x1 1 99 = 0
  · rw [if_pos h1, if_pos h1, if_neg (show ¬ (0 : Int32) ≤ -1 by decide)]
    exact ⟨rfl, big_same H (on_T H _) ⟨rfl, rfl, rfl, rfl, H.2.2.1⟩ rfl⟩
  rw [if_neg h1, if_neg h1]
  have hr := in_rg h1
  have q1 : (1 : Int32).toInt = 1 := by decide
  have q99 : (99 : Int32).toInt = 99 := by decide
  obtain ⟨n, hn, ex⟩ := nn_of (x := x1) (n := 99) ⟨by omega, by omega⟩
  subst ex
  obtain ⟨t, ht, et⟩ := nn_of (x := Ω 0 5 5) (n := 5000) ⟨h.B.1.1, by have := h.B.1.2; omega⟩
  have hle : (Ω 0 5 5 + nI n) ≤ 1000000 := by
    rw [et, nI_add]
    exact nI_le (a := t + n) (b := 1000000) (by omega) (by omega)
  rw [if_pos hle, nI_clamp (by omega)]
  obtain ⟨w1, w2⟩ := would h hn
  rw [if_pos w1]
  have gm := gd_M H (ν := (zX8_passes (zX8_begins μ) (nI n)).2) (gd_X8_passes (μ := zX8_begins μ) H.I (nI n)).2.2
  refine ⟨?_, big_same H (on_T H _) ⟨gm.1.1, gm.1.2.1, gm.1.2.2.1, gm.1.2.2.2.1, gm.1.2.2.2.2⟩ gm.2⟩
  show _ = (zX8_passes (zX8_begins μ) (nI n)).1
  unfold zX8_passes
  rw [nI_clamp (by omega)]
  exact w2
theorem pub_type {Ω : Og} {μ : Sg} (H : Big Ω μ) (x1 : Int32) : (zX7_type Ω x1).1 = (zX8_type μ x1).1 ∧ Big (zX7_type Ω x1).2 (zX8_type μ x1).2 := by
  have H0 := H
  obtain ⟨k, r, t, z, hh, l, tx⟩ := H
  unfold zX7_type zX8_type zX6_append
  rw [wi_in]
  by_cases h1 : zX8_in x1 32 126 = 0
  · rw [if_pos h1, if_pos h1]
    refine ⟨rfl, ?_⟩
    show Big (oS Ω 6 (Ω 6)) μ
    rw [oS_id]
    exact H0
  rw [if_neg h1, if_neg h1, l]
  obtain ⟨a, b⟩ := rg_nI t.1
  have c := t.1.2
  generalize hn : (μ 4 1).toNatClampNeg = n at a b
  have hn61 : n < 61 := by omega
  rw [if_neg (by rw [a]; exact nI_pos (by omega))]
  have hr := in_rg h1
  have q1 : (32 : Int32).toInt = 32 := by decide
  have q2 : (126 : Int32).toInt = 126 := by decide
  obtain ⟨x, hx, ex⟩ := nn_of (x := x1) (n := 126) ⟨by omega, by omega⟩
  have ec : vp_nar .char ((x1.toUInt32 % 65536).toInt32) = x1 := by
    rw [pk_vc, pk_char, ex, pk_tn (by omega), Nat.mod_eq_of_lt (by omega)]
  rw [ec, a]
  by_cases h2 : n = 60
  · rw [h2, if_neg (show ¬ nI 60 < 60 by decide), if_pos (show nI 60 = 60 from rfl)]
    refine ⟨rfl, ?_⟩
    show Big (oS Ω 6 (Ω 6)) μ
    rw [oS_id]
    exact H0
  · rw [if_pos (show nI n < 60 from nI_lt (b := 60) (by omega) (by omega)), if_neg (show ¬ nI n = 60 from fun q => h2 ((nI_eq (a := n) (b := 60) (by omega) (by omega)).mp q))]
    refine ⟨?_, ?_⟩
    · show Ω 6 1 0 + 1 = μ 4 1 + 1
      rw [l]
    · show Big (oS Ω 6 (sT (sF (Ω 6) (upd (Ω 6 0) n x1)) 0 (Ω 6 1 0 + 1))) (mT (mU μ 3 (upd (μ 3) n x1)) 1 (μ 4 1 + 1))
      have ok1 : okC (sT (sF (Ω 6) (upd (Ω 6 0) n x1)) 0 (Ω 6 1 0 + 1)) := by
        intro i
        show narrow .char (.int (upd (Ω 6 0) n x1 i)) = .int (upd (Ω 6 0) n x1 i)
        by_cases e : i = n
        · subst e
          rw [pk_us, ex]
          exact (pk_charN (by omega)).1
        · rw [pk_un e]
          exact k.1 i
      refine ⟨okO_tx k ok1, r, ⟨?_, t.2⟩, z, hh_tx hh _, ?_, fun i hi => ?_⟩
      · show rg (μ 4 1 + 1) 61
        rw [a, nI_1]
        exact rg_of (n := 61) (by omega) (by decide)
      · show Ω 6 1 0 + 1 = μ 4 1 + 1
        rw [l]
      · show upd (Ω 6 0) n x1 i = upd (μ 3) n x1 i
        by_cases e : i = n
        · subst e
          rw [pk_us, pk_us]
        · rw [pk_un e, pk_un e]
          exact tx i hi
theorem pub_clearText {Ω : Og} {μ : Sg} (H : Big Ω μ) : (zX7_clearText Ω).1 = (zX8_clearText μ).1 ∧ Big (zX7_clearText Ω).2 (zX8_clearText μ).2 := by
  obtain ⟨k, r, t, z, hh, l, tx⟩ := H
  refine ⟨l, ?_⟩
  show Big (oS Ω 6 (sT (Ω 6) 0 0)) (mT μ 1 0)
  refine ⟨okO_tx k k.1, r, ⟨?_, t.2⟩, z, hh_tx hh _, rfl, tx⟩
  show rg (0 : Int32) 61
  decide
theorem pub_count {Ω : Og} {μ : Sg} (H : Big Ω μ) (x1 : Int32) : (zX7_count Ω x1).1 = zX8_count μ x1 ∧ (zX7_count Ω x1).2 = Ω := by
  unfold zX7_count
  by_cases c1 : x1 = 11
  · subst c1
    rw [if_pos rfl]
    refine ⟨?_, rfl⟩
    show Ω 7 0 1 = zX8_count μ 11
    rw [← H.2.2.2.1]
    unfold zX8_count
    simp
  rw [if_neg c1]
  by_cases c2 : x1 = 12
  · subst c2
    rw [if_pos rfl]
    refine ⟨?_, rfl⟩
    show Ω 6 1 0 = zX8_count μ 12
    rw [H.2.2.2.2.2.1]
    unfold zX8_count
    simp
  rw [if_neg c2]
  exact ⟨q_total H.2.1 x1 c1 c2, rfl⟩
