/-! THE WHOLE SYSTEM: what holds of it, and what a call does to its State and its history -/
def InvO (Ω : Og) : Prop := okO Ω ∧ (∀ k, k < 6 → k ≠ 1 → InvS (Ω k)) ∧ ∃ len : Nat, len ≤ 60 ∧ Ω 6 1 0 = nI len
/-- the State and its history as they were -/
def Sam (Ω Ω2 : Og) : Prop := Ω2 0 = Ω 0 ∧ Ω2 7 0 = Ω 7 0 ∧ ∀ k, 2 ≤ k → k < 6 → Ω2 k = Ω k
/-- a step of the history: nothing, or one State more -/
def HSt (Ω Ω2 : Og) : Prop := Sam Ω Ω2 ∨ (hZn Ω2 = (if hZn Ω < 4 then hZn Ω + 1 else 4) ∧ Ω2 ((hO Ω2 + (hZn Ω2 - 1)) % 4 + 2) = Ω 0)
theorem HSt.rf {Ω : Og} : HSt Ω Ω := Or.inl ⟨rfl, rfl, fun _ _ _ => rfl⟩
theorem HSt.tr {Ω Ω2 Ω3 : Og} (h : Sam Ω Ω2) (k : HSt Ω2 Ω3) : HSt Ω Ω3 := by
  rcases k with ⟨a, b, c⟩ | ⟨a, b⟩
  · exact Or.inl ⟨a.trans h.1, b.trans h.2.1, fun k h2 h6 => (c k h2 h6).trans (h.2.2 k h2 h6)⟩
  · right
    have e : hZn Ω2 = hZn Ω := congrArg (fun f : Nat → Int32 => (f 1).toNatClampNeg) h.2.1
    rw [e] at a
    exact ⟨a, b.trans h.1⟩
theorem oH_hO {Ω : Og} {o z : Nat} (ho : o < 4) (hz : z < 5) : hO (oH Ω o z) = o ∧ hZn (oH Ω o z) = z := by
  constructor
  · show (nI o).toNatClampNeg = o
    exact nI_clamp (by omega)
  · show (nI z).toNatClampNeg = z
    exact nI_clamp (by omega)
theorem oH_k {Ω : Og} {o z k : Nat} (h : k ≠ 7) : oH Ω o z k = Ω k := if_neg h
theorem oS_k {Ω : Og} {a k : Nat} {σ : Sg} (h : k ≠ a) : oS Ω a σ k = Ω k := if_neg h
theorem oS_e {Ω : Og} {a : Nat} {σ : Sg} : oS Ω a σ a = σ := if_pos rfl
theorem settle_k {Ω : Og} (hI : InvO Ω) {X : Og} (hX : okO X ∧ X 0 = Ω 0 ∧ X 7 0 = Ω 7 0 ∧ (∀ k, 2 ≤ k → k < 6 → X k = Ω k) ∧ ∃ len : Nat, len ≤ 60 ∧ X 6 1 0 = nI len) {x : Int32} (hτ : x < 0 ∨ InvS (X 1)) :
    (zX7_settle X x).1 = x ∧ InvO (zX7_settle X x).2 ∧ HSt Ω (zX7_settle X x).2 ∧ (x < 0 → Sam Ω (zX7_settle X x).2) ∧ (¬ x < 0 → (zX7_settle X x).2 0 = X 1) ∧ (zX7_settle X x).2 6 = X 6 := by
  obtain ⟨x1, x2, x3, x4, x5⟩ := hX
  unfold zX7_settle
  by_cases c : x < 0
  · rw [if_pos c]
    refine ⟨rfl, ⟨x1, fun k hk h1 => ?_, x5⟩, Or.inl ⟨x2, x3, x4⟩, fun _ => ⟨x2, x3, x4⟩, fun z => absurd c z, rfl⟩
    rcases (show k = 0 ∨ 2 ≤ k by omega) with z | z
    · subst z; show InvS (X 0); rw [x2]; exact hI.2.1 0 (by decide) (by decide)
    · show InvS (X k); rw [x4 k z hk]; exact hI.2.1 k hk h1
  · rw [if_neg c]
    have hτ : InvS (X 1) := hτ.resolve_left c
    have h4 := keepN_lt x1.2.1 x1.2.2.1
    have ok := okO_keep x1
    have e1 : zkeep X 1 = X 1 := by
      unfold zkeep
      rw [oH_k (by decide), oS_k (by omega)]
    have e6 : zkeep X 6 = X 6 := by
      unfold zkeep
      rw [oH_k (by decide), oS_k (by omega)]
    have ek : ∀ k, 2 ≤ k → k < 6 → zkeep X k = if k = (keepN (hO X) (hZn X)).2.2 + 2 then X 0 else X k := fun k h2 h6 => by
      unfold zkeep
      rw [oH_k (by omega)]
      rfl
    have eh := oH_hO (Ω := oS X ((keepN (hO X) (hZn X)).2.2 + 2) (X 0)) h4.1 h4.2.1
    have eO : hO (oS (zkeep X) 0 (zkeep X 1)) = (keepN (hO X) (hZn X)).1 := eh.1
    have eZ : hZn (oS (zkeep X) 0 (zkeep X 1)) = (keepN (hO X) (hZn X)).2.1 := eh.2
    refine ⟨rfl, ⟨okO_st ok (by decide) _, fun k hk h1 => ?_, ?_⟩, Or.inr ⟨?_, ?_⟩, fun z => absurd z c, fun _ => ?_, ?_⟩
    · rcases (show k = 0 ∨ 2 ≤ k by omega) with z | z
      · subst z
        show InvS (zkeep X 1)
        rw [e1]; exact hτ
      · show InvS (oS (zkeep X) 0 (zkeep X 1) k)
        rw [oS_k (by omega), ek k z hk]
        by_cases q : k = (keepN (hO X) (hZn X)).2.2 + 2
        · rw [if_pos q, x2]; exact hI.2.1 0 (by decide) (by decide)
        · rw [if_neg q, x4 k z hk]; exact hI.2.1 k hk h1
    · show ∃ len : Nat, len ≤ 60 ∧ oS (zkeep X) 0 (zkeep X 1) 6 1 0 = nI len
      rw [oS_k (by decide), e6]
      exact x5
    · have eq : hZn X = hZn Ω := congrArg (fun f : Nat → Int32 => (f 1).toNatClampNeg) x3
      show hZn (oS (zkeep X) 0 (zkeep X 1)) = _
      rw [eZ, ← eq]
      unfold keepN
      by_cases q : hZn X < 4
      · rw [if_pos q, if_pos q]
      · rw [if_neg q, if_neg q]
    · show oS (zkeep X) 0 (zkeep X 1) ((hO (oS (zkeep X) 0 (zkeep X 1)) + (hZn (oS (zkeep X) 0 (zkeep X 1)) - 1)) % 4 + 2) = _
      rw [eO, eZ, oS_k (by omega), ek _ (by omega) (by omega)]
      have es : ((keepN (hO X) (hZn X)).1 + ((keepN (hO X) (hZn X)).2.1 - 1)) % 4 + 2 = (keepN (hO X) (hZn X)).2.2 + 2 := by
        unfold keepN
        by_cases q : hZn X < 4
        · rw [if_pos q]; rfl
        · rw [if_neg q]; rfl
      rw [if_pos es, x2]
    · show zkeep X 1 = X 1
      exact e1
    · show oS (zkeep X) 0 (zkeep X 1) 6 = X 6
      rw [oS_k (by decide), e6]
section
variable {Ω : Og}
/-- a call that tries something on the trial State -/
theorem pub_x (hI : InvO Ω) (x : Int32) (τ : Sg) (hτ : x < 0 ∨ InvS τ) :
    (zX7_settle (oS (zonT Ω) 1 τ) x).1 = x ∧ InvO (zX7_settle (oS (zonT Ω) 1 τ) x).2 ∧ HSt Ω (zX7_settle (oS (zonT Ω) 1 τ) x).2 ∧ (x < 0 → Sam Ω (zX7_settle (oS (zonT Ω) 1 τ) x).2) ∧ (¬ x < 0 → (zX7_settle (oS (zonT Ω) 1 τ) x).2 0 = τ) := by
  have k := settle_k hI (X := oS (zonT Ω) 1 τ) (x := x) ⟨okO_st (okO_st hI.1 (by decide) _) (by decide) _, rfl, rfl, fun k h2 h6 => by rw [oS_k (by omega)]; exact oS_k (by omega), hI.2.2⟩ hτ
  exact ⟨k.1, k.2.1, k.2.2.1, k.2.2.2.1, k.2.2.2.2.1⟩
theorem pub_locker (hI : InvO Ω) (x1 x2 : Int32) : (zX7_locker Ω x1 x2).1 = (zX0_addLocker (Ω 0) x1 x2).1 ∧ InvO (zX7_locker Ω x1 x2).2 ∧ HSt Ω (zX7_locker Ω x1 x2).2 ∧ ((zX0_addLocker (Ω 0) x1 x2).1 < 0 → Sam Ω (zX7_locker Ω x1 x2).2) ∧ (¬ (zX0_addLocker (Ω 0) x1 x2).1 < 0 → (zX7_locker Ω x1 x2).2 0 = (zX0_addLocker (Ω 0) x1 x2).2) := by
  obtain ⟨nl, nm, np, nv, t, h⟩ := hI.2.1 0 (by decide) (by decide)
  refine pub_x hI (zX0_addLocker (Ω 0) x1 x2).1 (zX0_addLocker (Ω 0) x1 x2).2 ?_
  rcases op_locker h x1 x2 with ⟨-, e⟩ | ⟨-, -, -, e⟩ | ⟨-, -, -, -, k⟩
  · left; rw [e]; exact by first | exact m1_lt | exact m2_lt | exact m3_lt
  · left; rw [e]; exact by first | exact m1_lt | exact m2_lt | exact m3_lt
  · right; exact ⟨_, _, _, _, _, k⟩
theorem pub_meal (hI : InvO Ω) (x1 x2 x3 : Int32) : (zX7_meal Ω x1 x2 x3).1 = (zX0_addMeal (Ω 0) x1 x2 x3).1 ∧ InvO (zX7_meal Ω x1 x2 x3).2 ∧ HSt Ω (zX7_meal Ω x1 x2 x3).2 ∧ ((zX0_addMeal (Ω 0) x1 x2 x3).1 < 0 → Sam Ω (zX7_meal Ω x1 x2 x3).2) ∧ (¬ (zX0_addMeal (Ω 0) x1 x2 x3).1 < 0 → (zX7_meal Ω x1 x2 x3).2 0 = (zX0_addMeal (Ω 0) x1 x2 x3).2) := by
  obtain ⟨nl, nm, np, nv, t, h⟩ := hI.2.1 0 (by decide) (by decide)
  refine pub_x hI (zX0_addMeal (Ω 0) x1 x2 x3).1 (zX0_addMeal (Ω 0) x1 x2 x3).2 ?_
  rcases op_meal h x1 x2 x3 with ⟨-, e⟩ | ⟨-, -, -, e | ⟨-, e⟩ | ⟨-, -, k⟩⟩
  · left; rw [e]; exact by first | exact m1_lt | exact m2_lt | exact m3_lt
  · left; rw [e]; exact by first | exact m1_lt | exact m2_lt | exact m3_lt
  · left; rw [e]; exact by first | exact m1_lt | exact m2_lt | exact m3_lt
  · right; exact ⟨_, _, _, _, _, k⟩
theorem pub_person (hI : InvO Ω) (x1 : Int32) : (zX7_person Ω x1).1 = (zX0_addPerson (Ω 0) x1).1 ∧ InvO (zX7_person Ω x1).2 ∧ HSt Ω (zX7_person Ω x1).2 ∧ ((zX0_addPerson (Ω 0) x1).1 < 0 → Sam Ω (zX7_person Ω x1).2) ∧ (¬ (zX0_addPerson (Ω 0) x1).1 < 0 → (zX7_person Ω x1).2 0 = (zX0_addPerson (Ω 0) x1).2) := by
  obtain ⟨nl, nm, np, nv, t, h⟩ := hI.2.1 0 (by decide) (by decide)
  refine pub_x hI (zX0_addPerson (Ω 0) x1).1 (zX0_addPerson (Ω 0) x1).2 ?_
  rcases op_person h x1 with ⟨-, e⟩ | ⟨-, -, e⟩ | ⟨-, -, -, k⟩
  · left; rw [e]; exact by first | exact m1_lt | exact m2_lt | exact m3_lt
  · left; rw [e]; exact by first | exact m1_lt | exact m2_lt | exact m3_lt
  · right; exact ⟨_, _, _, _, _, k⟩
theorem pub_volunteer (hI : InvO Ω) (x1 x2 : Int32) : (zX7_volunteer Ω x1 x2).1 = (zX0_addVolunteer (Ω 0) x1 x2).1 ∧ InvO (zX7_volunteer Ω x1 x2).2 ∧ HSt Ω (zX7_volunteer Ω x1 x2).2 ∧ ((zX0_addVolunteer (Ω 0) x1 x2).1 < 0 → Sam Ω (zX7_volunteer Ω x1 x2).2) ∧ (¬ (zX0_addVolunteer (Ω 0) x1 x2).1 < 0 → (zX7_volunteer Ω x1 x2).2 0 = (zX0_addVolunteer (Ω 0) x1 x2).2) := by
  obtain ⟨nl, nm, np, nv, t, h⟩ := hI.2.1 0 (by decide) (by decide)
  refine pub_x hI (zX0_addVolunteer (Ω 0) x1 x2).1 (zX0_addVolunteer (Ω 0) x1 x2).2 ?_
  rcases op_volunteer h x1 x2 with ⟨-, e⟩ | ⟨-, -, -, e⟩ | ⟨-, -, -, -, k⟩
  · left; rw [e]; exact by first | exact m1_lt | exact m2_lt | exact m3_lt
  · left; rw [e]; exact by first | exact m1_lt | exact m2_lt | exact m3_lt
  · right; exact ⟨_, _, _, _, _, k⟩
theorem pub_reserve (hI : InvO Ω) (x1 x2 : Int32) : (zX7_reserve Ω x1 x2).1 = (zX0_reserveMeal (Ω 0) x1 x2).1 ∧ InvO (zX7_reserve Ω x1 x2).2 ∧ HSt Ω (zX7_reserve Ω x1 x2).2 ∧ ((zX0_reserveMeal (Ω 0) x1 x2).1 < 0 → Sam Ω (zX7_reserve Ω x1 x2).2) ∧ (¬ (zX0_reserveMeal (Ω 0) x1 x2).1 < 0 → (zX7_reserve Ω x1 x2).2 0 = (zX0_reserveMeal (Ω 0) x1 x2).2) := by
  obtain ⟨nl, nm, np, nv, t, h⟩ := hI.2.1 0 (by decide) (by decide)
  refine pub_x hI (zX0_reserveMeal (Ω 0) x1 x2).1 (zX0_reserveMeal (Ω 0) x1 x2).2 ?_
  rcases op_reserve h x1 x2 with ⟨-, e⟩ | ⟨p, m, -, -, -, -, ⟨-, e⟩ | ⟨-, -, -, c, -, -, -, k, -⟩⟩
  · left; rw [e]; exact by first | exact m1_lt | exact m2_lt | exact m3_lt
  · left; rw [e]; exact by first | exact m1_lt | exact m2_lt | exact m3_lt
  · right; exact ⟨_, _, _, _, _, k⟩
theorem pub_fetch (hI : InvO Ω) (x1 x2 x3 : Int32) : (zX7_fetch Ω x1 x2 x3).1 = (zX0_endReservation (Ω 0) x1 x2 x3).1 ∧ InvO (zX7_fetch Ω x1 x2 x3).2 ∧ HSt Ω (zX7_fetch Ω x1 x2 x3).2 ∧ ((zX0_endReservation (Ω 0) x1 x2 x3).1 < 0 → Sam Ω (zX7_fetch Ω x1 x2 x3).2) ∧ (¬ (zX0_endReservation (Ω 0) x1 x2 x3).1 < 0 → (zX7_fetch Ω x1 x2 x3).2 0 = (zX0_endReservation (Ω 0) x1 x2 x3).2) := by
  obtain ⟨nl, nm, np, nv, t, h⟩ := hI.2.1 0 (by decide) (by decide)
  refine pub_x hI (zX0_endReservation (Ω 0) x1 x2 x3).1 (zX0_endReservation (Ω 0) x1 x2 x3).2 ?_
  rcases op_end h x1 x2 x3 with ⟨-, e⟩ | ⟨-, -, -, l, -, -, ⟨-, e⟩ | ⟨m, -, -, -, -, k, -⟩⟩
  · left; rw [e]; exact by first | exact m1_lt | exact m2_lt | exact m3_lt
  · left; rw [e]; exact by first | exact m1_lt | exact m2_lt | exact m3_lt
  · right; exact ⟨_, _, _, _, _, k⟩
theorem pub_take (hI : InvO Ω) (x1 x2 : Int32) : (zX7_take Ω x1 x2).1 = (zX0_takeMeal (Ω 0) x1 x2).1 ∧ InvO (zX7_take Ω x1 x2).2 ∧ HSt Ω (zX7_take Ω x1 x2).2 ∧ ((zX0_takeMeal (Ω 0) x1 x2).1 < 0 → Sam Ω (zX7_take Ω x1 x2).2) ∧ (¬ (zX0_takeMeal (Ω 0) x1 x2).1 < 0 → (zX7_take Ω x1 x2).2 0 = (zX0_takeMeal (Ω 0) x1 x2).2) := by
  obtain ⟨nl, nm, np, nv, t, h⟩ := hI.2.1 0 (by decide) (by decide)
  refine pub_x hI (zX0_takeMeal (Ω 0) x1 x2).1 (zX0_takeMeal (Ω 0) x1 x2).2 ?_
  rcases op_take h x1 x2 with ⟨-, e⟩ | ⟨v, m, -, -, -, -, e | ⟨-, -, -, c, r, -, -, -, -, k, -⟩⟩
  · left; rw [e]; exact by first | exact m1_lt | exact m2_lt | exact m3_lt
  · left; rw [e]; exact by first | exact m1_lt | exact m2_lt | exact m3_lt
  · right; exact ⟨_, _, _, _, _, k⟩
theorem pub_go (hI : InvO Ω) (x1 x2 : Int32) : (zX7_go Ω x1 x2).1 = (zX0_sendVolunteer (Ω 0) x1 x2).1 ∧ InvO (zX7_go Ω x1 x2).2 ∧ HSt Ω (zX7_go Ω x1 x2).2 ∧ ((zX0_sendVolunteer (Ω 0) x1 x2).1 < 0 → Sam Ω (zX7_go Ω x1 x2).2) ∧ (¬ (zX0_sendVolunteer (Ω 0) x1 x2).1 < 0 → (zX7_go Ω x1 x2).2 0 = (zX0_sendVolunteer (Ω 0) x1 x2).2) := by
  obtain ⟨nl, nm, np, nv, t, h⟩ := hI.2.1 0 (by decide) (by decide)
  refine pub_x hI (zX0_sendVolunteer (Ω 0) x1 x2).1 (zX0_sendVolunteer (Ω 0) x1 x2).2 ?_
  rcases op_go h x1 x2 with ⟨-, e⟩ | ⟨v, l, -, -, -, -, ⟨-, e⟩ | ⟨-, -, d, -, -, k, -⟩⟩
  · left; rw [e]; exact by first | exact m1_lt | exact m2_lt | exact m3_lt
  · left; rw [e]; exact by first | exact m1_lt | exact m2_lt | exact m3_lt
  · right; exact ⟨_, _, _, _, _, k⟩
theorem pub_put (hI : InvO Ω) (x1 : Int32) : (zX7_put Ω x1).1 = (zX0_putMealsIn (Ω 0) x1).1 ∧ InvO (zX7_put Ω x1).2 ∧ HSt Ω (zX7_put Ω x1).2 ∧ ((zX0_putMealsIn (Ω 0) x1).1 < 0 → Sam Ω (zX7_put Ω x1).2) ∧ (¬ (zX0_putMealsIn (Ω 0) x1).1 < 0 → (zX7_put Ω x1).2 0 = (zX0_putMealsIn (Ω 0) x1).2) := by
  obtain ⟨nl, nm, np, nv, t, h⟩ := hI.2.1 0 (by decide) (by decide)
  refine pub_x hI (zX0_putMealsIn (Ω 0) x1).1 (zX0_putMealsIn (Ω 0) x1).2 ?_
  rcases op_put h x1 with ⟨-, e⟩ | ⟨-, τ, k, e | ⟨c, -, -, e⟩⟩
  · left; rw [e]; exact by first | exact m1_lt | exact m2_lt | exact m3_lt
  · left; rw [e]; exact by first | exact m1_lt | exact m2_lt | exact m3_lt
  · right; rw [e]; exact ⟨_, _, _, _, _, k⟩
theorem pub_pass (hI : InvO Ω) (x1 : Int32) : (zX7_pass Ω x1).1 = (zX0_passHours (Ω 0) x1 5000).1 ∧ InvO (zX7_pass Ω x1).2 ∧ HSt Ω (zX7_pass Ω x1).2 ∧ ((zX0_passHours (Ω 0) x1 5000).1 < 0 → Sam Ω (zX7_pass Ω x1).2) ∧ (¬ (zX0_passHours (Ω 0) x1 5000).1 < 0 → (zX7_pass Ω x1).2 0 = (zX0_passHours (Ω 0) x1 5000).2) := by
  obtain ⟨nl, nm, np, nv, t, h⟩ := hI.2.1 0 (by decide) (by decide)
  refine pub_x hI (zX0_passHours (Ω 0) x1 5000).1 (zX0_passHours (Ω 0) x1 5000).2 ?_
  rcases op_pass h x1 with ⟨-, e⟩ | ⟨n, -, -, -, ⟨-, e⟩ | ⟨-, c, -, -, k, -⟩⟩
  · left; rw [e]; exact by first | exact m1_lt | exact m2_lt | exact m3_lt
  · left; rw [e]; exact by first | exact m1_lt | exact m2_lt | exact m3_lt
  · right; exact ⟨_, _, _, _, _, k⟩
theorem pub_set (hI : InvO Ω) (x1 x2 : Int32) : (zX7_set Ω x1 x2).1 = (zX0_changeSetting (Ω 0) x1 x2).1 ∧ InvO (zX7_set Ω x1 x2).2 ∧ HSt Ω (zX7_set Ω x1 x2).2 ∧ ((zX0_changeSetting (Ω 0) x1 x2).1 < 0 → Sam Ω (zX7_set Ω x1 x2).2) ∧ (¬ (zX0_changeSetting (Ω 0) x1 x2).1 < 0 → (zX7_set Ω x1 x2).2 0 = (zX0_changeSetting (Ω 0) x1 x2).2) := by
  obtain ⟨nl, nm, np, nv, t, h⟩ := hI.2.1 0 (by decide) (by decide)
  refine pub_x hI (zX0_changeSetting (Ω 0) x1 x2).1 (zX0_changeSetting (Ω 0) x1 x2).2 ?_
  rcases op_set h x1 x2 with e | ⟨j, k, -, -, -, -, -, -, -, k⟩
  · left; rw [e]; exact by first | exact m1_lt | exact m2_lt | exact m3_lt
  · right; exact ⟨_, _, _, _, _, k⟩
/-! undo -/
theorem pub_undo (hI : InvO Ω) : InvO (zX7_undo Ω).2 ∧ hZn (zX7_undo Ω).2 = hZn Ω - 1 ∧ (zX7_undo Ω).1 = (if hZn Ω = 0 then -2 else nI (hZn Ω - 1)) ∧ (zX7_undo Ω).2 0 = (if hZn Ω = 0 then Ω 0 else Ω ((hO Ω + (hZn Ω - 1)) % 4 + 2)) := by
  have h4 := hI.1.2.1
  have h5 := hI.1.2.2.1
  have ok := okO_rest hI.1
  have er : restN (hO Ω) (hZn Ω) = if hZn Ω = 0 then (0, -2) else (hZn Ω - 1, nI (hZn Ω - 1)) := rfl
  have eo : restO (hO Ω) (hZn Ω) Ω = if hZn Ω = 0 then Ω else oS Ω 0 (Ω ((hO Ω + (hZn Ω - 1)) % 4 + 2)) := rfl
  have el := restN_lt (o := hO Ω) h5
  have eh := oH_hO (Ω := restO (hO Ω) (hZn Ω) Ω) h4 el
  have e6 : ∀ k, k ≠ 0 → k ≠ 7 → (zX7_undo Ω).2 k = Ω k := fun k h0 h7 => by
    show oH (restO (hO Ω) (hZn Ω) Ω) (hO Ω) (restN (hO Ω) (hZn Ω)).1 k = _
    rw [oH_k h7, eo]
    by_cases c : hZn Ω = 0
    · rw [if_pos c]
    · rw [if_neg c, oS_k h0]
  have e0 : (zX7_undo Ω).2 0 = (if hZn Ω = 0 then Ω 0 else Ω ((hO Ω + (hZn Ω - 1)) % 4 + 2)) := by
    show oH (restO (hO Ω) (hZn Ω) Ω) (hO Ω) (restN (hO Ω) (hZn Ω)).1 0 = _
    rw [oH_k (by decide), eo]
    by_cases c : hZn Ω = 0
    · rw [if_pos c, if_pos c]
    · rw [if_neg c, if_neg c, oS_e]
  refine ⟨⟨ok, fun k hk h1 => ?_, ?_⟩, ?_, ?_, e0⟩
  · rcases (show k = 0 ∨ 2 ≤ k by omega) with z | z
    · subst z
      rw [e0]
      by_cases c : hZn Ω = 0
      · rw [if_pos c]; exact hI.2.1 0 (by decide) (by decide)
      · rw [if_neg c]; exact hI.2.1 _ (by omega) (by omega)
    · rw [e6 k (by omega) (by omega)]; exact hI.2.1 k hk h1
  · rw [e6 6 (by decide) (by decide)]; exact hI.2.2
  · show hZn (oH (restO (hO Ω) (hZn Ω) Ω) (hO Ω) (restN (hO Ω) (hZn Ω)).1) = _
    rw [eh.2, er]
    by_cases c : hZn Ω = 0
    · rw [if_pos c, c]
    · rw [if_neg c]
  · show (restN (hO Ω) (hZn Ω)).2 = _
    rw [er]
    by_cases c : hZn Ω = 0
    · rw [if_pos c, if_pos c]
    · rw [if_neg c, if_neg c]
/-! the text's calls -/
def TxS (Ω Ω2 : Og) : Prop := ∃ τ : Sg, Ω2 = oS Ω 6 τ
theorem TxS.rf : TxS Ω Ω := ⟨Ω 6, by
  funext j
  show Ω j = if j = 6 then Ω 6 else Ω j
  by_cases h : j = 6
  · rw [if_pos h, h]
  · rw [if_neg h]⟩
theorem TxS.tr {Ω2 Ω3 : Og} (h : TxS Ω Ω2) (k : TxS Ω2 Ω3) : TxS Ω Ω3 := by
  obtain ⟨a, ea⟩ := h
  obtain ⟨b, eb⟩ := k
  refine ⟨b, ?_⟩
  rw [eb, ea]
  funext j
  show (if j = 6 then b else if j = 6 then a else Ω j) = if j = 6 then b else Ω j
  by_cases h : j = 6
  · rw [if_pos h, if_pos h]
  · rw [if_neg h, if_neg h, if_neg h]
theorem TxS.st {Ω2 : Og} (h : TxS Ω Ω2) : Sam Ω Ω2 := by
  obtain ⟨a, ea⟩ := h
  subst ea
  exact ⟨rfl, rfl, fun k _ h6 => oS_k (by omega)⟩
theorem ty_ok (hI : InvO Ω) {n : Nat} (hn : Ω 6 1 0 = nI n) (h60 : n < 60) {x : Int32} (hx : ∃ c : Nat, 32 ≤ c ∧ c ≤ 126 ∧ x = nI c) : (zX7_type Ω x).1 = nI (n + 1) ∧ InvO (zX7_type Ω x).2 ∧ (zX7_type Ω x).2 6 1 0 = nI (n + 1) ∧ TxS Ω (zX7_type Ω x).2 := by
  obtain ⟨c, c1, c2, ec⟩ := hx
  subst ec
  have q1 : (32 : Int32).toInt = 32 := by decide
  have q2 : (126 : Int32).toInt = 126 := by decide
  have ew : ¬ zX7_isWithin (nI c) 32 126 = 0 := by
    rw [wi_t (by rw [q1, nI_toInt (by omega)]; omega) (by rw [q2, nI_toInt (by omega)]; omega)]
    decide
  have ev : vp_nar .char (((nI c).toUInt32 % 65536).toInt32) = nI c := by
    rw [pk_vc, pk_char, pk_tn (by omega), Nat.mod_eq_of_lt (by omega)]
  have ea : zX6_append (Ω 6) (nI c) = (nI (n + 1), sT (sF (Ω 6) (upd (Ω 6 0) n (nI c))) 0 (nI (n + 1))) := by
    unfold zX6_append
    rw [if_neg ew, hn, if_neg (nI_pos (by omega)), if_pos (show nI n < 60 from nI_lt (b := 60) h60 (by decide)), ev, nI_clamp (by omega)]
    have e1 : (sF (Ω 6) (upd (Ω 6 0) n (nI c))) 1 0 + 1 = nI (n + 1) := by
      show Ω 6 1 0 + 1 = _
      rw [hn, nI_1]
    rw [e1]
    rfl
  have et : zX7_type Ω (nI c) = (nI (n + 1), oS Ω 6 (sT (sF (Ω 6) (upd (Ω 6 0) n (nI c))) 0 (nI (n + 1)))) := by
    unfold zX7_type
    rw [ea]
  have hch : okC (sT (sF (Ω 6) (upd (Ω 6 0) n (nI c))) 0 (nI (n + 1))) := by
    intro i
    show narrow .char (.int (upd (Ω 6 0) n (nI c) i)) = .int (upd (Ω 6 0) n (nI c) i)
    by_cases e : i = n
    · subst e
      rw [pk_us]
      exact (pk_charN (by omega)).1
    · rw [pk_un e]
      exact hI.1.1 i
  rw [et]
  refine ⟨rfl, ⟨⟨hch, hI.1.2⟩, fun k hk h1 => ?_, n + 1, by omega, rfl⟩, rfl, ⟨_, rfl⟩⟩
  show InvS (oS Ω 6 _ k)
  rw [oS_k (by omega)]
  exact hI.2.1 k hk h1
theorem cl_ok (hI : InvO Ω) : 0 ≤ (zX7_clearText Ω).1 ∧ InvO (zX7_clearText Ω).2 ∧ (zX7_clearText Ω).2 6 1 0 = nI 0 ∧ TxS Ω (zX7_clearText Ω).2 := by
  obtain ⟨hO, hk, n, hn, en⟩ := hI
  refine ⟨?_, ⟨⟨hO.1, hO.2⟩, fun k hk6 h1 => ?_, 0, by omega, rfl⟩, rfl, ⟨_, rfl⟩⟩
  · show 0 ≤ Ω 6 1 0
    rw [en]
    exact nI_pos' (by omega)
  · show InvS (oS Ω 6 _ k)
    rw [oS_k (by omega)]
    exact hk k hk6 h1
/-- a text tried: what it comes to -/
theorem play_k (hI : InvO Ω) {n : Nat} (hn : n ≤ 60) (en : Ω 6 1 0 = nI n) : ∃ (r : Int32 × Nat × Int32 × Sg), r = plF (Ω 6 0) n 60 0 (Ω 0) 0 ∧ (zX2_playText (zonT Ω)).1 = r.1 ∧ (zX2_playText (zonT Ω)).2 7 1 0 = nI r.2.1 ∧ (zX2_playText (zonT Ω)).2 7 1 1 = r.2.2.1 ∧ (zX2_playText (zonT Ω)).2 1 = r.2.2.2 ∧ (zX2_playText (zonT Ω)).2 6 1 0 = nI n ∧ (zX2_playText (zonT Ω)).2 6 0 = Ω 6 0 ∧ (zX2_playText (zonT Ω)).2 7 0 = Ω 7 0 ∧ (∀ k, k < 6 → k ≠ 1 → (zX2_playText (zonT Ω)).2 k = Ω k) ∧ okO (zX2_playText (zonT Ω)).2 := by
  refine ⟨_, rfl, ?_⟩
  obtain ⟨p1, p2, p3⟩ := play_e (zonT Ω)
  have k := pl_e hn 60 0 (oP (oP (zonT Ω) 0 0) 1 0) 0 (by rw [oP_j (by decide), oP_j (by decide)]; exact en) (by omega) (by rw [oP_n (by decide), oP_e]; rfl) oP_e
  have b1 : (oP (oP (zonT Ω) 0 0) 1 0) 1 = Ω 0 := by rw [oP_j (by decide), oP_j (by decide)]; rfl
  have b2 : (oP (oP (zonT Ω) 0 0) 1 0) 6 0 = Ω 6 0 := by rw [oP_j (by decide), oP_j (by decide)]; rfl
  rw [b1, b2] at k
  obtain ⟨k1, k2, k3, k4, k5⟩ := k
  exact ⟨k1, k2, k3, k4, k5, p2, p1, fun k hk h1 => (p3 k hk h1).trans (oS_k h1), okO_play (okO_st hI.1 (by decide) _)⟩
theorem fault_ok (hI : InvO Ω) (x : Int32) : InvO (zX7_fault Ω x).2 ∧ Sam Ω (zX7_fault Ω x).2 ∧ (zX7_fault Ω x).2 6 1 0 = Ω 6 1 0 ∧ (zX7_fault Ω x).2 6 0 = Ω 6 0 := by
  obtain ⟨n, hn, en⟩ := hI.2.2
  obtain ⟨r, -, -, -, -, -, p5, p6, p7, p8, p9⟩ := play_k hI hn en
  refine ⟨⟨p9, fun k hk h1 => ?_, n, hn, p5⟩, ⟨p8 0 (by decide) (by decide), p7, fun k h2 h6 => p8 k h6 (by omega)⟩, p5.trans en.symm, p6⟩
  show InvS ((zX2_playText (zonT Ω)).2 k)
  rw [p8 k hk h1]
  exact hI.2.1 k hk h1
theorem pub_play (hI : InvO Ω) : InvO (zX7_play Ω).2 ∧ HSt Ω (zX7_play Ω).2 ∧ (zX7_play Ω).1 = (zX2_playText (zonT Ω)).1 ∧ (zX7_play Ω).2 6 1 0 = Ω 6 1 0 := by
  obtain ⟨n, hn, en⟩ := hI.2.2
  obtain ⟨r, er, p1, p2, p3, p4, p5, p6, p7, p8, p9⟩ := play_k hI hn en
  obtain ⟨nl, nm, np, nv, t, h⟩ := hI.2.1 0 (by decide) (by decide)
  have k := plF_k (tx := Ω 6 0) (len := n) 60 0 (Ω 0) 0 (by omega) (by omega) ⟨t, h⟩
  rw [← er] at k
  have key := settle_k hI (X := (zX2_playText (zonT Ω)).2) (x := (zX2_playText (zonT Ω)).1) ⟨p9, p8 0 (by decide) (by decide), p7, fun k h2 h6 => p8 k h6 (by omega), n, hn, p5⟩ (by
    rcases k with ⟨j, -, -, -, t2, k⟩ | ⟨k, -⟩
    · right; rw [p4]; exact ⟨_, _, _, _, _, k⟩
    · left; rw [p1, k]; decide)
  refine ⟨key.2.1, key.2.2.1, key.1, ?_⟩
  show (zX7_settle (zX2_playText (zonT Ω)).2 (zX2_playText (zonT Ω)).1).2 6 1 0 = _
  rw [key.2.2.2.2.2, p5, en]
end
