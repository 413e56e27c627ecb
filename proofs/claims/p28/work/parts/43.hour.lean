/-! MEALS PUT IN, THE HOUR -/
section
variable {σ : Sg} {nl nm np nv t B : Nat} {W : Nat → Nat}
theorem InvN.r1 (h : InvN σ nl nm np nv t B W) : σ 5 1 = nI nm ∧ nm ≤ 24 := ⟨h.1.2.1, h.1.2.2.2.2.2.2.1⟩
/-- one meal of a volunteer's goes into a locker -/
theorem stow_1 (h : InvN σ nl nm np nv t B W) {m l v : Nat} (hm : m < nm) (hl : l < nl) (hc : carr (σ 1) v m = true) :
    InvN (zrai (zsto (zsto σ 1 (nI m) 0 0) 1 (nI m) 1 (nI l)) 0 (nI l) 4) nl nm np nv t B W ∧ (zrai (zsto (zsto σ 1 (nI m) 0 0) 1 (nI m) 1 (nI l)) 0 (nI l) 4) 5 = σ 5 ∧ (zrai (zsto (zsto σ 1 (nI m) 0 0) 1 (nI m) 1 (nI l)) 0 (nI l) 4) 3 = σ 3 ∧
    cnt (carr ((zrai (zsto (zsto σ 1 (nI m) 0 0) 1 (nI m) 1 (nI l)) 0 (nI l) 4) 1) v) nm + 1 = cnt (carr (σ 1) v) nm ∧ cnt (stg ((zrai (zsto (zsto σ 1 (nI m) 0 0) 1 (nI m) 1 (nI l)) 0 (nI l) 4) 1) 5) nm = cnt (stg (σ 1) 5) nm := by
  obtain ⟨hR, hM, hU, hP, hV, hS, hL⟩ := h
  have q1 := hR.2.2.2.2.2.2.1
  have q0 := hR.2.2.2.2.2.1
  obtain ⟨s0, s6⟩ := carr_t.mp hc
  have hm24 : m < 24 := by omega
  have eg : zrai (zsto (zsto σ 1 (nI m) 0 0) 1 (nI m) 1 (nI l)) 0 (nI l) 4 = sgC (sgC (sgC σ 1 (cu 8 (σ 1) m 0 0)) 1 (cu 8 (cu 8 (σ 1) m 0 0) m 1 (nI l))) 0 (cu 9 (σ 0) l 4 (ce 9 (σ 0) l 4 + 1)) := by
    rw [sM0 hm24, sM1 hm24, rL4 (by omega)]
    rfl
  rw [eg]
  show (RowQ (σ 5) nl nm np nv t ∧ MealQ (cu 8 (cu 8 (σ 1) m 0 0) m 1 (nI l)) (σ 2) nl nm np ∧ UniqQ (cu 8 (cu 8 (σ 1) m 0 0) m 1 (nI l)) nm ∧ PeopQ (σ 2) t B ∧ VolQ (σ 3) (cu 8 (cu 8 (σ 1) m 0 0) m 1 (nI l)) nl nm nv t W ∧ SetQ (σ 4) ∧ LockQ (cu 9 (σ 0) l 4 (ce 9 (σ 0) l 4 + 1)) (cu 8 (cu 8 (σ 1) m 0 0) m 1 (nI l)) nl nm) ∧ σ 5 = σ 5 ∧ σ 3 = σ 3 ∧ cnt (carr (cu 8 (cu 8 (σ 1) m 0 0) m 1 (nI l)) v) nm + 1 = cnt (carr (σ 1) v) nm ∧ cnt (stg (cu 8 (cu 8 (σ 1) m 0 0) m 1 (nI l)) 5) nm = cnt (stg (σ 1) 5) nm
  have d : D1 (σ 1) (cu 8 (cu 8 (σ 1) m 0 0) m 1 (nI l)) m := (D1.rf.u (by decide)).u (by decide)
  have e0 : ce 8 (cu 8 (cu 8 (σ 1) m 0 0) m 1 (nI l)) m 0 = 0 := by
    rw [ce_cu (by decide) (by decide), if_neg (fun q => absurd q.2 (by decide)), ce_cu (by decide) (by decide), if_pos ⟨rfl, rfl⟩]
  have e1 : ce 8 (cu 8 (cu 8 (σ 1) m 0 0) m 1 (nI l)) m 1 = nI l := by
    rw [ce_cu (by decide) (by decide), if_pos ⟨rfl, rfl⟩]
  generalize cu 8 (cu 8 (σ 1) m 0 0) m 1 (nI l) = f2 at d e0 e1 ⊢
  refine ⟨⟨hR, hM.d1 d (fun _ => ⟨⟨0, by decide, e0⟩, fun _ => ⟨l, hl, e1⟩, fun z => by rw [e0] at z; exact absurd z (by decide)⟩), hU.d1 d (by rw [e0]; decide), hP, hV.d1 d (by rw [e0]; decide), hS, (hL.d1 d (by rw [e0, s0]; decide)).u (by decide) (by decide) (by decide)⟩, rfl, rfl, ?_, ?_⟩
  · rw [cnt_one (p := carr f2 v) (q := carr (σ 1) v) (a := m) (fun i hi => carr_d1 d v i hi) (by unfold carr; rw [e0, decide_eq_false (by decide), Bool.false_and]) hc hm]
  · exact cnt_same (i := m) (fun i hi => stg_d1 d 5 i hi) (by unfold stg; rw [e0, s0]; decide) nm
/-- what a volunteer puts in -/
theorem op_stow (h : InvN σ nl nm np nv t B W) {v : Nat} (hv : v < nv) : ∃ c : Nat, c ≤ cnt (carr (σ 1) v) nm ∧ (zX0_stowMeals σ (nI v)).1 = nI c ∧ InvN (zX0_stowMeals σ (nI v)).2 nl nm np nv t B W ∧ (zX0_stowMeals σ (nI v)).2 5 = σ 5 ∧ (zX0_stowMeals σ (nI v)).2 3 = σ 3 ∧ cnt (stg ((zX0_stowMeals σ (nI v)).2 1) 5) nm = cnt (stg (σ 1) 5) nm := by
  obtain ⟨er, hn⟩ := h.r1
  have q3 := h.1.2.2.2.2.2.2.2.2.1
  have q0 := h.1.2.2.2.2.2.1
  have hv3 : v < 3 := by omega
  obtain ⟨r, a, w, h1, h2, h3, h4, h5, h6, h7, h8, h9⟩ := h.2.2.2.2.1 v hv3
  obtain ⟨l, hl, el⟩ := h9 hv
  have e : zX0_stowMeals σ (nI v) = upTo (cbS (nI v) (nI l) (zX4_freeCells σ (nI l))) (0, σ) nm := by
    unfold zX0_stowMeals
    rw [gV1 hv3, el, er, nI_clamp (by omega)]
    have k := stow_up (x1 := nI v) (x2 := nI l) (x3 := zX4_freeCells σ (nI l)) (a := (0, σ)) nm 0
    rw [Nat.zero_add] at k
    exact k
  rw [e]
  have key := upTo_ind (R := fun i (b : Int32 × Sg) => ∃ c : Nat, c + cnt (carr (b.2 1) v) nm = cnt (carr (σ 1) v) nm ∧ b.1 = nI c ∧ InvN b.2 nl nm np nv t B W ∧ b.2 5 = σ 5 ∧ b.2 3 = σ 3 ∧ cnt (stg (b.2 1) 5) nm = cnt (stg (σ 1) 5) nm) (f := cbS (nI v) (nI l) (zX4_freeCells σ (nI l))) (a := (0, σ)) ⟨0, Nat.zero_add _, rfl, h, rfl, rfl, rfl⟩ nm (fun i b hi R => by
    obtain ⟨c, k1, k2, k3, k4, k5, k6⟩ := R
    obtain ⟨b1, b2⟩ := b
    unfold cbS
    by_cases c1 : zX4_freeCells σ (nI l) ≤ b1
    · rw [if_pos c1]
      exact ⟨c, k1, k2, k3, k4, k5, k6⟩
    rw [if_neg c1]
    unfold bX0_stowMeals
    simp only
    rw [gM0 (by omega), gM6 (by omega)]
    by_cases c2 : ce 8 (b2 1) i 0 = 2
    · rw [if_pos c2]
      by_cases c3 : ce 8 (b2 1) i 6 = nI v
      · rw [if_pos c3]
        obtain ⟨j1, j2, j3, j4, j5⟩ := stow_1 (σ := b2) k3 hi hl (carr_t.mpr ⟨c2, c3⟩)
        have k1 : c + cnt (carr (b2 1) v) nm = cnt (carr (σ 1) v) nm := k1
        exact ⟨c + 1, by show c + 1 + cnt (carr ((zrai (zsto (zsto b2 1 (nI i) 0 0) 1 (nI i) 1 (nI l)) 0 (nI l) 4) 1) v) nm = cnt (carr (σ 1) v) nm; omega, by show b1 + 1 = _; rw [show b1 = nI c from k2, nI_1], j1, j2.trans k4, j3.trans k5, j5.trans k6⟩
      · rw [if_neg c3]
        exact ⟨c, k1, k2, k3, k4, k5, k6⟩
    · rw [if_neg c2]
      exact ⟨c, k1, k2, k3, k4, k5, k6⟩)
  obtain ⟨c, k1, k2, k3, k4, k5, k6⟩ := key
  exact ⟨c, by omega, k2, k3, k4, k5, k6⟩
theorem op_put (h : InvN σ nl nm np nv t B W) (x1 : Int32) :
    (zX5_has (σ 5 3) x1 = 0 ∧ zX0_putMealsIn σ x1 = (-1, σ)) ∨ (¬ zX5_has (σ 5 3) x1 = 0 ∧ ∃ τ : Sg, InvN τ nl nm np nv t B W ∧ (zX0_putMealsIn σ x1 = (-2, τ) ∨ ∃ c : Nat, 0 < c ∧ c ≤ 4 ∧ zX0_putMealsIn σ x1 = (nI c, τ))) := by
  have h0 := h
  obtain ⟨hR, hM, hU, hP, hV, hS, hL⟩ := h
  obtain ⟨r0, r1, r2, r3, r5, q0, q1, q2, q3, q5⟩ := hR
  unfold zX0_putMealsIn
  by_cases c1 : zX5_has (σ 5 3) x1 = 0
  · left; rw [if_pos c1]; exact ⟨c1, rfl⟩
  right
  refine ⟨c1, ?_⟩
  rw [if_neg c1]
  obtain ⟨v, hv, ev⟩ := has_n (r := nv) (by omega) (by rw [← r3]; exact c1)
  subst ev
  by_cases c2 : zX4_wayHoursLeft σ (nI v) ≤ 0
  rotate_left
  · rw [if_neg c2]; exact ⟨σ, h0, Or.inl rfl⟩
  rw [if_pos c2]
  obtain ⟨c, k1, k2, k3, -⟩ := op_stow h0 hv
  obtain ⟨r, a, w, -, -, -, h4, -, -, h7, -, -⟩ := hV v (by omega)
  rw [k2]
  by_cases c3 : nI c ≤ 0
  · rw [if_pos c3]
    exact ⟨_, k3, Or.inl rfl⟩
  · rw [if_neg c3]
    refine ⟨_, k3, Or.inr ⟨c, ?_, by omega, rfl⟩⟩
    rcases Nat.eq_zero_or_pos c with z | z
    · subst z; exact absurd (show nI 0 ≤ 0 by decide) c3
    · exact z
theorem op_set (h : InvN σ nl nm np nv t B W) (x1 x2 : Int32) : zX0_changeSetting σ x1 x2 = (-1, σ) ∨ ∃ j k : Nat, j < 4 ∧ x1 = nI j ∧ x2 = nI k ∧ 1 ≤ k ∧ k ≤ 99 ∧ nI k ≤ mostI j ∧ (zX0_changeSetting σ x1 x2).1 = σ 4 j ∧ InvN (zX0_changeSetting σ x1 x2).2 nl nm np nv t B W := by
  obtain ⟨hR, hM, hU, hP, hV, hS, hL⟩ := h
  unfold zX0_changeSetting
  by_cases c1 : x1 < 0
  · left; rw [if_pos c1]
  rw [if_neg c1]
  by_cases c2 : x1 < 4
  rotate_left
  · left; rw [if_neg c2]
  rw [if_pos c2]
  obtain ⟨j, hj, ej⟩ := nI_of c1
  subst ej
  have hj4 : j < 4 := (nI_ltI (b := 4) hj (by decide)).mp c2
  rw [nI_clamp hj]
  by_cases c3 : zX7_isWithin x2 1 (mostI j) = 0
  · left; rw [if_pos c3]
  right
  rw [if_neg c3, gSn hj4, sSn hj4]
  have hmost : (mostI j).toInt = ([48, 9, 99, 9].getD j 0 : Nat) := by
    match j, hj4 with
    | 0, _ => decide
    | 1, _ => decide
    | 2, _ => decide
    | 3, _ => decide
  obtain ⟨w1, w2⟩ := wi_e c3
  rw [hmost] at w2
  have o1 : (1 : Int32).toInt = 1 := by decide
  have hb : ([48, 9, 99, 9].getD j 0 : Nat) ≤ 99 := by
    match j, hj4 with
    | 0, _ => decide
    | 1, _ => decide
    | 2, _ => decide
    | 3, _ => decide
  obtain ⟨ek, ek2⟩ := rg_nI (x := x2) (n := 200) ⟨by omega, by omega⟩
  generalize x2.toNatClampNeg = k at ek ek2
  subst ek
  rw [nI_toInt (by omega)] at w1 w2
  refine ⟨j, k, hj4, rfl, rfl, by omega, by omega, by rw [Int32.le_iff_toInt_le, hmost, nI_toInt (by omega)]; omega, rfl, hR, hM, hU, hP, hV, ?_, hL⟩
  show SetQ (upd (σ 4) j (nI k))
  obtain ⟨s0, s1, s2, s3⟩ := hS
  match j, hj4 with
  | 0, _ =>
    have w2 : (k : Int) ≤ 48 := w2
    exact ⟨⟨k, by omega, by omega, rfl⟩, s1, s2, s3⟩
  | 1, _ =>
    have w2 : (k : Int) ≤ 9 := w2
    exact ⟨s0, ⟨k, by omega, by omega, rfl⟩, s2, s3⟩
  | 2, _ =>
    have w2 : (k : Int) ≤ 99 := w2
    exact ⟨s0, s1, ⟨k, by omega, by omega, rfl⟩, s3⟩
  | 3, _ =>
    have w2 : (k : Int) ≤ 9 := w2
    exact ⟨s0, s1, s2, ⟨k, by omega, by omega, rfl⟩⟩
/-! the hour -/
theorem time_1 (h : InvN σ nl nm np nv t (24 * t) (fun _ => t)) (ht : t < 5000) : InvN (sgR σ 5 (nI (t + 1))) nl nm np nv (t + 1) (24 * t) (fun _ => t) := by
  obtain ⟨hR, hM, hU, hP, hV, hS, hL⟩ := h
  obtain ⟨r0, r1, r2, r3, r5, q0, q1, q2, q3, q5⟩ := hR
  refine ⟨⟨r0, r1, r2, r3, rfl, q0, q1, q2, q3, by omega⟩, hM, hU, fun p hp => ?_, fun v hv => ?_, hS, hL⟩
  · obtain ⟨a, b, u, h1, h2, h3, h4, h5, h6, h7⟩ := hP p hp
    exact ⟨a, b, u, h1, h2, h3, h4, h5, h6, by omega⟩
  · obtain ⟨r, a, w, h1, h2, h3, h4, h5, h6, h7, h8, h9⟩ := hV v hv
    exact ⟨r, a, w, h1, h2, h3, h4, by omega, h6, h7, h8, h9⟩
/-- a cell of a meal that says nothing -/
theorem meal_u (h : InvN σ nl nm np nv t B W) {m : Nat} {z : Int32} (hm : m < 24) : InvN (zsto σ 1 (nI m) 2 z) nl nm np nv t B W ∧ (zsto σ 1 (nI m) 2 z) 5 = σ 5 ∧ (zsto σ 1 (nI m) 2 z) 3 = σ 3 ∧ (∀ k, ce 8 ((zsto σ 1 (nI m) 2 z) 1) k 0 = ce 8 (σ 1) k 0) ∧ ∀ k, ce 8 ((zsto σ 1 (nI m) 2 z) 1) k 1 = ce 8 (σ 1) k 1 := by
  obtain ⟨hR, hM, hU, hP, hV, hS, hL⟩ := h
  rw [sM2 hm]
  show (RowQ (σ 5) nl nm np nv t ∧ MealQ (cu 8 (σ 1) m 2 z) (σ 2) nl nm np ∧ UniqQ (cu 8 (σ 1) m 2 z) nm ∧ PeopQ (σ 2) t B ∧ VolQ (σ 3) (cu 8 (σ 1) m 2 z) nl nm nv t W ∧ SetQ (σ 4) ∧ LockQ (σ 0) (cu 8 (σ 1) m 2 z) nl nm) ∧ σ 5 = σ 5 ∧ σ 3 = σ 3 ∧ (∀ k, ce 8 (cu 8 (σ 1) m 2 z) k 0 = ce 8 (σ 1) k 0) ∧ ∀ k, ce 8 (cu 8 (σ 1) m 2 z) k 1 = ce 8 (σ 1) k 1
  have e : ∀ k c, c < 8 → c ≠ 2 → ce 8 (cu 8 (σ 1) m 2 z) k c = ce 8 (σ 1) k c := fun k c hc hn => by
    rw [ce_cu (by decide) hc, if_neg (fun q => hn q.2)]
  generalize cu 8 (σ 1) m 2 z = f2 at e ⊢
  refine ⟨⟨hR, fun k hk => ?_, fun a b ha hb a1 b1 e5 => ?_, hP, fun v hv => (hV v hv).cnt (Nat.le_of_eq (cnt_congr (fun k _ => ?_))), hS, hL.1, hL.2.1, ?_⟩, rfl, rfl, fun k => e k 0 (by decide) (by decide), fun k => e k 1 (by decide) (by decide)⟩
  · unfold MealC
    rw [e k 0 (by decide) (by decide), e k 1 (by decide) (by decide), e k 3 (by decide) (by decide), e k 4 (by decide) (by decide), e k 5 (by decide) (by decide)]
    exact hM k hk
  · rw [e a 0 (by decide) (by decide)] at a1
    rw [e b 0 (by decide) (by decide)] at b1
    rw [e a 5 (by decide) (by decide), e b 5 (by decide) (by decide)] at e5
    exact hU a b ha hb a1 b1 e5
  · unfold carr
    rw [e k 0 (by decide) (by decide), e k 6 (by decide) (by decide)]
  · rw [hL.2.2]
    refine congrArg nI (cnt_congr (fun k _ => ?_))
    unfold stg
    rw [e k 0 (by decide) (by decide)]
/-- a meal spoils -/
theorem spoil_1 (h : InvN σ nl nm np nv t B W) {m : Nat} (hm : m < nm) (h2 : ce 8 (σ 1) m 0 ≤ 2) : InvN (zX0_spoil σ (nI m)) nl nm np nv t B W ∧ (zX0_spoil σ (nI m)) 5 = σ 5 ∧ (zX0_spoil σ (nI m)) 3 = σ 3 ∧ cnt (stg ((zX0_spoil σ (nI m)) 1) 5) nm = cnt (stg (σ 1) 5) nm + 1 := by
  obtain ⟨hR, hM, hU, hP, hV, hS, hL⟩ := h
  have q1 := hR.2.2.2.2.2.2.1
  have q0 := hR.2.2.2.2.2.1
  have hm24 : m < 24 := by omega
  obtain ⟨⟨s, hs, es⟩, m2, -⟩ := hM m hm
  have hs2 : s ≤ 2 := by
    rw [es] at h2
    exact (nI_leI (b := 2) (by omega) (by decide)).mp h2
  have d : D1 (σ 1) (cu 8 (σ 1) m 0 5) m := D1.rf.u (by decide)
  have e0 : ce 8 (cu 8 (σ 1) m 0 5) m 0 = 5 := by rw [ce_cu (by decide) (by decide), if_pos ⟨rfl, rfl⟩]
  have n3 : ¬ nI s = 3 := fun z => by have := nI_inj (a := s) (b := 3) (by omega) (by decide) z; omega
  have n5 : ¬ nI s = 5 := fun z => by have := nI_inj (a := s) (b := 5) (by omega) (by decide) z; omega
  have core : MealQ (cu 8 (σ 1) m 0 5) (σ 2) nl nm np ∧ UniqQ (cu 8 (σ 1) m 0 5) nm ∧ VolQ (σ 3) (cu 8 (σ 1) m 0 5) nl nm nv t W ∧ LockQ (σ 0) (cu 8 (σ 1) m 0 5) nl nm ∧ cnt (stg (cu 8 (σ 1) m 0 5) 5) nm = cnt (stg (σ 1) 5) nm + 1 := by
    generalize cu 8 (σ 1) m 0 5 = f2 at d e0 ⊢
    refine ⟨hM.d1 d (fun _ => ⟨⟨5, by decide, e0⟩, fun z => by rw [e0] at z; exact absurd z (by decide), fun z => by rw [e0] at z; exact absurd z (by decide)⟩), hU.d1 d (by rw [e0]; decide), hV.d1 d (by rw [e0]; decide), hL.d1 d (by rw [e0, es]; exact ⟨fun z => absurd z (by decide), fun z => absurd z n3⟩), ?_⟩
    exact cnt_one (fun i hi => (stg_d1 d 5 i hi).symm) (by unfold stg; rw [es]; exact decide_eq_false n5) (by unfold stg; rw [e0]; decide) hm
  obtain ⟨k1, k2, k3, k4, k5⟩ := core
  unfold zX0_spoil
  rw [gM0 hm24]
  by_cases c1 : 1 < ce 8 (σ 1) m 0
  · rw [if_pos c1, sM0 hm24]
    exact ⟨⟨hR, k1, k2, hP, k3, hS, k4⟩, rfl, rfl, k5⟩
  · rw [if_neg c1]
    have hs1 : s ≤ 1 := by
      rw [es] at c1
      have := mt (nI_ltI (a := 1) (b := s) (by decide) (by omega)).mpr c1
      omega
    obtain ⟨l, hl, el⟩ := m2 (by
      rw [es]
      rcases (show s = 0 ∨ s = 1 by omega) with z | z
      · left; rw [z]; rfl
      · right; rw [z]; rfl)
    rw [gM1 hm24, el, rL8 (by omega), sM0 hm24]
    exact ⟨⟨hR, k1, k2, hP, k3, hS, k4.u (by decide) (by decide) (by decide)⟩, rfl, rfl, k5⟩
theorem lose_1 {i : Nat} (hi : i < 24) (v : Int32 × Sg) : ∃ z : Int32, bX0_spoilMealsOfThisHour i v = v ∨ (ce 8 (v.2 1) i 0 ≤ 2 ∧ (bX0_spoilMealsOfThisHour i v = (v.1, zsto v.2 1 (nI i) 2 z) ∨ bX0_spoilMealsOfThisHour i v = (v.1 + 1, zX0_spoil (zsto v.2 1 (nI i) 2 z) (nI i)))) := by
  unfold bX0_spoilMealsOfThisHour
  rw [gM0 hi, gM1 hi, gM2 hi]
  by_cases h1 : ce 8 (v.2 1) i 0 ≤ 2
  · rw [if_pos h1]
    by_cases h2 : 1 < ce 8 (v.2 1) i 0
    · rw [if_pos h2]
      by_cases h4 : 0 < ce 8 (v.2 1) i 2 - 2
      · rw [if_pos h4]; exact ⟨_, Or.inr ⟨h1, Or.inl rfl⟩⟩
      · rw [if_neg h4]; exact ⟨_, Or.inr ⟨h1, Or.inr rfl⟩⟩
    · rw [if_neg h2]
      by_cases h3 : zX4_isCold v.2 (ce 8 (v.2 1) i 1) = 0
      · rw [if_pos h3]
        by_cases h4 : 0 < ce 8 (v.2 1) i 2 - 2
        · rw [if_pos h4]; exact ⟨_, Or.inr ⟨h1, Or.inl rfl⟩⟩
        · rw [if_neg h4]; exact ⟨_, Or.inr ⟨h1, Or.inr rfl⟩⟩
      · rw [if_neg h3]
        by_cases h4 : 0 < ce 8 (v.2 1) i 2 - 1
        · rw [if_pos h4]; exact ⟨_, Or.inr ⟨h1, Or.inl rfl⟩⟩
        · rw [if_neg h4]; exact ⟨_, Or.inr ⟨h1, Or.inr rfl⟩⟩
  · rw [if_neg h1]; exact ⟨0, Or.inl rfl⟩
theorem op_lose (h : InvN σ nl nm np nv t B W) : ∃ c : Nat, c ≤ 24 ∧ (zX0_spoilMealsOfThisHour σ).1 = nI c ∧ InvN (zX0_spoilMealsOfThisHour σ).2 nl nm np nv t B W ∧ (zX0_spoilMealsOfThisHour σ).2 5 = σ 5 ∧ (zX0_spoilMealsOfThisHour σ).2 3 = σ 3 ∧ cnt (stg ((zX0_spoilMealsOfThisHour σ).2 1) 5) nm = cnt (stg (σ 1) 5) nm + c := by
  obtain ⟨er, hn⟩ := h.r1
  have e : zX0_spoilMealsOfThisHour σ = upTo bX0_spoilMealsOfThisHour (0, σ) nm := by
    unfold zX0_spoilMealsOfThisHour
    rw [er, nI_clamp (by omega)]
  rw [e]
  have key := upTo_ind (R := fun i (b : Int32 × Sg) => ∃ c : Nat, c ≤ i ∧ b.1 = nI c ∧ InvN b.2 nl nm np nv t B W ∧ b.2 5 = σ 5 ∧ b.2 3 = σ 3 ∧ cnt (stg (b.2 1) 5) nm = cnt (stg (σ 1) 5) nm + c) (f := bX0_spoilMealsOfThisHour) (a := (0, σ)) ⟨0, Nat.le_refl _, rfl, h, rfl, rfl, rfl⟩ nm (fun i b hi R => by
    obtain ⟨c, k1, k2, k3, k4, k5, k6⟩ := R
    obtain ⟨z, g | ⟨g0, g | g⟩⟩ := lose_1 (i := i) (by omega) b
    · rw [g]
      exact ⟨c, by omega, k2, k3, k4, k5, k6⟩
    · obtain ⟨j1, j2, j3, j4, -⟩ := meal_u (z := z) k3 (m := i) (by omega)
      rw [g]
      refine ⟨c, by omega, k2, j1, j2.trans k4, j3.trans k5, ?_⟩
      rw [← k6]
      exact cnt_congr (fun k _ => by unfold stg; rw [j4 k])
    · obtain ⟨j1, j2, j3, j4, -⟩ := meal_u (z := z) k3 (m := i) (by omega)
      obtain ⟨i1, i2, i3, i4⟩ := spoil_1 j1 hi (by rw [j4 i]; exact g0)
      rw [g]
      refine ⟨c + 1, by omega, by show b.1 + 1 = _; rw [k2, nI_1], i1, i2.trans (j2.trans k4), i3.trans (j3.trans k5), ?_⟩
      show cnt (stg (zX0_spoil (zsto b.2 1 (nI i) 2 z) (nI i) 1) 5) nm = _
      rw [i4, cnt_congr (p := stg ((zsto b.2 1 (nI i) 2 z) 1) 5) (q := stg (b.2 1) 5) (fun k _ => by unfold stg; rw [j4 k]), k6]
      omega)
  obtain ⟨c, k1, k2, k3, k4, k5, k6⟩ := key
  exact ⟨c, by omega, k2, k3, k4, k5, k6⟩
/-- an hour on the way -/
theorem walk_1 {i : Nat} (h : InvN σ nl nm np nv (t + 1) B (fun v => if v < i then t + 1 else t)) (hi : i < nv) : InvN (zX0_walkAnHour σ (nI i)) nl nm np nv (t + 1) B (fun v => if v < i + 1 then t + 1 else t) ∧ (zX0_walkAnHour σ (nI i)) 5 = σ 5 ∧ (zX0_walkAnHour σ (nI i)) 1 = σ 1 := by
  obtain ⟨hR, hM, hU, hP, hV, hS, hL⟩ := h
  have q3 := hR.2.2.2.2.2.2.2.2.1
  have hi3 : i < 3 := by omega
  have up : VolQ (σ 3) (σ 1) nl nm nv (t + 1) (fun v => if v < i + 1 then t + 1 else t) := fun v hv => by
    obtain ⟨r, a, w, h1, h2, h3, h4, h5, h6, h7, h8, h9⟩ := hV v hv
    refine ⟨r, a, w, h1, h2, h3, h4, h5, ?_, h7, h8, h9⟩
    show w ≤ if v < i + 1 then t + 1 else t
    have h6 : w ≤ if v < i then t + 1 else t := h6
    by_cases c1 : v < i
    · rw [if_pos c1] at h6; rw [if_pos (by omega)]; exact h6
    · rw [if_neg c1] at h6
      by_cases c2 : v < i + 1
      · rw [if_pos c2]; omega
      · rw [if_neg c2]; exact h6
  unfold zX0_walkAnHour
  by_cases c : zatt σ 3 (nI i) 3 < σ 5 5
  · rw [if_pos c]
    exact ⟨⟨hR, hM, hU, hP, up, hS, hL⟩, rfl, rfl⟩
  · rw [if_neg c, rV4 hi3]
    refine ⟨⟨hR, hM, hU, hP, fun v hv => ?_, hS, hL⟩, rfl, rfl⟩
    show VolC (cu 5 (σ 3) i 4 (ce 5 (σ 3) i 4 + 1)) (σ 1) nl nm nv (t + 1) (if v < i + 1 then t + 1 else t) v
    by_cases ev : v = i
    · subst ev
      obtain ⟨r, a, w, h1, h2, h3, h4, h5, h6, h7, h8, h9⟩ := hV v hv
      have h6 : w ≤ if v < v then t + 1 else t := h6
      rw [if_neg (Nat.lt_irrefl _)] at h6
      have e : ∀ c, c < 5 → c ≠ 4 → ce 5 (cu 5 (σ 3) v 4 (ce 5 (σ 3) v 4 + 1)) v c = ce 5 (σ 3) v c := fun c hc hn => by
        rw [ce_cu (by decide) hc, if_neg (fun q => hn q.2)]
      refine ⟨r, a, w + 1, ?_, ?_, ?_, h4, h5, by rw [if_pos (Nat.lt_succ_self _)]; omega, h7, h8, fun q => ?_⟩
      · rw [e 0 (by decide) (by decide)]; exact h1
      · rw [e 3 (by decide) (by decide)]; exact h2
      · rw [ce_cu (by decide) (by decide), if_pos ⟨rfl, rfl⟩, h3, nI_1]
      · rw [e 1 (by decide) (by decide)]; exact h9 q
    · have e : ∀ c, c < 5 → ce 5 (cu 5 (σ 3) i 4 (ce 5 (σ 3) i 4 + 1)) v c = ce 5 (σ 3) v c := fun c hc => by
        rw [ce_cu (by decide) hc, if_neg (fun q => ev q.1)]
      unfold VolC
      rw [e 0 (by decide), e 1 (by decide), e 3 (by decide), e 4 (by decide)]
      exact up v hv
theorem op_in (h : InvN σ nl nm np nv (t + 1) B (fun _ => t)) : InvN (zpassIn σ) nl nm np nv (t + 1) B (fun _ => t + 1) ∧ (zpassIn σ) 5 = σ 5 ∧ cnt (stg ((zpassIn σ) 1) 5) nm = cnt (stg (σ 1) 5) nm := by
  have r3 := h.1.2.2.2.1
  have q3 := h.1.2.2.2.2.2.2.2.2.1
  unfold zpassIn
  rw [r3, nI_clamp (by omega)]
  have key := upTo_ind (R := fun i (a : Sg) => InvN a nl nm np nv (t + 1) B (fun v => if v < i then t + 1 else t) ∧ a 5 = σ 5 ∧ cnt (stg (a 1) 5) nm = cnt (stg (σ 1) 5) nm) (f := bX0_passIn) (a := σ) ⟨by
      have e : (fun v : Nat => if v < 0 then t + 1 else t) = fun _ => t := by funext v; exact if_neg (by omega)
      rw [e]; exact h, rfl, rfl⟩ nv (fun i a hi R => by
    obtain ⟨k1, k2, k3⟩ := R
    obtain ⟨j1, j2, j3⟩ := walk_1 k1 hi
    unfold bX0_passIn
    by_cases c : zatt (zX0_walkAnHour a (nI i)) 3 (nI i) 3 = (zX0_walkAnHour a (nI i)) 5 5
    · rw [if_pos c]
      obtain ⟨n, -, -, i1, i2, -, i4⟩ := op_stow j1 hi
      exact ⟨i1, i2.trans (j2.trans k2), i4.trans ((congrArg (fun f => cnt (stg f 5) nm) j3).trans k3)⟩
    · rw [if_neg c]
      exact ⟨j1, j2.trans k2, (congrArg (fun f => cnt (stg f 5) nm) j3).trans k3⟩)
  obtain ⟨k1, k2, k3⟩ := key
  refine ⟨⟨k1.1, k1.2.1, k1.2.2.1, k1.2.2.2.1, fun v hv => ?_, k1.2.2.2.2.2⟩, k2, k3⟩
  obtain ⟨r, a, w, h1, h2, h3, h4, h5, h6, h7, h8, h9⟩ := k1.2.2.2.2.1 v hv
  refine ⟨r, a, w, h1, h2, h3, h4, h5, ?_, h7, h8, h9⟩
  have h6 : w ≤ if v < nv then t + 1 else t := h6
  show w ≤ t + 1
  by_cases c : v < nv
  · rw [if_pos c] at h6; exact h6
  · rw [if_neg c] at h6; omega
/-- a strike -/
theorem strike_1 (h : InvN σ nl nm np nv t B W) {p : Nat} (hp : p < np) : InvN (zX0_strike σ (nI p)) nl nm np nv t (B + 1) W ∧ (zX0_strike σ (nI p)) 5 = σ 5 ∧ (zX0_strike σ (nI p)) 1 = σ 1 := by
  obtain ⟨hR, hM, hU, hP, hV, hS, hL⟩ := h
  have hR9 := hR
  obtain ⟨r0, r1, r2, r3, r5, q0, q1, q2, q3, q5⟩ := hR
  have hp8 : p < 8 := by omega
  obtain ⟨a, b, u, h1, h2, h3, h4, h5, h6, h7⟩ := hP p hp8
  obtain ⟨s0, ⟨k1, k11, k12, ek1⟩, ⟨k2, k21, k22, ek2⟩, s3⟩ := hS
  have oth : ∀ g2 : Nat → Int32, (∀ q, q ≠ p → ∀ c, c < 6 → ce 6 g2 q c = ce 6 (σ 2) q c) → PeopC g2 t (B + 1) p → PeopQ g2 t (B + 1) := fun g2 hg hp2 q hq => by
    by_cases e : q = p
    · subst e; exact hp2
    · obtain ⟨a, b, u, i1, i2, i3, i4, i5, i6, i7⟩ := hP q hq
      exact ⟨a, b, u, (hg q e 1 (by decide)).trans i1, (hg q e 5 (by decide)).trans i2, (hg q e 2 (by decide)).trans i3, i4, i5, by omega, i7⟩
  have n1 : ∀ (g : Nat → Int32) (c : Nat) (z : Int32) (q : Nat), c < 6 → q ≠ p → ∀ d, d < 6 → ce 6 (cu 6 g p c z) q d = ce 6 g q d := fun g c z q hc hq d hd => by
    rw [ce_cu hc hd, if_neg (fun e => hq e.1)]
  have n2 : ∀ (g : Nat → Int32) (c d : Nat) (z : Int32), c < 6 → d < 6 → d ≠ c → ce 6 (cu 6 g p c z) p d = ce 6 g p d := fun g c d z hc hd hn => by
    rw [ce_cu hc hd, if_neg (fun e => hn e.2)]
  have n3 : ∀ (g : Nat → Int32) (c : Nat) (z : Int32), c < 6 → ce 6 (cu 6 g p c z) p c = z := fun g c z hc => by
    rw [ce_cu hc hc, if_pos ⟨rfl, rfl⟩]
  unfold zX0_strike
  rw [rP5 hp8, rP1 hp8, gP1 hp8]
  have e1 : ce 6 ((sgC (sgC σ 2 (cu 6 (σ 2) p 5 (ce 6 (σ 2) p 5 + 1))) 2 (cu 6 ((sgC σ 2 (cu 6 (σ 2) p 5 (ce 6 (σ 2) p 5 + 1))) 2) p 1 (ce 6 ((sgC σ 2 (cu 6 (σ 2) p 5 (ce 6 (σ 2) p 5 + 1))) 2) p 1 + 1))) 2) p 1 = nI (a + 1) := by
    show ce 6 (cu 6 (cu 6 (σ 2) p 5 (ce 6 (σ 2) p 5 + 1)) p 1 (ce 6 (cu 6 (σ 2) p 5 (ce 6 (σ 2) p 5 + 1)) p 1 + 1)) p 1 = _
    rw [n3 _ 1 _ (by decide), n2 _ 5 1 _ (by decide) (by decide) (by decide), h1, nI_1]
  rw [e1, gS1]
  have e4 : (sgC (sgC σ 2 (cu 6 (σ 2) p 5 (ce 6 (σ 2) p 5 + 1))) 2 (cu 6 ((sgC σ 2 (cu 6 (σ 2) p 5 (ce 6 (σ 2) p 5 + 1))) 2) p 1 (ce 6 ((sgC σ 2 (cu 6 (σ 2) p 5 (ce 6 (σ 2) p 5 + 1))) 2) p 1 + 1))) 4 1 = nI k1 := ek1
  rw [e4]
  by_cases c : nI (a + 1) < nI k1
  · rw [if_pos c]
    have ha : a + 1 ≤ 8 := by
      have := (nI_ltI (a := a + 1) (b := k1) (by omega) (by omega)).mp c
      omega
    refine ⟨⟨hR9, ?_, hU, ?_, hV, ⟨s0, ⟨k1, k11, k12, ek1⟩, ⟨k2, k21, k22, ek2⟩, s3⟩, hL⟩, rfl, rfl⟩
    · exact (hM.pu (by decide) (Nat.le_refl _) (Or.inl (by decide))).pu (by decide) (Nat.le_refl _) (Or.inl (by decide))
    · show PeopQ (cu 6 (cu 6 (σ 2) p 5 (ce 6 (σ 2) p 5 + 1)) p 1 (ce 6 (cu 6 (σ 2) p 5 (ce 6 (σ 2) p 5 + 1)) p 1 + 1)) t (B + 1)
      refine oth _ (fun q hq c hc => ?_) ⟨a + 1, b + 1, u, ?_, ?_, ?_, ha, by omega, by omega, h7⟩
      · rw [n1 _ 1 _ q (by decide) hq c hc, n1 _ 5 _ q (by decide) hq c hc]
      · rw [n3 _ 1 _ (by decide), n2 _ 5 1 _ (by decide) (by decide) (by decide), h1, nI_1]
      · rw [n2 _ 1 5 _ (by decide) (by decide) (by decide), n3 _ 5 _ (by decide), h2, nI_1]
      · rw [n2 _ 1 2 _ (by decide) (by decide) (by decide), n2 _ 5 2 _ (by decide) (by decide) (by decide)]; exact h3
  · rw [if_neg c, sP1 hp8, sP2 hp8, gS2]
    refine ⟨⟨hR9, ?_, hU, ?_, hV, ⟨s0, ⟨k1, k11, k12, ek1⟩, ⟨k2, k21, k22, ek2⟩, s3⟩, hL⟩, rfl, rfl⟩
    · exact (((hM.pu (by decide) (Nat.le_refl _) (Or.inl (by decide))).pu (by decide) (Nat.le_refl _) (Or.inl (by decide))).pu (by decide) (Nat.le_refl _) (Or.inl (by decide))).pu (by decide) (Nat.le_refl _) (Or.inl (by decide))
    · show PeopQ (cu 6 (cu 6 (cu 6 (cu 6 (σ 2) p 5 (ce 6 (σ 2) p 5 + 1)) p 1 (ce 6 (cu 6 (σ 2) p 5 (ce 6 (σ 2) p 5 + 1)) p 1 + 1)) p 1 0) p 2 ((σ 5 5) + (σ 4 2))) t (B + 1)
      refine oth _ (fun q hq c hc => ?_) ⟨0, b + 1, t + k2, ?_, ?_, ?_, by omega, by omega, by omega, by omega⟩
      · rw [n1 _ 2 _ q (by decide) hq c hc, n1 _ 1 _ q (by decide) hq c hc, n1 _ 1 _ q (by decide) hq c hc, n1 _ 5 _ q (by decide) hq c hc]
      · rw [n2 _ 2 1 _ (by decide) (by decide) (by decide), n3 _ 1 _ (by decide)]; rfl
      · rw [n2 _ 2 5 _ (by decide) (by decide) (by decide), n2 _ 1 5 _ (by decide) (by decide) (by decide), n2 _ 1 5 _ (by decide) (by decide) (by decide), n3 _ 5 _ (by decide), h2, nI_1]
      · rw [n3 _ 2 _ (by decide), r5, ek2, nI_add]
theorem InvN.mono (h : InvN σ nl nm np nv t B W) {B2 : Nat} (hB : B ≤ B2) : InvN σ nl nm np nv t B2 W := by
  obtain ⟨hR, hM, hU, hP, hV, hS, hL⟩ := h
  refine ⟨hR, hM, hU, fun p hp => ?_, hV, hS, hL⟩
  obtain ⟨a, b, u, h1, h2, h3, h4, h5, h6, h7⟩ := hP p hp
  exact ⟨a, b, u, h1, h2, h3, h4, h5, by omega, h7⟩
theorem op_lapse (h : InvN σ nl nm np nv t B W) : InvN (zX0_lapseReservations σ) nl nm np nv t (B + 24) W ∧ (zX0_lapseReservations σ) 5 = σ 5 ∧ cnt (stg ((zX0_lapseReservations σ) 1) 5) nm = cnt (stg (σ 1) 5) nm := by
  obtain ⟨er, hn⟩ := h.r1
  have e : zX0_lapseReservations σ = upTo bX0_lapseReservations σ nm := by
    unfold zX0_lapseReservations
    rw [er, nI_clamp (by omega)]
  rw [e]
  have key := upTo_ind (R := fun i (a : Sg) => InvN a nl nm np nv t (B + i) W ∧ a 5 = σ 5 ∧ cnt (stg (a 1) 5) nm = cnt (stg (σ 1) 5) nm) (f := bX0_lapseReservations) (a := σ) ⟨h, rfl, rfl⟩ nm (fun i a hi R => by
    obtain ⟨k1, k2, k3⟩ := R
    have hi24 : i < 24 := by omega
    have same : InvN a nl nm np nv t (B + (i + 1)) W ∧ a 5 = σ 5 ∧ cnt (stg (a 1) 5) nm = cnt (stg (σ 1) 5) nm := ⟨k1.mono (by omega), k2, k3⟩
    unfold bX0_lapseReservations
    rw [gM0 hi24]
    by_cases c1 : ce 8 (a 1) i 0 = 1
    rotate_left
    · rw [if_neg c1]; exact same
    rw [if_pos c1]
    by_cases c2 : (a 5 5) - (zatt a 1 (nI i) 7) < zX4_setting a 0
    · rw [if_pos c2]; exact same
    · rw [if_neg c2]
      obtain ⟨hR, hM, hU, hP, hV, hS, hL⟩ := k1
      obtain ⟨-, m2, m3⟩ := hM i hi
      obtain ⟨-, p, hp, ep, -⟩ := m3 c1
      have d : D1 (a 1) (cu 8 (a 1) i 0 0) i := D1.rf.u (by decide)
      have e0 : ce 8 (cu 8 (a 1) i 0 0) i 0 = 0 := by rw [ce_cu (by decide) (by decide), if_pos ⟨rfl, rfl⟩]
      have e1 : ce 8 (cu 8 (a 1) i 0 0) i 1 = ce 8 (a 1) i 1 := by rw [ce_cu (by decide) (by decide), if_neg (fun q => absurd q.2 (by decide))]
      have e5 : ce 8 ((sgC a 1 (cu 8 (a 1) i 0 0)) 1) i 5 = nI p := by
        show ce 8 (cu 8 (a 1) i 0 0) i 5 = _
        rw [ce_cu (by decide) (by decide), if_neg (fun q => absurd q.2 (by decide))]
        exact ep
      rw [sM0 hi24, gM5 hi24, e5]
      have I2 : InvN (sgC a 1 (cu 8 (a 1) i 0 0)) nl nm np nv t (B + i) W := by
        show RowQ (a 5) nl nm np nv t ∧ MealQ (cu 8 (a 1) i 0 0) (a 2) nl nm np ∧ UniqQ (cu 8 (a 1) i 0 0) nm ∧ PeopQ (a 2) t (B + i) ∧ VolQ (a 3) (cu 8 (a 1) i 0 0) nl nm nv t W ∧ SetQ (a 4) ∧ LockQ (a 0) (cu 8 (a 1) i 0 0) nl nm
        exact ⟨hR, hM.d1 d (fun _ => ⟨⟨0, by decide, e0⟩, fun _ => by rw [e1]; exact m2 (Or.inr c1), fun z => by rw [e0] at z; exact absurd z (by decide)⟩), hU.d1 d (by rw [e0]; decide), hP, hV.d1 d (by rw [e0]; decide), hS, hL.d1 d (by rw [e0, c1]; decide)⟩
      obtain ⟨j1, j2, j3⟩ := strike_1 I2 hp
      refine ⟨j1, j2.trans k2, (congrArg (fun f => cnt (stg f 5) nm) j3).trans (Eq.trans ?_ k3)⟩
      exact cnt_same (i := i) (fun m hm => stg_d1 d 5 m hm) (by show decide (ce 8 (cu 8 (a 1) i 0 0) i 0 = 5) = decide (ce 8 (a 1) i 0 = 5); rw [e0, c1]; decide) nm)
  obtain ⟨k1, k2, k3⟩ := key
  exact ⟨k1.mono (by omega), k2, k3⟩
theorem hour_1 (h : InvN σ nl nm np nv t (24 * t) (fun _ => t)) (ht : t < 5000) (x : Int32) : ∃ c : Nat, c ≤ 24 ∧ (bX0_passHours 0 (x, σ)).1 = x + nI c ∧ InvN (bX0_passHours 0 (x, σ)).2 nl nm np nv (t + 1) (24 * (t + 1)) (fun _ => t + 1) ∧ cnt (stg ((bX0_passHours 0 (x, σ)).2 1) 5) nm = cnt (stg (σ 1) 5) nm + c := by
  have r5 := h.1.2.2.2.2.1
  have e5 : (σ 5 5) + 1 = nI (t + 1) := by rw [r5, nI_1]
  unfold bX0_passHours
  simp only
  rw [e5]
  obtain ⟨c, k1, k2, k3, k4, k5, k6⟩ := op_lose (time_1 h ht)
  obtain ⟨i1, i2, i3⟩ := op_in k3
  obtain ⟨j1, j2, j3⟩ := op_lapse i1
  refine ⟨c, k1, by rw [k2], j1.mono (by omega), ?_⟩
  rw [j3, i3, k6]
  rfl
theorem op_pass (h : InvN σ nl nm np nv t (24 * t) (fun _ => t)) (x1 : Int32) :
    (zX7_isWithin x1 1 99 = 0 ∧ zX0_passHours σ x1 5000 = (-1, σ)) ∨ ∃ n : Nat, 1 ≤ n ∧ n ≤ 99 ∧ x1 = nI n ∧ ((5000 < t + n ∧ zX0_passHours σ x1 5000 = (-3, σ)) ∨ (t + n ≤ 5000 ∧ ∃ c : Nat, c ≤ 24 * n ∧ (zX0_passHours σ x1 5000).1 = nI c ∧ InvN (zX0_passHours σ x1 5000).2 nl nm np nv (t + n) (24 * (t + n)) (fun _ => t + n) ∧ cnt (stg ((zX0_passHours σ x1 5000).2 1) 5) nm = cnt (stg (σ 1) 5) nm + c)) := by
  have r5 := h.1.2.2.2.2.1
  have q5 := h.1.2.2.2.2.2.2.2.2.2
  unfold zX0_passHours
  by_cases c1 : zX7_isWithin x1 1 99 = 0
  · left; rw [if_pos c1]; exact ⟨c1, rfl⟩
  right
  rw [if_neg c1]
  obtain ⟨n, n1, n2, en⟩ := wi_n (a := 1) (b := 99) (by decide) (by decide) c1
  subst en
  refine ⟨n, n1, n2, rfl, ?_⟩
  rw [r5, nI_add]
  by_cases c2 : nI (t + n) ≤ 5000
  rotate_left
  · left
    rw [if_neg c2]
    have := mt (nI_leI (a := t + n) (b := 5000) (by omega) (by decide)).mpr c2
    exact ⟨by omega, rfl⟩
  right
  rw [if_pos c2, nI_clamp (by omega)]
  have c3 := (nI_leI (a := t + n) (b := 5000) (by omega) (by decide)).mp c2
  refine ⟨c3, ?_⟩
  exact upTo_ind (R := fun i (b : Int32 × Sg) => ∃ c : Nat, c ≤ 24 * i ∧ b.1 = nI c ∧ InvN b.2 nl nm np nv (t + i) (24 * (t + i)) (fun _ => t + i) ∧ cnt (stg (b.2 1) 5) nm = cnt (stg (σ 1) 5) nm + c) (f := bX0_passHours) (a := (0, σ)) ⟨0, Nat.le_refl _, rfl, h, rfl⟩ n (fun i b hi R => by
    obtain ⟨c, k1, k2, k3, k4⟩ := R
    obtain ⟨b1, b2⟩ := b
    obtain ⟨d, j1, j2, j3, j4⟩ := hour_1 k3 (by omega) b1
    have k2 : b1 = nI c := k2
    refine ⟨c + d, by omega, ?_, j3, ?_⟩
    · show (bX0_passHours 0 (b1, b2)).1 = _
      rw [j2, k2, nI_add]
    · show cnt (stg ((bX0_passHours 0 (b1, b2)).2 1) 5) nm = _
      rw [j4, k4]
      omega)
end
