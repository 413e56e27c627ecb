/-! HOURS, WHAT WOULD SPOIL, THE QUESTIONS: both sides answer the same -/
theorem acc0 {σ : Sg} : Acc (fun k => decide (σ 1 (8 * k) = 5)) 0 0 σ := by
  refine ⟨?_, fun k hk => ?_, fun k _ z => Or.inr (decide_eq_true z), fun k _ z => of_decide_eq_true z⟩
  · rw [ones_cnt, cnt_zero (fun i _ => bt_0 i)]
    rfl
  · rw [bt_0] at hk
    exact absurd hk (by decide)
theorem nn_of {x : Int32} {n : Nat} (h : 0 ≤ x.toInt ∧ x.toInt ≤ n) : ∃ j : Nat, j ≤ n ∧ x = nI j := by
  obtain ⟨a, b⟩ := rg_nI (x := x) (n := n + 1) ⟨h.1, by omega⟩
  exact ⟨_, by omega, a⟩
theorem op_pass {σ μ : Sg} (h : Rel (fun _ => 0) 5001 σ (μ 0)) (x1 : Int32) : (zX0_passHours σ x1 5000).1 = (zX8_lets μ x1).1 ∧ Rel (fun _ => 0) 5001 (zX0_passHours σ x1 5000).2 ((zX8_lets μ x1).2 0) := by
  unfold zX0_passHours zX8_lets
  rw [wi_in]
  by_cases h1 : zX8_in x1 1 99 = 0
  · rw [if_pos h1, if_pos h1]; exact ⟨rfl, h⟩
  rw [if_neg h1, if_neg h1]
  have hr := in_rg h1
  have q1 : (1 : Int32).toInt = 1 := by decide
  have q99 : (99 : Int32).toInt = 99 := by decide
  obtain ⟨n, hn, ex⟩ := nn_of (x := x1) (n := 99) ⟨by omega, by omega⟩
  subst ex
  obtain ⟨t, ht, et⟩ := nn_of (x := σ 5 5) (n := 5000) ⟨h.B.1.1, by have := h.B.1.2; omega⟩
  rw [h.gT, et, nI_add]
  by_cases h2 : nI (t + n) ≤ 5000
  · rw [if_pos h2, if_pos h2]
    have h3 : t + n ≤ 5000 := (nI_leI (a := t + n) (b := 5000) (by omega) (by omega)).mp h2
    obtain ⟨k1, k2, k3⟩ := sim_passes h (by omega) et acc0 n hn
    unfold zX8_passes
    rw [nI_clamp (by omega)]
    exact ⟨k2.1, k1.mono (by rw [k3]; exact ⟨by rw [nI_toInt (by omega)]; omega, by rw [nI_toInt (by omega)]; omega⟩)⟩
  · rw [if_neg h2, if_neg h2]; exact ⟨rfl, h⟩
theorem spoilt_bt {δ : Nat → Int32} {T : Int} {σ : Sg} {s : Nat → Int32} (h : Rel δ T σ s) (k : Nat) : bt (zX4_mealsSpoilt σ) k = (decide (k < 24) && decide (σ 1 (8 * k) = 5)) := by
  have hn := h.n
  have e : zX4_mealsSpoilt σ = upTo (bset (stq σ 5)) 0 (nM σ) := upTo_congr _ (fun i v hi => by
    have hi : i < nM σ := hi
    unfold bX4_mealsSpoilt bset stq
    rw [cM0 (by omega)]
    by_cases q : σ 1 (8 * i) = 5
    · rw [if_pos q, if_pos (decide_eq_true q)]
    · rw [if_neg q, if_neg (by rw [decide_eq_false q]; decide)])
  rw [e, bt_bset (by omega)]
  unfold stq
  by_cases q : k < nM σ
  · rw [decide_eq_true q, decide_eq_true (p := k < 24) (by omega)]
  · rw [decide_eq_false q, Bool.false_and]
    by_cases q2 : k < 24
    · rw [h.S k (by omega) q2]
      rw [decide_eq_false (p := (0 : Int32) = 5) (by decide), Bool.and_false]
    · rw [decide_eq_false q2, Bool.false_and]
theorem would {σ μ : Sg} (h : Rel (fun _ => 0) 5001 σ (μ 0)) {n : Nat} (hn : n ≤ 99) : 0 ≤ (upTo bX0_passHours (0, σ) n).1 ∧ (zX4_mealsSpoilt (upTo bX0_passHours (0, σ) n).2) &&& ((zX4_mealsSpoilt σ) ^^^ (-1)) = (upTo bX8_passes (0, μ) n).1 := by
  obtain ⟨t, ht, et⟩ := nn_of (x := σ 5 5) (n := 5000) ⟨h.B.1.1, by have := h.B.1.2; omega⟩
  obtain ⟨k1, k2, k3⟩ := sim_passes h (by omega) et acc0 n hn
  refine ⟨?_, bt_ext (fun k hk => ?_)⟩
  · rw [k2.1, ones_cnt]
    exact nI_pos' (by have := cnt_le (bt (upTo bX8_passes (0, μ) n).1) 24; omega)
  · rw [bt_and, bt_not _ hk, spoilt_bt h, spoilt_bt k1]
    obtain ⟨-, a2, a3, a4⟩ := k2
    by_cases q : bt (upTo bX8_passes (0, μ) n).1 k = true
    · obtain ⟨b1, b2, b3⟩ := a2 k q
      have b3 := of_decide_eq_false b3
      rw [q, decide_eq_true b1, decide_eq_true b2, decide_eq_false b3]
      rfl
    · rw [Bool.eq_false_iff.mpr q]
      by_cases q2 : k < 24
      · by_cases q3 : (upTo bX0_passHours (0, σ) n).2 1 (8 * k) = 5
        · rcases a3 k q2 q3 with z | z
          · exact absurd z q
          · have z := of_decide_eq_true z
            rw [decide_eq_true q2, decide_eq_true z]
            simp
        · rw [decide_eq_false q3]
          simp
      · rw [decide_eq_false q2]
        rfl
section
variable {δ : Nat → Int32} {T : Int} {σ μ : Sg}
theorem q_meal (h : Rel δ T σ (μ 0)) (x1 x2 : Int32) : zX3_ofMeal σ x1 x2 = zX8_mealOf μ x1 x2 := by
  unfold zX3_ofMeal zX8_mealOf
  rw [h.hasM, wi_in]
  by_cases h1 : zX5_has (σ 5 1) x1 = 0
  · rw [if_pos h1, if_pos h1]
  rw [if_neg h1, if_neg h1]
  by_cases h2 : zX8_in x2 0 6 = 0
  · rw [if_pos h2, if_pos h2]
  rw [if_neg h2, if_neg h2]
  obtain ⟨m, em, hm, -⟩ := has_of h.r1 h1
  have hm : m < nM σ := hm
  have hn := h.n
  have hm24 : m < 24 := by omega
  have hr := in_rg h2
  have q0 : (0 : Int32).toInt = 0 := by decide
  have q6 : (6 : Int32).toInt = 6 := by decide
  obtain ⟨c, hc, ex⟩ := nn_of (x := x2) (n := 6) ⟨by omega, by omega⟩
  subst em ex
  unfold zX3_tells
  rw [cM0 hm24]
  have plain : ∀ c, c < 4 → σ 1 (8 * m + c) = μ 0 (52 + 8 * m + c) → (if (if nI c = 4 then (if σ 1 (8 * m) = 1 then (1 : Int32) else 0) else (if nI c = 5 then (if σ 1 (8 * m) = 1 then 1 else (if σ 1 (8 * m) = 3 then 1 else (if σ 1 (8 * m) = 4 then 1 else 0))) else (if nI c = 6 then (if σ 1 (8 * m) = 2 then 1 else 0) else 1))) = 0 then (-4) else zatt σ 1 (nI m) (nI c)) = (if nI c = 4 then (if (zX8_ofMeal μ (nI m) 0) = 1 then (zX8_ofMeal μ (nI m) 4) else (-4)) else (if nI c = 5 then (zX8_personAt μ (nI m)) else (if nI c = 6 then (if (zX8_ofMeal μ (nI m) 0) = 2 then (zX8_ofMeal μ (nI m) 7) else (-4)) else (zX8_ofMeal μ (nI m) (nI c))))) := by
    intro c hc he
    have n4 : ¬ nI c = 4 := fun z => by have := (nI_eq (a := c) (b := 4) (by omega) (by omega)).mp z; omega
    have n5 : ¬ nI c = 5 := fun z => by have := (nI_eq (a := c) (b := 5) (by omega) (by omega)).mp z; omega
    have n6 : ¬ nI c = 6 := fun z => by have := (nI_eq (a := c) (b := 6) (by omega) (by omega)).mp z; omega
    rw [if_neg n4, if_neg n5, if_neg n6, if_neg (show ¬ (1 : Int32) = 0 by decide), if_neg n4, if_neg n5, if_neg n6, cMc hm24 (by omega), oMw hm24 (by omega), he]
  match c, hc with
  | 0, _ => exact plain 0 (by decide) (h.gM0 hm24).symm
  | 1, _ => exact plain 1 (by decide) (h.gM1 hm24).symm
  | 2, _ => exact plain 2 (by decide) (h.gM2 hm24).symm
  | 3, _ => exact plain 3 (by decide) (h.gM3 hm24).symm
  | 4, _ =>
    rw [if_pos (show nI 4 = 4 from rfl), if_pos (show nI 4 = 4 from rfl), oM0 hm24, oM4 hm24, h.gM0 hm24, h.gM4 hm24]
    by_cases q : σ 1 (8 * m) = 1
    · rw [if_pos q, if_pos q, if_neg (by decide)]
      exact cM4 hm24
    · rw [if_neg q, if_neg q, if_pos rfl]
  | 5, _ =>
    rw [if_neg (show ¬ nI 5 = 4 by decide), if_pos (show nI 5 = 5 from rfl), if_neg (show ¬ nI 5 = 4 by decide), if_pos (show nI 5 = 5 from rfl)]
    unfold zX8_personAt
    rw [oM0 hm24, oM5 hm24, h.gM0 hm24]
    by_cases q : σ 1 (8 * m) = 1
    · rw [if_pos q, if_pos q, if_neg (by decide), ← h.W m hm24 (Or.inl q)]
      exact cM5 hm24
    · rw [if_neg q, if_neg q]
      by_cases q3 : σ 1 (8 * m) = 3
      · rw [if_pos q3, if_pos q3, if_neg (by decide), ← h.W m hm24 (Or.inr (Or.inl q3))]
        exact cM5 hm24
      · rw [if_neg q3, if_neg q3]
        by_cases q4 : σ 1 (8 * m) = 4
        · rw [if_pos q4, if_pos q4, if_neg (by decide), ← h.W m hm24 (Or.inr (Or.inr q4))]
          exact cM5 hm24
        · rw [if_neg q4, if_neg q4, if_pos rfl]
  | 6, _ =>
    rw [if_neg (show ¬ nI 6 = 4 by decide), if_neg (show ¬ nI 6 = 5 by decide), if_pos (show nI 6 = 6 from rfl), if_neg (show ¬ nI 6 = 4 by decide), if_neg (show ¬ nI 6 = 5 by decide), if_pos (show nI 6 = 6 from rfl), oM0 hm24, oM7 hm24, h.gM0 hm24, h.gM6 hm24]
    by_cases q : σ 1 (8 * m) = 2
    · rw [if_pos q, if_pos q, if_neg (by decide)]
      exact cM6 hm24
    · rw [if_neg q, if_neg q, if_pos rfl]
theorem q_locker (h : Rel δ T σ (μ 0)) (x1 x2 : Int32) : zX3_ofLocker σ x1 x2 = zX8_lockerOf μ x1 x2 := by
  unfold zX3_ofLocker zX8_lockerOf
  rw [h.hasL, wi_in]
  by_cases h1 : zX5_has (σ 5 0) x1 = 0
  · rw [if_pos h1, if_pos h1]
  rw [if_neg h1, if_neg h1]
  by_cases h2 : zX8_in x2 0 8 = 0
  · rw [if_pos h2, if_pos h2]
  rw [if_neg h2, if_neg h2]
  obtain ⟨l, el, hl, -⟩ := has_of h.r0 h1
  have hr0 := (rg_nI h.r0).2
  have hr1 := h.r0.2
  have hl5 : l < 5 := by omega
  have hr := in_rg h2
  have q0 : (0 : Int32).toInt = 0 := by decide
  have q8 : (8 : Int32).toInt = 8 := by decide
  obtain ⟨c, hc, ex⟩ := nn_of (x := x2) (n := 8) ⟨by omega, by omega⟩
  subst el ex
  have more : ∀ c, c < 8 → 2 ≤ c → σ 0 (9 * l + (c + 1)) = μ 0 (12 + 8 * l + c) → (if nI (c + 1) = 2 then zX4_mealsIn σ (nI l) else zatt σ 0 (nI l) (nI (c + 1))) = (if 2 ≤ nI (c + 1) then (if nI (c + 1) = 2 then (zX8_mealsOf μ (nI l) 0) else (zX8_ofLocker μ (nI l) (nI (c + 1) - 1))) else (zX8_ofLocker μ (nI l) (nI (c + 1)))) := by
    intro c hc h2 he
    have n2 : ¬ nI (c + 1) = 2 := fun z => by have := (nI_eq (a := c + 1) (b := 2) (by omega) (by omega)).mp z; omega
    rw [if_neg n2, if_pos (show (2 : Int32) ≤ nI (c + 1) from nI_le (a := 2) (by omega) (by omega)), if_neg n2, cLc hl5 (by omega), nI_pred, oLw hl5 hc, he]
  match c, hc with
  | 0, _ =>
    rw [if_neg (show ¬ nI 0 = 2 by decide), if_neg (show ¬ (2 : Int32) ≤ nI 0 by decide), cLc hl5 (by decide), oLw hl5 (by decide)]
    exact (h.gL0 hl5).symm
  | 1, _ =>
    rw [if_neg (show ¬ nI 1 = 2 by decide), if_neg (show ¬ (2 : Int32) ≤ nI 1 by decide), cLc hl5 (by decide), oLw hl5 (by decide)]
    exact (h.gL1 hl5).symm
  | 2, _ =>
    rw [if_pos (show nI 2 = 2 from rfl), if_pos (show (2 : Int32) ≤ nI 2 by decide), if_pos (show nI 2 = 2 from rfl), h.cIn, h.oIn]
  | 3, _ => exact more 2 (by decide) (by decide) (h.gL3 hl5).symm
  | 4, _ => exact more 3 (by decide) (by decide) (h.gL4 hl5).symm
  | 5, _ => exact more 4 (by decide) (by decide) (h.gL5 hl5).symm
  | 6, _ => exact more 5 (by decide) (by decide) (h.gL6 hl5).symm
  | 7, _ => exact more 6 (by decide) (by decide) (h.gL7 hl5).symm
  | 8, _ => exact more 7 (by decide) (by decide) (h.gL8 hl5).symm
theorem q_person (h : Rel δ T σ (μ 0)) (hT : T ≤ 10000) (x1 x2 : Int32) : zX3_ofPerson σ x1 x2 = zX8_personOf μ x1 x2 := by
  unfold zX3_ofPerson zX8_personOf
  rw [h.hasP, wi_in]
  by_cases h1 : zX5_has (σ 5 2) x1 = 0
  · rw [if_pos h1, if_pos h1]
  rw [if_neg h1, if_neg h1]
  by_cases h2 : zX8_in x2 0 5 = 0
  · rw [if_pos h2, if_pos h2]
  rw [if_neg h2, if_neg h2]
  obtain ⟨p, ep, hp, -⟩ := has_of h.r2 h1
  have hr0 := (rg_nI h.r2).2
  have hr1 := h.r2.2
  have hp8 : p < 8 := by omega
  have hr := in_rg h2
  have q0 : (0 : Int32).toInt = 0 := by decide
  have q5 : (5 : Int32).toInt = 5 := by decide
  obtain ⟨c, hc, ex⟩ := nn_of (x := x2) (n := 5) ⟨by omega, by omega⟩
  have hn := h.n
  subst ep ex
  match c, hc with
  | 0, _ =>
    rw [if_neg (show ¬ nI 0 = 2 by decide), if_neg (show ¬ nI 0 = 3 by decide), if_neg (show ¬ nI 0 = 2 by decide), if_neg (show ¬ nI 0 = 3 by decide), if_neg (show ¬ nI 0 = 4 by decide), if_neg (show ¬ nI 0 = 5 by decide), cPc hp8 (by decide), oPw hp8 (by decide)]
    exact (h.gP0 hp8).symm
  | 1, _ =>
    rw [if_neg (show ¬ nI 1 = 2 by decide), if_neg (show ¬ nI 1 = 3 by decide), if_neg (show ¬ nI 1 = 2 by decide), if_neg (show ¬ nI 1 = 3 by decide), if_neg (show ¬ nI 1 = 4 by decide), if_neg (show ¬ nI 1 = 5 by decide), cPc hp8 (by decide), oPw hp8 (by decide)]
    exact (h.gP1 hp8).symm
  | 2, _ =>
    rw [if_pos (show nI 2 = 2 from rfl), if_pos (show nI 2 = 2 from rfl)]
    exact (h.bar hT hp8).2
  | 3, _ =>
    rw [if_neg (show ¬ nI 3 = 2 by decide), if_pos (show nI 3 = 3 from rfl), if_neg (show ¬ nI 3 = 2 by decide), if_pos (show nI 3 = 3 from rfl)]
    rcases h.resv (nI p) with ⟨c1, c2, c3⟩ | ⟨j, j1, j2, j3, c1, c2⟩
    · rw [c1, c2, if_neg (by decide)]
    · rw [c1, c2, if_pos (nI_pos' (by omega))]
  | 4, _ =>
    rw [if_neg (show ¬ nI 4 = 2 by decide), if_neg (show ¬ nI 4 = 3 by decide), if_neg (show ¬ nI 4 = 2 by decide), if_neg (show ¬ nI 4 = 3 by decide), if_pos (show nI 4 = 4 from rfl), cPc hp8 (by decide), show nI 4 - 1 = nI 3 from rfl, oPw hp8 (by decide)]
    exact (h.gP4 hp8).symm
  | 5, _ =>
    rw [if_neg (show ¬ nI 5 = 2 by decide), if_neg (show ¬ nI 5 = 3 by decide), if_neg (show ¬ nI 5 = 2 by decide), if_neg (show ¬ nI 5 = 3 by decide), if_neg (show ¬ nI 5 = 4 by decide), if_pos (show nI 5 = 5 from rfl), cPc hp8 (by decide), show nI 5 - 1 = nI 4 from rfl, oPw hp8 (by decide)]
    exact (h.gP5 hp8).symm
theorem q_vol (h : Rel (fun _ => 0) T σ (μ 0)) (hT : T ≤ 10000) (x1 x2 : Int32) : zX3_ofVolunteer σ x1 x2 = zX8_volunteerOf μ x1 x2 := by
  unfold zX3_ofVolunteer zX8_volunteerOf
  rw [h.hasH, wi_in]
  by_cases h1 : zX5_has (σ 5 3) x1 = 0
  · rw [if_pos h1, if_pos h1]
  rw [if_neg h1, if_neg h1]
  by_cases h2 : zX8_in x2 0 4 = 0
  · rw [if_pos h2, if_pos h2]
  rw [if_neg h2, if_neg h2]
  obtain ⟨v, ev, hv, -⟩ := has_of h.r3 h1
  have hr0 := (rg_nI h.r3).2
  have hr1 := h.r3.2
  have hv3 : v < 3 := by omega
  have hr := in_rg h2
  have q0 : (0 : Int32).toInt = 0 := by decide
  have q4 : (4 : Int32).toInt = 4 := by decide
  obtain ⟨c, hc, ex⟩ := nn_of (x := x2) (n := 4) ⟨by omega, by omega⟩
  subst ev ex
  match c, hc with
  | 0, _ =>
    rw [if_neg (show ¬ nI 0 = 2 by decide), if_neg (show ¬ nI 0 = 3 by decide), if_neg (show ¬ nI 0 = 2 by decide), if_neg (show ¬ nI 0 = 3 by decide), if_neg (show ¬ nI 0 = 4 by decide), cVc hv3 (by decide), oHw hv3 (by decide)]
    exact (h.gV0 hv3).symm
  | 1, _ =>
    rw [if_neg (show ¬ nI 1 = 2 by decide), if_neg (show ¬ nI 1 = 3 by decide), if_neg (show ¬ nI 1 = 2 by decide), if_neg (show ¬ nI 1 = 3 by decide), if_neg (show ¬ nI 1 = 4 by decide), cVc hv3 (by decide), oHw hv3 (by decide)]
    exact (h.gV1 hv3).symm
  | 2, _ =>
    rw [if_pos (show nI 2 = 2 from rfl), if_pos (show nI 2 = 2 from rfl), h.cWith, h.oWith]
  | 3, _ =>
    rw [if_neg (show ¬ nI 3 = 2 by decide), if_pos (show nI 3 = 3 from rfl), if_neg (show ¬ nI 3 = 2 by decide), if_pos (show nI 3 = 3 from rfl)]
    exact (h.way_ hT hv3).2
  | 4, _ =>
    rw [if_neg (show ¬ nI 4 = 2 by decide), if_neg (show ¬ nI 4 = 3 by decide), if_neg (show ¬ nI 4 = 2 by decide), if_neg (show ¬ nI 4 = 3 by decide), if_pos (show nI 4 = 4 from rfl), cVc hv3 (by decide), oH3 hv3]
    exact (h.gV4 hv3).symm
theorem q_stages (h : Rel δ T σ (μ 0)) (a b : Int32) : zX3_mealsAtStages σ a b = zX8_mealsWith μ a b := by
  have hn := h.n
  unfold zX3_mealsAtStages zX8_mealsWith
  rw [h.ns]
  refine upTo_congr _ (fun i v hi => ?_)
  have hi : i < nM σ := hi
  unfold bX3_mealsAtStages bX8_mealsWith
  rw [cM0 (by omega), oM0 (by omega), h.gM0 (by omega), wi_in, Int32.add_zero]
theorem stages_cnt (h : Rel δ T σ (μ 0)) (a b : Int32) : ∀ n, n ≤ nM σ → upTo (bX3_mealsAtStages σ a b) 0 n = nI (cnt (fun i => decide (¬ zX8_in (σ 1 (8 * i)) a b = 0)) n)
  | 0, _ => rfl
  | n + 1, hn2 => by
    have hn := h.n
    show bX3_mealsAtStages σ a b n (upTo (bX3_mealsAtStages σ a b) 0 n) = nI (cnt _ n + (if decide (¬ zX8_in (σ 1 (8 * n)) a b = 0) = true then 1 else 0))
    rw [stages_cnt h a b n (by omega)]
    unfold bX3_mealsAtStages
    rw [cM0 (by omega), wi_in]
    by_cases q : zX8_in (σ 1 (8 * n)) a b = 0
    · rw [if_pos q, if_neg (by rw [decide_eq_false (fun z => z q)]; decide)]
      rfl
    · rw [if_neg q, if_pos (decide_eq_true q), nI_1]
theorem in_self (x c : Int32) : (¬ zX8_in x c c = 0) ↔ x = c := by
  unfold zX8_in
  constructor
  · intro z
    by_cases h1 : x < c
    · rw [if_pos h1] at z; exact absurd rfl z
    · rw [if_neg h1] at z
      by_cases h2 : c < x
      · rw [if_pos h2] at z; exact absurd rfl z
      · apply Int32.toInt_inj.mp
        rw [Int32.lt_iff_toInt_lt] at h1 h2
        omega
  · intro z
    subst z
    have h1 : ¬ x < x := by rw [Int32.lt_iff_toInt_lt]; omega
    rw [if_neg h1, if_neg h1]
    decide
theorem stages_one (h : Rel δ T σ (μ 0)) (c : Int32) : zX3_mealsAtStages σ c c = nI (cnt (stq σ c) (nM σ)) := by
  have e := stages_cnt h c c (nM σ) (Nat.le_refl _)
  have e2 : zX3_mealsAtStages σ c c = upTo (bX3_mealsAtStages σ c c) 0 (nM σ) := rfl
  rw [e2, e]
  refine congrArg nI (cnt_congr (fun i hi => ?_))
  unfold stq
  exact decide_eq_decide.mpr (in_self _ _)
theorem q_total (h : Rel δ T σ (μ 0)) (x1 : Int32) (h11 : ¬ x1 = 11) (h12 : ¬ x1 = 12) : zX3_total σ x1 = zX8_count μ x1 := by
  unfold zX3_total zX8_count
  by_cases c0 : x1 = 0
  · subst c0; rw [if_pos rfl, if_pos rfl]; exact (h.gF (j := 0) (by decide)).symm
  rw [if_neg c0, if_neg c0]
  by_cases c1 : x1 = 1
  · subst c1; rw [if_pos rfl, if_pos rfl]; exact (h.gF (j := 1) (by decide)).symm
  rw [if_neg c1, if_neg c1]
  by_cases c2 : x1 = 2
  · subst c2; rw [if_pos rfl, if_pos rfl]; exact (h.gF (j := 2) (by decide)).symm
  rw [if_neg c2, if_neg c2]
  by_cases c3 : x1 = 3
  · subst c3; rw [if_pos rfl, if_pos rfl]; exact (h.gF (j := 3) (by decide)).symm
  rw [if_neg c3, if_neg c3]
  by_cases c4 : x1 = 4
  · subst c4; rw [if_pos rfl, if_pos rfl]; exact h.gT.symm
  rw [if_neg c4, if_neg c4]
  by_cases c5 : x1 = 5
  · subst c5; rw [if_pos rfl, if_pos rfl]; exact q_stages h 0 1
  rw [if_neg c5, if_neg c5]
  by_cases c6 : x1 = 6
  · subst c6; rw [if_pos rfl, if_pos rfl]; exact q_stages h 2 2
  rw [if_neg c6, if_neg c6]
  by_cases c7 : x1 = 7
  · subst c7; rw [if_pos rfl, if_pos rfl, stages_one h 3]; exact h.C.1.symm
  rw [if_neg c7, if_neg c7]
  by_cases c8 : x1 = 8
  · subst c8; rw [if_pos rfl, if_pos rfl, stages_one h 4]; exact h.C.2.1.symm
  rw [if_neg c8, if_neg c8]
  by_cases c9 : x1 = 9
  · subst c9; rw [if_pos rfl, if_pos rfl, stages_one h 5]; exact h.C.2.2.symm
  rw [if_neg c9, if_neg c9]
  by_cases c10 : x1 = 10
  · subst c10; rw [if_pos rfl, if_pos rfl]; exact q_stages h 1 1
  rw [if_neg c10, if_neg c10, if_neg h11, if_neg h12, wi_in]
  by_cases h1 : zX8_in x1 13 16 = 0
  · rw [if_pos h1, if_pos h1]
  rw [if_neg h1, if_neg h1]
  have hr := in_rg h1
  have q13 : (13 : Int32).toInt = 13 := by decide
  have q16 : (16 : Int32).toInt = 16 := by decide
  obtain ⟨c, hc, ex⟩ := nn_of (x := x1) (n := 16) ⟨by omega, by omega⟩
  subst ex
  rw [nI_toInt (by omega)] at hr
  have e1 : nI c - 13 = nI (c - 13) := pk_sub (a := c) (b := 13) (by omega)
  have e2 : (5 + nI c) - 13 = nI (5 + (c - 13)) := by
    rw [show (5 : Int32) = nI 5 from rfl, nI_add, show (13 : Int32) = nI 13 from rfl, pk_sub (by omega)]
    exact congrArg nI (by omega)
  rw [e1, e2, cSn (by omega), nI_clamp (by omega)]
  exact (h.gS (by omega)).symm
end
