/-! RESERVE, FETCH, TAKE, GO, SET: both sides change the same -/
section
variable {δ : Nat → Int32} {T : Int} {σ μ : Sg}
theorem op_reserve (h : Rel δ T σ (μ 0)) (hT : T ≤ 10000) (x1 x2 : Int32) : (zX0_reserveMeal σ x1 x2).1 = (zX8_reserves μ x1 x2).1 ∧ Rel δ T (zX0_reserveMeal σ x1 x2).2 ((zX8_reserves μ x1 x2).2 0) := by
  unfold zX0_reserveMeal zX8_reserves
  rw [h.hasP, h.hasM]
  by_cases h1 : zX5_has (σ 5 2) x1 = 0
  · rw [if_pos h1, if_pos h1]; exact ⟨rfl, h⟩
  rw [if_neg h1, if_neg h1]
  by_cases h2 : zX5_has (σ 5 1) x2 = 0
  · rw [if_pos h2, if_pos h2]; exact ⟨rfl, h⟩
  rw [if_neg h2, if_neg h2]
  obtain ⟨p, ep, hp, hp9⟩ := has_of h.r2 h1
  obtain ⟨m, em, hm, -⟩ := has_of h.r1 h2
  have hm : m < nM σ := hm
  have hn := h.n
  have hp0 := (rg_nI h.r2).2
  have hp1 := h.r2.2
  have hp8 : p < 8 := by omega
  have hm24 : m < 24 := by omega
  subst ep em
  rw [h.fit hp8 hm24]
  obtain ⟨b1, -⟩ := h.bar hT hp8
  by_cases h3 : zX4_isFitFor σ (nI p) (nI m) = 0
  · rw [if_pos h3]
    refine ⟨?_, ?_⟩
    · by_cases h4 : zX8_isBarred μ (nI p) = 0
      · rw [if_pos h4]
        by_cases h5 : 0 ≤ zX8_reservedBy μ (nI p)
        · rw [if_pos h5]
        · rw [if_neg h5, if_pos h3]
      · rw [if_neg h4]
    · by_cases h4 : zX8_isBarred μ (nI p) = 0
      · rw [if_pos h4]
        by_cases h5 : 0 ≤ zX8_reservedBy μ (nI p)
        · rw [if_pos h5]; exact h
        · rw [if_neg h5, if_pos h3]; exact h
      · rw [if_neg h4]; exact h
  rw [if_neg h3]
  by_cases h4 : zX8_isBarred μ (nI p) = 0
  · rw [if_neg (b1.mp h4), if_pos h4]
    rcases h.resv (nI p) with ⟨c1, c2, c3⟩ | ⟨j, j1, j2, j3, c1, c2⟩
    · rw [c1, c2, if_pos (by decide), if_neg (by decide), if_neg h3]
      rw [h.gT]
      generalize hcode : (1000 + ((((37 * nI m) + (11 * (σ 5 5))) + (7 * nI p)) - (((37 * nI m) + (11 * (σ 5 5))) + (7 * nI p)) / 9000 * 9000) : Int32) = code
      refine ⟨rfl, ?_⟩
      show Rel _ _ (zsto (zsto (zsto (zsto σ 1 (nI m) 0 1) 1 (nI m) 4 code) 1 (nI m) 5 (nI p)) 1 (nI m) 7 ((zsto (zsto (zsto σ 1 (nI m) 0 1) 1 (nI m) 4 code) 1 (nI m) 5 (nI p)) 5 5)) ((zX8_setMeal (zX8_setMeal (zX8_setMeal (zX8_setMeal μ (nI m) 0 1) (nI m) 4 code) (nI m) 5 (nI p)) (nI m) 6 ((zX8_setMeal (zX8_setMeal (zX8_setMeal μ (nI m) 0 1) (nI m) 4 code) (nI m) 5 (nI p)) 0 4)) 0)
      rw [wM0 hm24, wM4 hm24, wM5 hm24, wM7 hm24, uM0 hm24, uM4 hm24, uM5 hm24, uM6 hm24]
      simp only [mW_0]
      rw [sgU_ne (k2 := 5) (by omega), sgU_ne (k2 := 5) (by omega), sgU_ne (k2 := 5) (by omega), pk_un (j := 4) (by omega), pk_un (j := 4) (by omega), pk_un (j := 4) (by omega), h.gT]
      have hst : σ 1 (8 * m) = 0 := by
        unfold zX4_isFitFor at h3
        rw [cM0 hm24] at h3
        by_cases z : σ 1 (8 * m) = 0
        · exact z
        · rw [if_neg z] at h3; exact absurd rfl h3
      have ra := h.pw hm24 (by rw [hst]; decide) (nI p) (nI p)
      have e0 : ∀ a2, sgU σ 1 (8 * m + 5) (nI p) 1 (8 * a2) = σ 1 (8 * a2) := fun a2 => sgU_ne (by omega)
      have e5 : sgU σ 1 (8 * m + 5) (nI p) 1 (8 * m + 5) = nI p := sgU_eq
      have eN : nM (sgU σ 1 (8 * m + 5) (nI p)) = nM σ := congrArg Int32.toNatClampNeg (sgU_ne (by omega))
      have rb := ra.st (m := m) (v := 1) (by rw [eN]; exact hm) (by rw [e0, hst]; decide) (by decide) (fun _ => by rw [e5, pk_us]; exact ⟨rfl, rg_of (n := 8) (by omega) (by decide)⟩) (fun _ => Or.inl (by rw [e0, hst]; decide)) (fun _ b hb hbm hb1 => by
        rw [eN] at hb
        rw [e0] at hb1
        rw [e5, sgU_ne (by omega)]
        exact c3 b hb hb1)
      have rc := (rb.pM4 hm24 code).pM7 hm24 (σ 5 5)
      rw [sgU_comm (k := 1) (i := 8 * m + 5) (k2 := 1) (i2 := 8 * m) (by omega), sgU_comm (k := 1) (i := 8 * m + 5) (k2 := 1) (i2 := 8 * m + 4) (by omega), upd_comm (i := 52 + 8 * m + 5) (j := 52 + 8 * m) (by omega), upd_comm (i := 52 + 8 * m + 5) (j := 52 + 8 * m + 4) (by omega)] at rc
      exact rc
    · have hn2 : j < 24 := by omega
      rw [c1, c2, if_neg (nI_pos (by omega)), if_pos (nI_pos' (by omega))]
      exact ⟨rfl, h⟩
  · rw [if_neg h4, if_pos (Decidable.of_not_not (fun z => h4 (b1.mpr z)))]
    exact ⟨rfl, h⟩
theorem op_fetch (h : Rel δ T σ (μ 0)) (x1 x2 x3 : Int32) : (zX0_endReservation σ x1 x2 x3).1 = (zX8_fetches μ x1 x2 x3).1 ∧ Rel δ T (zX0_endReservation σ x1 x2 x3).2 ((zX8_fetches μ x1 x2 x3).2 0) := by
  unfold zX0_endReservation zX8_fetches
  rw [h.hasL, wi_in, wi_in]
  by_cases h1 : zX5_has (σ 5 0) x1 = 0
  · rw [if_pos h1, if_pos h1]; exact ⟨rfl, h⟩
  rw [if_neg h1, if_neg h1]
  by_cases h2 : zX8_in x2 1000 9999 = 0
  · rw [if_pos h2, if_pos h2]; exact ⟨rfl, h⟩
  rw [if_neg h2, if_neg h2]
  by_cases h3 : zX8_in x3 0 1 = 0
  · rw [if_pos h3, if_pos h3]; exact ⟨rfl, h⟩
  rw [if_neg h3, if_neg h3]
  obtain ⟨l, el, hl, hl6⟩ := has_of h.r0 h1
  have hr0 := (rg_nI h.r0).2
  have hr1 := h.r0.2
  have hl5 : l < 5 := by omega
  subst el
  have hn := h.n
  have hc : fstK (bX8_fetches μ (nI l) x2) 0 (nM σ) = fstK (bX0_mealWithCode σ (nI l) x2) 0 (nM σ) := fstK_congr _ _ (fun k _ hk => by
    have hk24 : k < 24 := by omega
    unfold bX8_fetches bX0_mealWithCode
    rw [oM0 hk24, oM4 hk24, h.gM0 hk24, h.gM4 hk24, h.isIn hk24, cM0 hk24, cM1 hk24, cM4 hk24]
    by_cases q1 : σ 1 (8 * k) = 1
    · rw [if_pos q1, if_pos q1]
      unfold inL
      rw [q1, decide_eq_true (p := ¬ (1 : Int32) < 1) (by decide), Bool.true_and]
      by_cases q2 : σ 1 (8 * k + 1) = nI l
      · rw [if_pos (decide_eq_true q2), if_neg (by decide), if_pos q2]
      · rw [decide_eq_false q2, if_pos (show (if false = true then (1 : Int32) else 0) = 0 from rfl), if_neg q2]
    · rw [if_neg q1, if_neg q1])
  rw [h.ns, hc]
  have ec : zX0_mealWithCode σ (nI l) x2 = if fstK (bX0_mealWithCode σ (nI l) x2) 0 (nM σ) < nM σ then nI (fstK (bX0_mealWithCode σ (nI l) x2) 0 (nM σ)) else -4 := rfl
  rw [ec]
  rcases fstK_spec (c := bX0_mealWithCode σ (nI l) x2) (nM σ) 0 with ⟨z1, z2⟩ | ⟨z1, z2, z3⟩
  · rw [if_neg (show ¬ fstK (bX0_mealWithCode σ (nI l) x2) 0 (nM σ) < nM σ by omega), if_neg (show ¬ fstK (bX0_mealWithCode σ (nI l) x2) 0 (nM σ) < nM σ by omega), if_neg (by decide)]
    exact ⟨rfl, h⟩
  rw [Nat.zero_add] at z2
  rw [if_pos z2, if_pos z2]
  generalize fstK (bX0_mealWithCode σ (nI l) x2) 0 (nM σ) = m at z1 z2 z3
  have hm24 : m < 24 := by omega
  rw [if_pos (nI_pos' (by omega))]
  have hst : σ 1 (8 * m) = 1 := by
    unfold bX0_mealWithCode at z3
    rw [cM0 hm24] at z3
    by_cases z : σ 1 (8 * m) = 1
    · exact z
    · rw [if_neg z] at z3; exact absurd z3 (by decide)
  have hww := h.W m hm24 (Or.inl hst)
  have hwr := h.who hm24 hst
  obtain ⟨ewho, ewho2⟩ := rg_nI hwr
  have hw3 := hwr.2
  generalize (σ 1 (8 * m + 5)).toNatClampNeg = p at ewho ewho2
  have hp8 : p < 8 := by omega
  have h31 := in_rg h3
  have q0 : (0 : Int32).toInt = 0 := by decide
  have q1 : (1 : Int32).toInt = 1 := by decide
  have hx3 : x3 = 0 ∨ x3 = 1 := rg_in01 ⟨by omega, by omega⟩
  rcases hx3 with hx | hx
  · subst hx
    rw [if_neg (by decide)]
    refine ⟨rfl, ?_⟩
    show Rel _ _ (zrai (zrai (zsto σ 1 (nI m) 0 3) 0 (nI l) 5) 2 (zatt (zrai (zsto σ 1 (nI m) 0 3) 0 (nI l) 5) 1 (nI m) 5) 4) ((zX8_setPerson (mU (zX8_moreOf (zX8_setMeal μ (nI m) 0 3) (nI l) 4) 0 (upd ((zX8_moreOf (zX8_setMeal μ (nI m) 0 3) (nI l) 4) 0) 9 (((zX8_moreOf (zX8_setMeal μ (nI m) 0 3) (nI l) 4) 0 9) + 1))) (zX8_ofMeal μ (nI m) 5) 3 (((zX8_ofPerson (mU (zX8_moreOf (zX8_setMeal μ (nI m) 0 3) (nI l) 4) 0 (upd ((zX8_moreOf (zX8_setMeal μ (nI m) 0 3) (nI l) 4) 0) 9 (((zX8_moreOf (zX8_setMeal μ (nI m) 0 3) (nI l) 4) 0 9) + 1))) (zX8_ofMeal μ (nI m) 5) 3) + 1) - 0)) 0)
    rw [wM0 hm24, iL5 hl5, cM5 hm24, sgU_ne (k2 := 1) (i2 := 8 * m + 5) (by omega), sgU_ne (k2 := 1) (i2 := 8 * m + 5) (by omega), oM5 hm24, ← hww, ewho, uM0 hm24, uL4 hl5, iP4 hp8, oP3 hp8, uP3 hp8]
    simp only [mW_0, mU_eq]
    have ra := ((h.stE (m := m) (j := 0) z2 (by rw [hst]; decide) (by decide) (fun _ => hww)).raL (i := 9 * l + 5) (plL hl5 (by decide) (by decide) (by decide)) (tL5 l))
    have rb := ra.pP4 hp8 (σ 2 (6 * p + 4) + 1)
    have g3 := h.gP4 hp8
    have v1 : sgU (sgU σ 1 (8 * m) 3) 0 (9 * l + 5) (sgU σ 1 (8 * m) 3 0 (9 * l + 5) + 1) 2 (6 * p + 4) = σ 2 (6 * p + 4) := by rw [sgU_ne (by omega), sgU_ne (by omega)]
    have v2 : (upd (upd (upd (μ 0) (52 + 8 * m) 3) (12 + 8 * l + 4) (upd (μ 0) (52 + 8 * m) 3 (12 + 8 * l + 4) + 1)) 9 (upd (upd (μ 0) (52 + 8 * m) 3) (12 + 8 * l + 4) (upd (μ 0) (52 + 8 * m) 3 (12 + 8 * l + 4) + 1) 9 + 1)) (244 + 5 * p + 3) + 1 - 0 = σ 2 (6 * p + 4) + 1 := by
      rw [pk_un (by omega), pk_un (by omega), pk_un (by omega), g3, Int32.sub_zero]
    rw [v1, v2]
    have v3 : upd (upd (upd (μ 0) (52 + 8 * m) 3) (12 + 8 * l + 4) (upd (μ 0) (52 + 8 * m) 3 (12 + 8 * l + 4) + 1)) 9 (upd (upd (μ 0) (52 + 8 * m) 3) (12 + 8 * l + 4) (upd (μ 0) (52 + 8 * m) 3 (12 + 8 * l + 4) + 1) 9 + 1) = upd (upd (upd (μ 0) (52 + 8 * m) (nI (3 + 0))) (9 + 0) (μ 0 (9 + 0) + 1)) (12 + 8 * l + 4) (upd (upd (μ 0) (52 + 8 * m) (nI (3 + 0))) (9 + 0) (μ 0 (9 + 0) + 1) (12 + 8 * l + 4) + 1) := by
      rw [pk_un (j := 9) (by omega), pk_un (j := 9) (by omega), pk_un (j := 12 + 8 * l + 4) (by omega), pk_un (j := 12 + 8 * l + 4) (k := 9 + 0) (by omega), pk_un (j := 12 + 8 * l + 4) (by omega), upd_comm (i := 12 + 8 * l + 4) (j := 9) (by omega)]
      rfl
    rw [v3]
    exact rb
  · subst hx
    rw [if_pos rfl]
    refine ⟨rfl, ?_⟩
    show Rel _ _ (zrai (zsto σ 1 (nI m) 0 4) 0 (nI l) 6) ((zX8_setPerson (mU (zX8_moreOf (zX8_setMeal μ (nI m) 0 4) (nI l) 5) 0 (upd ((zX8_moreOf (zX8_setMeal μ (nI m) 0 4) (nI l) 5) 0) 10 (((zX8_moreOf (zX8_setMeal μ (nI m) 0 4) (nI l) 5) 0 10) + 1))) (zX8_ofMeal μ (nI m) 5) 3 (((zX8_ofPerson (mU (zX8_moreOf (zX8_setMeal μ (nI m) 0 4) (nI l) 5) 0 (upd ((zX8_moreOf (zX8_setMeal μ (nI m) 0 4) (nI l) 5) 0) 10 (((zX8_moreOf (zX8_setMeal μ (nI m) 0 4) (nI l) 5) 0 10) + 1))) (zX8_ofMeal μ (nI m) 5) 3) + 1) - 1)) 0)
    rw [wM0 hm24, iL6 hl5, oM5 hm24, ← hww, ewho, uM0 hm24, uL5 hl5, oP3 hp8, uP3 hp8]
    simp only [mW_0, mU_eq]
    have ra := ((h.stE (m := m) (j := 1) z2 (by rw [hst]; decide) (by decide) (fun _ => hww)).raL (i := 9 * l + 6) (plL hl5 (by decide) (by decide) (by decide)) (tL6 l))
    have v3 : upd (upd (upd (μ 0) (52 + 8 * m) 4) (12 + 8 * l + 5) (upd (μ 0) (52 + 8 * m) 4 (12 + 8 * l + 5) + 1)) 10 (upd (upd (μ 0) (52 + 8 * m) 4) (12 + 8 * l + 5) (upd (μ 0) (52 + 8 * m) 4 (12 + 8 * l + 5) + 1) 10 + 1) = upd (upd (upd (μ 0) (52 + 8 * m) (nI (3 + 1))) (9 + 1) (μ 0 (9 + 1) + 1)) (12 + 8 * l + 5) (upd (upd (μ 0) (52 + 8 * m) (nI (3 + 1))) (9 + 1) (μ 0 (9 + 1) + 1) (12 + 8 * l + 5) + 1) := by
      rw [pk_un (j := 10) (by omega), pk_un (j := 10) (by omega), pk_un (j := 12 + 8 * l + 5) (by omega), pk_un (j := 12 + 8 * l + 5) (k := 9 + 1) (by omega), pk_un (j := 12 + 8 * l + 5) (by omega), upd_comm (i := 12 + 8 * l + 5) (j := 10) (by omega)]
      rfl
    rw [v3]
    generalize upd (upd (upd (μ 0) (52 + 8 * m) (nI (3 + 1))) (9 + 1) (μ 0 (9 + 1) + 1)) (12 + 8 * l + 5) (upd (upd (μ 0) (52 + 8 * m) (nI (3 + 1))) (9 + 1) (μ 0 (9 + 1) + 1) (12 + 8 * l + 5) + 1) = s5 at ra ⊢
    have v4 : upd s5 (244 + 5 * p + 3) (s5 (244 + 5 * p + 3) + 1 - 1) = s5 := by
      rw [Int32.add_sub_cancel]
      funext k
      by_cases e : k = 244 + 5 * p + 3
      · subst e; exact pk_us
      · exact pk_un e
    rw [v4]
    exact ra
theorem op_take (h : Rel δ T σ (μ 0)) (hT : T ≤ 10000) (x1 x2 : Int32) : (zX0_takeMeal σ x1 x2).1 = (zX8_takes μ x1 x2).1 ∧ Rel δ T (zX0_takeMeal σ x1 x2).2 ((zX8_takes μ x1 x2).2 0) := by
  unfold zX0_takeMeal zX8_takes
  rw [h.hasH, h.hasM]
  by_cases h1 : zX5_has (σ 5 3) x1 = 0
  · rw [if_pos h1, if_pos h1]; exact ⟨rfl, h⟩
  rw [if_neg h1, if_neg h1]
  by_cases h2 : zX5_has (σ 5 1) x2 = 0
  · rw [if_pos h2, if_pos h2]; exact ⟨rfl, h⟩
  rw [if_neg h2, if_neg h2]
  obtain ⟨v, ev, hv, hv4⟩ := has_of h.r3 h1
  obtain ⟨m, em, hm, -⟩ := has_of h.r1 h2
  have hm : m < nM σ := hm
  have hn := h.n
  have hp0 := (rg_nI h.r3).2
  have hp1 := h.r3.2
  have hv3 : v < 3 := by omega
  have hm24 : m < 24 := by omega
  subst ev em
  obtain ⟨b1, -⟩ := h.way_ hT hv3
  by_cases h3 : zX8_isUnderWay μ (nI v) = 0
  · rw [if_neg (b1.mp h3), if_pos h3, h.cWith, h.oWith, zbc_bset hn, ones_bset hn, oH0 hv3, h.gV0 hv3, cV0 hv3]
    by_cases h4 : σ 3 (5 * v) ≤ nI (cnt (wiV σ v) (nM σ))
    · rw [if_pos h4, if_pos h4]; exact ⟨rfl, h⟩
    rw [if_neg h4, if_neg h4, cM0 hm24, oM0 hm24, h.gM0 hm24]
    by_cases h5 : σ 1 (8 * m) = 0
    · rw [if_pos h5, if_pos h5, cM1 hm24, cV1 hv3, oH1 hv3, h.gV1 hv3]
      obtain ⟨l, hl5, el⟩ : ∃ l, l < 5 ∧ σ 3 (5 * v + 1) = nI l := by
        obtain ⟨a, b⟩ := rg_nI (h.at_ hv3)
        have c := (h.at_ hv3).2
        exact ⟨_, by omega, a⟩
      rw [el, h.isIn hm24]
      by_cases h6 : σ 1 (8 * m + 1) = nI l
      · rw [if_pos h6, if_pos (show inL σ l m = true by unfold inL; rw [h5, decide_eq_true h6]; decide), if_neg (by decide)]
        refine ⟨rfl, ?_⟩
        show Rel _ _ (zrai (zsto (zsto σ 1 (nI m) 0 2) 1 (nI m) 6 (nI v)) 0 (nI l) 7) ((zX8_moreOf (zX8_setMeal (zX8_setMeal μ (nI m) 0 2) (nI m) 7 (nI v)) (zX8_ofHelper (zX8_setMeal (zX8_setMeal μ (nI m) 0 2) (nI m) 7 (nI v)) (nI v) 1) 6) 0)
        rw [wM0 hm24, wM6 hm24, iL7 hl5, uM0 hm24, uM7 hm24, oH1 hv3]
        have e1 : (mW (mW μ (52 + 8 * m) 2) (52 + 8 * m + 7) (nI v)) 0 (284 + 5 * v + 1) = nI l := by
          simp only [mW_0]
          rw [pk_un (by omega), pk_un (by omega), h.gV1 hv3, el]
        rw [e1, uL6 hl5]
        simp only [mW_0]
        exact (((h.st (m := m) (v := 2) hm (by rw [h5]; decide) (by decide) (fun z => absurd z (by decide)) (fun z => absurd (by decide) z) (fun z => absurd z (by decide))).pM6 hm24 (nI v)).raL (i := 9 * l + 7) (plL hl5 (by decide) (by decide) (by decide)) (tL7 l))
      · rw [if_neg h6, if_neg (show ¬ inL σ l m = true by unfold inL; rw [decide_eq_false h6, Bool.and_false]; decide), if_pos rfl]
        exact ⟨rfl, h⟩
    · rw [if_neg h5, if_neg h5]; exact ⟨rfl, h⟩
  · rw [if_neg h3, if_pos (Decidable.of_not_not (fun z => h3 (b1.mpr z)))]
    exact ⟨rfl, h⟩
theorem way_rg {a b : Nat} (h : Rel δ T σ (μ 0)) (ha : a < 5) (hb : b < 5) : rg (zX4_wayHours σ (nI a) (nI b)) 400 := by
  have hs := h.B.2.2.2 3 (by decide)
  obtain ⟨c, d⟩ := rg_nI hs
  have e := hs.2
  generalize (σ 4 3).toNatClampNeg = k at c d
  rw [← h.ways ha hb]
  unfold zX8_way
  rw [show μ 0 8 = σ 4 3 from h.gS (j := 3) (by decide), c]
  have key : ∀ x y : Nat, x ≤ y → y < 5 → rg ((nI y - nI x) * nI k) 400 := fun x y hxy hy => by
    rw [pk_sub hxy, pk_mul]
    refine rg_of ?_ (by decide)
    have : (y - x) * k ≤ 4 * k := Nat.mul_le_mul_right k (by omega)
    omega
  by_cases h1 : nI a ≤ nI b
  · rw [if_pos h1]
    exact key a b ((nI_leI (by omega) (by omega)).mp h1) hb
  · rw [if_neg h1]
    exact key b a (by have := mt (nI_leI (a := a) (b := b) (by omega) (by omega)).mpr h1; omega) ha
theorem op_go (h : Rel δ T σ (μ 0)) (hT : T ≤ 9000) (x1 x2 : Int32) : (zX0_sendVolunteer σ x1 x2).1 = (zX8_goes μ x1 x2).1 ∧ Rel δ T (zX0_sendVolunteer σ x1 x2).2 ((zX8_goes μ x1 x2).2 0) := by
  unfold zX0_sendVolunteer zX8_goes
  rw [h.hasH, h.hasL]
  by_cases h1 : zX5_has (σ 5 3) x1 = 0
  · rw [if_pos h1, if_pos h1]; exact ⟨rfl, h⟩
  rw [if_neg h1, if_neg h1]
  by_cases h2 : zX5_has (σ 5 0) x2 = 0
  · rw [if_pos h2, if_pos h2]; exact ⟨rfl, h⟩
  rw [if_neg h2, if_neg h2]
  obtain ⟨v, ev, hv, hv4⟩ := has_of h.r3 h1
  obtain ⟨l, el, hl, hl6⟩ := has_of h.r0 h2
  have hr0 := (rg_nI h.r0).2
  have hr1 := h.r0.2
  have hl5 : l < 5 := by omega
  have hp0 := (rg_nI h.r3).2
  have hp1 := h.r3.2
  have hv3 : v < 3 := by omega
  subst ev el
  obtain ⟨b1, -⟩ := h.way_ (by omega) hv3
  by_cases h3 : zX8_isUnderWay μ (nI v) = 0
  · rw [if_neg (b1.mp h3), if_pos h3, cV1 hv3, oH1 hv3, h.gV1 hv3]
    obtain ⟨f, hf5, ef⟩ : ∃ l, l < 5 ∧ σ 3 (5 * v + 1) = nI l := by
      obtain ⟨a, b⟩ := rg_nI (h.at_ hv3)
      have c := (h.at_ hv3).2
      exact ⟨_, by omega, a⟩
    rw [ef]
    by_cases h4 : nI f = nI l
    · rw [if_pos h4, if_pos h4]; exact ⟨rfl, h⟩
    rw [if_neg h4, if_neg h4, h.ways hf5 hl5, h.gT]
    have hw := way_rg h hf5 hl5
    have ht := h.B.1
    have hz : rg (σ 5 5 + zX4_wayHours σ (nI f) (nI l)) 10000 := by
      obtain ⟨a1, a2⟩ := rg_nI hw
      obtain ⟨a3, a4⟩ := rg_nI ht
      have a5 := hw.2
      have a6 := ht.2
      rw [a1, a3, nI_add]
      have : (nI ((σ 5 5).toNatClampNeg + (zX4_wayHours σ (nI f) (nI l)).toNatClampNeg)).toInt = ((σ 5 5).toNatClampNeg + (zX4_wayHours σ (nI f) (nI l)).toNatClampNeg : Nat) := nI_toInt (by omega)
      exact ⟨by omega, by omega⟩
    generalize (σ 5 5 + zX4_wayHours σ (nI f) (nI l)) = z at hz
    show z = zX8_ofHelper (zX8_setHelper (zX8_setHelper μ (nI v) 2 z) (nI v) 1 (nI l)) (nI v) 2 ∧ Rel _ _ (zsto (zsto σ 3 (nI v) 1 (nI l)) 3 (nI v) 3 z) ((zX8_setHelper (zX8_setHelper μ (nI v) 2 z) (nI v) 1 (nI l)) 0)
    rw [wV1 hv3, wV3 hv3, uH2 hv3, uH1 hv3, oH2 hv3]
    simp only [mW_0]
    refine ⟨?_, ?_⟩
    · rw [pk_un (by omega), pk_us]
    · rw [upd_comm (i := 284 + 5 * v + 2) (j := 284 + 5 * v + 1) (by omega)]
      exact (h.pV1 hv3 (rg_of (n := 5) (by omega) (by decide))).pV3 hv3 hz
  · rw [if_neg h3, if_pos (Decidable.of_not_not (fun z => h3 (b1.mpr z)))]
    exact ⟨rfl, h⟩
/-! a setting -/
def seP (b : Sg) (x1 x2 : Int32) : Int32 × Sg := if (zX8_in x1 0 3) = 0 then ((-1), b) else (if (zX8_in x2 1 (if x1 = 0 then 48 else if x1 = 2 then 99 else 9)) = 0 then ((-1), b) else ((b 0 (5 + x1).toNatClampNeg), mU b 0 (upd (b 0) (5 + x1).toNatClampNeg x2)))
theorem op_set (h : Rel δ T σ (μ 0)) (x1 x2 : Int32) : (zX0_changeSetting σ x1 x2).1 = (seP μ x1 x2).1 ∧ Rel δ T (zX0_changeSetting σ x1 x2).2 ((seP μ x1 x2).2 0) := by
  unfold zX0_changeSetting seP
  have q0 : (0 : Int32).toInt = 0 := by decide
  have q3 : (3 : Int32).toInt = 3 := by decide
  have q4 : (4 : Int32).toInt = 4 := by decide
  by_cases h1 : zX8_in x1 0 3 = 0
  · rw [if_pos h1]
    unfold zX8_in at h1
    by_cases h2 : x1 < 0
    · rw [if_pos h2]; exact ⟨rfl, h⟩
    · rw [if_neg h2] at h1
      rw [if_neg h2]
      by_cases h3 : 3 < x1
      · rw [if_neg (by rw [Int32.lt_iff_toInt_lt] at h3 ⊢; omega)]; exact ⟨rfl, h⟩
      · rw [if_neg h3] at h1; exact absurd h1 (by decide)
  rw [if_neg h1]
  have hr := in_rg h1
  rw [if_neg (by rw [Int32.lt_iff_toInt_lt]; omega), if_pos (by rw [Int32.lt_iff_toInt_lt]; omega)]
  obtain ⟨ex, ex2⟩ := rg_nI (x := x1) (n := 4) ⟨by omega, by omega⟩
  generalize x1.toNatClampNeg = j at ex ex2
  subst ex
  have hj : j < 4 := by omega
  have em : (if nI j = 0 then (48 : Int32) else if nI j = 2 then 99 else 9) = mostI j := by
    match j, hj with
    | 0, _ => rfl
    | 1, _ => rfl
    | 2, _ => rfl
    | 3, _ => rfl
  have e5 : (5 + nI j).toNatClampNeg = 5 + j := by
    rw [show (5 : Int32) = nI 5 from rfl, nI_add, nI_clamp (by omega)]
  rw [em, e5, wi_in, cSn hj, wSn hj]
  by_cases h2 : zX8_in x2 1 (mostI j) = 0
  · rw [if_pos h2, if_pos h2]; exact ⟨rfl, h⟩
  rw [if_neg h2, if_neg h2]
  have hr2 := in_rg h2
  have q1 : (1 : Int32).toInt = 1 := by decide
  have hm : (mostI j).toInt ≤ 99 := by
    match j, hj with
    | 0, _ => decide
    | 1, _ => decide
    | 2, _ => decide
    | 3, _ => decide
  refine ⟨(h.gS hj).symm, ?_⟩
  show Rel _ _ (sgU σ 4 j x2) (mU μ 0 (upd (μ 0) (5 + j) x2) 0)
  rw [mU_eq]
  exact h.pS hj ⟨by omega, by omega⟩
end
