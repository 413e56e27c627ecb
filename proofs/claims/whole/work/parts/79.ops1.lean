/-! WHAT CHANGES: both sides change the same -/
section
variable {δ : Nat → Int32} {T : Int} {σ μ : Sg}
theorem Rel.raL {s : Nat → Int32} (h : Rel δ T σ s) {i j : Nat} (hp : plc 0 i = true) (e : tr 0 i = j) : Rel δ T (sgU σ 0 i (σ 0 i + 1)) (upd s j (s j + 1)) := by
  subst e
  obtain ⟨q1, q2, -⟩ := plc_lt hp
  rw [h.g (plc_f 0 (by decide) i q2 hp).1 (by omega)]
  exact h.pl hp _
theorem plL {l c : Nat} (hl : l < 5) (hc : c < 9) (h0 : c ≠ 0) (h2 : c ≠ 2) : plc 0 (9 * l + c) = true := by
  show (decide (9 * l + c < 45) && !decide ((9 * l + c) % 9 = 0) && !decide ((9 * l + c) % 9 = 2)) = true
  rw [decide_eq_true (by omega), decide_eq_false (by omega), decide_eq_false (by omega)]
  rfl
theorem full_of {lim n : Nat} (hl : lim < 1000) (hn : n < 1000) : zX5_isFull (nI lim) (nI n) = if n < lim then 0 else 1 := by
  unfold zX5_isFull
  by_cases h : n < lim
  · rw [if_pos h, if_pos (nI_lt h (by omega))]
  · rw [if_neg h, if_neg (fun z => h ((nI_ltI (by omega) (by omega)).mp z))]
theorem addR {k lim n : Nat} (hl : lim < 1000) (ek : limK k = nI lim) (en : σ 5 k = nI n) (h : n < lim) : zX5_isFull (limK k) (σ 5 k) = 0 ∧ zadR σ k = nI n ∧ zadS σ k = sgU σ 5 k (nI (n + 1)) := by
  have hf : zX5_isFull (limK k) (σ 5 k) = 0 := by rw [ek, en, full_of hl (by omega), if_pos h]
  have ea : zX5_addRow (limK k) (σ 5 k) = (nI n, nI (n + 1)) := by
    unfold zX5_addRow
    rw [en, nI_1, nI_pred]
  refine ⟨hf, ?_, ?_⟩
  · unfold zadR
    rw [ea]
  · unfold zadS
    rw [ea]
    rfl
theorem Rel.e5 {s : Nat → Int32} (h : Rel δ T σ s) : σ 5 0 = nI (σ 5 0).toNatClampNeg ∧ σ 5 1 = nI (nM σ) ∧ σ 5 2 = nI (σ 5 2).toNatClampNeg ∧ σ 5 3 = nI (σ 5 3).toNatClampNeg := ⟨(rg_nI h.r0).1, (rg_nI h.r1).1, (rg_nI h.r2).1, (rg_nI h.r3).1⟩
/-! a locker -/
def lkS (b : Sg) (x1 x2 : Int32) : Sg := mU (mU (mU b 0 (upd (b 0) (12 + (8 * (b 0 0))).toNatClampNeg x1)) 0 (upd ((mU b 0 (upd (b 0) (12 + (8 * (b 0 0))).toNatClampNeg x1)) 0) ((12 + (8 * (b 0 0))) + 1).toNatClampNeg x2)) 0 (upd ((mU (mU b 0 (upd (b 0) (12 + (8 * (b 0 0))).toNatClampNeg x1)) 0 (upd ((mU b 0 (upd (b 0) (12 + (8 * (b 0 0))).toNatClampNeg x1)) 0) ((12 + (8 * (b 0 0))) + 1).toNatClampNeg x2)) 0) 0 (((mU (mU b 0 (upd (b 0) (12 + (8 * (b 0 0))).toNatClampNeg x1)) 0 (upd ((mU b 0 (upd (b 0) (12 + (8 * (b 0 0))).toNatClampNeg x1)) 0) ((12 + (8 * (b 0 0))) + 1).toNatClampNeg x2)) 0 0) + 1))
def lkP (b : Sg) (x1 x2 : Int32) : Int32 × Sg := if (zX8_in x1 1 8) = 0 then ((-1), b) else (if (zX8_in x2 0 1) = 0 then ((-1), b) else (if (b 0 0) = 5 then ((-3), b) else ((lkS b x1 x2) 0 0 - 1, lkS b x1 x2)))
theorem mU_eq {μ : Sg} {f : Nat → Int32} : mU μ 0 f 0 = f := by
  show (if (0 : Nat) = 0 then f else μ 0) = _
  rw [if_pos rfl]
theorem op_locker (h : Rel (fun _ => 0) T σ (μ 0)) (x1 x2 : Int32) : (zX0_addLocker σ x1 x2).1 = (lkP μ x1 x2).1 ∧ Rel (fun _ => 0) T (zX0_addLocker σ x1 x2).2 ((lkP μ x1 x2).2 0) := by
  unfold zX0_addLocker lkP
  rw [wi_in, wi_in]
  by_cases h1 : zX8_in x1 1 8 = 0
  · rw [if_pos h1, if_pos h1]; exact ⟨rfl, h⟩
  rw [if_neg h1, if_neg h1]
  by_cases h2 : zX8_in x2 0 1 = 0
  · rw [if_pos h2, if_pos h2]; exact ⟨rfl, h⟩
  rw [if_neg h2, if_neg h2]
  have e0 := h.e5.1
  have r0 := h.r0
  have e2 := (rg_nI r0).2
  have e3 := r0.2
  have g0 := h.gF (j := 0) (by decide)
  generalize (σ 5 0).toNatClampNeg = n at e0 e2
  by_cases h3 : n < 5
  · obtain ⟨f1, f2, f3⟩ := addR (σ := σ) (k := 0) (lim := 5) (n := n) (by decide) rfl e0 h3
    rw [if_pos f1, f2, f3, if_neg (by rw [g0, e0]; intro z; have := (nI_eq (a := n) (b := 5) (by omega) (by omega)).mp z; omega)]
    have i1 : (12 + (8 * (μ 0 0))).toNatClampNeg = 12 + 8 * n := by
      rw [g0, e0]
      rw [show (12 : Int32) = nI 12 from rfl, show (8 : Int32) = nI 8 from rfl, pk_mul, nI_add, nI_clamp (by omega)]
    have i2 : ((12 + (8 * (μ 0 0))) + 1).toNatClampNeg = 12 + 8 * n + 1 := by
      rw [g0, e0]
      exact oidx (b := 12) (c := 8) (m := n) (w := 1) (N := 299) (by omega) (by decide)
    have es : (lkS μ x1 x2) 0 = upd (upd (upd (μ 0) (12 + 8 * n) x1) (12 + 8 * n + 1) x2) 0 (nI (n + 1)) := by
      unfold lkS
      rw [i1, i2]
      simp only [mU_eq]
      rw [pk_un (by omega), pk_un (by omega), g0, e0, nI_1]
    have ec : zsto (zsto (sgU σ 5 0 (nI (n + 1))) 0 (nI n) 0 x1) 0 (nI n) 1 x2 = sgU (sgU (sgU σ 0 (9 * n) x1) 5 0 (nI (n + 1))) 0 (9 * n + 1) x2 := by
      rw [wL0 h3, wL1 h3, sgU_comm (k := 5) (i := 0) (k2 := 0) (i2 := 9 * n) (by omega)]
    have hr := in_rg h1
    have q1 : (1 : Int32).toInt = 1 := by decide
    have q8 : (8 : Int32).toInt = 8 := by decide
    have hrel := (h.c0 h3 e0 (x := x1) ⟨by omega, by omega⟩).pL1 h3 x2
    refine ⟨?_, ?_⟩
    · show nI n = (lkS μ x1 x2) 0 0 - 1
      rw [es, pk_us, nI_pred]
    · show Rel _ _ (zsto (zsto (sgU σ 5 0 (nI (n + 1))) 0 (nI n) 0 x1) 0 (nI n) 1 x2) ((lkS μ x1 x2) 0)
      rw [ec, es, upd_comm (i := 12 + 8 * n + 1) (j := 0) (by omega)]
      exact hrel
  · have en : n = 5 := by omega
    subst en
    rw [if_neg (by rw [e0]; decide), if_pos (by rw [g0, e0]; rfl)]
    exact ⟨rfl, h⟩
/-! a person -/
def peS (b : Sg) (x1 : Int32) : Sg := mU (zX8_setPerson b (b 0 2) 0 x1) 0 (upd ((zX8_setPerson b (b 0 2) 0 x1) 0) 2 (((zX8_setPerson b (b 0 2) 0 x1) 0 2) + 1))
def peP (b : Sg) (x1 : Int32) : Int32 × Sg := if (zX8_in x1 0 31) = 0 then ((-1), b) else (if (b 0 2) = 8 then ((-3), b) else ((peS b x1) 0 2 - 1, peS b x1))
theorem op_person (h : Rel (fun _ => 0) T σ (μ 0)) (x1 : Int32) : (zX0_addPerson σ x1).1 = (peP μ x1).1 ∧ Rel (fun _ => 0) T (zX0_addPerson σ x1).2 ((peP μ x1).2 0) := by
  unfold zX0_addPerson peP
  rw [wi_in]
  by_cases h1 : zX8_in x1 0 31 = 0
  · rw [if_pos h1, if_pos h1]; exact ⟨rfl, h⟩
  rw [if_neg h1, if_neg h1]
  have e0 := h.e5.2.2.1
  have r0 := h.r2
  have e2 := (rg_nI r0).2
  have e3 := r0.2
  have g0 := h.gF (j := 2) (by decide)
  generalize (σ 5 2).toNatClampNeg = n at e0 e2
  by_cases h3 : n < 8
  · obtain ⟨f1, f2, f3⟩ := addR (σ := σ) (k := 2) (lim := 8) (n := n) (by decide) rfl e0 h3
    rw [if_pos f1, f2, f3, if_neg (by rw [g0, e0]; intro z; have := (nI_eq (a := n) (b := 8) (by omega) (by omega)).mp z; omega)]
    have es : (peS μ x1) 0 = upd (upd (μ 0) (244 + 5 * n) x1) 2 (nI (n + 1)) := by
      unfold peS
      rw [g0, e0, uP0 h3]
      rw [mU_eq, mW_0, pk_un (by omega), g0, e0, nI_1]
    have hrel := (h.c23 (j := 2) (v := nI (n + 1)) (by decide) (by decide) (rg_of (n := 9) (by omega) (by decide))).pP0 h3 x1
    refine ⟨?_, ?_⟩
    · show nI n = (peS μ x1) 0 2 - 1
      rw [es, pk_us, nI_pred]
    · show Rel _ _ (zsto (sgU σ 5 2 (nI (n + 1))) 2 (nI n) 0 x1) ((peS μ x1) 0)
      rw [wP0 h3, es, upd_comm (i := 244 + 5 * n) (j := 2) (by omega)]
      exact hrel
  · have en : n = 8 := by omega
    subst en
    rw [if_neg (by rw [e0]; decide), if_pos (by rw [g0, e0]; rfl)]
    exact ⟨rfl, h⟩
/-! a volunteer -/
def voS (b : Sg) (x1 x2 : Int32) : Sg := mU (zX8_setHelper (zX8_setHelper b (b 0 3) 0 x2) ((zX8_setHelper b (b 0 3) 0 x2) 0 3) 1 x1) 0 (upd ((zX8_setHelper (zX8_setHelper b (b 0 3) 0 x2) ((zX8_setHelper b (b 0 3) 0 x2) 0 3) 1 x1) 0) 3 (((zX8_setHelper (zX8_setHelper b (b 0 3) 0 x2) ((zX8_setHelper b (b 0 3) 0 x2) 0 3) 1 x1) 0 3) + 1))
def voP (b : Sg) (x1 x2 : Int32) : Int32 × Sg := if (zX8_isLocker b x1) = 0 then ((-1), b) else (if (zX8_in x2 1 4) = 0 then ((-1), b) else (if (b 0 3) = 3 then ((-3), b) else ((voS b x1 x2) 0 3 - 1, voS b x1 x2)))
theorem op_volunteer (h : Rel (fun _ => 0) T σ (μ 0)) (x1 x2 : Int32) : (zX0_addVolunteer σ x1 x2).1 = (voP μ x1 x2).1 ∧ Rel (fun _ => 0) T (zX0_addVolunteer σ x1 x2).2 ((voP μ x1 x2).2 0) := by
  unfold zX0_addVolunteer voP
  rw [wi_in, h.hasL]
  by_cases h1 : zX5_has (σ 5 0) x1 = 0
  · rw [if_pos h1, if_pos h1]; exact ⟨rfl, h⟩
  rw [if_neg h1, if_neg h1]
  by_cases h2 : zX8_in x2 1 4 = 0
  · rw [if_pos h2, if_pos h2]; exact ⟨rfl, h⟩
  rw [if_neg h2, if_neg h2]
  obtain ⟨l, el, hl, hl6⟩ := has_of h.r0 h1
  have hr0 := (rg_nI h.r0).2
  have hr1 := h.r0.2
  have hl5 : l < 5 := by omega
  have e0 := h.e5.2.2.2
  have r0 := h.r3
  have e2 := (rg_nI r0).2
  have e3 := r0.2
  have g0 := h.gF (j := 3) (by decide)
  generalize (σ 5 3).toNatClampNeg = n at e0 e2
  by_cases h3 : n < 3
  · obtain ⟨f1, f2, f3⟩ := addR (σ := σ) (k := 3) (lim := 3) (n := n) (by decide) rfl e0 h3
    rw [if_pos f1, f2, f3, if_neg (by rw [g0, e0]; intro z; have := (nI_eq (a := n) (b := 3) (by omega) (by omega)).mp z; omega)]
    have es : (voS μ x1 x2) 0 = upd (upd (upd (μ 0) (284 + 5 * n) x2) (284 + 5 * n + 1) x1) 3 (nI (n + 1)) := by
      unfold voS
      rw [g0, e0, uH0 h3]
      have e4 : mW μ (284 + 5 * n) x2 0 3 = nI n := by rw [mW_0, pk_un (by omega), g0, e0]
      rw [e4, uH1 h3, mU_eq, mW_0, mW_0, pk_un (by omega), pk_un (by omega), g0, e0, nI_1]
    have hrel := ((h.c23 (j := 3) (v := nI (n + 1)) (by decide) (by decide) (rg_of (n := 4) (by omega) (by decide))).pV0 h3 x2).pV1 h3 (z := x1) (by rw [el]; exact rg_of (n := 5) (by omega) (by decide))
    refine ⟨?_, ?_⟩
    · show nI n = (voS μ x1 x2) 0 3 - 1
      rw [es, pk_us, nI_pred]
    · show Rel _ _ (zsto (zsto (sgU σ 5 3 (nI (n + 1))) 3 (nI n) 0 x2) 3 (nI n) 1 x1) ((voS μ x1 x2) 0)
      rw [wV0 h3, wV1 h3, es, upd_comm (i := 284 + 5 * n + 1) (j := 3) (by omega), upd_comm (i := 284 + 5 * n) (j := 3) (by omega)]
      exact hrel
  · have en : n = 3 := by omega
    subst en
    rw [if_neg (by rw [e0]; decide), if_pos (by rw [g0, e0]; rfl)]
    exact ⟨rfl, h⟩
/-! a meal -/
def meP (b : Sg) (x1 x2 x3 : Int32) : Int32 × Sg := if (zX8_isLocker b x1) = 0 then ((-1), b) else (if (zX8_in x2 1 99) = 0 then ((-1), b) else (if (zX8_in x3 0 31) = 0 then ((-1), b) else zX8_addsMeal b x1 x2 x3))
theorem op_meal (h : Rel (fun _ => 0) T σ (μ 0)) (x1 x2 x3 : Int32) : (zX0_addMeal σ x1 x2 x3).1 = (meP μ x1 x2 x3).1 ∧ Rel (fun _ => 0) T (zX0_addMeal σ x1 x2 x3).2 ((meP μ x1 x2 x3).2 0) := by
  unfold zX0_addMeal meP zX8_addsMeal
  rw [wi_in, wi_in, h.hasL]
  by_cases h1 : zX5_has (σ 5 0) x1 = 0
  · rw [if_pos h1, if_pos h1]; exact ⟨rfl, h⟩
  rw [if_neg h1, if_neg h1]
  by_cases h2 : zX8_in x2 1 99 = 0
  · rw [if_pos h2, if_pos h2]; exact ⟨rfl, h⟩
  rw [if_neg h2, if_neg h2]
  by_cases h3 : zX8_in x3 0 31 = 0
  · rw [if_pos h3, if_pos h3]; exact ⟨rfl, h⟩
  rw [if_neg h3, if_neg h3]
  obtain ⟨l, el, hl, hl6⟩ := has_of h.r0 h1
  have hr0 := (rg_nI h.r0).2
  have hr1 := h.r0.2
  have hl5 : l < 5 := by omega
  subst el
  rw [h.cFree hl5, h.oFree hl5]
  obtain ⟨-, fe, f9⟩ := h.fr1 hl5
  by_cases h4 : frN σ l = 0
  · rw [h4, if_neg (show ¬ (0 : Int32) < nI 0 by decide), if_pos (show nI 0 = 0 from rfl)]
    exact ⟨rfl, h⟩
  rw [if_pos (show (0 : Int32) < nI (frN σ l) from nI_lt (a := 0) (by omega) (by omega)), if_neg (nI_ne0 (by omega) (by omega))]
  have e0 := h.e5.2.1
  have hn := h.n
  have g0 := h.gF (j := 1) (by decide)
  by_cases h5 : nM σ < 24
  · obtain ⟨f1, f2, f3⟩ := addR (σ := σ) (k := 1) (lim := 24) (n := nM σ) (by decide) rfl e0 h5
    rw [if_pos f1, f2, f3, if_neg (by rw [g0, e0]; intro z; have := (nI_eq (a := nM σ) (b := 24) (by omega) (by omega)).mp z; omega)]
    rw [g0, e0]
    have hz := h.S (nM σ) (Nat.le_refl _) h5
    have hk := (((((h.pwh h5 (z := nI l) (rg_of (n := 5) (by omega) (by decide)) (Or.inr (Nat.le_refl _))).pM2 h5 x2).pM3 h5 x3).pws h5 (by
      rw [sgU_ne (by omega), sgU_ne (by omega), sgU_ne (by omega), hz]
      decide) (-1)).raL (i := 9 * l + 3) (plL hl5 (by decide) (by decide) (by decide)) (tL3 l))
    refine ⟨rfl, ?_⟩
    show Rel _ _ (zrai (zsto (zsto (zsto (zsto (sgU σ 5 1 (nI (nM σ + 1))) 1 (nI (nM σ)) 0 0) 1 (nI (nM σ)) 1 (nI l)) 1 (nI (nM σ)) 2 x2) 1 (nI (nM σ)) 3 x3) 0 (nI l) 3) ((zX8_moreOf (zX8_setMeal (zX8_setMeal (zX8_setMeal (zX8_setMeal (mU μ 0 (upd (μ 0) 1 (nI (nM σ) + 1))) (nI (nM σ)) 1 (nI l)) (nI (nM σ)) 2 x2) (nI (nM σ)) 3 x3) (nI (nM σ)) 5 (-1)) (nI l) 2) 0)
    rw [wM0 h5, wM1 h5, wM2 h5, wM3 h5, iL3 hl5, uM1 h5, uM2 h5, uM3 h5, uM5 h5, uL2 hl5]
    generalize hA : sgU (sgU (sgU σ 1 (8 * nM σ + 1) (nI l)) 1 (8 * nM σ + 2) x2) 1 (8 * nM σ + 3) x3 = σ5 at hk
    have hB : sgU (sgU (sgU (sgU (sgU σ 5 1 (nI (nM σ + 1))) 1 (8 * nM σ) 0) 1 (8 * nM σ + 1) (nI l)) 1 (8 * nM σ + 2) x2) 1 (8 * nM σ + 3) x3 = sgU σ5 5 1 (nI (nM σ + 1)) := by
      rw [sgU_comm (k := 5) (i := 1) (k2 := 1) (i2 := 8 * nM σ) (by omega), sgU_id (σ := σ) (k := 1) (i := 8 * nM σ) (v := 0) hz, sgU_comm (k := 5) (i := 1) (k2 := 1) (i2 := 8 * nM σ + 1) (by omega), sgU_comm (k := 5) (i := 1) (k2 := 1) (i2 := 8 * nM σ + 2) (by omega), sgU_comm (k := 5) (i := 1) (k2 := 1) (i2 := 8 * nM σ + 3) (by omega), hA]
    rw [hB, sgU_ne (k2 := 0) (by omega), sgU_comm (k := 5) (i := 1) (k2 := 0) (i2 := 9 * l + 3) (by omega)]
    simp only [mW_0, mU_eq]
    rw [nI_1]
    generalize hC : upd (upd (upd (upd (μ 0) (52 + 8 * nM σ + 1) (nI l)) (52 + 8 * nM σ + 2) x2) (52 + 8 * nM σ + 3) x3) (52 + 8 * nM σ + 5) (-1) = s5 at hk
    have hD : upd (upd (upd (upd (upd (μ 0) 1 (nI (nM σ + 1))) (52 + 8 * nM σ + 1) (nI l)) (52 + 8 * nM σ + 2) x2) (52 + 8 * nM σ + 3) x3) (52 + 8 * nM σ + 5) (-1) = upd s5 1 (nI (nM σ + 1)) := by
      rw [upd_comm (i := 1) (j := 52 + 8 * nM σ + 1) (by omega), upd_comm (i := 1) (j := 52 + 8 * nM σ + 2) (by omega), upd_comm (i := 1) (j := 52 + 8 * nM σ + 3) (by omega), upd_comm (i := 1) (j := 52 + 8 * nM σ + 5) (by omega), hC]
    rw [hD, pk_un (f := s5) (k := 1) (j := 12 + 8 * l + 2) (by omega), upd_comm (i := 1) (j := 12 + 8 * l + 2) (by omega)]
    have a5 : ∀ i, i ≠ 8 * nM σ + 1 → i ≠ 8 * nM σ + 2 → i ≠ 8 * nM σ + 3 → σ5 1 i = σ 1 i := fun i q1 q2 q3 => by rw [← hA, sgU_ne (by omega), sgU_ne (by omega), sgU_ne (by omega)]
    have b5 : ∀ k i, k ≠ 1 → σ5 k i = σ k i := fun k i q1 => by rw [← hA, sgU_ne (by omega), sgU_ne (by omega), sgU_ne (by omega)]
    have c5 : σ5 1 (8 * nM σ + 1) = nI l := by rw [← hA, sgU_ne (by omega), sgU_ne (by omega), sgU_eq]
    generalize hE : sgU σ5 0 (9 * l + 3) (σ5 0 (9 * l + 3) + 1) = σ6 at hk ⊢
    have n6 : nM σ6 = nM σ := congrArg Int32.toNatClampNeg (by rw [← hE, sgU_ne (by omega), b5 5 1 (by decide)])
    have a6 : ∀ i, σ6 1 i = σ5 1 i := fun i => by rw [← hE, sgU_ne (by omega)]
    have z6 : σ6 0 (9 * l) = σ 0 (9 * l) := by rw [← hE, sgU_ne (by omega), b5 0 _ (by decide)]
    have hfin := hk.c1 (l := l) (by rw [n6]; exact h5) hl5 (by rw [n6, a6]; exact c5) (by
      rw [n6, z6, cnt_congr (q := inL σ l) (fun i hi => by unfold inL; rw [a6, a6, a5 _ (by omega) (by omega) (by omega), a5 _ (by omega) (by omega) (by omega)])]
      omega)
    rw [n6] at hfin
    exact hfin
  · have en : nM σ = 24 := by omega
    rw [if_neg (by rw [e0, en]; decide), if_pos (by rw [g0, e0, en]; rfl)]
    exact ⟨rfl, h⟩
end
