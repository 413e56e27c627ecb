/-! WHAT IS READ: both sides read the same -/
theorem wi_in (x a b : Int32) : zX7_isWithin x a b = zX8_in x a b := rfl
theorem in_1 {x a b : Int32} (h : ¬ zX8_in x a b = 0) : ¬ x < a ∧ ¬ b < x := by
  unfold zX8_in at h
  by_cases h1 : x < a
  · rw [if_pos h1] at h; exact absurd rfl h
  · rw [if_neg h1] at h
    by_cases h2 : b < x
    · rw [if_pos h2] at h; exact absurd rfl h
    · exact ⟨h1, h2⟩
theorem in_rg {x a b : Int32} (h : ¬ zX8_in x a b = 0) : a.toInt ≤ x.toInt ∧ x.toInt ≤ b.toInt := by
  obtain ⟨h1, h2⟩ := in_1 h
  rw [Int32.lt_iff_toInt_lt] at h1 h2
  exact ⟨by omega, by omega⟩
theorem has_in {r x : Int32} {n : Int} (hr : rg r n) (hn : n ≤ 1000) : zX5_has r x = zX8_in x 0 (r - 1) := by
  obtain ⟨e, e2⟩ := rg_nI hr
  generalize r.toNatClampNeg = k at e e2
  have hk : k < 1000 := by have := hr.2; omega
  subst e
  unfold zX5_has zX8_in
  by_cases h0 : x < 0
  · rw [if_pos h0, if_pos h0]
  · rw [if_neg h0, if_neg h0]
    obtain ⟨j, hj, ex⟩ := nI_of h0
    subst ex
    have hs : nI k - 1 < nI j ↔ nI k ≤ nI j := by
      rw [nI_leI (by omega) hj]
      match k with
      | 0 =>
        rw [Int32.lt_iff_toInt_lt, nI_toInt hj]
        have : (nI 0 - 1).toInt = -1 := by decide
        omega
      | k + 1 =>
        rw [nI_pred, nI_ltI (by omega) hj]
        omega
    by_cases h1 : nI k ≤ nI j
    · rw [if_pos h1, if_pos (hs.mpr h1)]
    · rw [if_neg h1, if_neg (fun z => h1 (hs.mp z))]
theorem has_of {r x : Int32} {n : Int} (hr : rg r n) (h : ¬ zX5_has r x = 0) : ∃ j : Nat, x = nI j ∧ j < r.toNatClampNeg ∧ (j : Int) < n := by
  unfold zX5_has at h
  by_cases h0 : x < 0
  · rw [if_pos h0] at h; exact absurd rfl h
  · rw [if_neg h0] at h
    by_cases h1 : r ≤ x
    · rw [if_pos h1] at h; exact absurd rfl h
    · obtain ⟨j, hj, ex⟩ := nI_of h0
      subst ex
      have := nI_lt_x h1 hj
      have h3 := (rg_nI hr).2
      have h4 := hr.2
      exact ⟨j, rfl, this, by omega⟩
theorem or0 (x : Int32) : x ||| 0 = x := bt_ext (fun k hk => by rw [bt_or, bt_0, Bool.or_false])
theorem le2_iff (x : Int32) : 2 ≤ x ↔ 1 < x := by
  rw [Int32.le_iff_toInt_le, Int32.lt_iff_toInt_lt]
  have a : (2 : Int32).toInt = 2 := by decide
  have b : (1 : Int32).toInt = 1 := by decide
  omega
theorem le3_iff (x : Int32) : 3 ≤ x ↔ ¬ x ≤ 2 := by
  rw [Int32.le_iff_toInt_le, Int32.le_iff_toInt_le]
  have a : (2 : Int32).toInt = 2 := by decide
  have b : (3 : Int32).toInt = 3 := by decide
  omega
section
variable {δ : Nat → Int32} {T : Int} {σ μ : Sg}
theorem Rel.hasL (h : Rel δ T σ (μ 0)) (x : Int32) : zX8_isLocker μ x = zX5_has (σ 5 0) x := by
  rw [has_in h.r0 (by decide)]
  unfold zX8_isLocker
  rw [h.gF (j := 0) (by decide)]
theorem Rel.hasM (h : Rel δ T σ (μ 0)) (x : Int32) : zX8_isMeal μ x = zX5_has (σ 5 1) x := by
  rw [has_in h.r1 (by decide)]
  unfold zX8_isMeal
  rw [h.gF (j := 1) (by decide)]
theorem Rel.hasP (h : Rel δ T σ (μ 0)) (x : Int32) : zX8_isPerson μ x = zX5_has (σ 5 2) x := by
  rw [has_in h.r2 (by decide)]
  unfold zX8_isPerson
  rw [h.gF (j := 2) (by decide)]
theorem Rel.hasH (h : Rel δ T σ (μ 0)) (x : Int32) : zX8_isHelper μ x = zX5_has (σ 5 3) x := by
  rw [has_in h.r3 (by decide)]
  unfold zX8_isHelper
  rw [h.gF (j := 3) (by decide)]
/-- a volunteer's meals -/
def wiV (σ : Sg) (v : Nat) (m : Nat) : Bool := decide (σ 1 (8 * m) = 2) && decide (σ 1 (8 * m + 6) = nI v)
theorem Rel.cIn (h : Rel δ T σ (μ 0)) (l : Nat) : zX4_mealsIn σ (nI l) = upTo (bset (inL σ l)) 0 (nM σ) := by
  have hn := h.n
  refine upTo_congr _ (fun i v hi => ?_)
  have hi : i < nM σ := hi
  unfold bX4_mealsIn bset inL
  rw [cM0 (by omega), cM1 (by omega)]
  by_cases h1 : 1 < σ 1 (8 * i)
  · rw [if_pos h1, decide_eq_false (fun z => z h1), Bool.false_and, if_neg (by decide)]
  · rw [if_neg h1, decide_eq_true h1, Bool.true_and]
    by_cases h2 : σ 1 (8 * i + 1) = nI l
    · rw [if_pos h2, if_pos (decide_eq_true h2)]
    · rw [if_neg h2, if_neg (by rw [decide_eq_false h2]; decide)]
theorem Rel.isIn (h : Rel δ T σ (μ 0)) {m : Nat} (hm : m < 24) (l : Nat) : zX8_isIn μ (nI m) (nI l) = if inL σ l m then 1 else 0 := by
  unfold zX8_isIn inL
  rw [oM0 hm, oM1 hm, h.gM0 hm, h.gM1 hm]
  by_cases h1 : 1 < σ 1 (8 * m)
  · rw [if_pos ((le2_iff _).mpr h1), decide_eq_false (fun z => z h1), Bool.false_and, if_neg (by decide)]
  · rw [if_neg (fun z => h1 ((le2_iff _).mp z)), decide_eq_true h1, Bool.true_and]
    by_cases h2 : σ 1 (8 * m + 1) = nI l
    · rw [if_pos h2, if_pos (decide_eq_true h2)]
    · rw [if_neg h2, if_neg (by rw [decide_eq_false h2]; decide)]
theorem Rel.isWith (h : Rel δ T σ (μ 0)) {m : Nat} (hm : m < 24) (v : Nat) : zX8_isWith μ (nI m) (nI v) = if wiV σ v m then 1 else 0 := by
  unfold zX8_isWith wiV
  rw [oM0 hm, oM7 hm, h.gM0 hm, h.gM6 hm]
  by_cases h1 : σ 1 (8 * m) = 2
  · rw [if_pos h1, decide_eq_true h1, Bool.true_and]
    by_cases h2 : σ 1 (8 * m + 6) = nI v
    · rw [if_pos h2, if_pos (decide_eq_true h2)]
    · rw [if_neg h2, if_neg (by rw [decide_eq_false h2]; decide)]
  · rw [if_neg h1, decide_eq_false h1, Bool.false_and, if_neg (by decide)]
theorem Rel.oIn (h : Rel δ T σ (μ 0)) (l : Nat) : zX8_mealsOf μ (nI l) 0 = upTo (bset (inL σ l)) 0 (nM σ) := by
  have hn := h.n
  unfold zX8_mealsOf
  rw [h.ns]
  refine upTo_congr _ (fun i v hi => ?_)
  unfold bX8_mealsOf bset
  rw [if_pos rfl, h.isIn (by omega) l]
  by_cases h1 : inL σ l i = true
  · rw [if_pos h1, if_pos h1, if_neg (by decide)]
  · rw [if_neg h1, if_neg h1, if_pos rfl, or0]
theorem Rel.cWith (h : Rel δ T σ (μ 0)) (l : Nat) : zX4_mealsWith σ (nI l) = upTo (bset (wiV σ l)) 0 (nM σ) := by
  have hn := h.n
  refine upTo_congr _ (fun i v hi => ?_)
  have hi : i < nM σ := hi
  unfold bX4_mealsWith bset wiV
  rw [cM0 (by omega), cM6 (by omega)]
  by_cases h1 : σ 1 (8 * i) = 2
  · rw [if_pos h1, decide_eq_true h1, Bool.true_and]
    by_cases h2 : σ 1 (8 * i + 6) = nI l
    · rw [if_pos h2, if_pos (decide_eq_true h2)]
    · rw [if_neg h2, if_neg (by rw [decide_eq_false h2]; decide)]
  · rw [if_neg h1, decide_eq_false h1, Bool.false_and, if_neg (by decide)]
theorem Rel.oWith (h : Rel δ T σ (μ 0)) (l : Nat) : zX8_mealsOf μ (nI l) 1 = upTo (bset (wiV σ l)) 0 (nM σ) := by
  have hn := h.n
  unfold zX8_mealsOf
  rw [h.ns]
  refine upTo_congr _ (fun i v hi => ?_)
  unfold bX8_mealsOf bset
  rw [if_neg (by decide), h.isWith (by omega) l]
  by_cases h1 : wiV σ l i = true
  · rw [if_pos h1, if_pos h1, if_neg (by decide)]
  · rw [if_neg h1, if_neg h1, if_pos rfl, or0]
/-- free cells, as a plain number -/
def frN (σ : Sg) (l : Nat) : Nat := (σ 0 (9 * l)).toNatClampNeg - cnt (inL σ l) (nM σ)
theorem Rel.fr1 (h : Rel δ T σ (μ 0)) {l : Nat} (hl : l < 5) : σ 0 (9 * l) - nI (cnt (inL σ l) (nM σ)) = nI (frN σ l) ∧ (frN σ l : Int) + cnt (inL σ l) (nM σ) = (σ 0 (9 * l)).toInt ∧ frN σ l < 9 := by
  obtain ⟨f1, f2⟩ := h.F.1 l hl
  obtain ⟨a, b⟩ := rg_nI f1
  have c := f1.2
  refine ⟨?_, by unfold frN; omega, by unfold frN; omega⟩
  unfold frN
  rw [← pk_sub (by omega)]
  exact congrArg (fun z => z - _) a
theorem Rel.cFree (h : Rel δ T σ (μ 0)) {l : Nat} (hl : l < 5) : zX4_freeCells σ (nI l) = nI (frN σ l) := by
  unfold zX4_freeCells
  rw [cL0 hl, h.cIn, zbc_bset h.n]
  exact (h.fr1 hl).1
theorem Rel.oFree (h : Rel δ T σ (μ 0)) {l : Nat} (hl : l < 5) : zX8_freeCells μ (nI l) = nI (frN σ l) := by
  unfold zX8_freeCells
  rw [oL0 hl, h.gL0 hl, h.oIn, ones_bset h.n]
  exact (h.fr1 hl).1
/-- who has reserved a meal -/
theorem Rel.resv (h : Rel δ T σ (μ 0)) (x : Int32) : (zX4_mealReservedBy σ x = -4 ∧ zX8_reservedBy μ x = -1 ∧ ∀ i, i < nM σ → σ 1 (8 * i) = 1 → σ 1 (8 * i + 5) ≠ x) ∨ ∃ j, j < nM σ ∧ σ 1 (8 * j) = 1 ∧ σ 1 (8 * j + 5) = x ∧ zX4_mealReservedBy σ x = nI j ∧ zX8_reservedBy μ x = nI j := by
  have hn := h.n
  have hp : ∀ i, i < nM σ → (bX4_mealReservedBy σ x i = true ↔ σ 1 (8 * i) = 1 ∧ σ 1 (8 * i + 5) = x) := fun i hi => by
    unfold bX4_mealReservedBy
    rw [cM0 (by omega), cM5 (by omega)]
    by_cases h1 : σ 1 (8 * i) = 1
    · rw [if_pos h1]
      by_cases h2 : σ 1 (8 * i + 5) = x
      · rw [if_pos h2]; exact ⟨fun _ => ⟨h1, h2⟩, fun _ => rfl⟩
      · rw [if_neg h2]; exact ⟨fun z => absurd z (by decide), fun z => absurd z.2 h2⟩
    · rw [if_neg h1]; exact ⟨fun z => absurd z (by decide), fun z => absurd z.1 h1⟩
  have ho : ∀ n, n ≤ nM σ → (upTo (bX8_reservedBy μ x) (-1) n = -1 ∧ ∀ i, i < n → ¬ (σ 1 (8 * i) = 1 ∧ σ 1 (8 * i + 5) = x)) ∨ ∃ j, j < n ∧ σ 1 (8 * j) = 1 ∧ σ 1 (8 * j + 5) = x ∧ upTo (bX8_reservedBy μ x) (-1) n = nI j := by
    intro n
    induction n with
    | zero => intro _; exact Or.inl ⟨rfl, fun i hi => absurd hi (Nat.not_lt_zero _)⟩
    | succ n ih =>
      intro hn2
      have e : upTo (bX8_reservedBy μ x) (-1) (n + 1) = if σ 1 (8 * n) = 1 then (if σ 1 (8 * n + 5) = x then nI n else upTo (bX8_reservedBy μ x) (-1) n) else upTo (bX8_reservedBy μ x) (-1) n := by
        show bX8_reservedBy μ x n _ = _
        unfold bX8_reservedBy
        rw [oM0 (by omega), oM5 (by omega), h.gM0 (by omega)]
        by_cases h1 : σ 1 (8 * n) = 1
        · rw [if_pos h1, if_pos h1, ← h.W n (by omega) (Or.inl h1)]
        · rw [if_neg h1, if_neg h1]
      rw [e]
      by_cases h1 : σ 1 (8 * n) = 1 ∧ σ 1 (8 * n + 5) = x
      · right
        rw [if_pos h1.1, if_pos h1.2]
        exact ⟨n, by omega, h1.1, h1.2, rfl⟩
      · have e2 : (if σ 1 (8 * n) = 1 then (if σ 1 (8 * n + 5) = x then nI n else upTo (bX8_reservedBy μ x) (-1) n) else upTo (bX8_reservedBy μ x) (-1) n) = upTo (bX8_reservedBy μ x) (-1) n := by
          by_cases h2 : σ 1 (8 * n) = 1
          · rw [if_pos h2, if_neg (fun z => h1 ⟨h2, z⟩)]
          · rw [if_neg h2]
        rw [e2]
        rcases ih (by omega) with z | ⟨j, z1, z2, z3, z4⟩
        · left
          refine ⟨z.1, fun i hi => ?_⟩
          by_cases e3 : i = n
          · subst e3; exact h1
          · exact z.2 i (by omega)
        · right
          exact ⟨j, by omega, z2, z3, z4⟩
  have ho2 := ho (nM σ) (Nat.le_refl _)
  have eo : zX8_reservedBy μ x = upTo (bX8_reservedBy μ x) (-1) (nM σ) := by
    unfold zX8_reservedBy
    rw [h.ns]
  rw [eo]
  have ec : zX4_mealReservedBy σ x = if fstK (bX4_mealReservedBy σ x) 0 (nM σ) < nM σ then nI (fstK (bX4_mealReservedBy σ x) 0 (nM σ)) else -4 := rfl
  rw [ec]
  rcases fstK_spec (c := bX4_mealReservedBy σ x) (nM σ) 0 with ⟨z1, z2⟩ | ⟨z1, z2, z3⟩
  · have nn : ∀ i, i < nM σ → ¬ (σ 1 (8 * i) = 1 ∧ σ 1 (8 * i + 5) = x) := fun i hi w => by
      have := (hp i hi).mpr w
      rw [z2 i (by omega) (by omega)] at this
      exact absurd this (by decide)
    rcases ho2 with w | ⟨j, w1, w2, w3, w4⟩
    · left
      exact ⟨if_neg (by omega), w.1, fun i hi a b => nn i hi ⟨a, b⟩⟩
    · exact absurd ⟨w2, w3⟩ (nn j w1)
  · rw [Nat.zero_add] at z2
    have q := (hp _ z2).mp z3
    rcases ho2 with w | ⟨j, w1, w2, w3, w4⟩
    · exact absurd q (w.2 _ z2)
    · right
      have ej : fstK (bX4_mealReservedBy σ x) 0 (nM σ) = j := h.U _ _ z2 w1 q.1 w2 (q.2.trans w3.symm)
      exact ⟨j, w1, w2, w3, by rw [if_pos z2, ej], w4⟩
theorem Rel.fit (h : Rel δ T σ (μ 0)) {p m : Nat} (hp : p < 8) (hm : m < 24) : zX8_mayHave μ (nI p) (nI m) = zX4_isFitFor σ (nI p) (nI m) := by
  unfold zX8_mayHave zX4_isFitFor
  rw [oM0 hm, oM3 hm, oP0 hp, cM0 hm, cM3 hm, cP0 hp, h.gM0 hm, h.gM3 hm, h.gP0 hp]
end
/-- the later hour, less the hour that it is -/
theorem sub_toInt {x y : Int32} (hx : rg x 100000) (hy : rg y 100000) : (x - y).toInt = x.toInt - y.toInt := by
  obtain ⟨a, b⟩ := rg_nI hx
  obtain ⟨c, d⟩ := rg_nI hy
  have h1 := hx.2
  have h2 := hy.2
  rw [a, c, pk_sub_toInt (by omega) (by omega), ← a, ← c]
  omega
theorem rg_w {x : Int32} {a b : Int} (h : rg x a) (hab : a ≤ b) : rg x b := ⟨h.1, by have := h.2; omega⟩
theorem zmax_sub {x y : Int32} (hx : rg x 100000) (hy : rg y 100000) : zmax 0 (x - y) = (if x ≤ y then 0 else x - y) ∧ (0 < zmax 0 (x - y) ↔ ¬ x ≤ y) := by
  have e := sub_toInt hx hy
  have z : (0 : Int32).toInt = 0 := by decide
  have h1 : (0 : Int32) < x - y ↔ ¬ x ≤ y := by
    rw [Int32.lt_iff_toInt_lt, Int32.le_iff_toInt_le, e, z]
    omega
  unfold zmax
  by_cases h2 : x ≤ y
  · rw [if_neg (fun w => h1.mp w h2), if_pos h2]
    exact ⟨rfl, ⟨fun w => absurd w (by decide), fun w => absurd h2 w⟩⟩
  · rw [if_pos (h1.mpr h2), if_neg h2]
    exact ⟨rfl, h1⟩
section
variable {δ : Nat → Int32} {T : Int} {σ μ : Sg}
theorem Rel.bar (h : Rel δ T σ (μ 0)) (hT : T ≤ 10000) {p : Nat} (hp : p < 8) : (zX8_isBarred μ (nI p) = 0 ↔ ¬ 0 < zX4_barredHours σ (nI p)) ∧ zX4_barredHours σ (nI p) = (if zX8_isBarred μ (nI p) = 0 then 0 else zX8_ofPerson μ (nI p) 2 - μ 0 4) := by
  have e := zmax_sub (x := σ 2 (6 * p + 2)) (y := σ 5 5) (rg_w (h.B.2.1 p hp) (by decide)) (rg_w h.B.1 (by omega))
  unfold zX8_isBarred zX4_barredHours
  rw [oP2 hp, cP2 hp, h.gP2 hp, h.gT]
  by_cases h1 : σ 2 (6 * p + 2) ≤ σ 5 5
  · rw [if_pos h1]
    rw [if_pos h1] at e
    exact ⟨⟨fun _ w => e.2.mp w h1, fun _ => rfl⟩, by rw [if_pos rfl]; exact e.1⟩
  · rw [if_neg h1]
    rw [if_neg h1] at e
    exact ⟨⟨fun w => absurd w (by decide), fun w => absurd (e.2.mpr h1) w⟩, by rw [if_neg (by decide)]; exact e.1⟩
theorem Rel.way_ (h : Rel δ T σ (μ 0)) (hT : T ≤ 10000) {v : Nat} (hv : v < 3) : (zX8_isUnderWay μ (nI v) = 0 ↔ ¬ 0 < zX4_wayHoursLeft σ (nI v)) ∧ zX4_wayHoursLeft σ (nI v) = (if zX8_isUnderWay μ (nI v) = 0 then 0 else zX8_ofHelper μ (nI v) 2 - μ 0 4) := by
  have e := zmax_sub (x := σ 3 (5 * v + 3)) (y := σ 5 5) (rg_w (h.B.2.2.1 v hv) (by decide)) (rg_w h.B.1 (by omega))
  unfold zX8_isUnderWay zX4_wayHoursLeft
  rw [oH2 hv, cV3 hv, h.gV3 hv, h.gT]
  by_cases h1 : σ 3 (5 * v + 3) ≤ σ 5 5
  · rw [if_pos h1]
    rw [if_pos h1] at e
    exact ⟨⟨fun _ w => e.2.mp w h1, fun _ => rfl⟩, by rw [if_pos rfl]; exact e.1⟩
  · rw [if_neg h1]
    rw [if_neg h1] at e
    exact ⟨⟨fun w => absurd w (by decide), fun w => absurd (e.2.mpr h1) w⟩, by rw [if_neg (by decide)]; exact e.1⟩
theorem Rel.ways (h : Rel δ T σ (μ 0)) {a b : Nat} (ha : a < 5) (hb : b < 5) : zX8_way μ (nI a) (nI b) = zX4_wayHours σ (nI a) (nI b) := by
  unfold zX8_way zX4_wayHours zabs
  rw [cS3, show μ 0 8 = σ 4 3 from h.gS (j := 3) (by decide)]
  have e := pk_sub_toInt (a := a) (b := b) (by omega) (by omega)
  have z : (0 : Int32).toInt = 0 := by decide
  have h2 : (0 : Int32) ≤ nI a - nI b ↔ b ≤ a := by
    rw [Int32.le_iff_toInt_le, e, z]
    omega
  by_cases h1 : a ≤ b
  · rw [if_pos (nI_le h1 (by omega))]
    by_cases h3 : b ≤ a
    · have : a = b := by omega
      subst this
      rw [if_pos (h2.mpr h3)]
    · rw [if_neg (fun w => h3 (h2.mp w)), Int32.zero_sub, Int32.neg_sub]
  · rw [if_neg (fun w => h1 ((nI_leI (by omega) (by omega)).mp w)), if_pos (h2.mpr (by omega))]
theorem Rel.cold (h : Rel δ T σ (μ 0)) {l : Nat} (hl : l < 5) : (zX4_isCold σ (nI l) = 0 ↔ ¬ zX8_ofLocker μ (nI l) 1 = 1) := by
  unfold zX4_isCold
  rw [oL1 hl, cL1 hl, h.gL1 hl]
  by_cases h1 : σ 0 (9 * l + 1) = 1
  · rw [if_pos h1]; exact ⟨fun w => absurd w (by decide), fun w => absurd h1 w⟩
  · rw [if_neg h1]; exact ⟨fun _ => h1, fun _ => rfl⟩
theorem Rel.whN (h : Rel δ T σ (μ 0)) {m : Nat} (hm : m < 24) : ∃ l, l < 5 ∧ σ 1 (8 * m + 1) = nI l := by
  obtain ⟨a, b⟩ := rg_nI (h.wh hm)
  have c := (h.wh hm).2
  exact ⟨_, by omega, a⟩
theorem Rel.loss_ (h : Rel δ T σ (μ 0)) {m : Nat} (hm : m < 24) : zX8_loss μ (nI m) = if 1 < σ 1 (8 * m) then 2 else if zX4_isCold σ (σ 1 (8 * m + 1)) = 0 then 2 else 1 := by
  obtain ⟨l, hl, e⟩ := h.whN hm
  unfold zX8_loss
  rw [oM0 hm, oM1 hm, h.gM0 hm, h.gM1 hm, e]
  by_cases h1 : 1 < σ 1 (8 * m)
  · rw [if_pos ((le2_iff _).mpr h1), if_pos h1]
  · rw [if_neg (fun z => h1 ((le2_iff _).mp z)), if_neg h1]
    by_cases h2 : zX8_ofLocker μ (nI l) 1 = 1
    · rw [if_pos h2, if_neg (fun z => (h.cold hl).mp z h2)]
    · rw [if_neg h2, if_pos ((h.cold hl).mpr h2)]
end
