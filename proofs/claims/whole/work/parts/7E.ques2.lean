/-! ADVICE, WHERE TO CARRY -/
section
variable {δ : Nat → Int32} {T : Int} {σ μ : Sg}
theorem dv1 (x : Int32) : x / 1 = x := by
  first
  | exact Int32.div_one
  | exact Int32.div_one x
  | simp
theorem hrs_e (h : Rel δ T σ (μ 0)) {m : Nat} (hm : m < 24) (hs : σ 1 (8 * m) = 0) : ((zX8_ofMeal μ (nI m) 2 + zX8_loss μ (nI m)) - 1) / zX8_loss μ (nI m) = zX3_hoursIfItStays σ (nI m) := by
  unfold zX3_hoursIfItStays
  rw [h.loss_ hm, oM2 hm, h.gM2 hm, cM1 hm, cM2 hm, if_neg (show ¬ 1 < σ 1 (8 * m) by rw [hs]; decide)]
  by_cases q : zX4_isCold σ (σ 1 (8 * m + 1)) = 0
  · rw [if_pos q, if_pos q]
  · rw [if_neg q, if_neg q, Int32.add_sub_cancel, dv1]
theorem q_advice (h : Rel δ T σ (μ 0)) (x1 : Int32) : zX3_mealToTake σ x1 = zX8_advice μ x1 := by
  unfold zX3_mealToTake zX8_advice
  rw [h.hasP]
  by_cases h1 : zX5_has (σ 5 2) x1 = 0
  · rw [if_pos h1, if_pos h1]
  rw [if_neg h1, if_neg h1, h.ns]
  obtain ⟨p, ep, hp, -⟩ := has_of h.r2 h1
  have hr0 := (rg_nI h.r2).2
  have hr1 := h.r2.2
  have hp8 : p < 8 := by omega
  have hn := h.n
  subst ep
  have key := upTo_rel (R := fun i (v : Int32) (w : Int32 × Int32) => v = w.1 ∧ (v = -4 ∨ ∃ j, j < i ∧ v = nI j ∧ w.2 = zX3_hoursIfItStays σ (nI j))) (f := bX3_mealToTake σ (nI p)) (g := bX8_advice μ (nI p)) (a := -4) (b := ((-4 : Int32), (0 : Int32))) ⟨rfl, Or.inl rfl⟩ (nM σ) (fun i v w hi R => by
    obtain ⟨hv, hw⟩ := R
    have hi24 : i < 24 := by omega
    obtain ⟨w1, w2⟩ := w
    simp only at hv hw
    subst hv
    unfold bX3_mealToTake bX8_advice
    rw [h.fit hp8 hi24]
    by_cases q : zX4_isFitFor σ (nI p) (nI i) = 0
    · rw [if_pos q, if_pos q]
      refine ⟨rfl, ?_⟩
      rcases hw with z | ⟨j, z1, z2, z3⟩
      · exact Or.inl z
      · exact Or.inr ⟨j, by omega, z2, z3⟩
    rw [if_neg q, if_neg q]
    have hst : σ 1 (8 * i) = 0 := by
      unfold zX4_isFitFor at q
      rw [cM0 hi24] at q
      by_cases z : σ 1 (8 * i) = 0
      · exact z
      · rw [if_neg z] at q; exact absurd rfl q
    rw [hrs_e h hi24 hst]
    simp only
    generalize zX3_hoursIfItStays σ = G at hw ⊢
    rcases hw with z | ⟨j, z1, z2, z3⟩
    · have q4 : (-4 : Int32) < 0 := by decide
      rw [z, if_pos q4, if_pos q4]
      exact ⟨rfl, Or.inr ⟨i, Nat.lt_succ_self i, rfl, rfl⟩⟩
    · rw [z2, if_neg (nI_pos (by omega)), if_neg (nI_pos (by omega)), z3]
      by_cases q2 : G (nI j) ≤ G (nI i)
      · rw [if_pos q2, if_pos q2]
        exact ⟨rfl, Or.inr ⟨j, by omega, rfl, rfl⟩⟩
      · rw [if_neg q2, if_neg q2]
        exact ⟨rfl, Or.inr ⟨i, by omega, rfl, rfl⟩⟩)
  exact key.1
/-! where a meal should be carried -/
def mvF (σ : Sg) (L k : Nat) (v : Int32 × Int32 × Int32) : Int32 × Int32 × Int32 := bX3_moveIn σ (nI (k / L)) (k % L) v
theorem mv_in {L i : Nat} (hL : 0 < L) (a : Int32 × Int32 × Int32) : ∀ j, j ≤ L → upTo (bX3_moveIn σ (nI i)) (upTo (mvF σ L) a (i * L)) j = upTo (mvF σ L) a (i * L + j)
  | 0, _ => rfl
  | j + 1, hj => by
    show bX3_moveIn σ (nI i) j (upTo (bX3_moveIn σ (nI i)) (upTo (mvF σ L) a (i * L)) j) = mvF σ L (i * L + j) (upTo (mvF σ L) a (i * L + j))
    rw [mv_in hL a j (by omega)]
    unfold mvF
    have e1 : (i * L + j) / L = i := by
      rw [Nat.mul_comm, Nat.mul_add_div hL, Nat.div_eq_of_lt (by omega), Nat.add_zero]
    have e2 : (i * L + j) % L = j := by
      rw [Nat.mul_comm, Nat.mul_add_mod, Nat.mod_eq_of_lt (by omega)]
    rw [e1, e2]
theorem mv_out {L : Nat} (hL : 0 < L) (eL : (σ 5 0).toNatClampNeg = L) (a : Int32 × Int32 × Int32) : ∀ n, upTo (bX3_moveOut σ) a n = upTo (mvF σ L) a (n * L)
  | 0 => by rw [Nat.zero_mul]; rfl
  | n + 1 => by
    show bX3_moveOut σ n (upTo (bX3_moveOut σ) a n) = _
    rw [mv_out hL eL a n]
    have e : bX3_moveOut σ n (upTo (mvF σ L) a (n * L)) = upTo (bX3_moveIn σ (nI n)) (upTo (mvF σ L) a (n * L)) L := by
      unfold bX3_moveOut zX3_moveIn
      rw [eL]
    rw [e, mv_in hL a L (Nat.le_refl _), Nat.succ_mul]
theorem arr_e (h : Rel δ T σ (μ 0)) {m l : Nat} (hm : m < 24) (hl : l < 5) : zX8_arrivingWith μ (nI m) (nI l) = if zX3_savesByMove σ (nI m) (nI l) = 0 then 0 else if zX3_hoursOnArriving σ (nI m) (nI l) ≤ 0 then 0 else zX3_hoursOnArriving σ (nI m) (nI l) := by
  obtain ⟨f, hf, ef⟩ := h.whN hm
  unfold zX8_arrivingWith zX3_savesByMove zX3_hoursOnArriving
  rw [oM0 hm, h.gM0 hm, cM0 hm, h.loss_ hm, cM1 hm, oM1 hm, h.gM1 hm, oM2 hm, h.gM2 hm, cM2 hm, ef, h.ways hf hl, h.cFree hl, h.oFree hl]
  by_cases q1 : σ 1 (8 * m) = 0
  · rw [if_pos q1, if_pos q1, if_neg (show ¬ 1 < σ 1 (8 * m) by rw [q1]; decide)]
    by_cases q2 : zX4_isCold σ (nI f) = 0
    · rw [if_pos q2, if_pos q2, if_pos rfl]
      by_cases q3 : zX8_ofLocker μ (nI l) 1 = 1
      · rw [if_pos q3, if_neg (fun z => (h.cold hl).mp z q3)]
        by_cases q4 : nI (frN σ l) ≤ 0
        · rw [if_pos q4, if_pos q4, if_pos rfl]
        · rw [if_neg q4, if_neg q4, if_neg (show ¬ (1 : Int32) = 0 by decide)]
      · rw [if_neg q3, if_pos ((h.cold hl).mpr q3), if_pos rfl]
    · rw [if_neg q2, if_neg q2, if_neg (show ¬ (1 : Int32) = 2 by decide), if_pos rfl]
  · rw [if_neg q1, if_neg q1, if_pos rfl]
theorem q_move (h : Rel δ T σ (μ 0)) (x1 : Int32) : zX3_ofBestMove σ x1 = zX8_move μ x1 := by
  unfold zX3_ofBestMove zX8_move
  rw [wi_in]
  by_cases h1 : zX8_in x1 0 2 = 0
  · rw [if_pos h1, if_pos h1]
  rw [if_neg h1, if_neg h1]
  have hn := h.n
  have e0 := h.e5.1
  have e1 := h.e5.2.1
  have r0 := (rg_nI h.r0).2
  have r1 := h.r0.2
  have g0 := h.gF (j := 0) (by decide)
  have g1 := h.gF (j := 1) (by decide)
  generalize hL : (σ 5 0).toNatClampNeg = L at e0 r0
  have hL6 : L < 6 := by omega
  have ec : (σ 5 1).toNatClampNeg = nM σ := rfl
  have em : (μ 0 1 * μ 0 0).toNatClampNeg = nM σ * L := by
    rw [g0, g1, e0, e1, pk_mul]
    have : nM σ * L ≤ 24 * 6 := Nat.mul_le_mul hn (by omega)
    exact nI_clamp (by omega)
  rw [ec, em, g0, e0]
  by_cases hz : L = 0
  · subst hz
    rw [Nat.mul_zero]
    have ez : ∀ n, upTo (bX3_moveOut σ) (-4, -4, 0) n = ((-4 : Int32), (-4 : Int32), (0 : Int32)) := fun n => by
      induction n with
      | zero => rfl
      | succ n ih =>
        show bX3_moveOut σ n (upTo (bX3_moveOut σ) (-4, -4, 0) n) = _
        rw [ih]
        unfold bX3_moveOut zX3_moveIn
        rw [hL]
        rfl
    rw [ez]
    rfl
  have hLp : 0 < L := by omega
  rw [mv_out hLp hL]
  have hb : nM σ * L ≤ 24 * 6 := Nat.mul_le_mul hn (by omega)
  have key := upTo_rel (R := fun k (v : Int32 × Int32 × Int32) (w : Int32 × Int32) => v.2.2 = w.2 ∧ 0 ≤ w.2 ∧ ((v.1 = -4 ∧ w.1 = -1) ∨ ∃ j, j < k ∧ v.1 = nI (j / L) ∧ v.2.1 = nI (j % L) ∧ w.1 = nI j)) (f := mvF σ L) (g := bX8_move μ) (a := (-4, -4, 0)) (b := ((-1 : Int32), (0 : Int32))) ⟨rfl, by decide, Or.inl ⟨rfl, rfl⟩⟩ (nM σ * L) (fun k v w hk R => by
    obtain ⟨v1, v2, v3⟩ := v
    obtain ⟨w1, w2⟩ := w
    simp only at R
    obtain ⟨ra, rb, rc⟩ := R
    subst ra
    have hkm : k / L < nM σ := Nat.div_lt_of_lt_mul (by rw [Nat.mul_comm]; exact hk)
    have hkl : k % L < L := Nat.mod_lt _ hLp
    have d1 : nI k / nI L = nI (k / L) := pk_div (by omega) hLp (by omega)
    have d2 : nI k - nI (k / L) * nI L = nI (k % L) := by
      have := pk_rem (a := k) (d := L) (by omega) hLp (by omega)
      rw [d1] at this
      exact this
    unfold mvF bX3_moveIn bX8_move
    rw [g0, e0, d1, d2, arr_e h (by omega) (by omega)]
    simp only
    have rc2 : (v1 = -4 ∧ w1 = -1) ∨ ∃ j, j < k + 1 ∧ v1 = nI (j / L) ∧ v2 = nI (j % L) ∧ w1 = nI j := by
      rcases rc with z | ⟨j, z1, z2⟩
      · exact Or.inl z
      · exact Or.inr ⟨j, by omega, z2⟩
    by_cases q1 : zX3_savesByMove σ (nI (k / L)) (nI (k % L)) = 0
    · rw [if_pos q1, if_pos q1, if_pos rb]
      exact ⟨rfl, rb, rc2⟩
    · rw [if_neg q1, if_neg q1]
      generalize zX3_hoursOnArriving σ (nI (k / L)) (nI (k % L)) = hh
      have z0 : (0 : Int32).toInt = 0 := by decide
      by_cases q2 : hh ≤ 0
      · have q3 : hh ≤ v3 := by
          rw [Int32.le_iff_toInt_le] at q2 rb ⊢
          omega
        rw [if_pos q2, if_pos q3, if_pos rb]
        exact ⟨rfl, rb, rc2⟩
      · rw [if_neg q2]
        by_cases q3 : hh ≤ v3
        · rw [if_pos q3, if_pos q3]
          exact ⟨rfl, rb, rc2⟩
        · rw [if_neg q3, if_neg q3]
          refine ⟨rfl, ?_, Or.inr ⟨k, by omega, rfl, rfl, rfl⟩⟩
          show (0 : Int32) ≤ hh
          rw [Int32.le_iff_toInt_le] at q2 ⊢
          omega)
  generalize upTo (mvF σ L) (-4, -4, 0) (nM σ * L) = v at key
  generalize upTo (bX8_move μ) ((-1 : Int32), (0 : Int32)) (nM σ * L) = w at key
  obtain ⟨ra, rb, rc⟩ := key
  rcases rc with ⟨z1, z2⟩ | ⟨j, z1, z2, z3, z4⟩
  · rw [z1, z2, if_pos (by decide), if_neg (by decide)]
  · have d0 : j / L ≤ j := Nat.div_le_self _ _
    rw [z2, z3, z4, if_neg (nI_pos (by omega)), if_pos (nI_pos' (by omega)), pk_div (by omega) hLp (by omega), ra]
    have d2 : nI j - nI (j / L) * nI L = nI (j % L) := by
      have := pk_rem (a := j) (d := L) (by omega) hLp (by omega)
      rw [pk_div (by omega) hLp (by omega)] at this
      exact this
    rw [d2]
end
