/-! THE HOUR WHOLE, HOURS, WHAT WOULD SPOIL -/
theorem Rel.mono {δ : Nat → Int32} {T T2 : Int} {σ : Sg} {s : Nat → Int32} (h : Rel δ T σ s) (ht : rg (σ 5 5) T2) : Rel δ T2 σ s := ⟨h.1, h.2.1, ⟨ht, h.B.2⟩, h.2.2.2⟩
theorem ite_0 {c : Prop} [Decidable c] {a b : Sg} : (if c then a else b) 0 = if c then a 0 else b 0 := by
  by_cases h : c
  · rw [if_pos h, if_pos h]
  · rw [if_neg h, if_neg h]
/-- the way of an hour, by the hour that was -/
def owd (σ : Sg) (v : Nat) : Int32 := if σ 3 (5 * v + 3) ≤ σ 5 5 then 0 else 1
theorem sim_h1 {T : Int} {σ μ : Sg} (h : Rel (fun _ => 0) T σ (μ 0)) : Rel (fun v => if v < (σ 5 3).toNatClampNeg then owd σ v else 0) T σ (zh1 μ 0) := by
  have r3 := h.r3
  have r4 := (rg_nI r3).2
  have r5 := r3.2
  have es : (μ 0 3).toNatClampNeg = (σ 5 3).toNatClampNeg := congrArg Int32.toNatClampNeg (h.gF (j := 3) (by decide))
  unfold zh1
  rw [es]
  refine upTo_ind (R := fun i (w : Sg) => Rel (fun v => if v < i then owd σ v else 0) T σ (w 0)) ?_ _ (fun i w hi hr => ?_)
  · have e : (fun v : Nat => if v < 0 then owd σ v else (0 : Int32)) = fun _ => 0 := by
      funext v
      exact if_neg (by omega)
    rw [e]
    exact h
  · have hi3 : i < 3 := by omega
    have e1 : w 0 (284 + 5 * i + 3) = σ 3 (5 * i + 4) := by
      have e := hr.R 3 (5 * i + 4) (dV4 hi3)
      rw [tV4] at e
      rw [e]
      unfold adj
      rw [if_pos ⟨rfl, by omega⟩]
      show σ 3 (5 * i + 4) + (if (5 * i + 4) / 5 < i then owd σ ((5 * i + 4) / 5) else 0) = _
      rw [if_neg (by omega), Int32.add_zero]
    have key : ∀ d : Int32, owd σ i = d → Rel (fun v => if v < i + 1 then owd σ v else 0) T σ (upd (w 0) (284 + 5 * i + 3) (w 0 (284 + 5 * i + 3) + d)) := fun d hd => by
      have e := hr.ow hi3 (a := σ 3 (5 * i + 4)) (b := w 0 (284 + 5 * i + 3) + d) (d := d) (by rw [e1])
      rw [sgU_id rfl] at e
      have ef : upd (fun v => if v < i then owd σ v else 0) i d = fun v => if v < i + 1 then owd σ v else 0 := by
        funext v
        by_cases q : v = i
        · subst q
          rw [pk_us, if_pos (by omega), hd]
        · rw [pk_un q]
          by_cases q2 : v < i
          · rw [if_pos q2, if_pos (by omega)]
          · rw [if_neg q2, if_neg (by omega)]
      rw [ef] at e
      exact e
    unfold bX8_h1 zX8_isUnderWay
    rw [oH2 hi3, hr.gV3 hi3, hr.gT]
    by_cases h1 : σ 3 (5 * i + 3) ≤ σ 5 5
    · rw [if_pos h1, if_pos rfl, oH3 hi3, uH3 hi3, mW_0]
      exact key 0 (if_pos h1)
    · rw [if_neg h1, if_neg (by decide), oH3 hi3, uH3 hi3, mW_0]
      exact key 1 (if_neg h1)
/-- the same, by the hour that is -/
def owN (σ : Sg) (v : Nat) : Int32 := if σ 3 (5 * v + 3) < σ 5 5 then 0 else 1
theorem sim_in {T : Int} {σ μ : Sg} (h : Rel (fun v => if v < (σ 5 3).toNatClampNeg then owN σ v else 0) T σ (μ 0)) (hT : T ≤ 10000) : Rel (fun _ => 0) T (zpassIn σ) (zh3 μ 0) ∧ (zpassIn σ) 5 = σ 5 ∧ S5 σ (zpassIn σ) := by
  have r3 := h.r3
  have r4 := (rg_nI r3).2
  have r5 := r3.2
  have es : (μ 0 3).toNatClampNeg = (σ 5 3).toNatClampNeg := congrArg Int32.toNatClampNeg (h.gF (j := 3) (by decide))
  unfold zh3 zpassIn
  rw [es]
  generalize hN : (σ 5 3).toNatClampNeg = N at h r4
  have key := upTo_rel (R := fun i (a w : Sg) => Rel (fun v => if i ≤ v ∧ v < N then owN σ v else 0) T a (w 0) ∧ a 5 = σ 5 ∧ (∀ v, v < 3 → a 3 (5 * v + 3) = σ 3 (5 * v + 3)) ∧ S5 σ a) (f := bX0_passIn) (g := bX8_h3) (a := σ) (b := μ) ⟨by
      have e : (fun v : Nat => if 0 ≤ v ∧ v < N then owN σ v else (0 : Int32)) = fun v => if v < N then owN σ v else 0 := by
        funext v
        by_cases q : v < N
        · rw [if_pos ⟨by omega, q⟩, if_pos q]
        · rw [if_neg (fun z => q z.2), if_neg q]
      rw [e]
      exact h, rfl, fun _ _ => rfl, S5.rf⟩ N (fun i a w hi R => by
    obtain ⟨hr, h5, h3, hs⟩ := R
    have hi3 : i < 3 := by omega
    have ea : a 3 (5 * i + 3) = σ 3 (5 * i + 3) := h3 i hi3
    have et : a 5 5 = σ 5 5 := by rw [h5]
    have eδ : ∀ x : Int32, (fun v : Nat => if i + 1 ≤ v ∧ v < N then owN σ v else (0 : Int32)) = upd (fun v => if i ≤ v ∧ v < N then owN σ v else 0) i 0 := fun _ => by
      funext v
      by_cases q : v = i
      · subst q
        rw [pk_us, if_neg (by omega)]
      · rw [pk_un q]
        by_cases q2 : i ≤ v ∧ v < N
        · rw [if_pos q2, if_pos (by omega)]
        · rw [if_neg q2, if_neg (by omega)]
    have e4 : w 0 (284 + 5 * i + 3) = a 3 (5 * i + 4) + owN σ i := by
      have e := hr.R 3 (5 * i + 4) (dV4 hi3)
      rw [tV4] at e
      rw [e]
      unfold adj
      rw [if_pos ⟨rfl, by omega⟩]
      show a 3 (5 * i + 4) + (if i ≤ (5 * i + 4) / 5 ∧ (5 * i + 4) / 5 < N then owN σ ((5 * i + 4) / 5) else 0) = _
      rw [show (5 * i + 4) / 5 = i by omega, if_pos ⟨Nat.le_refl _, hi⟩]
    have ew : zX0_walkAnHour a (nI i) = if σ 3 (5 * i + 3) < σ 5 5 then a else sgU a 3 (5 * i + 4) (a 3 (5 * i + 4) + 1) := by
      unfold zX0_walkAnHour
      rw [cV3 hi3, ea, et, iV4 hi3]
    unfold bX0_passIn bX8_h3
    rw [ew, oH2 hi3, hr.gV3 hi3, ea, hr.gT, et]
    by_cases h1 : σ 3 (5 * i + 3) < σ 5 5
    · have hne : ¬ σ 3 (5 * i + 3) = σ 5 5 := fun z => by
        rw [z, Int32.lt_iff_toInt_lt] at h1
        omega
      rw [if_pos h1, cV3 hi3, ea, et, if_neg hne, if_neg hne]
      refine ⟨?_, h5, h3, hs⟩
      have e0 : owN σ i = 0 := if_pos h1
      have e := hr.ow hi3 (a := a 3 (5 * i + 4)) (b := w 0 (284 + 5 * i + 3)) (d := 0) (by rw [e4, e0])
      rw [sgU_id rfl, upd_id rfl, ← eδ 0] at e
      exact e
    · have e1 : owN σ i = 1 := if_neg h1
      have e := hr.ow hi3 (a := a 3 (5 * i + 4) + 1) (b := w 0 (284 + 5 * i + 3)) (d := 0) (by rw [e4, e1, Int32.add_zero])
      rw [upd_id rfl, ← eδ 0] at e
      have h52 : sgU a 3 (5 * i + 4) (a 3 (5 * i + 4) + 1) 5 = σ 5 := (sgU_row (by decide)).trans h5
      have h32 : ∀ v, v < 3 → sgU a 3 (5 * i + 4) (a 3 (5 * i + 4) + 1) 3 (5 * v + 3) = σ 3 (5 * v + 3) := fun v hv => by
        rw [sgU_ne (by omega)]
        exact h3 v hv
      have hs2 : S5 σ (sgU a 3 (5 * i + 4) (a 3 (5 * i + 4) + 1)) := hs.w (Or.inl (by decide))
      rw [if_neg h1, cV3 hi3, h32 i hi3, h52]
      by_cases h2 : σ 3 (5 * i + 3) = σ 5 5
      · rw [if_pos h2, if_pos h2]
        obtain ⟨-, -, s3, s4, s5⟩ := sim_stow e hi3
        exact ⟨s3, s4.2.trans h52, fun v hv => by rw [s4.1]; exact h32 v hv, hs2.tr s5⟩
      · rw [if_neg h2, if_neg h2]
        exact ⟨e, h52, h32, hs2⟩)
  obtain ⟨k1, k2, -, k4⟩ := key
  have e : (fun v : Nat => if N ≤ v ∧ v < N then owN σ v else (0 : Int32)) = fun _ => 0 := by
    funext v
    exact if_neg (by omega)
  rw [e] at k1
  exact ⟨k1, k2, k4⟩
theorem sim_lapse {δ : Nat → Int32} {T : Int} {σ μ : Sg} (h : Rel δ T σ (μ 0)) (hT : T ≤ 9000) : Rel δ T (zX0_lapseReservations σ) (zh4 μ 0) ∧ (zX0_lapseReservations σ) 5 = σ 5 ∧ S5 σ (zX0_lapseReservations σ) := by
  have hn := h.n
  have eo : zh4 μ = upTo bX8_h4 μ (nM σ) := by
    unfold zh4
    rw [h.ns]
  have ec : zX0_lapseReservations σ = upTo bX0_lapseReservations σ (nM σ) := rfl
  rw [eo, ec]
  refine upTo_rel (R := fun _ (a w : Sg) => Rel δ T a (w 0) ∧ a 5 = σ 5 ∧ S5 σ a) (f := bX0_lapseReservations) (g := bX8_h4) (a := σ) (b := μ) ⟨h, rfl, S5.rf⟩ (nM σ) (fun i a w hi R => ?_)
  obtain ⟨hr, h5, hs⟩ := R
  have hi24 : i < 24 := by omega
  have hnM : nM a = nM σ := congrArg (fun f : Nat → Int32 => (f 1).toNatClampNeg) h5
  unfold bX0_lapseReservations bX8_h4
  rw [cM0 hi24, cM7 hi24, cS0, oM0 hi24, hr.gM0 hi24, oM6 hi24, hr.gM7 hi24, hr.gT, show w 0 5 = a 4 0 from hr.gS (j := 0) (by decide)]
  by_cases h1 : a 1 (8 * i) = 1
  · rw [if_pos h1, if_pos h1]
    by_cases h2 : a 5 5 - a 1 (8 * i + 7) < a 4 0
    · rw [if_pos h2, if_pos h2]; exact ⟨hr, h5, hs⟩
    rw [if_neg h2, if_neg h2]
    have hww := hr.W i hi24 (Or.inl h1)
    have hwr := hr.who hi24 h1
    obtain ⟨ewho, ewho2⟩ := rg_nI hwr
    have hw3 := hwr.2
    generalize (a 1 (8 * i + 5)).toNatClampNeg = p at ewho ewho2
    have hp8 : p < 8 := by omega
    have ra := hr.st (m := i) (v := 0) (by rw [hnM]; omega) (by rw [h1]; decide) (by decide) (fun z => absurd z (by decide)) (fun _ => Or.inl (by rw [h1]; decide)) (fun z => absurd z (by decide))
    have rb := ra.pws hi24 (by rw [sgU_eq]; decide) (-1)
    have e5 : sgU a 1 (8 * i) 0 1 (8 * i + 5) = a 1 (8 * i + 5) := sgU_ne (by omega)
    unfold zX0_strike zX8_lapses
    simp only [wM0 hi24, cM5 hi24, e5, oM5 hi24, ← hww, ewho, iP5 hp8, iP1 hp8, cP1 hp8, wP1 hp8, wP2 hp8, cS1, cS2, uM0 hi24, uM5 hi24, oP4 hp8, oP1 hp8, uP4 hp8, uP1 hp8, uP2 hp8, mW_0, ite_0]
    have q5 : S5 σ (sgU a 1 (8 * i) 0) := hs.w0 (by decide) (by rw [h1]; decide)
    have f5 : sgU a 1 (8 * i) 0 5 = σ 5 := (sgU_row (by decide)).trans h5
    generalize sgU a 1 (8 * i) 0 = a2 at rb q5 f5 ⊢
    generalize upd (upd (w 0) (52 + 8 * i) 0) (52 + 8 * i + 5) (-1) = s2 at rb ⊢
    rw [rb.gP5 hp8]
    have rc := rb.pP5 hp8 (a2 2 (6 * p + 5) + 1)
    have q5b : S5 σ (sgU a2 2 (6 * p + 5) (a2 2 (6 * p + 5) + 1)) := q5.w (Or.inl (by decide))
    have f5b : sgU a2 2 (6 * p + 5) (a2 2 (6 * p + 5) + 1) 5 = σ 5 := (sgU_row (by decide)).trans f5
    generalize sgU a2 2 (6 * p + 5) (a2 2 (6 * p + 5) + 1) = a3 at rc q5b f5b ⊢
    generalize upd s2 (244 + 5 * p + 4) (a2 2 (6 * p + 5) + 1) = s3 at rc ⊢
    rw [rc.gP1 hp8]
    have rd := rc.pP1 hp8 (a3 2 (6 * p + 1) + 1)
    have q5c : S5 σ (sgU a3 2 (6 * p + 1) (a3 2 (6 * p + 1) + 1)) := q5b.w (Or.inl (by decide))
    have f5c : sgU a3 2 (6 * p + 1) (a3 2 (6 * p + 1) + 1) 5 = σ 5 := (sgU_row (by decide)).trans f5b
    generalize sgU a3 2 (6 * p + 1) (a3 2 (6 * p + 1) + 1) = a4 at rd q5c f5c ⊢
    generalize upd s3 (244 + 5 * p + 1) (a3 2 (6 * p + 1) + 1) = s4 at rd ⊢
    rw [rd.gP1 hp8, show s4 6 = a4 4 1 from rd.gS (j := 1) (by decide)]
    by_cases h3 : a4 2 (6 * p + 1) < a4 4 1
    · rw [if_pos h3, if_pos h3]
      exact ⟨rd, f5c, q5c⟩
    · rw [if_neg h3, if_neg h3]
      have re := rd.pP1 hp8 0
      have et : upd s4 (244 + 5 * p + 1) 0 4 = sgU a4 2 (6 * p + 1) 0 5 5 := re.gT
      have e7 : upd s4 (244 + 5 * p + 1) 0 7 = sgU a4 2 (6 * p + 1) 0 4 2 := re.gS (j := 2) (by decide)
      rw [et, e7]
      have hz : rg (sgU a4 2 (6 * p + 1) 0 5 5 + sgU a4 2 (6 * p + 1) 0 4 2) 10000 := by
        have ht := re.B.1
        have hw := re.B.2.2.2 2 (by decide)
        obtain ⟨a1, a2⟩ := rg_nI hw
        obtain ⟨a3, a4⟩ := rg_nI ht
        have a5 := hw.2
        have a6 := ht.2
        rw [a1, a3, nI_add]
        refine ⟨?_, ?_⟩
        · rw [nI_toInt (by omega)]; omega
        · rw [nI_toInt (by omega)]; omega
      exact ⟨re.pP2 hp8 hz, (sgU_row (by decide)).trans ((sgU_row (by decide)).trans f5c), (q5c.w (Or.inl (by decide))).w (Or.inl (by decide))⟩
  · rw [if_neg h1, if_neg h1]; exact ⟨hr, h5, hs⟩
theorem rg_inc1 {x : Int32} {t : Int} (h : rg x t) (ht : t ≤ 100000) : rg (x + 1) (t + 1) ∧ (x + 1).toInt = x.toInt + 1 := by
  obtain ⟨a, b⟩ := rg_nI h
  have c := h.2
  have e : (x + 1).toInt = x.toInt + 1 := by
    rw [a, nI_1, nI_toInt (by omega), ← a]
    omega
  exact ⟨⟨by have := h.1; omega, by omega⟩, e⟩
theorem sim_hour {T : Int} {σ μ : Sg} (h : Rel (fun _ => 0) T σ (μ 0)) (hT : T ≤ 8990) {q : Nat → Bool} {A B : Int32} (hA : Acc q A B σ) : Rel (fun _ => 0) (T + 1) (zX0_lapseReservations (zpassIn ((zX0_spoilMealsOfThisHour (sgR σ 5 ((σ 5 5) + 1))).2))) ((zX8_hour μ).2 0) ∧ Acc q (A + (zX0_spoilMealsOfThisHour (sgR σ 5 ((σ 5 5) + 1))).1) (B ||| (zX8_hour μ).1) (zX0_lapseReservations (zpassIn ((zX0_spoilMealsOfThisHour (sgR σ 5 ((σ 5 5) + 1))).2))) ∧ (zX0_lapseReservations (zpassIn ((zX0_spoilMealsOfThisHour (sgR σ 5 ((σ 5 5) + 1))).2))) 5 5 = σ 5 5 + 1 := by
  have h1 := sim_h1 h
  obtain ⟨t1, t2⟩ := rg_inc1 h.B.1 (by omega)
  have h2 := h1.pT (z := σ 5 5 + 1) t1
  have e4 : zh1 μ 0 4 = σ 5 5 := h1.gT
  have em : (mU (zh1 μ) 0 (upd ((zh1 μ) 0) 4 (((zh1 μ) 0 4) + 1))) 0 = upd (zh1 μ 0) 4 (σ 5 5 + 1) := by rw [mU_eq, e4]
  have h3 : Rel (fun v => if v < (σ 5 3).toNatClampNeg then owd σ v else 0) (T + 1) (sgU σ 5 5 (σ 5 5 + 1)) ((mU (zh1 μ) 0 (upd ((zh1 μ) 0) 4 (((zh1 μ) 0 4) + 1))) 0) := by
    rw [em]
    exact h2
  have hA2 : Acc q A B (sgU σ 5 5 (σ 5 5 + 1)) := hA.s5 (S5.rf.w (Or.inl (by decide)))
  obtain ⟨l1, l2, l3⟩ := sim_lose h3 hA2
  unfold zX8_hour
  rw [sgR_eq]
  generalize mU (zh1 μ) 0 (upd ((zh1 μ) 0) 4 (((zh1 μ) 0 4) + 1)) = ν at l1 l3 ⊢
  have x3 : (zX0_spoilMealsOfThisHour (sgU σ 5 5 (σ 5 5 + 1))).2 3 = σ 3 := l2.1.trans (sgU_row (by decide))
  have x5 : (zX0_spoilMealsOfThisHour (sgU σ 5 5 (σ 5 5 + 1))).2 5 5 = σ 5 5 + 1 := by rw [l2.2, sgU_eq]
  have x53 : (zX0_spoilMealsOfThisHour (sgU σ 5 5 (σ 5 5 + 1))).2 5 3 = σ 5 3 := by rw [l2.2, sgU_ne (by omega)]
  generalize zX0_spoilMealsOfThisHour (sgU σ 5 5 (σ 5 5 + 1)) = lc at l1 l2 l3 x3 x5 x53 ⊢
  have r3 := h.r3
  have r4 := (rg_nI r3).2
  have r5 := r3.2
  have ed : (fun v : Nat => if v < (σ 5 3).toNatClampNeg then owd σ v else (0 : Int32)) = fun v => if v < (lc.2 5 3).toNatClampNeg then owN lc.2 v else 0 := by
    funext v
    rw [x53]
    by_cases hv : v < (σ 5 3).toNatClampNeg
    · rw [if_pos hv, if_pos hv]
      unfold owd owN
      rw [x3, x5]
      have hle : σ 3 (5 * v + 3) ≤ σ 5 5 ↔ σ 3 (5 * v + 3) < σ 5 5 + 1 := by
        rw [Int32.le_iff_toInt_le, Int32.lt_iff_toInt_lt, t2]
        omega
      by_cases q2 : σ 3 (5 * v + 3) ≤ σ 5 5
      · rw [if_pos q2, if_pos (hle.mp q2)]
      · rw [if_neg q2, if_neg (fun z => q2 (hle.mpr z))]
    · rw [if_neg hv, if_neg hv]
  rw [ed] at l1
  obtain ⟨m1, m2, m3⟩ := sim_in l1 (by omega)
  obtain ⟨n1, n2, n3⟩ := sim_lapse m1 (by omega)
  exact ⟨n1, (l3.s5 m3).s5 n3, by rw [n2, m2, x5]⟩
theorem sim_passes {σ μ : Sg} {q : Nat → Bool} {t : Nat} (h : Rel (fun _ => 0) 5001 σ (μ 0)) (ht2 : t < 5001) (ht : σ 5 5 = nI t) (hA : Acc q 0 0 σ) : ∀ n : Nat, n ≤ 99 → Rel (fun _ => 0) ((t : Int) + (n : Int) + 1) (upTo bX0_passHours (0, σ) n).2 ((upTo bX8_passes (0, μ) n).2 0) ∧ Acc q (upTo bX0_passHours (0, σ) n).1 (upTo bX8_passes (0, μ) n).1 (upTo bX0_passHours (0, σ) n).2 ∧ (upTo bX0_passHours (0, σ) n).2 5 5 = nI (t + n) := by
  intro n
  induction n with
  | zero =>
    intro _
    refine ⟨h.mono ?_, hA, ht⟩
    show rg (σ 5 5) _
    rw [ht]
    exact ⟨by rw [nI_toInt (by omega)]; omega, by rw [nI_toInt (by omega)]; omega⟩
  | succ n ih =>
    intro hn
    obtain ⟨i1, i2, i3⟩ := ih (by omega)
    obtain ⟨j1, j2, j3⟩ := sim_hour i1 (by omega) i2
    refine ⟨?_, j2, ?_⟩
    · have e : ((t + n + 1 : Int) + 1) = ((t : Int) + (n + 1 : Nat) + 1) := by omega
      rw [e] at j1
      exact j1
    · show (zX0_lapseReservations (zpassIn ((zX0_spoilMealsOfThisHour (sgR (upTo bX0_passHours (0, σ) n).2 5 (((upTo bX0_passHours (0, σ) n).2 5 5) + 1))).2))) 5 5 = _
      rw [j3, i3, nI_1]
      rfl
