/-! AN HOUR: both sides change the same -/
theorem upd_same {f : Nat → Int32} {i : Nat} {a b : Int32} : upd (upd f i a) i b = upd f i b := by
  funext k
  by_cases e : k = i
  · subst e; rw [pk_us, pk_us]
  · rw [pk_un e, pk_un e, pk_un e]
theorem upd_id {f : Nat → Int32} {i : Nat} {b : Int32} (h : f i = b) : upd f i b = f := by
  funext k
  by_cases e : k = i
  · subst e; rw [pk_us, h]
  · exact pk_un e
theorem or_as (a b c : Int32) : a ||| (b ||| c) = (a ||| b) ||| c := bt_ext (fun k _ => by rw [bt_or, bt_or, bt_or, bt_or, Bool.or_assoc])
/-- rows of volunteers, counts and the time are as they were; no meal spoilt -/
def K35 (σ σ2 : Sg) : Prop := σ2 3 = σ 3 ∧ σ2 5 = σ 5
def S5 (σ σ2 : Sg) : Prop := ∀ m, m < 24 → (σ2 1 (8 * m) = 5 ↔ σ 1 (8 * m) = 5)
theorem K35.rf {σ : Sg} : K35 σ σ := ⟨rfl, rfl⟩
theorem S5.rf {σ : Sg} : S5 σ σ := fun _ _ => Iff.rfl
theorem K35.tr {a b c : Sg} (h : K35 a b) (k : K35 b c) : K35 a c := ⟨k.1.trans h.1, k.2.trans h.2⟩
theorem S5.tr {a b c : Sg} (h : S5 a b) (k : S5 b c) : S5 a c := fun m hm => (k m hm).trans (h m hm)
theorem K35.n1 {σ σ2 : Sg} (h : K35 σ σ2) : nM σ2 = nM σ := by
  unfold nM
  rw [h.2]
theorem K35.w {σ σ2 : Sg} (h : K35 σ σ2) {k i : Nat} {v : Int32} (h3 : k ≠ 3) (h5 : k ≠ 5) : K35 σ (sgU σ2 k i v) := ⟨(sgU_row (fun e => h3 e.symm)).trans h.1, (sgU_row (fun e => h5 e.symm)).trans h.2⟩
theorem S5.w {σ σ2 : Sg} (h : S5 σ σ2) {k i : Nat} {v : Int32} (h3 : k ≠ 1 ∨ i % 8 ≠ 0) : S5 σ (sgU σ2 k i v) := fun m hm => by
  rw [sgU_ne (by omega)]
  exact h m hm
theorem S5.w0 {σ σ2 : Sg} (h : S5 σ σ2) {a : Nat} {v : Int32} (hv : v ≠ 5) (ho : σ2 1 (8 * a) ≠ 5) : S5 σ (sgU σ2 1 (8 * a) v) := fun m hm => by
  by_cases e : m = a
  · subst e
    rw [sgU_eq]
    exact ⟨fun z => absurd z hv, fun z => absurd ((h m hm).mpr z) ho⟩
  · rw [sgU_ne (by omega)]
    exact h m hm
/-- the loop with its way out, as a loop without -/
def cbS (x1 x2 x3 : Int32) (i : Nat) (v : Int32 × Sg) : Int32 × Sg := if x3 ≤ v.1 then v else bX0_stowMeals x1 x2 x3 i v
theorem stow_stay {x1 x2 x3 : Int32} {a : Int32 × Sg} {i : Nat} (h : x3 ≤ (upTo (cbS x1 x2 x3) a i).1) : ∀ k, upTo (cbS x1 x2 x3) a (i + k) = upTo (cbS x1 x2 x3) a i
  | 0 => rfl
  | k + 1 => by
    show cbS x1 x2 x3 (i + k) (upTo (cbS x1 x2 x3) a (i + k)) = _
    rw [stow_stay h k]
    exact if_pos h
theorem stow_up {x1 x2 x3 : Int32} {a : Int32 × Sg} : ∀ k i, wX0_stowMeals x1 x2 x3 k i (upTo (cbS x1 x2 x3) a i) = upTo (cbS x1 x2 x3) a (i + k)
  | 0, _ => rfl
  | k + 1, i => by
    show (if x3 ≤ (upTo (cbS x1 x2 x3) a i).1 then upTo (cbS x1 x2 x3) a i else wX0_stowMeals x1 x2 x3 k (i + 1) (bX0_stowMeals x1 x2 x3 i (upTo (cbS x1 x2 x3) a i))) = _
    by_cases h : x3 ≤ (upTo (cbS x1 x2 x3) a i).1
    · rw [if_pos h, stow_stay h (k + 1)]
    · rw [if_neg h]
      have e : bX0_stowMeals x1 x2 x3 i (upTo (cbS x1 x2 x3) a i) = upTo (cbS x1 x2 x3) a (i + 1) := (if_neg h).symm
      rw [e, stow_up k (i + 1)]
      exact congrArg _ (by omega)
theorem sim_stow {δ : Nat → Int32} {T : Int} {σ μ : Sg} (h : Rel δ T σ (μ 0)) {v : Nat} (hv : v < 3) : (zX0_stowMeals σ (nI v)).1 = (zX8_lays μ (nI v)).1 ∧ (∃ c : Nat, c ≤ 24 ∧ (zX8_lays μ (nI v)).1 = nI c) ∧ Rel δ T (zX0_stowMeals σ (nI v)).2 ((zX8_lays μ (nI v)).2 0) ∧ K35 σ (zX0_stowMeals σ (nI v)).2 ∧ S5 σ (zX0_stowMeals σ (nI v)).2 := by
  have hn := h.n
  obtain ⟨l, hl5, el⟩ : ∃ l, l < 5 ∧ σ 3 (5 * v + 1) = nI l := by
    obtain ⟨a, b⟩ := rg_nI (h.at_ hv)
    have c := (h.at_ hv).2
    exact ⟨_, by omega, a⟩
  have ec : zX0_stowMeals σ (nI v) = upTo (cbS (nI v) (nI l) (nI (frN σ l))) (0, σ) (nM σ) := by
    unfold zX0_stowMeals
    rw [cV1 hv, el, h.cFree hl5]
    have := stow_up (x1 := nI v) (x2 := nI l) (x3 := nI (frN σ l)) (a := (0, σ)) (nM σ) 0
    rw [Nat.zero_add] at this
    exact this
  have eo : zX8_lays μ (nI v) = upTo (bX8_lays (nI v) (nI l)) (0, μ) (nM σ) := by
    unfold zX8_lays
    rw [oH1 hv, h.gV1 hv, el, h.ns]
  rw [ec, eo]
  have key := upTo_rel (R := fun i (a b : Int32 × Sg) => ∃ c : Nat, c ≤ i ∧ a.1 = nI c ∧ b.1 = nI c ∧ c + frN a.2 l = frN σ l ∧ Rel δ T a.2 (b.2 0) ∧ K35 σ a.2 ∧ S5 σ a.2) (f := cbS (nI v) (nI l) (nI (frN σ l))) (g := bX8_lays (nI v) (nI l)) (a := (0, σ)) (b := (0, μ)) ⟨0, Nat.le_refl _, rfl, rfl, Nat.zero_add _, h, K35.rf, S5.rf⟩ (nM σ) (fun i a b hi R => by
    obtain ⟨c, hci, ha, hb, hf, hr, hk, h5⟩ := R
    obtain ⟨a1, a2⟩ := a
    obtain ⟨b1, b2⟩ := b
    simp only at ha hb hf hr hk h5
    subst ha hb
    have hi24 : i < 24 := by omega
    obtain ⟨-, fe, f9⟩ := hr.fr1 hl5
    have f9' := (h.fr1 hl5).2.2
    have hnM := hk.n1
    unfold cbS bX0_stowMeals bX8_lays
    simp only
    rw [hr.isWith hi24, hr.oFree hl5, cM0 hi24, cM6 hi24]
    by_cases w : wiV a2 v i = true
    · have w2 := w
      unfold wiV at w2
      rw [Bool.and_eq_true, decide_eq_true_eq, decide_eq_true_eq] at w2
      rw [if_pos w, if_neg (show ¬ (1 : Int32) = 0 by decide), if_pos w2.1, if_pos w2.2]
      by_cases z : frN a2 l = 0
      · rw [z, if_pos (show nI 0 ≤ 0 by decide), if_pos (nI_le (by omega) (by omega))]
        exact ⟨c, by omega, rfl, rfl, hf, hr, hk, h5⟩
      · rw [if_neg (nI_nle (by omega) (by omega)), if_neg (nI_ge (by omega) (by omega))]
        rw [wM0 hi24, wM1 hi24, iL4 hl5, uM0 hi24, uM1 hi24, uL3 hl5]
        have ra := hr.pwh hi24 (z := nI l) (rg_of (n := 5) (by omega) (by decide)) (Or.inl (by rw [w2.1]; decide))
        have e0 : ∀ k, sgU a2 1 (8 * i + 1) (nI l) 1 (8 * k) = a2 1 (8 * k) := fun k => sgU_ne (by omega)
        have eN : nM (sgU a2 1 (8 * i + 1) (nI l)) = nM a2 := congrArg Int32.toNatClampNeg (sgU_ne (by omega))
        have ei : ∀ k, inL (sgU a2 1 (8 * i + 1) (nI l)) l k = inL a2 l k := fun k => by
          unfold inL
          rw [e0]
          by_cases q : k = i
          · subst q
            rw [w2.1, decide_eq_false (p := ¬ (1 : Int32) < 2) (by decide), Bool.false_and, Bool.false_and]
          · rw [sgU_ne (by omega)]
        have ecn : cnt (inL (sgU a2 1 (8 * i + 1) (nI l)) l) (nM a2) = cnt (inL a2 l) (nM a2) := cnt_congr (fun k _ => ei k)
        have ecl : sgU a2 1 (8 * i + 1) (nI l) 0 (9 * l) = a2 0 (9 * l) := sgU_ne (by omega)
        have rb := ra.st (m := i) (v := 0) (by rw [eN]; omega) (by rw [e0, w2.1]; decide) (by decide) (fun q => absurd q (by decide)) (fun _ => Or.inr (fun l2 hl2 q => by
          rw [sgU_eq] at q
          have : l = l2 := (nI_eq (by omega) (by omega)).mp q
          subst this
          rw [eN, ecn, ecl]
          omega)) (fun q => absurd q (by decide))
        have rc := rb.raL (i := 9 * l + 4) (plL hl5 (by decide) (by decide) (by decide)) (tL4 l)
        rw [sgU_comm (k := 1) (i := 8 * i + 1) (k2 := 1) (i2 := 8 * i) (by omega), upd_comm (i := 52 + 8 * i + 1) (j := 52 + 8 * i) (by omega)] at rc
        refine ⟨c + 1, by omega, nI_1 c, nI_1 c, ?_, ?_, ((hk.w (by decide) (by decide)).w (by decide) (by decide)).w (by decide) (by decide), ((h5.w0 (by decide) (by rw [w2.1]; decide)).w (Or.inr (by omega))).w (Or.inl (by decide))⟩
        · simp only
          generalize hX : sgU (sgU (sgU a2 1 (8 * i) 0) 1 (8 * i + 1) (nI l)) 0 (9 * l + 4) (sgU (sgU a2 1 (8 * i) 0) 1 (8 * i + 1) (nI l) 0 (9 * l + 4) + 1) = X
          have x0 : X 0 (9 * l) = a2 0 (9 * l) := by rw [← hX, sgU_ne (by omega), sgU_ne (by omega), sgU_ne (by omega)]
          have xN : nM X = nM a2 := congrArg Int32.toNatClampNeg (by rw [← hX, sgU_ne (by omega), sgU_ne (by omega), sgU_ne (by omega)])
          have x1 : ∀ k, k ≠ i → inL X l k = inL a2 l k := fun k q => by
            unfold inL
            rw [← hX, sgU_ne (by omega), sgU_ne (by omega), sgU_ne (by omega), sgU_ne (by omega), sgU_ne (by omega), sgU_ne (by omega)]
          have x2 : inL X l i = true := by
            unfold inL
            rw [← hX, sgU_ne (by omega), sgU_ne (by omega), sgU_eq, sgU_ne (by omega), sgU_eq]
            rw [decide_eq_true (p := nI l = nI l) rfl]
            decide
          have x3 : inL a2 l i = false := by
            unfold inL
            rw [w2.1, decide_eq_false (p := ¬ (1 : Int32) < 2) (by decide), Bool.false_and]
          have x4 := cnt_one (p := inL a2 l) (q := inL X l) (a := i) (fun k q => (x1 k q).symm) x3 x2 (n := nM a2) (by omega)
          have : frN X l = frN a2 l - 1 := by
            unfold frN
            rw [x0, xN, x4]
            omega
          rw [this]
          omega
        · simp only [mW_0]
          exact rc
    · rw [if_neg w, if_pos rfl]
      have e : (if nI (frN σ l) ≤ nI c then (nI c, a2) else if a2 1 (8 * i) = 2 then (if a2 1 (8 * i + 6) = nI v then (nI c + 1, zrai (zsto (zsto a2 1 (nI i) 0 0) 1 (nI i) 1 (nI l)) 0 (nI l) 4) else (nI c, a2)) else (nI c, a2)) = (nI c, a2) := by
        split
        · rfl
        · by_cases q : a2 1 (8 * i) = 2
          · rw [if_pos q, if_neg (fun q2 => w (by unfold wiV; rw [decide_eq_true q, decide_eq_true q2]; rfl))]
          · rw [if_neg q]
      rw [e]
      exact ⟨c, by omega, rfl, rfl, hf, hr, hk, h5⟩)
  obtain ⟨c, hc, k1, k2, -, k4, k5, k6⟩ := key
  exact ⟨k1.trans k2.symm, ⟨c, by omega, k2⟩, k4, k5, k6⟩
theorem op_put {δ : Nat → Int32} {T : Int} {σ μ : Sg} (h : Rel δ T σ (μ 0)) (hT : T ≤ 10000) (x1 : Int32) : (zX0_putMealsIn σ x1).1 = (zX8_puts μ x1).1 ∧ Rel δ T (zX0_putMealsIn σ x1).2 ((zX8_puts μ x1).2 0) := by
  unfold zX0_putMealsIn zX8_puts
  rw [h.hasH]
  by_cases h1 : zX5_has (σ 5 3) x1 = 0
  · rw [if_pos h1, if_pos h1]; exact ⟨rfl, h⟩
  rw [if_neg h1, if_neg h1]
  obtain ⟨v, ev, hv, hv4⟩ := has_of h.r3 h1
  have hp0 := (rg_nI h.r3).2
  have hp1 := h.r3.2
  have hv3 : v < 3 := by omega
  subst ev
  obtain ⟨b1, -⟩ := h.way_ hT hv3
  have hle : ∀ x : Int32, x ≤ 0 ↔ ¬ 0 < x := fun x => by
    rw [Int32.le_iff_toInt_le, Int32.lt_iff_toInt_lt]
    omega
  by_cases h3 : zX8_isUnderWay μ (nI v) = 0
  · rw [if_pos ((hle _).mpr (b1.mp h3)), if_pos h3]
    obtain ⟨s1, ⟨c, hc, s2⟩, s3, -, -⟩ := sim_stow h hv3
    rw [s1, s2]
    by_cases z : c = 0
    · subst z
      rw [if_pos (show nI 0 ≤ 0 by decide), if_pos (show nI 0 = 0 by decide)]
      exact ⟨rfl, s3⟩
    · rw [if_neg (nI_nle (by omega) (by omega)), if_neg (nI_ne0 (by omega) (by omega))]
      exact ⟨rfl, s3⟩
  · rw [if_neg (fun z => h3 (b1.mpr ((hle _).mp z))), if_neg h3]
    exact ⟨rfl, h⟩
/-! the meals that spoil -/
def Acc (q : Nat → Bool) (A B : Int32) (σ : Sg) : Prop := A = zX8_ones B ∧ (∀ k, bt B k = true → k < 24 ∧ σ 1 (8 * k) = 5 ∧ q k = false) ∧ (∀ k, k < 24 → σ 1 (8 * k) = 5 → bt B k = true ∨ q k = true) ∧ ∀ k, k < 24 → q k = true → σ 1 (8 * k) = 5
theorem Acc.s5 {q : Nat → Bool} {A B : Int32} {σ σ2 : Sg} (h : Acc q A B σ) (k5 : S5 σ σ2) : Acc q A B σ2 := ⟨h.1, fun k hk => by
  obtain ⟨a, b, c⟩ := h.2.1 k hk
  exact ⟨a, (k5 k a).mpr b, c⟩, fun k hk z => h.2.2.1 k hk ((k5 k hk).mp z), fun k hk z => (k5 k hk).mpr (h.2.2.2 k hk z)⟩
theorem Acc.more {q : Nat → Bool} {A B : Int32} {σ σ2 : Sg} (h : Acc q A B σ) {i : Nat} (hi : i < 24) (ho : σ 1 (8 * i) ≠ 5) (h5 : σ2 1 (8 * i) = 5) (hn : ∀ k, k ≠ i → σ2 1 (8 * k) = σ 1 (8 * k)) : Acc q (A + 1) (B ||| ((1 : Int32) <<< ((nI i) &&& 31))) σ2 := by
  have hb : bt B i = false := Bool.eq_false_iff.mpr (fun z => ho (h.2.1 i z).2.1)
  refine ⟨by rw [ones_more hi hb, h.1], fun k hk => ?_, fun k hk z => ?_, fun k hk z => ?_⟩
  · rw [bt_or, bt_one (by omega), Bool.or_eq_true, decide_eq_true_eq] at hk
    by_cases e : k = i
    · subst e
      refine ⟨hi, h5, Bool.eq_false_iff.mpr (fun z => ho (h.2.2.2 k hi z))⟩
    · rcases hk with z | z
      · obtain ⟨a, b, c⟩ := h.2.1 k z
        exact ⟨a, (hn k e).trans b, c⟩
      · exact absurd z e
  · rw [bt_or, bt_one (by omega)]
    by_cases e : k = i
    · left
      rw [decide_eq_true e, Bool.or_true]
    · rw [hn k e] at z
      rcases h.2.2.1 k hk z with w | w
      · left
        rw [w, Bool.true_or]
      · exact Or.inr w
  · by_cases e : k = i
    · subst e; exact h5
    · rw [hn k e]; exact h.2.2.2 k hk z
/-- what an hour takes from a meal -/
def dLs (σ : Sg) (i : Nat) : Int32 := if 1 < σ 1 (8 * i) then 2 else if zX4_isCold σ (σ 1 (8 * i + 1)) = 0 then 2 else 1
theorem lose_e {i : Nat} (hi : i < 24) (v : Int32 × Sg) : bX0_spoilMealsOfThisHour i v = if v.2 1 (8 * i) ≤ 2 then (if 0 < v.2 1 (8 * i + 2) - dLs v.2 i then (v.1, zsto v.2 1 (nI i) 2 (zmax 0 (v.2 1 (8 * i + 2) - dLs v.2 i))) else (v.1 + 1, zX0_spoil (zsto v.2 1 (nI i) 2 (zmax 0 (v.2 1 (8 * i + 2) - dLs v.2 i))) (nI i))) else v := by
  unfold bX0_spoilMealsOfThisHour dLs
  rw [cM0 hi, cM1 hi, cM2 hi]
  by_cases h1 : v.2 1 (8 * i) ≤ 2
  · rw [if_pos h1, if_pos h1]
    by_cases h2 : 1 < v.2 1 (8 * i)
    · rw [if_pos h2, if_pos h2]
    · rw [if_neg h2, if_neg h2]
      by_cases h3 : zX4_isCold v.2 (v.2 1 (8 * i + 1)) = 0
      · rw [if_pos h3, if_pos h3]
      · rw [if_neg h3, if_neg h3]
  · rw [if_neg h1, if_neg h1]
theorem sim_lose {δ : Nat → Int32} {T : Int} {σ μ : Sg} (h : Rel δ T σ (μ 0)) {q : Nat → Bool} {A B : Int32} (hA : Acc q A B σ) : Rel δ T (zX0_spoilMealsOfThisHour σ).2 ((zh2 μ).2 0) ∧ K35 σ (zX0_spoilMealsOfThisHour σ).2 ∧ Acc q (A + (zX0_spoilMealsOfThisHour σ).1) (B ||| (zh2 μ).1) (zX0_spoilMealsOfThisHour σ).2 := by
  have hn := h.n
  have eo : zh2 μ = upTo bX8_h2 (0, μ) (nM σ) := by
    unfold zh2
    rw [h.ns]
  have ec : zX0_spoilMealsOfThisHour σ = upTo bX0_spoilMealsOfThisHour (0, σ) (nM σ) := rfl
  rw [eo, ec]
  have key := upTo_rel (R := fun _ (a b : Int32 × Sg) => Rel δ T a.2 (b.2 0) ∧ K35 σ a.2 ∧ Acc q (A + a.1) (B ||| b.1) a.2) (f := bX0_spoilMealsOfThisHour) (g := bX8_h2) (a := (0, σ)) (b := (0, μ)) ⟨h, K35.rf, by show Acc q (A + 0) (B ||| 0) σ; rw [Int32.add_zero, or0]; exact hA⟩ (nM σ) (fun i a b hi R => by
    obtain ⟨hr, hk, hc⟩ := R
    obtain ⟨a1, a2⟩ := a
    obtain ⟨b1, b2⟩ := b
    simp only at hr hk hc
    have hi24 : i < 24 := by omega
    have hnM := hk.n1
    rw [lose_e hi24]
    unfold bX8_h2
    simp only
    rw [oM0 hi24, hr.gM0 hi24, oM2 (μ := b2) hi24, hr.gM2 hi24, hr.loss_ hi24]
    have ed : (if 1 < a2 1 (8 * i) then (2 : Int32) else if zX4_isCold a2 (a2 1 (8 * i + 1)) = 0 then 2 else 1) = dLs a2 i := rfl
    rw [ed]
    generalize dLs a2 i = d
    by_cases h1 : a2 1 (8 * i) ≤ 2
    · rw [if_pos h1, if_neg (fun z => (le3_iff _).mp z h1), uM2 hi24, oM2 hi24, mW_0, pk_us]
      have h5 : a2 1 (8 * i) ≠ 5 := fun z => by rw [z] at h1; exact absurd h1 (by decide)
      have h34 : a2 1 (8 * i) ≠ 3 ∧ a2 1 (8 * i) ≠ 4 ∧ a2 1 (8 * i) ≠ 5 := ⟨fun z => by rw [z] at h1; exact absurd h1 (by decide), fun z => by rw [z] at h1; exact absurd h1 (by decide), h5⟩
      rw [wM2 hi24]
      by_cases h2 : 0 < a2 1 (8 * i + 2) - d
      · rw [if_pos h2, if_pos h2]
        have em : zmax 0 (a2 1 (8 * i + 2) - d) = a2 1 (8 * i + 2) - d := if_pos h2
        rw [em]
        refine ⟨?_, hk.w (by decide) (by decide), hc.s5 (S5.rf.w (Or.inr (by omega)))⟩
        show Rel δ T _ (mW b2 (52 + 8 * i + 2) (a2 1 (8 * i + 2) - d) 0)
        rw [mW_0]
        exact hr.pM2 hi24 _
      · rw [if_neg h2, if_neg h2]
        have em : zmax 0 (a2 1 (8 * i + 2) - d) = 0 := if_neg h2
        rw [em]
        have ra := hr.pM2 hi24 0
        have e0 : ∀ k, sgU a2 1 (8 * i + 2) 0 1 (8 * k) = a2 1 (8 * k) := fun k => sgU_ne (by omega)
        obtain ⟨l, hl5, el⟩ := hr.whN hi24
        unfold zX0_spoil zX8_spoils
        rw [cM0 hi24, e0, cM1 hi24, sgU_ne (k2 := 1) (i2 := 8 * i + 1) (by omega), el, oM0 hi24, oM1 hi24]
        rw [mW_0, pk_un (j := 52 + 8 * i) (by omega), hr.gM0 hi24, pk_un (j := 52 + 8 * i + 1) (by omega), hr.gM1 hi24, el]
        by_cases h3 : 1 < a2 1 (8 * i)
        · rw [if_pos h3, if_pos ((le2_iff _).mpr h3), wM0 hi24, uM0 hi24, uM2 hi24]
          have eN : nM (sgU a2 1 (8 * i + 2) 0) = nM a2 := congrArg Int32.toNatClampNeg (sgU_ne (by omega))
          have rb := ra.stE (m := i) (j := 2) (by rw [eN]; omega) (by rw [e0]; exact h34) (by decide) (fun z => absurd z (by decide))
          refine ⟨?_, (hk.w (by decide) (by decide)).w (by decide) (by decide), ?_⟩
          · simp only [mW_0, mU_eq]
            have es : upd (upd (upd (b2 0) (52 + 8 * i + 2) (a2 1 (8 * i + 2) - d)) (52 + 8 * i) 5) (52 + 8 * i + 2) 0 = upd (upd (b2 0) (52 + 8 * i + 2) 0) (52 + 8 * i) (nI (3 + 2)) := by
              rw [upd_comm (i := 52 + 8 * i) (j := 52 + 8 * i + 2) (by omega), upd_same]
              rfl
            rw [es, pk_un (j := 11) (k := 52 + 8 * i) (by omega)]
            exact rb
          · have := hc.more (σ2 := sgU (sgU a2 1 (8 * i + 2) 0) 1 (8 * i) 5) hi24 h5 sgU_eq (fun k hk => by rw [sgU_ne (by omega), sgU_ne (by omega)])
            rw [or_as, ← Int32.add_assoc]
            exact this
        · rw [if_neg h3, if_neg (fun z => h3 ((le2_iff _).mp z)), iL8 hl5, wM0 hi24, uL7 hl5, uM0 hi24, uM2 hi24]
          have rb := ra.raL (i := 9 * l + 8) (plL hl5 (by decide) (by decide) (by decide)) (tL8 l)
          have e02 : ∀ k, sgU (sgU a2 1 (8 * i + 2) 0) 0 (9 * l + 8) (sgU a2 1 (8 * i + 2) 0 0 (9 * l + 8) + 1) 1 (8 * k) = a2 1 (8 * k) := fun k => by rw [sgU_ne (by omega), e0]
          have eN : nM (sgU (sgU a2 1 (8 * i + 2) 0) 0 (9 * l + 8) (sgU a2 1 (8 * i + 2) 0 0 (9 * l + 8) + 1)) = nM a2 := congrArg Int32.toNatClampNeg (by rw [sgU_ne (by omega), sgU_ne (by omega)])
          have rc := rb.stE (m := i) (j := 2) (by rw [eN]; omega) (by rw [e02]; exact h34) (by decide) (fun z => absurd z (by decide))
          refine ⟨?_, ((hk.w (by decide) (by decide)).w (by decide) (by decide)).w (by decide) (by decide), ?_⟩
          · simp only [mW_0, mU_eq]
            have es : upd (upd (upd (upd (b2 0) (52 + 8 * i + 2) (a2 1 (8 * i + 2) - d)) (12 + 8 * l + 7) (upd (b2 0) (52 + 8 * i + 2) (a2 1 (8 * i + 2) - d) (12 + 8 * l + 7) + 1)) (52 + 8 * i) 5) (52 + 8 * i + 2) 0 = upd (upd (upd (b2 0) (52 + 8 * i + 2) 0) (12 + 8 * l + 7) (upd (b2 0) (52 + 8 * i + 2) 0 (12 + 8 * l + 7) + 1)) (52 + 8 * i) (nI (3 + 2)) := by
              rw [upd_comm (i := 52 + 8 * i) (j := 52 + 8 * i + 2) (by omega), upd_comm (i := 12 + 8 * l + 7) (j := 52 + 8 * i + 2) (by omega), upd_same, pk_un (j := 12 + 8 * l + 7) (by omega), pk_un (j := 12 + 8 * l + 7) (by omega)]
              rfl
            rw [es, pk_un (j := 11) (k := 52 + 8 * i) (by omega)]
            exact rc
          · have := hc.more (σ2 := sgU (sgU (sgU a2 1 (8 * i + 2) 0) 0 (9 * l + 8) (sgU a2 1 (8 * i + 2) 0 0 (9 * l + 8) + 1)) 1 (8 * i) 5) hi24 h5 sgU_eq (fun k hk => by rw [sgU_ne (by omega), e02])
            rw [or_as, ← Int32.add_assoc]
            exact this
    · rw [if_neg h1, if_pos ((le3_iff _).mpr h1)]
      exact ⟨hr, hk, hc⟩)
  exact key
