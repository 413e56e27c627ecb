/-! THE SHARE, BOTH SIDES -/
theorem sh_all : ∀ a : Nat, a < 25 → ∀ b : Nat, b < 25 → (!(decide (0 < b) && decide (a ≤ b)) || (decide (zX3_floatBits (FP.fdiv (FP.i2f (nI a)) (FP.i2f (nI b))) = zbits (FP.fdiv (FP.i2f (nI a)) (FP.i2f (nI b)))) && okfb 5 (FP.fdiv (FP.i2f (nI a)) (FP.i2f (nI b))))) = true := by decide +kernel
theorem sh_one {a b : Nat} (hb : b < 25) (h0 : 0 < b) (hab : a ≤ b) : zX3_floatBits (FP.fdiv (FP.i2f (nI a)) (FP.i2f (nI b))) = zbits (FP.fdiv (FP.i2f (nI a)) (FP.i2f (nI b))) ∧ okfb 5 (FP.fdiv (FP.i2f (nI a)) (FP.i2f (nI b))) = true := by
  have e := sh_all a (by omega) b hb
  rw [decide_eq_true h0, decide_eq_true hab] at e
  simp only [Bool.and_self, Bool.not_true, Bool.false_or, Bool.and_eq_true, decide_eq_true_eq] at e
  exact e
theorem in35 (x : Int32) : decide (¬ zX8_in x 3 5 = 0) = (decide (x = 3) || (decide (x = 4) || decide (x = 5))) := by
  have q3 : (3 : Int32).toInt = 3 := by decide
  have q4 : (4 : Int32).toInt = 4 := by decide
  have q5 : (5 : Int32).toInt = 5 := by decide
  have h : (¬ zX8_in x 3 5 = 0) ↔ (x = 3 ∨ x = 4 ∨ x = 5) := by
    constructor
    · intro z
      have := in_rg z
      rcases (show x.toInt = 3 ∨ x.toInt = 4 ∨ x.toInt = 5 by omega) with w | w | w
      · exact Or.inl (Int32.toInt_inj.mp (w.trans q3.symm))
      · exact Or.inr (Or.inl (Int32.toInt_inj.mp (w.trans q4.symm)))
      · exact Or.inr (Or.inr (Int32.toInt_inj.mp (w.trans q5.symm)))
    · intro z
      rcases z with w | w | w
      · subst w; decide
      · subst w; decide
      · subst w; decide
  rw [decide_eq_decide.mpr h]
  by_cases a : x = 3
  · rw [decide_eq_true a, Bool.true_or]
    exact decide_eq_true (Or.inl a)
  · by_cases b : x = 4
    · rw [decide_eq_true b, Bool.true_or, Bool.or_true]
      exact decide_eq_true (Or.inr (Or.inl b))
    · by_cases c : x = 5
      · rw [decide_eq_true c, Bool.or_true, Bool.or_true]
        exact decide_eq_true (Or.inr (Or.inr c))
      · rw [decide_eq_false a, decide_eq_false b, decide_eq_false c]
        exact decide_eq_false (fun z => z.elim a (fun z => z.elim b c))
theorem cnt35 (σ : Sg) : ∀ n, cnt (fun i => decide (¬ zX8_in (σ 1 (8 * i)) 3 5 = 0)) n = cnt (stq σ 3) n + cnt (stq σ 4) n + cnt (stq σ 5) n
  | 0 => rfl
  | n + 1 => by
    show cnt (fun i => decide (¬ zX8_in (σ 1 (8 * i)) 3 5 = 0)) n + (if decide (¬ zX8_in (σ 1 (8 * n)) 3 5 = 0) = true then 1 else 0) = cnt (stq σ 3) n + (if stq σ 3 n = true then 1 else 0) + (cnt (stq σ 4) n + (if stq σ 4 n = true then 1 else 0)) + (cnt (stq σ 5) n + (if stq σ 5 n = true then 1 else 0))
    rw [cnt35 σ n, in35]
    unfold stq
    by_cases a : σ 1 (8 * n) = 3
    · rw [decide_eq_true a, decide_eq_false (p := σ 1 (8 * n) = 4) (by rw [a]; decide), decide_eq_false (p := σ 1 (8 * n) = 5) (by rw [a]; decide)]
      simp
      omega
    · by_cases b : σ 1 (8 * n) = 4
      · rw [decide_eq_true b, decide_eq_false a, decide_eq_false (p := σ 1 (8 * n) = 5) (by rw [b]; decide)]
        simp
        omega
      · by_cases c : σ 1 (8 * n) = 5
        · rw [decide_eq_true c, decide_eq_false a, decide_eq_false b]
          simp
          omega
        · rw [decide_eq_false c, decide_eq_false a, decide_eq_false b]
          simp
theorem share_n {σ μ : Sg} (h : Rel (fun _ => 0) 5001 σ (μ 0)) : ∃ a b : Nat, a ≤ b ∧ b < 25 ∧ zX3_mealsAtStages σ 3 3 = nI a ∧ zX3_mealsAtStages σ 3 5 = nI b ∧ μ 0 9 = nI a ∧ (μ 0 9 + μ 0 10) + μ 0 11 = nI b := by
  have hn := h.n
  have e5 : zX3_mealsAtStages σ 3 5 = upTo (bX3_mealsAtStages σ 3 5) 0 (nM σ) := rfl
  have k := stages_cnt h 3 5 (nM σ) (Nat.le_refl _)
  rw [cnt35] at k
  have kb := cnt_le (fun i => decide (¬ zX8_in (σ 1 (8 * i)) 3 5 = 0)) (nM σ)
  rw [cnt35] at kb
  refine ⟨cnt (stq σ 3) (nM σ), cnt (stq σ 3) (nM σ) + cnt (stq σ 4) (nM σ) + cnt (stq σ 5) (nM σ), by omega, by omega, stages_one h 3, e5.trans k, h.C.1, ?_⟩
  rw [h.C.1, h.C.2.1, h.C.2.2, nI_add, nI_add]
theorem pub_shareBits {Ω : Og} {μ : Sg} (H : Big Ω μ) : (zX7_shareBits Ω).1 = zX8_shareBits μ ∧ okSh (Ω 0) ∧ InvS μ := by
  obtain ⟨a, b, hab, hb, e3, e5, e9, es⟩ := share_n H.2.1
  refine ⟨?_, ?_, ?_⟩
  · show zX3_bitsOfFetchedShare (Ω 0) = _
    unfold zX3_bitsOfFetchedShare zX8_shareBits
    rw [e3, e5, e9]
    rw [e9] at es
    rw [es]
    by_cases h0 : b = 0
    · subst h0
      rw [if_neg (show ¬ (0 : Int32) < nI 0 by decide), if_pos (show nI 0 = 0 from rfl)]
    · rw [if_pos (show (0 : Int32) < nI b from nI_lt (a := 0) (by omega) (by omega)), if_neg (nI_ne0 (by omega) (by omega))]
      exact (sh_one hb (by omega) hab).1
  · intro hc
    rw [e5] at hc ⊢
    rw [e3]
    have h0 : 0 < b := by
      rcases Nat.eq_zero_or_pos b with z | z
      · subst z; exact absurd (show nI 0 ≤ 0 by decide) hc
      · exact z
    exact ⟨fd_ok (rg_of (n := 25) (by omega) (by decide)) (rg_of (n := 25) (by omega) (by decide)) (nI_ne0 h0 (by omega)), (sh_one hb h0 hab).2⟩
  · unfold InvS
    rw [es, e9]
    exact ⟨rg_of (n := 25) (by omega) (by decide), rg_of (n := 25) (by omega) (by decide)⟩
