/-! THE TEXT, BOTH SIDES -/
def dig (x : Int32) : Bool := decide (¬ zX8_in x 48 57 = 0)
def nuN (t : Nat → Int32) (len : Nat) : Nat → Int32 → Nat → Int32 × Nat
  | 0, v, p => (v, p)
  | n + 1, v, p => if p < len ∧ dig (t p) = true then nuN t len n (10 * v + (t p - 48)) (p + 1) else (v, p)
theorem nuN_le {t : Nat → Int32} {len : Nat} : ∀ (n : Nat) (v : Int32) (p : Nat), p ≤ len → p ≤ (nuN t len n v p).2 ∧ (nuN t len n v p).2 ≤ len
  | 0, _, p, h => ⟨Nat.le_refl _, h⟩
  | n + 1, v, p, h => by
    by_cases c : p < len ∧ dig (t p) = true
    · have e : nuN t len (n + 1) v p = nuN t len n (10 * v + (t p - 48)) (p + 1) := if_pos c
      have ih := nuN_le (t := t) (len := len) n (10 * v + (t p - 48)) (p + 1) (by omega)
      rw [e]
      exact ⟨by omega, ih.2⟩
    · have e : nuN t len (n + 1) v p = (v, p) := if_neg c
      rw [e]
      exact ⟨Nat.le_refl _, h⟩
theorem nuN_cg {t t2 : Nat → Int32} {len : Nat} (h : ∀ i, i < len → t i = t2 i) : ∀ (n : Nat) (v : Int32) (p : Nat), nuN t len n v p = nuN t2 len n v p
  | 0, _, _ => rfl
  | n + 1, v, p => by
    show (if p < len ∧ dig (t p) = true then nuN t len n (10 * v + (t p - 48)) (p + 1) else (v, p)) = (if p < len ∧ dig (t2 p) = true then nuN t2 len n (10 * v + (t2 p - 48)) (p + 1) else (v, p))
    by_cases c : p < len
    · rw [h p c, nuN_cg h n _ _]
    · rw [if_neg (fun z => c z.1), if_neg (fun z => c z.1)]
theorem nuN_first {t : Nat → Int32} {len : Nat} (n : Nat) (v : Int32) (p : Nat) (h : p ≤ len) : p < (nuN t len (n + 1) v p).2 ↔ (p < len ∧ dig (t p) = true) := by
  by_cases c : p < len ∧ dig (t p) = true
  · have e : nuN t len (n + 1) v p = nuN t len n (10 * v + (t p - 48)) (p + 1) := if_pos c
    have ih := nuN_le (t := t) (len := len) n (10 * v + (t p - 48)) (p + 1) (by omega)
    rw [e]
    exact ⟨fun _ => c, fun _ => by omega⟩
  · have e : nuN t len (n + 1) v p = (v, p) := if_neg c
    rw [e]
    exact ⟨fun z => absurd z (Nat.lt_irrefl _), fun z => absurd z c⟩
/-! the system's reading -/
theorem c_sign {τ : Sg} {len p : Nat} (hl : τ 1 0 = nI len) (hn : len ≤ 60) (hp : p ≤ 60) : zX6_signAt τ (nI p) = if p < len then τ 0 p else 0 := by
  unfold zX6_signAt
  rw [if_neg (nI_pos (by omega)), hl]
  by_cases c : p < len
  · rw [if_neg (nI_ge c (by omega)), if_neg (show ¬ (60 : Int32) ≤ nI p from nI_ge (b := 60) (by omega) (by omega)), if_pos c, nI_clamp (by omega)]
  · rw [if_pos (nI_le (by omega) (by omega)), if_neg c]
theorem c_num {len : Nat} (hn : len ≤ 60) : ∀ (n i : Nat) (τ : Sg) (p : Nat), τ 1 0 = nI len → τ 1 1 = nI p → p ≤ len → ∃ τ2 : Sg, wX6_readNumber n i τ = (nI (i + ((nuN (τ 0) len n (τ 1 2) p).2 - p)), τ2) ∧ τ2 0 = τ 0 ∧ (∀ j, j ≠ 1 → j ≠ 2 → τ2 1 j = τ 1 j) ∧ τ2 1 1 = nI (nuN (τ 0) len n (τ 1 2) p).2 ∧ τ2 1 2 = (nuN (τ 0) len n (τ 1 2) p).1
  | 0, i, τ, p, hl, hp, hpl => ⟨τ, by show (nI i, τ) = (nI (i + (p - p)), τ); rw [Nat.sub_self]; rfl, rfl, fun _ _ _ => rfl, hp, rfl⟩
  | n + 1, i, τ, p, hl, hp, hpl => by
    have e : wX6_readNumber (n + 1) i τ = if (zX7_isWithin (zX6_signAt τ (τ 1 1)) 48 57) = 0 then (nI i, τ) else wX6_readNumber n (i + 1) (bX6_readNumber τ) := rfl
    rw [e, hp, c_sign hl hn (by omega), wi_in]
    by_cases c : p < len
    · rw [if_pos c]
      by_cases d : zX8_in (τ 0 p) 48 57 = 0
      · have e2 : nuN (τ 0) len (n + 1) (τ 1 2) p = (τ 1 2, p) := if_neg (fun z => by have := of_decide_eq_true z.2; exact this d)
        rw [if_pos d, e2]
        exact ⟨τ, by rw [Nat.sub_self]; rfl, rfl, fun _ _ _ => rfl, hp, rfl⟩
      · have e2 : nuN (τ 0) len (n + 1) (τ 1 2) p = nuN (τ 0) len n (10 * τ 1 2 + (τ 0 p - 48)) (p + 1) := if_pos ⟨c, decide_eq_true d⟩
        rw [if_neg d, e2]
        have b0 : bX6_readNumber τ 0 = τ 0 := rfl
        have b10 : bX6_readNumber τ 1 0 = nI len := hl
        have b11 : bX6_readNumber τ 1 1 = nI (p + 1) := by
          show τ 1 1 + 1 = _
          rw [hp, nI_1]
        have b12 : bX6_readNumber τ 1 2 = 10 * τ 1 2 + (τ 0 p - 48) := by
          show 10 * τ 1 2 + (zX6_signAt τ (τ 1 1) - 48) = _
          rw [hp, c_sign hl hn (by omega), if_pos c]
        obtain ⟨τ2, a1, a2, a3, a4, a5⟩ := c_num hn n (i + 1) (bX6_readNumber τ) (p + 1) b10 b11 (by omega)
        rw [b0, b12] at a1 a4 a5
        have le := (nuN_le (t := τ 0) (len := len) n (10 * τ 1 2 + (τ 0 p - 48)) (p + 1) (by omega)).1
        refine ⟨τ2, ?_, a2, fun j h1 h2 => ?_, a4, a5⟩
        · rw [a1]
          exact congrArg (fun z => (nI z, τ2)) (by omega)
        · rw [a3 j h1 h2]
          show upd (upd (τ 1) 2 _) 1 _ j = τ 1 j
          rw [pk_un h1, pk_un h2]
    · have e2 : nuN (τ 0) len (n + 1) (τ 1 2) p = (τ 1 2, p) := if_neg (fun z => c z.1)
      rw [if_neg c, if_pos (by decide), e2]
      exact ⟨τ, by rw [Nat.sub_self]; rfl, rfl, fun _ _ _ => rfl, hp, rfl⟩
theorem c_read {len : Nat} (hn : len ≤ 60) {τ : Sg} {p : Nat} (hl : τ 1 0 = nI len) (hp : τ 1 1 = nI p) (hpl : p ≤ len) : ∃ τ2 : Sg, zX6_readNumber τ = (if p < (nuN (τ 0) len 4 0 p).2 then 1 else 0, τ2) ∧ τ2 0 = τ 0 ∧ (∀ j, j ≠ 1 → j ≠ 2 → τ2 1 j = τ 1 j) ∧ τ2 1 1 = nI (nuN (τ 0) len 4 0 p).2 ∧ τ2 1 2 = (nuN (τ 0) len 4 0 p).1 := by
  obtain ⟨τ2, a1, a2, a3, a4, a5⟩ := c_num hn 4 0 (sT τ 2 0) p hl hp hpl
  have b0 : (sT τ 2 0) 0 = τ 0 := rfl
  have b2 : (sT τ 2 0) 1 2 = 0 := rfl
  rw [b0, b2] at a1 a4 a5
  have le := nuN_le (t := τ 0) (len := len) 4 0 p hpl
  refine ⟨τ2, ?_, a2, fun j h1 h2 => ?_, a4, a5⟩
  · unfold zX6_readNumber
    rw [a1, Nat.zero_add]
    by_cases c : p < (nuN (τ 0) len 4 0 p).2
    · rw [if_pos c, if_neg (show ¬ nI ((nuN (τ 0) len 4 0 p).2 - p) ≤ 0 from nI_nle (by omega) (by omega))]
    · rw [if_neg c, show (nuN (τ 0) len 4 0 p).2 - p = 0 by omega, if_pos (show nI 0 ≤ 0 by decide)]
  · rw [a3 j h1 h2]
    show upd (τ 1) 2 _ j = τ 1 j
    exact pk_un h2
theorem c_sgn {len : Nat} (hn : len ≤ 60) {τ : Sg} {p : Nat} {c : Int32} (hl : τ 1 0 = nI len) (hp : τ 1 1 = nI p) (hpl : p ≤ len) (hc : ¬ (0 : Int32) = c) : zX6_readSign τ c = if p < len ∧ τ 0 p = c then (1, sT τ 1 (nI (p + 1))) else (0, τ) := by
  unfold zX6_readSign
  rw [hp, c_sign hl hn (by omega), nI_1]
  by_cases d : p < len
  · rw [if_pos d]
    by_cases e : τ 0 p = c
    · rw [if_pos e, if_pos ⟨d, e⟩]
    · rw [if_neg e, if_neg (fun z => e z.2)]
  · rw [if_neg d, if_neg hc, if_neg (fun z => d z.1)]
/-! the reference's reading -/
theorem mT_mT {μ : Sg} {k : Nat} {a b : Int32} : mT (mT μ k a) k b = mT μ k b := by
  funext j
  show (if j = 4 then upd ((if (4 : Nat) = 4 then upd (μ 4) k a else μ 4)) k b else (if j = 4 then upd (μ 4) k a else μ j)) = (if j = 4 then upd (μ 4) k b else μ j)
  by_cases e : j = 4
  · rw [if_pos e, if_pos e, if_pos rfl, upd_same]
  · rw [if_neg e, if_neg e, if_neg e]
theorem mT_id {μ : Sg} {k : Nat} {a : Int32} (h : μ 4 k = a) : mT μ k a = μ := by
  funext j
  show (if j = 4 then upd (μ 4) k a else μ j) = μ j
  by_cases e : j = 4
  · subst e
    rw [if_pos rfl, upd_id h]
  · rw [if_neg e]
theorem mT_e {μ : Sg} {k : Nat} {a : Int32} : mT μ k a 4 k = a := by
  show (if (4 : Nat) = 4 then upd (μ 4) k a else μ 4) k = a
  rw [if_pos rfl, pk_us]
theorem mT_n {μ : Sg} {k i : Nat} {a : Int32} (h : i ≠ k) : mT μ k a 4 i = μ 4 i := by
  show (if (4 : Nat) = 4 then upd (μ 4) k a else μ 4) i = μ 4 i
  rw [if_pos rfl, pk_un h]
theorem mT_j {μ : Sg} {k j : Nat} {a : Int32} (h : j ≠ 4) : mT μ k a j = μ j := if_neg h
theorem r_here {μ : Sg} {len p : Nat} (hm : μ 4 1 = nI len) (hp : μ 4 2 = nI p) (hn : len ≤ 60) (hpl : p ≤ 60) : zX8_here μ = if p < len then μ 3 p else -1 := by
  unfold zX8_here
  rw [hm, hp]
  by_cases c : p < len
  · rw [if_neg (nI_ge c (by omega)), if_pos c, nI_clamp (by omega)]
  · rw [if_pos (nI_le (by omega) (by omega)), if_neg c]
theorem sub48 (a b : Int32) : a + b - 48 = a + (b - 48) := by
  rw [Int32.sub_eq_add_neg, Int32.sub_eq_add_neg, Int32.add_assoc]
theorem r_num {len : Nat} (hn : len ≤ 60) : ∀ (n : Nat) (v : Int32) (μ : Sg) (p : Nat), ¬ μ 4 5 = 0 → μ 4 1 = nI len → μ 4 2 = nI p → p ≤ len → wX8_number n v μ = ((nuN (μ 3) len n v p).1, mT μ 2 (nI (nuN (μ 3) len n v p).2))
  | 0, v, μ, p, hf, hm, hp, hpl => by
    show (v, μ) = (v, mT μ 2 (nI p))
    rw [mT_id hp]
  | n + 1, v, μ, p, hf, hm, hp, hpl => by
    have e : wX8_number (n + 1) v μ = if (μ 4 5) = 0 then (v, μ) else if (zX8_isDigit μ) = 0 then (v, μ) else wX8_number n (((10 * v) + (zX8_here μ)) - 48) (mT μ 2 ((μ 4 2) + 1)) := rfl
    rw [e, if_neg hf]
    unfold zX8_isDigit
    rw [r_here hm hp hn (by omega)]
    by_cases c : p < len
    · rw [if_pos c]
      by_cases d : zX8_in (μ 3 p) 48 57 = 0
      · have e2 : nuN (μ 3) len (n + 1) v p = (v, p) := if_neg (fun z => by have := of_decide_eq_true z.2; exact this d)
        rw [if_pos d, e2]
        show (v, μ) = (v, mT μ 2 (nI p))
        rw [mT_id hp]
      · have e2 : nuN (μ 3) len (n + 1) v p = nuN (μ 3) len n (10 * v + (μ 3 p - 48)) (p + 1) := if_pos ⟨c, decide_eq_true d⟩
        rw [if_neg d, e2, hp, nI_1, sub48, r_num hn n _ (mT μ 2 (nI (p + 1))) (p + 1) (by rw [mT_n (by decide)]; exact hf) (by rw [mT_n (by decide)]; exact hm) mT_e (by omega), mT_mT, mT_j (by decide)]
    · have e2 : nuN (μ 3) len (n + 1) v p = (v, p) := if_neg (fun z => c z.1)
      rw [if_neg c, if_pos (by decide), e2]
      show (v, μ) = (v, mT μ 2 (nI p))
      rw [mT_id hp]
theorem r_bad {μ : Sg} (hf : μ 4 5 = 0) : zX8_number μ = (0, mT μ 5 0) := by
  unfold zX8_number
  rw [if_pos hf]
  have e : wX8_number 4 0 (mT μ 5 0) = if ((mT μ 5 0) 4 5) = 0 then (0, mT μ 5 0) else if (zX8_isDigit (mT μ 5 0)) = 0 then (0, mT μ 5 0) else wX8_number 3 (((10 * 0) + (zX8_here (mT μ 5 0))) - 48) (mT (mT μ 5 0) 2 (((mT μ 5 0) 4 2) + 1)) := rfl
  rw [e, if_pos mT_e]
theorem r_read {len : Nat} (hn : len ≤ 60) {μ : Sg} {p : Nat} (hf : ¬ μ 4 5 = 0) (hm : μ 4 1 = nI len) (hp : μ 4 2 = nI p) (hpl : p ≤ len) : zX8_number μ = if p < (nuN (μ 3) len 4 0 p).2 then ((nuN (μ 3) len 4 0 p).1, mT (mT μ 5 1) 2 (nI (nuN (μ 3) len 4 0 p).2)) else (0, mT μ 5 0) := by
  have hd : zX8_isDigit μ = 0 ↔ ¬ p < (nuN (μ 3) len 4 0 p).2 := by
    rw [nuN_first 3 0 p hpl]
    unfold zX8_isDigit
    rw [r_here hm hp hn (by omega)]
    by_cases c : p < len
    · rw [if_pos c]
      constructor
      · intro d z
        exact (of_decide_eq_true z.2) d
      · intro z
        exact Decidable.of_not_not (fun d => z ⟨c, decide_eq_true d⟩)
    · rw [if_neg c]
      exact ⟨fun _ z => c z.1, fun _ => by decide⟩
  unfold zX8_number
  rw [if_neg hf]
  by_cases c : p < (nuN (μ 3) len 4 0 p).2
  · rw [if_pos c, if_neg (fun z => hd.mp z c), r_num hn 4 0 (mT μ 5 1) p (by rw [mT_e]; decide) (by rw [mT_n (by decide)]; exact hm) (by rw [mT_n (by decide)]; exact hp) hpl, mT_j (by decide)]
  · rw [if_neg c, if_pos (hd.mpr c)]
    have e : wX8_number 4 0 (mT μ 5 0) = if ((mT μ 5 0) 4 5) = 0 then (0, mT μ 5 0) else if (zX8_isDigit (mT μ 5 0)) = 0 then (0, mT μ 5 0) else wX8_number 3 (((10 * 0) + (zX8_here (mT μ 5 0))) - 48) (mT (mT μ 5 0) 2 (((mT μ 5 0) 4 2) + 1)) := rfl
    rw [e, if_pos mT_e]
theorem r_sgn {len : Nat} (hn : len ≤ 60) {μ : Sg} {p : Nat} {c : Int32} (hf : ¬ μ 4 5 = 0) (hm : μ 4 1 = nI len) (hp : μ 4 2 = nI p) (hpl : p ≤ len) (hc : ¬ (-1 : Int32) = c) : zX8_takesSign μ c = if p < len ∧ μ 3 p = c then mT (mT μ 5 1) 2 (nI (p + 1)) else mT (mT μ 5 0) 2 (nI p) := by
  unfold zX8_takesSign
  rw [if_neg hf, r_here hm hp hn (by omega), mT_n (by decide), mT_n (by decide), hp, nI_1, Int32.add_zero]
  by_cases d : p < len
  · rw [if_pos d]
    by_cases e : μ 3 p = c
    · rw [if_pos e, if_pos ⟨d, e⟩]
    · rw [if_neg e, if_neg (fun z => e z.2)]
  · rw [if_neg d, if_neg hc, if_neg (fun z => d z.1)]
theorem s_bad {μ : Sg} {c : Int32} (hf : μ 4 5 = 0) : zX8_takesSign μ c 4 5 = 0 := by
  unfold zX8_takesSign
  rw [if_pos hf, mT_n (by decide), mT_e]
def zcl (μ : Sg) (x2 x3 x4 : Int32) : Int32 × Sg := if (zX8_called μ x2 x3 x4).1 = (-1) then (1, mT ((zX8_called μ x2 x3 x4).2) 4 2) else (if 0 ≤ (zX8_called μ x2 x3 x4).1 then (0, mT (mT ((zX8_called μ x2 x3 x4).2) 4 3) 3 (((mT ((zX8_called μ x2 x3 x4).2) 4 3) 4 3) + 1)) else (1, mT ((zX8_called μ x2 x3 x4).2) 4 3))
theorem de_bad {μ : Sg} (hf : μ 4 5 = 0) (x2 x3 x4 : Int32) : ∃ ν, zde μ x2 x3 x4 = (1, ν) ∧ ν 4 4 = 1 := by
  refine ⟨mT (zX8_takesSign μ 59) 4 1, ?_, mT_e⟩
  unfold zde
  rw [if_pos (s_bad hf)]
theorem de_bad2 {μ : Sg} (hf : (zX8_takesSign μ 59) 4 5 = 0) (x2 x3 x4 : Int32) : ∃ ν, zde μ x2 x3 x4 = (1, ν) ∧ ν 4 4 = 1 := by
  refine ⟨mT (zX8_takesSign μ 59) 4 1, ?_, mT_e⟩
  unfold zde
  rw [if_pos hf]
theorem de_ok {μ : Sg} (hf : ¬ (zX8_takesSign μ 59) 4 5 = 0) (x2 x3 x4 : Int32) : zde μ x2 x3 x4 = zcl (zX8_takesSign μ 59) x2 x3 x4 := by
  unfold zde zcl
  rw [if_neg hf]
theorem dt_bad {μ : Sg} (hf : ((zX8_number μ).2) 4 5 = 0) (x2 : Int32) : ∃ ν, zdt μ x2 = (1, ν) ∧ ν 4 4 = 1 := by
  unfold zdt
  rw [if_pos hf]
  exact de_bad hf _ _ _
theorem nb_two (x : Int32) : (zX6_numbersOf x = 2 ∧ ¬ zX8_hasTwo x = 0) ∨ (zX6_numbersOf x = 1 ∧ zX8_hasTwo x = 0 ∧ (x = 112 ∨ x = 104)) ∨ (zX6_numbersOf x = 0 ∧ zX8_hasTwo x = 0 ∧ ¬ x = 112 ∧ ¬ x = 104) := by
  by_cases c0 : x = 102
  · subst c0; decide
  by_cases c1 : x = 103
  · subst c1; decide
  by_cases c2 : x = 104
  · subst c2; decide
  by_cases c3 : x = 105
  · subst c3; decide
  by_cases c4 : x = 106
  · subst c4; decide
  by_cases c5 : x = 107
  · subst c5; decide
  by_cases c6 : x = 108
  · subst c6; decide
  by_cases c7 : x = 109
  · subst c7; decide
  by_cases c8 : x = 110
  · subst c8; decide
  by_cases c9 : x = 111
  · subst c9; decide
  by_cases c10 : x = 112
  · subst c10; decide
  by_cases c11 : x = 113
  · subst c11; decide
  by_cases c12 : x = 114
  · subst c12; decide
  by_cases c13 : x = 115
  · subst c13; decide
  by_cases c14 : x = 116
  · subst c14; decide
  right; right
  refine ⟨?_, ?_, c10, c2⟩
  · unfold zX6_numbersOf
    rw [if_neg c0, if_neg c1, if_neg c2, if_neg c3, if_neg c4, if_neg c5, if_neg c6, if_neg c7, if_neg c8, if_neg c9, if_neg c10, if_neg c11, if_neg c12, if_neg c13, if_neg c14]
  · unfold zX8_hasTwo
    rw [if_neg c12, if_neg c0, if_neg c8, if_neg c14, if_neg c1]
theorem dp_bad {μ : Sg} (h2 : zX8_hasTwo (zX8_here μ) = 0) (h3 : ¬ zX8_here μ = 112) (h4 : ¬ zX8_here μ = 104) : (zdp μ) 4 5 = 0 := by
  unfold zdp
  rw [if_pos h2, if_neg h3, if_neg h4, mT_n (by decide), mT_e]
theorem dp_ok {μ : Sg} {p : Nat} (hp : μ 4 2 = nI p) (h : ¬ zX8_hasTwo (zX8_here μ) = 0 ∨ (zX8_hasTwo (zX8_here μ) = 0 ∧ (zX8_here μ = 112 ∨ zX8_here μ = 104))) : zdp μ = mT (mT μ 5 1) 2 (nI (p + 1)) := by
  have e : mT (mT μ 5 1) 2 (((mT μ 5 1) 4 2) + 1) = mT (mT μ 5 1) 2 (nI (p + 1)) := by rw [mT_n (by decide), hp, nI_1]
  unfold zdp
  rcases h with h2 | ⟨h2, h3 | h4⟩
  · rw [if_neg h2, e]
  · rw [if_pos h2, if_pos h3, e]
  · rw [if_pos h2, if_neg (show ¬ zX8_here μ = 112 by rw [h4]; decide), if_pos h4, e]
/-! one command -/
def rcD (q : Int32 × Sg) : Int32 × Sg := if q.1 = 0 then (0, q.2) else zX6_readSign (sT q.2 5 (q.2 1 2)) 59
def rcC (q : Int32 × Sg) : Int32 × Sg := if q.1 = 0 then (0, q.2) else rcD (zX6_readNumber q.2)
def rcB (n : Int32) (q : Int32 × Sg) : Int32 × Sg := if q.1 = 0 then (0, q.2) else (if n = 2 then rcC (zX6_readSign (sT q.2 4 (q.2 1 2)) 44) else zX6_readSign (sT q.2 4 (q.2 1 2)) 59)
def rcA (τ : Sg) : Int32 × Sg := if zX6_numbersOf (τ 1 3) = 0 then (0, τ) else rcB (zX6_numbersOf (τ 1 3)) (zX6_readNumber τ)
theorem rc_e (τ : Sg) (x1 : Int32) : zX6_readCommand τ x1 = rcA (sT (sT τ 1 (x1 + 1)) 3 (zX6_signAt (sT τ 1 (x1 + 1)) x1)) := by
  unfold zX6_readCommand rcA rcB rcC rcD
  generalize sT (sT τ 1 (x1 + 1)) 3 (zX6_signAt (sT τ 1 (x1 + 1)) x1) = τ0
  simp only [pr_eta]
