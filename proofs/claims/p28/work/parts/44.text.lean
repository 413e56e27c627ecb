/-! TEXTS (no heap) -/
theorem m1_lt : (-1 : Int32) < 0 := by decide
theorem m2_lt : (-2 : Int32) < 0 := by decide
theorem m3_lt : (-3 : Int32) < 0 := by decide
def dig (x : Int32) : Bool := decide (¬ zX7_isWithin x 48 57 = 0)
def nuN (t : Nat → Int32) (len : Nat) : Nat → Int32 → Nat → Int32 × Nat
  | 0, v, p => (v, p)
  | n + 1, v, p => if p < len ∧ dig (t p) = true then nuN t len n (10 * v + (t p - 48)) (p + 1) else (v, p)
theorem nuN_le {t : Nat → Int32} {len : Nat} : ∀ (n : Nat) (v : Int32) (p : Nat), p ≤ len → p ≤ (nuN t len n v p).2 ∧ (nuN t len n v p).2 ≤ len
  | 0, _, p, h => ⟨Nat.le_refl _, h⟩
  | n + 1, v, p, h => by
    by_cases c : p < len ∧ dig (t p) = true
    · have e : nuN t len (n + 1) v p = nuN t len n (10 * v + (t p - 48)) (p + 1) := if_pos c
      have ih := nuN_le (t := t) (len := len) n (10 * v + (t p - 48)) (p + 1) (by omega)
      rw [e]
      exact ⟨by omega, ih.2⟩
    · have e : nuN t len (n + 1) v p = (v, p) := if_neg c
      rw [e]
      exact ⟨Nat.le_refl _, h⟩
theorem nuN_cg {t t2 : Nat → Int32} {len : Nat} (h : ∀ i, i < len → t i = t2 i) : ∀ (n : Nat) (v : Int32) (p : Nat), nuN t len n v p = nuN t2 len n v p
  | 0, _, _ => rfl
  | n + 1, v, p => by
    show (if p < len ∧ dig (t p) = true then nuN t len n (10 * v + (t p - 48)) (p + 1) else (v, p)) = (if p < len ∧ dig (t2 p) = true then nuN t2 len n (10 * v + (t2 p - 48)) (p + 1) else (v, p))
    by_cases c : p < len
    · rw [h p c, nuN_cg h n _ _]
    · rw [if_neg (fun z => c z.1), if_neg (fun z => c z.1)]
theorem nuN_first {t : Nat → Int32} {len : Nat} (n : Nat) (v : Int32) (p : Nat) (h : p ≤ len) : p < (nuN t len (n + 1) v p).2 ↔ (p < len ∧ dig (t p) = true) := by
  by_cases c : p < len ∧ dig (t p) = true
  · have e : nuN t len (n + 1) v p = nuN t len n (10 * v + (t p - 48)) (p + 1) := if_pos c
    have ih := nuN_le (t := t) (len := len) n (10 * v + (t p - 48)) (p + 1) (by omega)
    rw [e]
    exact ⟨fun _ => c, fun _ => by omega⟩
  · have e : nuN t len (n + 1) v p = (v, p) := if_neg c
    rw [e]
    exact ⟨fun z => absurd z (Nat.lt_irrefl _), fun z => absurd z c⟩
theorem c_sign {τ : Sg} {len p : Nat} (hl : τ 1 0 = nI len) (hn : len ≤ 60) (hp : p ≤ 60) : zX6_signAt τ (nI p) = if p < len then τ 0 p else 0 := by
  unfold zX6_signAt
  rw [if_neg (nI_pos (by omega)), hl]
  by_cases c : p < len
  · rw [if_neg (nI_ge c (by omega)), if_neg (show ¬ (60 : Int32) ≤ nI p from nI_ge (b := 60) (by omega) (by omega)), if_pos c, nI_clamp (by omega)]
  · rw [if_pos (nI_le (by omega) (by omega)), if_neg c]
theorem c_num {len : Nat} (hn : len ≤ 60) : ∀ (n i : Nat) (τ : Sg) (p : Nat), τ 1 0 = nI len → τ 1 1 = nI p → p ≤ len → ∃ τ2 : Sg, wX6_readNumber n i τ = (nI (i + ((nuN (τ 0) len n (τ 1 2) p).2 - p)), τ2) ∧ τ2 0 = τ 0 ∧ (∀ j, j ≠ 1 → j ≠ 2 → τ2 1 j = τ 1 j) ∧ τ2 1 1 = nI (nuN (τ 0) len n (τ 1 2) p).2 ∧ τ2 1 2 = (nuN (τ 0) len n (τ 1 2) p).1
  | 0, i, τ, p, hl, hp, hpl => ⟨τ, by show (nI i, τ) = (nI (i + (p - p)), τ); rw [Nat.sub_self]; rfl, rfl, fun _ _ _ => rfl, hp, rfl⟩
  | n + 1, i, τ, p, hl, hp, hpl => by
    have e : wX6_readNumber (n + 1) i τ = if (zX7_isWithin (zX6_signAt τ (τ 1 1)) 48 57) = 0 then (nI i, τ) else wX6_readNumber n (i + 1) (bX6_readNumber τ) := rfl
    rw [e, hp, c_sign hl hn (by omega)]
    by_cases c : p < len
    · rw [if_pos c]
      by_cases d : zX7_isWithin (τ 0 p) 48 57 = 0
      · have e2 : nuN (τ 0) len (n + 1) (τ 1 2) p = (τ 1 2, p) := if_neg (fun z => by have := of_decide_eq_true z.2; exact this d)
        rw [if_pos d, e2]
        exact ⟨τ, by rw [Nat.sub_self]; rfl, rfl, fun _ _ _ => rfl, hp, rfl⟩
      · have e2 : nuN (τ 0) len (n + 1) (τ 1 2) p = nuN (τ 0) len n (10 * τ 1 2 + (τ 0 p - 48)) (p + 1) := if_pos ⟨c, decide_eq_true d⟩
        rw [if_neg d, e2]
        have b0 : bX6_readNumber τ 0 = τ 0 := rfl
        have b10 : bX6_readNumber τ 1 0 = nI len := hl
        have b11 : bX6_readNumber τ 1 1 = nI (p + 1) := by
          show τ 1 1 + 1 = _
          rw [hp, nI_1]
        have b12 : bX6_readNumber τ 1 2 = 10 * τ 1 2 + (τ 0 p - 48) := by
          show 10 * τ 1 2 + (zX6_signAt τ (τ 1 1) - 48) = _
          rw [hp, c_sign hl hn (by omega), if_pos c]
        obtain ⟨τ2, a1, a2, a3, a4, a5⟩ := c_num hn n (i + 1) (bX6_readNumber τ) (p + 1) b10 b11 (by omega)
        rw [b0, b12] at a1 a4 a5
        have le := (nuN_le (t := τ 0) (len := len) n (10 * τ 1 2 + (τ 0 p - 48)) (p + 1) (by omega)).1
        refine ⟨τ2, ?_, a2, fun j h1 h2 => ?_, a4, a5⟩
        · rw [a1]
          exact congrArg (fun z => (nI z, τ2)) (by omega)
        · rw [a3 j h1 h2]
          show upd (upd (τ 1) 2 _) 1 _ j = τ 1 j
          rw [pk_un h1, pk_un h2]
    · have e2 : nuN (τ 0) len (n + 1) (τ 1 2) p = (τ 1 2, p) := if_neg (fun z => c z.1)
      rw [if_neg c, if_pos (by decide), e2]
      exact ⟨τ, by rw [Nat.sub_self]; rfl, rfl, fun _ _ _ => rfl, hp, rfl⟩
theorem c_read {len : Nat} (hn : len ≤ 60) {τ : Sg} {p : Nat} (hl : τ 1 0 = nI len) (hp : τ 1 1 = nI p) (hpl : p ≤ len) : ∃ τ2 : Sg, zX6_readNumber τ = (if p < (nuN (τ 0) len 4 0 p).2 then 1 else 0, τ2) ∧ τ2 0 = τ 0 ∧ (∀ j, j ≠ 1 → j ≠ 2 → τ2 1 j = τ 1 j) ∧ τ2 1 1 = nI (nuN (τ 0) len 4 0 p).2 ∧ τ2 1 2 = (nuN (τ 0) len 4 0 p).1 := by
  obtain ⟨τ2, a1, a2, a3, a4, a5⟩ := c_num hn 4 0 (sT τ 2 0) p hl hp hpl
  have b0 : (sT τ 2 0) 0 = τ 0 := rfl
  have b2 : (sT τ 2 0) 1 2 = 0 := rfl
  rw [b0, b2] at a1 a4 a5
  have le := nuN_le (t := τ 0) (len := len) 4 0 p hpl
  refine ⟨τ2, ?_, a2, fun j h1 h2 => ?_, a4, a5⟩
  · unfold zX6_readNumber
    rw [a1, Nat.zero_add]
    by_cases c : p < (nuN (τ 0) len 4 0 p).2
    · rw [if_pos c, if_neg (show ¬ nI ((nuN (τ 0) len 4 0 p).2 - p) ≤ 0 from nI_nle (by omega) (by omega))]
    · rw [if_neg c, show (nuN (τ 0) len 4 0 p).2 - p = 0 by omega, if_pos (show nI 0 ≤ 0 by decide)]
  · rw [a3 j h1 h2]
    show upd (τ 1) 2 _ j = τ 1 j
    exact pk_un h2
theorem c_sgn {len : Nat} (hn : len ≤ 60) {τ : Sg} {p : Nat} {c : Int32} (hl : τ 1 0 = nI len) (hp : τ 1 1 = nI p) (hpl : p ≤ len) (hc : ¬ (0 : Int32) = c) : zX6_readSign τ c = if p < len ∧ τ 0 p = c then (1, sT τ 1 (nI (p + 1))) else (0, τ) := by
  unfold zX6_readSign
  rw [hp, c_sign hl hn (by omega), nI_1]
  by_cases d : p < len
  · rw [if_pos d]
    by_cases e : τ 0 p = c
    · rw [if_pos e, if_pos ⟨d, e⟩]
    · rw [if_neg e, if_neg (fun z => e z.2)]
  · rw [if_neg d, if_neg hc, if_neg (fun z => d z.1)]
def rcD (q : Int32 × Sg) : Int32 × Sg := if q.1 = 0 then (0, q.2) else zX6_readSign (sT q.2 5 (q.2 1 2)) 59
def rcC (q : Int32 × Sg) : Int32 × Sg := if q.1 = 0 then (0, q.2) else rcD (zX6_readNumber q.2)
def rcB (n : Int32) (q : Int32 × Sg) : Int32 × Sg := if q.1 = 0 then (0, q.2) else (if n = 2 then rcC (zX6_readSign (sT q.2 4 (q.2 1 2)) 44) else zX6_readSign (sT q.2 4 (q.2 1 2)) 59)
def rcA (τ : Sg) : Int32 × Sg := if zX6_numbersOf (τ 1 3) = 0 then (0, τ) else rcB (zX6_numbersOf (τ 1 3)) (zX6_readNumber τ)
theorem rc_e (τ : Sg) (x1 : Int32) : zX6_readCommand τ x1 = rcA (sT (sT τ 1 (x1 + 1)) 3 (zX6_signAt (sT τ 1 (x1 + 1)) x1)) := by
  unfold zX6_readCommand rcA rcB rcC rcD
  generalize sT (sT τ 1 (x1 + 1)) 3 (zX6_signAt (sT τ 1 (x1 + 1)) x1) = τ0
  simp only [pr_eta]
theorem nb_3 (x : Int32) : zX6_numbersOf x = 2 ∨ (zX6_numbersOf x = 1 ∧ (x = 112 ∨ x = 104)) ∨ zX6_numbersOf x = 0 := by
  by_cases c0 : x = 102
  · subst c0; decide
  by_cases c1 : x = 103
  · subst c1; decide
  by_cases c2 : x = 104
  · subst c2; decide
  by_cases c3 : x = 105
  · subst c3; decide
  by_cases c4 : x = 106
  · subst c4; decide
  by_cases c5 : x = 107
  · subst c5; decide
  by_cases c6 : x = 108
  · subst c6; decide
  by_cases c7 : x = 109
  · subst c7; decide
  by_cases c8 : x = 110
  · subst c8; decide
  by_cases c9 : x = 111
  · subst c9; decide
  by_cases c10 : x = 112
  · subst c10; decide
  by_cases c11 : x = 113
  · subst c11; decide
  by_cases c12 : x = 114
  · subst c12; decide
  by_cases c13 : x = 115
  · subst c13; decide
  by_cases c14 : x = 116
  · subst c14; decide
  right; right
  unfold zX6_numbersOf
  rw [if_neg c0, if_neg c1, if_neg c2, if_neg c3, if_neg c4, if_neg c5, if_neg c6, if_neg c7, if_neg c8, if_neg c9, if_neg c10, if_neg c11, if_neg c12, if_neg c13, if_neg c14]
/-- the command that begins at a place: its numbers, and where it ends -/
def PC (t : Nat → Int32) (len p : Nat) : Option (Int32 × Int32 × Nat) :=
  if zX6_numbersOf (t p) = 0 then none else
  if p + 1 < (nuN t len 4 0 (p + 1)).2 then
    (if zX6_numbersOf (t p) = 2 then
      (if (nuN t len 4 0 (p + 1)).2 < len ∧ t (nuN t len 4 0 (p + 1)).2 = 44 then
        (if (nuN t len 4 0 (p + 1)).2 + 1 < (nuN t len 4 0 ((nuN t len 4 0 (p + 1)).2 + 1)).2 then
          (if (nuN t len 4 0 ((nuN t len 4 0 (p + 1)).2 + 1)).2 < len ∧ t (nuN t len 4 0 ((nuN t len 4 0 (p + 1)).2 + 1)).2 = 59 then some ((nuN t len 4 0 (p + 1)).1, (nuN t len 4 0 ((nuN t len 4 0 (p + 1)).2 + 1)).1, (nuN t len 4 0 ((nuN t len 4 0 (p + 1)).2 + 1)).2 + 1) else none)
        else none)
      else none)
    else (if (nuN t len 4 0 (p + 1)).2 < len ∧ t (nuN t len 4 0 (p + 1)).2 = 59 then some ((nuN t len 4 0 (p + 1)).1, 0, (nuN t len 4 0 (p + 1)).2 + 1) else none))
  else none
theorem pc_e {τ : Sg} {len p : Nat} (hl : τ 1 0 = nI len) (hn : len ≤ 60) (hpl : p < len) :
    (PC (τ 0) len p = none ∧ (zX6_readCommand τ (nI p)).1 = 0 ∧ (zX6_readCommand τ (nI p)).2 0 = τ 0 ∧ (zX6_readCommand τ (nI p)).2 1 0 = nI len) ∨
    ∃ (f s : Int32) (q : Nat), PC (τ 0) len p = some (f, s, q) ∧ p + 3 ≤ q ∧ q ≤ len ∧ (zX6_readCommand τ (nI p)).1 = 1 ∧ (zX6_readCommand τ (nI p)).2 0 = τ 0 ∧ (zX6_readCommand τ (nI p)).2 1 0 = nI len ∧ (zX6_readCommand τ (nI p)).2 1 1 = nI q ∧ (zX6_readCommand τ (nI p)).2 1 3 = τ 0 p ∧ (zX6_readCommand τ (nI p)).2 1 4 = f ∧ ((zX6_readCommand τ (nI p)).2 1 5 = s ∨ τ 0 p = 112 ∨ τ 0 p = 104) := by
  rw [rc_e, nI_1]
  have hs : zX6_signAt (sT τ 1 (nI (p + 1))) (nI p) = τ 0 p := by
    rw [c_sign (τ := sT τ 1 (nI (p + 1))) (len := len) hl hn (by omega), if_pos hpl]
    rfl
  rw [hs]
  generalize hτ : sT (sT τ 1 (nI (p + 1))) 3 (τ 0 p) = τ0
  have z0 : τ0 0 = τ 0 := by rw [← hτ]; rfl
  have z10 : τ0 1 0 = nI len := by rw [← hτ]; exact hl
  have z11 : τ0 1 1 = nI (p + 1) := by rw [← hτ]; rfl
  have z13 : τ0 1 3 = τ 0 p := by rw [← hτ]; rfl
  unfold rcA PC
  rw [z13]
  by_cases n0 : zX6_numbersOf (τ 0 p) = 0
  · left
    rw [if_pos n0, if_pos n0]
    exact ⟨rfl, rfl, z0, z10⟩
  rw [if_neg n0, if_neg n0]
  obtain ⟨τ1, a1, a2, a3, a4, a5⟩ := c_read hn z10 z11 (by omega)
  rw [z0] at a1 a2 a4 a5
  have le1 := nuN_le (t := τ 0) (len := len) 4 0 (p + 1) (by omega)
  generalize nuN (τ 0) len 4 0 (p + 1) = N1 at a1 a4 a5 le1 ⊢
  rw [a1]
  unfold rcB
  simp only
  by_cases c1 : p + 1 < N1.2
  rotate_left
  · left
    rw [if_neg c1, if_neg c1, if_pos rfl]
    exact ⟨rfl, rfl, a2, (a3 0 (by decide) (by decide)).trans z10⟩
  rw [if_pos c1, if_pos c1, if_neg (show ¬ (1 : Int32) = 0 by decide)]
  generalize hτ2 : sT τ1 4 (τ1 1 2) = τ2
  have w0 : τ2 0 = τ 0 := by rw [← hτ2]; exact a2
  have w10 : τ2 1 0 = nI len := by rw [← hτ2]; exact (a3 0 (by decide) (by decide)).trans z10
  have w11 : τ2 1 1 = nI N1.2 := by rw [← hτ2]; exact a4
  have w13 : τ2 1 3 = τ 0 p := by rw [← hτ2]; exact (a3 3 (by decide) (by decide)).trans z13
  have w14 : τ2 1 4 = N1.1 := by rw [← hτ2]; exact a5
  by_cases n2 : zX6_numbersOf (τ 0 p) = 2
  · rw [if_pos n2, if_pos n2]
    have s1 := c_sgn hn w10 w11 le1.2 (c := 44) (by decide)
    rw [w0] at s1
    by_cases c2 : N1.2 < len ∧ τ 0 N1.2 = 44
    rotate_left
    · left
      rw [if_neg c2] at s1
      rw [s1, if_neg c2]
      unfold rcC
      rw [if_pos rfl]
      exact ⟨rfl, rfl, w0, w10⟩
    rw [if_pos c2] at s1
    rw [s1, if_pos c2]
    unfold rcC
    simp only
    rw [if_neg (show ¬ (1 : Int32) = 0 by decide)]
    generalize hτ3 : sT τ2 1 (nI (N1.2 + 1)) = τ3
    have u0 : τ3 0 = τ 0 := by rw [← hτ3]; exact w0
    have u10 : τ3 1 0 = nI len := by rw [← hτ3]; exact w10
    have u11 : τ3 1 1 = nI (N1.2 + 1) := by rw [← hτ3]; rfl
    have u13 : τ3 1 3 = τ 0 p := by rw [← hτ3]; exact w13
    have u14 : τ3 1 4 = N1.1 := by rw [← hτ3]; exact w14
    obtain ⟨τ4, b1, b2, b3, b4, b5⟩ := c_read hn u10 u11 (by omega)
    rw [u0] at b1 b2 b4 b5
    have le2 := nuN_le (t := τ 0) (len := len) 4 0 (N1.2 + 1) (by omega)
    generalize nuN (τ 0) len 4 0 (N1.2 + 1) = N2 at b1 b4 b5 le2 ⊢
    rw [b1]
    unfold rcD
    simp only
    by_cases c3 : N1.2 + 1 < N2.2
    rotate_left
    · left
      rw [if_neg c3, if_neg c3, if_pos rfl]
      exact ⟨rfl, rfl, b2, (b3 0 (by decide) (by decide)).trans u10⟩
    rw [if_pos c3, if_pos c3, if_neg (show ¬ (1 : Int32) = 0 by decide)]
    generalize hτ5 : sT τ4 5 (τ4 1 2) = τ5
    have k0 : τ5 0 = τ 0 := by rw [← hτ5]; exact b2
    have k10 : τ5 1 0 = nI len := by rw [← hτ5]; exact (b3 0 (by decide) (by decide)).trans u10
    have k11 : τ5 1 1 = nI N2.2 := by rw [← hτ5]; exact b4
    have k13 : τ5 1 3 = τ 0 p := by rw [← hτ5]; exact (b3 3 (by decide) (by decide)).trans u13
    have k14 : τ5 1 4 = N1.1 := by rw [← hτ5]; exact (b3 4 (by decide) (by decide)).trans u14
    have k15 : τ5 1 5 = N2.1 := by rw [← hτ5]; exact b5
    have s2 := c_sgn hn k10 k11 le2.2 (c := 59) (by decide)
    rw [k0] at s2
    rw [s2]
    by_cases c4 : N2.2 < len ∧ τ 0 N2.2 = 59
    · right
      rw [if_pos c4, if_pos c4]
      exact ⟨N1.1, N2.1, N2.2 + 1, rfl, by omega, by omega, rfl, k0, k10, rfl, k13, k14, Or.inl k15⟩
    · left
      rw [if_neg c4, if_neg c4]
      exact ⟨rfl, rfl, k0, k10⟩
  · rw [if_neg n2, if_neg n2]
    have l1 : τ 0 p = 112 ∨ τ 0 p = 104 := by
      rcases nb_3 (τ 0 p) with z | ⟨-, z⟩ | z
      · exact absurd z n2
      · exact z
      · exact absurd z n0
    have s2 := c_sgn hn w10 w11 le1.2 (c := 59) (by decide)
    rw [w0] at s2
    rw [s2]
    by_cases c4 : N1.2 < len ∧ τ 0 N1.2 = 59
    · right
      rw [if_pos c4, if_pos c4]
      exact ⟨N1.1, 0, N1.2 + 1, rfl, by omega, by omega, rfl, w0, w10, rfl, w13, w14, Or.inr l1⟩
    · left
      rw [if_neg c4, if_neg c4]
      exact ⟨rfl, rfl, w0, w10⟩
/-- a command -/
def zcm (σ : Sg) (L f s : Int32) : Int32 × Sg := if L = 102 then zX0_endReservation σ f s 0 else if L = 103 then zX0_sendVolunteer σ f s else if L = 110 then zX0_endReservation σ f s 1 else if L = 112 then zX0_putMealsIn σ f else if L = 114 then zX0_reserveMeal σ f s else if L = 116 then zX0_takeMeal σ f s else zX0_passHours σ f 5000
theorem zcm_e (Ω : Og) : zX2_doCommand Ω = ((zcm (Ω 1) (Ω 6 1 3) (Ω 6 1 4) (Ω 6 1 5)).1, oS Ω 1 (zcm (Ω 1) (Ω 6 1 3) (Ω 6 1 4) (Ω 6 1 5)).2) := by
  unfold zX2_doCommand zcm
  generalize Ω 6 1 3 = L
  by_cases c102 : L = 102
  · rw [if_pos c102]
    rw [if_pos c102]
  rw [if_neg c102]
  by_cases c103 : L = 103
  · rw [if_pos c103]
    rw [if_neg (show ¬ L = 102 by rw [c103]; decide), if_pos c103]
  rw [if_neg c103]
  by_cases c104 : L = 104
  · rw [if_pos c104]
    rw [if_neg (show ¬ L = 102 by rw [c104]; decide), if_neg (show ¬ L = 103 by rw [c104]; decide), if_neg (show ¬ L = 110 by rw [c104]; decide), if_neg (show ¬ L = 112 by rw [c104]; decide), if_neg (show ¬ L = 114 by rw [c104]; decide), if_neg (show ¬ L = 116 by rw [c104]; decide)]
  rw [if_neg c104]
  by_cases c105 : L = 105
  · rw [if_pos c105]
    rw [if_neg (show ¬ L = 102 by rw [c105]; decide), if_neg (show ¬ L = 103 by rw [c105]; decide), if_neg (show ¬ L = 110 by rw [c105]; decide), if_neg (show ¬ L = 112 by rw [c105]; decide), if_neg (show ¬ L = 114 by rw [c105]; decide), if_neg (show ¬ L = 116 by rw [c105]; decide)]
  rw [if_neg c105]
  by_cases c106 : L = 106
  · rw [if_pos c106]
    rw [if_neg (show ¬ L = 102 by rw [c106]; decide), if_neg (show ¬ L = 103 by rw [c106]; decide), if_neg (show ¬ L = 110 by rw [c106]; decide), if_neg (show ¬ L = 112 by rw [c106]; decide), if_neg (show ¬ L = 114 by rw [c106]; decide), if_neg (show ¬ L = 116 by rw [c106]; decide)]
  rw [if_neg c106]
  by_cases c107 : L = 107
  · rw [if_pos c107]
    rw [if_neg (show ¬ L = 102 by rw [c107]; decide), if_neg (show ¬ L = 103 by rw [c107]; decide), if_neg (show ¬ L = 110 by rw [c107]; decide), if_neg (show ¬ L = 112 by rw [c107]; decide), if_neg (show ¬ L = 114 by rw [c107]; decide), if_neg (show ¬ L = 116 by rw [c107]; decide)]
  rw [if_neg c107]
  by_cases c108 : L = 108
  · rw [if_pos c108]
    rw [if_neg (show ¬ L = 102 by rw [c108]; decide), if_neg (show ¬ L = 103 by rw [c108]; decide), if_neg (show ¬ L = 110 by rw [c108]; decide), if_neg (show ¬ L = 112 by rw [c108]; decide), if_neg (show ¬ L = 114 by rw [c108]; decide), if_neg (show ¬ L = 116 by rw [c108]; decide)]
  rw [if_neg c108]
  by_cases c109 : L = 109
  · rw [if_pos c109]
    rw [if_neg (show ¬ L = 102 by rw [c109]; decide), if_neg (show ¬ L = 103 by rw [c109]; decide), if_neg (show ¬ L = 110 by rw [c109]; decide), if_neg (show ¬ L = 112 by rw [c109]; decide), if_neg (show ¬ L = 114 by rw [c109]; decide), if_neg (show ¬ L = 116 by rw [c109]; decide)]
  rw [if_neg c109]
  by_cases c110 : L = 110
  · rw [if_pos c110]
    rw [if_neg (show ¬ L = 102 by rw [c110]; decide), if_neg (show ¬ L = 103 by rw [c110]; decide), if_pos c110]
  rw [if_neg c110]
  by_cases c111 : L = 111
  · rw [if_pos c111]
    rw [if_neg (show ¬ L = 102 by rw [c111]; decide), if_neg (show ¬ L = 103 by rw [c111]; decide), if_neg (show ¬ L = 110 by rw [c111]; decide), if_neg (show ¬ L = 112 by rw [c111]; decide), if_neg (show ¬ L = 114 by rw [c111]; decide), if_neg (show ¬ L = 116 by rw [c111]; decide)]
  rw [if_neg c111]
  by_cases c112 : L = 112
  · rw [if_pos c112]
    rw [if_neg (show ¬ L = 102 by rw [c112]; decide), if_neg (show ¬ L = 103 by rw [c112]; decide), if_neg (show ¬ L = 110 by rw [c112]; decide), if_pos c112]
  rw [if_neg c112]
  by_cases c113 : L = 113
  · rw [if_pos c113]
    rw [if_neg (show ¬ L = 102 by rw [c113]; decide), if_neg (show ¬ L = 103 by rw [c113]; decide), if_neg (show ¬ L = 110 by rw [c113]; decide), if_neg (show ¬ L = 112 by rw [c113]; decide), if_neg (show ¬ L = 114 by rw [c113]; decide), if_neg (show ¬ L = 116 by rw [c113]; decide)]
  rw [if_neg c113]
  by_cases c114 : L = 114
  · rw [if_pos c114]
    rw [if_neg (show ¬ L = 102 by rw [c114]; decide), if_neg (show ¬ L = 103 by rw [c114]; decide), if_neg (show ¬ L = 110 by rw [c114]; decide), if_neg (show ¬ L = 112 by rw [c114]; decide), if_pos c114]
  rw [if_neg c114]
  by_cases c115 : L = 115
  · rw [if_pos c115]
    rw [if_neg (show ¬ L = 102 by rw [c115]; decide), if_neg (show ¬ L = 103 by rw [c115]; decide), if_neg (show ¬ L = 110 by rw [c115]; decide), if_neg (show ¬ L = 112 by rw [c115]; decide), if_neg (show ¬ L = 114 by rw [c115]; decide), if_neg (show ¬ L = 116 by rw [c115]; decide)]
  rw [if_neg c115]
  by_cases c116 : L = 116
  · rw [if_pos c116]
    rw [if_neg (show ¬ L = 102 by rw [c116]; decide), if_neg (show ¬ L = 103 by rw [c116]; decide), if_neg (show ¬ L = 110 by rw [c116]; decide), if_neg (show ¬ L = 112 by rw [c116]; decide), if_neg (show ¬ L = 114 by rw [c116]; decide), if_pos c116]
  rw [if_neg c116]
  rw [if_neg c102, if_neg c103, if_neg c110, if_neg c112, if_neg c114, if_neg c116]
theorem zcm_s {σ : Sg} {L f s s2 : Int32} (h : L = 112 ∨ L = 104) : zcm σ L f s = zcm σ L f s2 := by
  unfold zcm
  rcases h with h | h
  · subst h
    rw [if_neg (show ¬ (112 : Int32) = 102 by decide), if_neg (show ¬ (112 : Int32) = 102 by decide), if_neg (show ¬ (112 : Int32) = 103 by decide), if_neg (show ¬ (112 : Int32) = 103 by decide), if_neg (show ¬ (112 : Int32) = 110 by decide), if_neg (show ¬ (112 : Int32) = 110 by decide), if_pos (show (112 : Int32) = 112 from rfl), if_pos (show (112 : Int32) = 112 from rfl)]
  · subst h
    rw [if_neg (show ¬ (104 : Int32) = 102 by decide), if_neg (show ¬ (104 : Int32) = 102 by decide), if_neg (show ¬ (104 : Int32) = 103 by decide), if_neg (show ¬ (104 : Int32) = 103 by decide), if_neg (show ¬ (104 : Int32) = 110 by decide), if_neg (show ¬ (104 : Int32) = 110 by decide), if_neg (show ¬ (104 : Int32) = 112 by decide), if_neg (show ¬ (104 : Int32) = 112 by decide), if_neg (show ¬ (104 : Int32) = 114 by decide), if_neg (show ¬ (104 : Int32) = 114 by decide), if_neg (show ¬ (104 : Int32) = 116 by decide), if_neg (show ¬ (104 : Int32) = 116 by decide)]
section
variable {σ : Sg} {nl nm np nv t : Nat}
/-- what a command keeps, and what it may answer -/
theorem zcm_k (h : InvN σ nl nm np nv t (24 * t) (fun _ => t)) (L f s : Int32) : (zcm σ L f s).1 < 0 ∨ ∃ t2 : Nat, InvN (zcm σ L f s).2 nl nm np nv t2 (24 * t2) (fun _ => t2) := by
  unfold zcm
  by_cases c1 : L = 102
  · rw [if_pos c1]
    rcases op_end h f s 0 with ⟨-, e⟩ | ⟨-, -, -, l, -, -, ⟨-, e⟩ | ⟨m, -, -, -, -, k, -⟩⟩
    · left; rw [e]; exact by first | exact m1_lt | exact m2_lt | exact m3_lt
    · left; rw [e]; exact by first | exact m1_lt | exact m2_lt | exact m3_lt
    · right; exact ⟨t, k⟩
  rw [if_neg c1]
  by_cases c2 : L = 103
  · rw [if_pos c2]
    rcases op_go h f s with ⟨-, e⟩ | ⟨v, l, -, -, -, -, ⟨-, e⟩ | ⟨-, -, d, -, -, k, -⟩⟩
    · left; rw [e]; exact by first | exact m1_lt | exact m2_lt | exact m3_lt
    · left; rw [e]; exact by first | exact m1_lt | exact m2_lt | exact m3_lt
    · right; exact ⟨t, k⟩
  rw [if_neg c2]
  by_cases c3 : L = 110
  · rw [if_pos c3]
    rcases op_end h f s 1 with ⟨-, e⟩ | ⟨-, -, -, l, -, -, ⟨-, e⟩ | ⟨m, -, -, -, -, k, -⟩⟩
    · left; rw [e]; exact by first | exact m1_lt | exact m2_lt | exact m3_lt
    · left; rw [e]; exact by first | exact m1_lt | exact m2_lt | exact m3_lt
    · right; exact ⟨t, k⟩
  rw [if_neg c3]
  by_cases c4 : L = 112
  · rw [if_pos c4]
    rcases op_put h f with ⟨-, e⟩ | ⟨-, τ, k, e | ⟨c, -, -, e⟩⟩
    · left; rw [e]; exact by first | exact m1_lt | exact m2_lt | exact m3_lt
    · left; rw [e]; exact by first | exact m1_lt | exact m2_lt | exact m3_lt
    · right; rw [e]; exact ⟨t, k⟩
  rw [if_neg c4]
  by_cases c5 : L = 114
  · rw [if_pos c5]
    rcases op_reserve h f s with ⟨-, e⟩ | ⟨p, m, -, -, -, -, ⟨-, e⟩ | ⟨-, -, -, c, -, -, -, k, -⟩⟩
    · left; rw [e]; exact by first | exact m1_lt | exact m2_lt | exact m3_lt
    · left; rw [e]; exact by first | exact m1_lt | exact m2_lt | exact m3_lt
    · right; exact ⟨t, k⟩
  rw [if_neg c5]
  by_cases c6 : L = 116
  · rw [if_pos c6]
    rcases op_take h f s with ⟨-, e⟩ | ⟨v, m, -, -, -, -, e | ⟨-, -, -, c, r, -, -, -, -, k, -⟩⟩
    · left; rw [e]; exact by first | exact m1_lt | exact m2_lt | exact m3_lt
    · left; rw [e]; exact by first | exact m1_lt | exact m2_lt | exact m3_lt
    · right; exact ⟨t, k⟩
  rw [if_neg c6]
  rcases op_pass h f with ⟨-, e⟩ | ⟨n, -, -, -, ⟨-, e⟩ | ⟨-, c, -, -, k, -⟩⟩
  · left; rw [e]; exact by first | exact m1_lt | exact m2_lt | exact m3_lt
  · left; rw [e]; exact by first | exact m1_lt | exact m2_lt | exact m3_lt
  · right; exact ⟨_, k⟩
end
/-- a text played: the answer, where it stopped, why, the State behind it -/
def plF (tx : Nat → Int32) (len : Nat) : Nat → Nat → Sg → Nat → Int32 × Nat × Int32 × Sg
  | 0, i, σ, p => (nI i, p, 0, σ)
  | n + 1, i, σ, p => if len ≤ p then (nI i, p, 0, σ) else
    match PC tx len p with
    | none => (-2, p, 1, σ)
    | some (f, s, q) => if (zcm σ (tx p) f s).1 < 0 then (-2, p, zX2_reasonOf (zcm σ (tx p) f s).1, (zcm σ (tx p) f s).2) else plF tx len n (i + 1) (zcm σ (tx p) f s).2 q
theorem reason_n {x : Int32} (h : x < 0) : zX2_reasonOf x = 2 ∨ zX2_reasonOf x = 3 := by
  unfold zX2_reasonOf
  rw [if_pos h]
  by_cases c : x = -1
  · rw [if_pos c]; exact Or.inl rfl
  · rw [if_neg c]; exact Or.inr rfl
/-- the text's numbers that count, behind a command -/
theorem pl_e {len : Nat} (hn : len ≤ 60) : ∀ (n i : Nat) (Ω : Og) (p : Nat), Ω 6 1 0 = nI len → p ≤ len → Ω 7 1 0 = nI p → Ω 7 1 1 = 0 →
    (wX2_playText n i Ω).1 = (plF (Ω 6 0) len n i (Ω 1) p).1 ∧ (wX2_playText n i Ω).2 7 1 0 = nI (plF (Ω 6 0) len n i (Ω 1) p).2.1 ∧ (wX2_playText n i Ω).2 7 1 1 = (plF (Ω 6 0) len n i (Ω 1) p).2.2.1 ∧ (wX2_playText n i Ω).2 1 = (plF (Ω 6 0) len n i (Ω 1) p).2.2.2 ∧ (wX2_playText n i Ω).2 6 1 0 = nI len
  | 0, i, Ω, p, hl, hp, h0, h1 => ⟨rfl, h0, h1, rfl, hl⟩
  | n + 1, i, Ω, p, hl, hp, h0, h1 => by
    have e1 : wX2_playText (n + 1) i Ω = if (zX6_length (Ω 6)) ≤ (Ω 7 1 0) then (nI i, Ω) else (if (zX6_readCommand (Ω 6) (Ω 7 1 0)).1 = 0 then (if ((oP (oS Ω 6 (zX6_readCommand (Ω 6) (Ω 7 1 0)).2) 1 1) 7 1 1) = 0 then wX2_playText n (i + 1) (oP (oP (oS Ω 6 (zX6_readCommand (Ω 6) (Ω 7 1 0)).2) 1 1) 0 ((oP (oS Ω 6 (zX6_readCommand (Ω 6) (Ω 7 1 0)).2) 1 1) 6 1 1)) else (-2, oP (oS Ω 6 (zX6_readCommand (Ω 6) (Ω 7 1 0)).2) 1 1)) else (if ((oP ((zX2_doCommand (oS Ω 6 (zX6_readCommand (Ω 6) (Ω 7 1 0)).2)).2) 1 (zX2_reasonOf ((zX2_doCommand (oS Ω 6 (zX6_readCommand (Ω 6) (Ω 7 1 0)).2)).1))) 7 1 1) = 0 then wX2_playText n (i + 1) (oP (oP ((zX2_doCommand (oS Ω 6 (zX6_readCommand (Ω 6) (Ω 7 1 0)).2)).2) 1 (zX2_reasonOf ((zX2_doCommand (oS Ω 6 (zX6_readCommand (Ω 6) (Ω 7 1 0)).2)).1))) 0 ((oP ((zX2_doCommand (oS Ω 6 (zX6_readCommand (Ω 6) (Ω 7 1 0)).2)).2) 1 (zX2_reasonOf ((zX2_doCommand (oS Ω 6 (zX6_readCommand (Ω 6) (Ω 7 1 0)).2)).1))) 6 1 1)) else (-2, oP ((zX2_doCommand (oS Ω 6 (zX6_readCommand (Ω 6) (Ω 7 1 0)).2)).2) 1 (zX2_reasonOf ((zX2_doCommand (oS Ω 6 (zX6_readCommand (Ω 6) (Ω 7 1 0)).2)).1))))) := rfl
    have e2 : plF (Ω 6 0) len (n + 1) i (Ω 1) p = if len ≤ p then (nI i, p, 0, Ω 1) else (match PC (Ω 6 0) len p with | none => (-2, p, 1, Ω 1) | some (f, s, q) => if (zcm (Ω 1) (Ω 6 0 p) f s).1 < 0 then (-2, p, zX2_reasonOf (zcm (Ω 1) (Ω 6 0 p) f s).1, (zcm (Ω 1) (Ω 6 0 p) f s).2) else plF (Ω 6 0) len n (i + 1) (zcm (Ω 1) (Ω 6 0 p) f s).2 q) := rfl
    rw [e1, e2, show zX6_length (Ω 6) = nI len from hl, h0]
    by_cases c : len ≤ p
    · rw [if_pos (nI_le c (by omega)), if_pos c]
      exact ⟨rfl, h0, h1, rfl, hl⟩
    rw [if_neg (fun z => c ((nI_leI (by omega) (by omega)).mp z)), if_neg c]
    rcases pc_e hl hn (p := p) (by omega) with ⟨r0, r1, r2, r3⟩ | ⟨f, s, q, r0, hq, hql, r1, r2, r3, r4, r5, r6, r7⟩
    · generalize zX6_readCommand (Ω 6) (nI p) = rc at r1 r2 r3
      rw [if_pos r1, if_neg (by rw [oP_e]; decide), r0]
      refine ⟨rfl, ?_, ?_, ?_, ?_⟩
      · show oP (oS Ω 6 rc.2) 1 1 7 1 0 = _
        rw [oP_n (by decide)]
        exact h0
      · show oP (oS Ω 6 rc.2) 1 1 7 1 1 = 1
        exact oP_e
      · show oP (oS Ω 6 rc.2) 1 1 1 = _
        rw [oP_j (by decide)]
        rfl
      · show oP (oS Ω 6 rc.2) 1 1 6 1 0 = _
        rw [oP_j (by decide)]
        exact r3
    · generalize zX6_readCommand (Ω 6) (nI p) = rc at r1 r2 r3 r4 r5 r6 r7
      rw [if_neg (by rw [r1]; decide), r0]
      have ec : zX2_doCommand (oS Ω 6 rc.2) = ((zcm (Ω 1) (Ω 6 0 p) f s).1, oS (oS Ω 6 rc.2) 1 (zcm (Ω 1) (Ω 6 0 p) f s).2) := by
        rw [zcm_e]
        have a1 : (oS Ω 6 rc.2) 1 = Ω 1 := rfl
        have a3 : (oS Ω 6 rc.2) 6 1 3 = Ω 6 0 p := r5
        have a4 : (oS Ω 6 rc.2) 6 1 4 = f := r6
        rw [a1, a3, a4]
        rcases r7 with z | z
        · have a5 : (oS Ω 6 rc.2) 6 1 5 = s := z
          rw [a5]
        · rw [zcm_s (s2 := s) z]
      rw [ec]
      simp only
      generalize zcm (Ω 1) (Ω 6 0 p) f s = cm
      by_cases c0 : cm.1 < 0
      · have er := reason_n c0
        rw [if_pos c0, if_neg (by
          rw [oP_e]
          rcases er with z | z
          · rw [z]; decide
          · rw [z]; decide)]
        refine ⟨rfl, ?_, ?_, ?_, ?_⟩
        · show oP (oS (oS Ω 6 rc.2) 1 cm.2) 1 (zX2_reasonOf cm.1) 7 1 0 = _
          rw [oP_n (by decide)]
          exact h0
        · show oP (oS (oS Ω 6 rc.2) 1 cm.2) 1 (zX2_reasonOf cm.1) 7 1 1 = zX2_reasonOf cm.1
          exact oP_e
        · show oP (oS (oS Ω 6 rc.2) 1 cm.2) 1 (zX2_reasonOf cm.1) 1 = _
          rw [oP_j (by decide)]
          rfl
        · show oP (oS (oS Ω 6 rc.2) 1 cm.2) 1 (zX2_reasonOf cm.1) 6 1 0 = _
          rw [oP_j (by decide)]
          exact r3
      · have er : zX2_reasonOf cm.1 = 0 := if_neg c0
        rw [if_neg c0, er, if_pos oP_e]
        have ih := pl_e hn n (i + 1) (oP (oP (oS (oS Ω 6 rc.2) 1 cm.2) 1 0) 0 ((oP (oS (oS Ω 6 rc.2) 1 cm.2) 1 0) 6 1 1)) q (by rw [oP_j (by decide), oP_j (by decide)]; exact r3) hql (by rw [oP_e, oP_j (by decide)]; exact r4) (by rw [oP_n (by decide)]; exact oP_e)
        have b1 : (oP (oP (oS (oS Ω 6 rc.2) 1 cm.2) 1 0) 0 ((oP (oS (oS Ω 6 rc.2) 1 cm.2) 1 0) 6 1 1)) 1 = cm.2 := by rw [oP_j (by decide), oP_j (by decide)]; rfl
        have b2 : (oP (oP (oS (oS Ω 6 rc.2) 1 cm.2) 1 0) 0 ((oP (oS (oS Ω 6 rc.2) 1 cm.2) 1 0) 6 1 1)) 6 0 = Ω 6 0 := by rw [oP_j (by decide), oP_j (by decide)]; exact r2
        rw [b1, b2] at ih
        exact ih
theorem pc_len {t : Nat → Int32} {len p q : Nat} {f s : Int32} (hp : p < len) (h : PC t len p = some (f, s, q)) : p + 3 ≤ q ∧ q ≤ len := by
  unfold PC at h
  by_cases n0 : zX6_numbersOf (t p) = 0
  · rw [if_pos n0] at h; exact absurd h (by simp)
  rw [if_neg n0] at h
  have le1 := nuN_le (t := t) (len := len) 4 0 (p + 1) (by omega)
  generalize nuN t len 4 0 (p + 1) = N1 at h le1
  by_cases c1 : p + 1 < N1.2
  rotate_left
  · rw [if_neg c1] at h; exact absurd h (by simp)
  rw [if_pos c1] at h
  by_cases n2 : zX6_numbersOf (t p) = 2
  · rw [if_pos n2] at h
    by_cases c2 : N1.2 < len ∧ t N1.2 = 44
    rotate_left
    · rw [if_neg c2] at h; exact absurd h (by simp)
    rw [if_pos c2] at h
    have le2 := nuN_le (t := t) (len := len) 4 0 (N1.2 + 1) (by omega)
    generalize nuN t len 4 0 (N1.2 + 1) = N2 at h le2
    by_cases c3 : N1.2 + 1 < N2.2
    rotate_left
    · rw [if_neg c3] at h; exact absurd h (by simp)
    rw [if_pos c3] at h
    by_cases c4 : N2.2 < len ∧ t N2.2 = 59
    · rw [if_pos c4] at h
      have e := congrArg (fun z : Option (Int32 × Int32 × Nat) => match z with | none => 0 | some (_, _, q) => q) h
      have e : N2.2 + 1 = q := e
      omega
    · rw [if_neg c4] at h; exact absurd h (by simp)
  · rw [if_neg n2] at h
    by_cases c4 : N1.2 < len ∧ t N1.2 = 59
    · rw [if_pos c4] at h
      have e := congrArg (fun z : Option (Int32 × Int32 × Nat) => match z with | none => 0 | some (_, _, q) => q) h
      have e : N1.2 + 1 = q := e
      omega
    · rw [if_neg c4] at h; exact absurd h (by simp)
/-- what a text played may come to -/
theorem plF_k {tx : Nat → Int32} {len nl nm np nv : Nat} : ∀ (n i : Nat) (σ : Sg) (p : Nat), p ≤ len → 3 * i ≤ p → (∃ t : Nat, InvN σ nl nm np nv t (24 * t) (fun _ => t)) →
    ((∃ k : Nat, (plF tx len n i σ p).1 = nI k ∧ 3 * k ≤ len ∧ (plF tx len n i σ p).2.2.1 = 0 ∧ ∃ t : Nat, InvN (plF tx len n i σ p).2.2.2 nl nm np nv t (24 * t) (fun _ => t)) ∨
     ((plF tx len n i σ p).1 = -2 ∧ (plF tx len n i σ p).2.1 < len ∧ ((plF tx len n i σ p).2.2.1 = 1 ∨ (plF tx len n i σ p).2.2.1 = 2 ∨ (plF tx len n i σ p).2.2.1 = 3)))
  | 0, i, σ, p, hp, hi, hI => Or.inl ⟨i, rfl, by omega, rfl, hI⟩
  | n + 1, i, σ, p, hp, hi, hI => by
    have e2 : plF tx len (n + 1) i σ p = if len ≤ p then (nI i, p, 0, σ) else (match PC tx len p with | none => (-2, p, 1, σ) | some (f, s, q) => if (zcm σ (tx p) f s).1 < 0 then (-2, p, zX2_reasonOf (zcm σ (tx p) f s).1, (zcm σ (tx p) f s).2) else plF tx len n (i + 1) (zcm σ (tx p) f s).2 q) := rfl
    rw [e2]
    by_cases c : len ≤ p
    · rw [if_pos c]
      exact Or.inl ⟨i, rfl, by omega, rfl, hI⟩
    rw [if_neg c]
    cases hPC : PC tx len p with
    | none => exact Or.inr ⟨rfl, by show p < len; omega, Or.inl rfl⟩
    | some w =>
      obtain ⟨f, s, q⟩ := w
      have hq : p + 3 ≤ q ∧ q ≤ len := pc_len (by omega) hPC
      simp only
      obtain ⟨t, hI⟩ := hI
      by_cases c0 : (zcm σ (tx p) f s).1 < 0
      · rw [if_pos c0]
        refine Or.inr ⟨rfl, by show p < len; omega, ?_⟩
        rcases reason_n c0 with z | z
        · exact Or.inr (Or.inl z)
        · exact Or.inr (Or.inr z)
      · rw [if_neg c0]
        rcases zcm_k hI (tx p) f s with z | z
        · exact absurd z c0
        · exact plF_k n (i + 1) _ q hq.2 (by omega) z
