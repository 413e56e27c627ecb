/-! WHAT PEOPLE DO KEEPS WHAT HOLDS -/
theorem code_n {m t p : Nat} (hm : m < 24) (ht : t ≤ 5000) (hp : p < 8) : ∃ c : Nat, 1000 ≤ c ∧ c ≤ 9999 ∧ (1000 + ((((37 * nI m) + (11 * nI t)) + (7 * nI p)) - (((37 * nI m) + (11 * nI t)) + (7 * nI p)) / 9000 * 9000)) = nI c := by
  have e : ((37 * nI m) + (11 * nI t)) + (7 * nI p) = nI (37 * m + 11 * t + 7 * p) := by
    rw [← nI_add, ← nI_add, ← pk_mul, ← pk_mul, ← pk_mul]
    rfl
  rw [e]
  have r := pk_rem (a := 37 * m + 11 * t + 7 * p) (d := 9000) (by omega) (by decide) (by decide)
  refine ⟨1000 + (37 * m + 11 * t + 7 * p) % 9000, by omega, by omega, ?_⟩
  have q : nI (1000 + (37 * m + 11 * t + 7 * p) % 9000) = 1000 + nI ((37 * m + 11 * t + 7 * p) % 9000) := (nI_add 1000 _).symm
  rw [q, ← r]
  rfl
theorem fstK_min {c : Nat → Bool} : ∀ n i k, i ≤ k → k < i + n → c k = true → fstK c i n ≤ k
  | 0, _, _, h1, h2, _ => absurd h2 (by omega)
  | n + 1, i, k, h1, h2, h3 => by
    by_cases h : c i = true
    · have e : fstK c i (n + 1) = i := if_pos h
      omega
    · have e : fstK c i (n + 1) = fstK c (i + 1) n := if_neg h
      rw [e]
      have hk : k ≠ i := fun z => h (z ▸ h3)
      exact fstK_min n (i + 1) k (by omega) (by omega) h3
def rsv (f : Nat → Int32) (p m : Nat) : Bool := decide (ce 8 f m 0 = 1) && decide (ce 8 f m 5 = nI p)
theorem rsv_t {f : Nat → Int32} {p m : Nat} : rsv f p m = true ↔ ce 8 f m 0 = 1 ∧ ce 8 f m 5 = nI p := by
  unfold rsv
  rw [Bool.and_eq_true, decide_eq_true_iff, decide_eq_true_iff]
theorem carr_t {f : Nat → Int32} {v m : Nat} : carr f v m = true ↔ ce 8 f m 0 = 2 ∧ ce 8 f m 6 = nI v := by
  unfold carr
  rw [Bool.and_eq_true, decide_eq_true_iff, decide_eq_true_iff]
section
variable {σ : Sg} {nl nm np nv t B : Nat} {W : Nat → Nat}
theorem mr_e (e : σ 5 1 = nI nm) (hn : nm ≤ 24) (p : Nat) : zX4_mealReservedBy σ (nI p) = if fstK (rsv (σ 1) p) 0 nm < nm then nI (fstK (rsv (σ 1) p) 0 nm) else -4 := by
  unfold zX4_mealReservedBy
  rw [e, nI_clamp (by omega), fstK_congr (c := bX4_mealReservedBy σ (nI p)) (d := rsv (σ 1) p) nm 0 (fun k _ hk => by
    unfold bX4_mealReservedBy rsv
    rw [gM0 (by omega), gM5 (by omega)]
    by_cases h1 : ce 8 (σ 1) k 0 = 1
    · rw [if_pos h1, decide_eq_true h1, Bool.true_and]
      by_cases h2 : ce 8 (σ 1) k 5 = nI p
      · rw [if_pos h2, decide_eq_true h2]
      · rw [if_neg h2, decide_eq_false h2]
    · rw [if_neg h1, decide_eq_false h1, Bool.false_and])]
theorem mr_or (e : σ 5 1 = nI nm) (hn : nm ≤ 24) (p : Nat) : (zX4_mealReservedBy σ (nI p) = -4 ∧ ∀ m, m < nm → rsv (σ 1) p m = false) ∨ ∃ m : Nat, m < nm ∧ zX4_mealReservedBy σ (nI p) = nI m ∧ rsv (σ 1) p m = true := by
  rw [mr_e e hn]
  rcases fstK_spec (c := rsv (σ 1) p) nm 0 with ⟨h1, h2⟩ | ⟨-, h2, h3⟩
  · left
    rw [if_neg (by omega)]
    exact ⟨rfl, fun m hm => h2 m (Nat.zero_le _) (by omega)⟩
  · right
    rw [Nat.zero_add] at h2
    rw [if_pos h2]
    exact ⟨_, h2, rfl, h3⟩
def cdq (f : Nat → Int32) (l : Nat) (c : Int32) (m : Nat) : Bool := decide (ce 8 f m 0 = 1) && (decide (ce 8 f m 1 = nI l) && decide (ce 8 f m 4 = c))
theorem cdq_t {f : Nat → Int32} {l m : Nat} {c : Int32} : cdq f l c m = true ↔ ce 8 f m 0 = 1 ∧ ce 8 f m 1 = nI l ∧ ce 8 f m 4 = c := by
  unfold cdq
  rw [Bool.and_eq_true, Bool.and_eq_true, decide_eq_true_iff, decide_eq_true_iff, decide_eq_true_iff]
theorem mc_or (e : σ 5 1 = nI nm) (hn : nm ≤ 24) (l : Nat) (c : Int32) : (zX0_mealWithCode σ (nI l) c = -4 ∧ ∀ m, m < nm → cdq (σ 1) l c m = false) ∨ ∃ m : Nat, m < nm ∧ zX0_mealWithCode σ (nI l) c = nI m ∧ cdq (σ 1) l c m = true ∧ ∀ k, k < nm → cdq (σ 1) l c k = true → m ≤ k := by
  have ee : zX0_mealWithCode σ (nI l) c = if fstK (cdq (σ 1) l c) 0 nm < nm then nI (fstK (cdq (σ 1) l c) 0 nm) else -4 := by
    unfold zX0_mealWithCode
    rw [e, nI_clamp (by omega), fstK_congr (c := bX0_mealWithCode σ (nI l) c) (d := cdq (σ 1) l c) nm 0 (fun k _ hk => by
      unfold bX0_mealWithCode cdq
      rw [gM0 (by omega), gM1 (by omega), gM4 (by omega)]
      by_cases h1 : ce 8 (σ 1) k 0 = 1
      · rw [if_pos h1, decide_eq_true h1, Bool.true_and]
        by_cases h2 : ce 8 (σ 1) k 1 = nI l
        · rw [if_pos h2, decide_eq_true h2, Bool.true_and]
          by_cases h3 : ce 8 (σ 1) k 4 = c
          · rw [if_pos h3, decide_eq_true h3]
          · rw [if_neg h3, decide_eq_false h3]
        · rw [if_neg h2, decide_eq_false h2, Bool.false_and]
      · rw [if_neg h1, decide_eq_false h1, Bool.false_and])]
  rw [ee]
  rcases fstK_spec (c := cdq (σ 1) l c) nm 0 with ⟨h1, h2⟩ | ⟨-, h2, h3⟩
  · left
    rw [if_neg (by omega)]
    exact ⟨rfl, fun m hm => h2 m (Nat.zero_le _) (by omega)⟩
  · right
    rw [Nat.zero_add] at h2
    rw [if_pos h2]
    exact ⟨_, h2, rfl, h3, fun k hk hc => fstK_min nm 0 k (Nat.zero_le _) (by omega) hc⟩
theorem op_reserve (h : InvN σ nl nm np nv t B W) (x1 x2 : Int32) :
    ((zX5_has (σ 5 2) x1 = 0 ∨ zX5_has (σ 5 1) x2 = 0) ∧ zX0_reserveMeal σ x1 x2 = (-1, σ)) ∨
    ∃ p m : Nat, p < np ∧ m < nm ∧ x1 = nI p ∧ x2 = nI m ∧ ((¬ (¬ zX4_isFitFor σ x1 x2 = 0 ∧ ¬ 0 < zX4_barredHours σ x1 ∧ zX4_mealReservedBy σ x1 < 0) ∧ zX0_reserveMeal σ x1 x2 = (-2, σ)) ∨
      (¬ zX4_isFitFor σ x1 x2 = 0 ∧ ¬ 0 < zX4_barredHours σ x1 ∧ zX4_mealReservedBy σ x1 < 0 ∧ ∃ c : Nat, 1000 ≤ c ∧ c ≤ 9999 ∧ (zX0_reserveMeal σ x1 x2).1 = nI c ∧ InvN (zX0_reserveMeal σ x1 x2).2 nl nm np nv t B W ∧ ce 8 ((zX0_reserveMeal σ x1 x2).2 1) m 0 = 1 ∧ ce 8 ((zX0_reserveMeal σ x1 x2).2 1) m 4 = nI c ∧ ce 8 ((zX0_reserveMeal σ x1 x2).2 1) m 5 = nI p)) := by
  obtain ⟨hR, hM, hU, hP, hV, hS, hL⟩ := h
  have hR9 := hR
  obtain ⟨r0, r1, r2, r3, r5, q0, q1, q2, q3, q5⟩ := hR
  by_cases c1 : zX5_has (σ 5 2) x1 = 0
  · left; unfold zX0_reserveMeal; rw [if_pos c1]; exact ⟨Or.inl c1, rfl⟩
  by_cases c2 : zX5_has (σ 5 1) x2 = 0
  · left; unfold zX0_reserveMeal; rw [if_neg c1, if_pos c2]; exact ⟨Or.inr c2, rfl⟩
  right
  obtain ⟨p, hp, ep⟩ := has_n (r := np) (by omega) (by rw [← r2]; exact c1)
  obtain ⟨m, hm, em⟩ := has_n (r := nm) (by omega) (by rw [← r1]; exact c2)
  subst ep; subst em
  refine ⟨p, m, hp, hm, rfl, rfl, ?_⟩
  by_cases c3 : zX4_isFitFor σ (nI p) (nI m) = 0
  · left; unfold zX0_reserveMeal; rw [if_neg c1, if_neg c2, if_pos c3]; exact ⟨fun z => z.1 c3, rfl⟩
  by_cases c4 : 0 < zX4_barredHours σ (nI p)
  · left; unfold zX0_reserveMeal; rw [if_neg c1, if_neg c2, if_neg c3, if_pos c4]; exact ⟨fun z => z.2.1 c4, rfl⟩
  by_cases c5 : zX4_mealReservedBy σ (nI p) < 0
  rotate_left
  · left; unfold zX0_reserveMeal; rw [if_neg c1, if_neg c2, if_neg c3, if_neg c4, if_neg c5]; exact ⟨fun z => c5 z.2.2, rfl⟩
  right
  refine ⟨c3, c4, c5, ?_⟩
  have hm24 : m < 24 := by omega
  have hfit : ce 8 (σ 1) m 0 = 0 ∧ ce 8 (σ 1) m 3 &&& ce 6 (σ 2) p 0 = 0 := by
    unfold zX4_isFitFor at c3
    rw [gM0 hm24, gM3 hm24, gP0 (by omega)] at c3
    by_cases k1 : ce 8 (σ 1) m 0 = 0
    · rw [if_pos k1] at c3
      by_cases k2 : ce 8 (σ 1) m 3 &&& ce 6 (σ 2) p 0 = 0
      · exact ⟨k1, k2⟩
      · rw [if_neg k2] at c3; exact absurd rfl c3
    · rw [if_neg k1] at c3; exact absurd rfl c3
  have hnone : ∀ k, k < nm → rsv (σ 1) p k = false := by
    rcases mr_or r1 q1 p with ⟨-, k⟩ | ⟨k, k1, k2, k3⟩
    · exact k
    · rw [k2] at c5
      exact absurd c5 (nI_pos (by omega))
  obtain ⟨c, g1, g2, g3⟩ := code_n (m := m) (t := t) (p := p) hm24 q5 (by omega)
  have eg : zX0_reserveMeal σ (nI p) (nI m) = (nI c, sgC (sgC (sgC (sgC σ 1 (cu 8 (σ 1) m 0 1)) 1 (cu 8 (cu 8 (σ 1) m 0 1) m 4 (nI c))) 1 (cu 8 (cu 8 (cu 8 (σ 1) m 0 1) m 4 (nI c)) m 5 (nI p))) 1 (cu 8 (cu 8 (cu 8 (cu 8 (σ 1) m 0 1) m 4 (nI c)) m 5 (nI p)) m 7 (σ 5 5))) := by
    unfold zX0_reserveMeal
    rw [if_neg c1, if_neg c2, if_neg c3, if_neg c4, if_pos c5, r5, g3, sM0 hm24, sM4 hm24, sM5 hm24, sM7 hm24]
    rw [← r5]
    rfl
  rw [eg]
  refine ⟨c, g1, g2, rfl, ?_⟩
  show (RowQ (σ 5) nl nm np nv t ∧ MealQ (cu 8 (cu 8 (cu 8 (cu 8 (σ 1) m 0 1) m 4 (nI c)) m 5 (nI p)) m 7 (σ 5 5)) (σ 2) nl nm np ∧ UniqQ (cu 8 (cu 8 (cu 8 (cu 8 (σ 1) m 0 1) m 4 (nI c)) m 5 (nI p)) m 7 (σ 5 5)) nm ∧ PeopQ (σ 2) t B ∧ VolQ (σ 3) (cu 8 (cu 8 (cu 8 (cu 8 (σ 1) m 0 1) m 4 (nI c)) m 5 (nI p)) m 7 (σ 5 5)) nl nm nv t W ∧ SetQ (σ 4) ∧ LockQ (σ 0) (cu 8 (cu 8 (cu 8 (cu 8 (σ 1) m 0 1) m 4 (nI c)) m 5 (nI p)) m 7 (σ 5 5)) nl nm) ∧ ce 8 (cu 8 (cu 8 (cu 8 (cu 8 (σ 1) m 0 1) m 4 (nI c)) m 5 (nI p)) m 7 (σ 5 5)) m 0 = 1 ∧ ce 8 (cu 8 (cu 8 (cu 8 (cu 8 (σ 1) m 0 1) m 4 (nI c)) m 5 (nI p)) m 7 (σ 5 5)) m 4 = nI c ∧ ce 8 (cu 8 (cu 8 (cu 8 (cu 8 (σ 1) m 0 1) m 4 (nI c)) m 5 (nI p)) m 7 (σ 5 5)) m 5 = nI p
  have d : D1 (σ 1) (cu 8 (cu 8 (cu 8 (cu 8 (σ 1) m 0 1) m 4 (nI c)) m 5 (nI p)) m 7 (σ 5 5)) m := (((D1.rf.u (by decide)).u (by decide)).u (by decide)).u (by decide)
  have e0 : ce 8 (cu 8 (cu 8 (cu 8 (cu 8 (σ 1) m 0 1) m 4 (nI c)) m 5 (nI p)) m 7 (σ 5 5)) m 0 = 1 := by
    rw [ce_cu (by decide) (by decide), if_neg (fun q => absurd q.2 (by decide)), ce_cu (by decide) (by decide), if_neg (fun q => absurd q.2 (by decide)), ce_cu (by decide) (by decide), if_neg (fun q => absurd q.2 (by decide)), ce_cu (by decide) (by decide), if_pos ⟨rfl, rfl⟩]
  have e1 : ce 8 (cu 8 (cu 8 (cu 8 (cu 8 (σ 1) m 0 1) m 4 (nI c)) m 5 (nI p)) m 7 (σ 5 5)) m 1 = ce 8 (σ 1) m 1 := by
    rw [ce_cu (by decide) (by decide), if_neg (fun q => absurd q.2 (by decide)), ce_cu (by decide) (by decide), if_neg (fun q => absurd q.2 (by decide)), ce_cu (by decide) (by decide), if_neg (fun q => absurd q.2 (by decide)), ce_cu (by decide) (by decide), if_neg (fun q => absurd q.2 (by decide))]
  have e3 : ce 8 (cu 8 (cu 8 (cu 8 (cu 8 (σ 1) m 0 1) m 4 (nI c)) m 5 (nI p)) m 7 (σ 5 5)) m 3 = ce 8 (σ 1) m 3 := by
    rw [ce_cu (by decide) (by decide), if_neg (fun q => absurd q.2 (by decide)), ce_cu (by decide) (by decide), if_neg (fun q => absurd q.2 (by decide)), ce_cu (by decide) (by decide), if_neg (fun q => absurd q.2 (by decide)), ce_cu (by decide) (by decide), if_neg (fun q => absurd q.2 (by decide))]
  have e4 : ce 8 (cu 8 (cu 8 (cu 8 (cu 8 (σ 1) m 0 1) m 4 (nI c)) m 5 (nI p)) m 7 (σ 5 5)) m 4 = nI c := by
    rw [ce_cu (by decide) (by decide), if_neg (fun q => absurd q.2 (by decide)), ce_cu (by decide) (by decide), if_neg (fun q => absurd q.2 (by decide)), ce_cu (by decide) (by decide), if_pos ⟨rfl, rfl⟩]
  have e5 : ce 8 (cu 8 (cu 8 (cu 8 (cu 8 (σ 1) m 0 1) m 4 (nI c)) m 5 (nI p)) m 7 (σ 5 5)) m 5 = nI p := by
    rw [ce_cu (by decide) (by decide), if_neg (fun q => absurd q.2 (by decide)), ce_cu (by decide) (by decide), if_pos ⟨rfl, rfl⟩]
  generalize cu 8 (cu 8 (cu 8 (cu 8 (σ 1) m 0 1) m 4 (nI c)) m 5 (nI p)) m 7 (σ 5 5) = f2 at d e0 e1 e3 e4 e5 ⊢
  refine ⟨⟨hR9, hM.d1 d (fun _ => ⟨⟨1, by decide, e0⟩, fun _ => ?_, fun _ => ⟨⟨c, g1, g2, e4⟩, p, hp, e5, by rw [e3]; exact hfit.2⟩⟩), hU.add d (fun b hb hbm b1 b5 => ?_), hP, hV.d1 d (by rw [e0]; decide), hS, hL.d1 d (by rw [e0, hfit.1]; decide)⟩, e0, e4, e5⟩
  · rw [e1]
    exact (hM m hm).2.1 (Or.inl hfit.1)
  · have k := hnone b hb
    rw [rsv_t.mpr ⟨b1, b5.trans e5⟩] at k
    exact absurd k (by decide)
/-- fetched or refused -/
theorem op_end (h : InvN σ nl nm np nv t B W) (x1 x2 x3 : Int32) :
    ((zX5_has (σ 5 0) x1 = 0 ∨ zX7_isWithin x2 1000 9999 = 0 ∨ zX7_isWithin x3 0 1 = 0) ∧ zX0_endReservation σ x1 x2 x3 = (-1, σ)) ∨
    (¬ zX5_has (σ 5 0) x1 = 0 ∧ ¬ zX7_isWithin x2 1000 9999 = 0 ∧ ¬ zX7_isWithin x3 0 1 = 0 ∧ ∃ l : Nat, l < nl ∧ x1 = nI l ∧ (((∀ m, m < nm → cdq (σ 1) l x2 m = false) ∧ zX0_endReservation σ x1 x2 x3 = (-2, σ)) ∨
      ∃ m : Nat, m < nm ∧ cdq (σ 1) l x2 m = true ∧ (∀ k, k < nm → cdq (σ 1) l x2 k = true → m ≤ k) ∧ (zX0_endReservation σ x1 x2 x3).1 = nI m ∧ InvN (zX0_endReservation σ x1 x2 x3).2 nl nm np nv t B W ∧ ce 8 ((zX0_endReservation σ x1 x2 x3).2 1) m 0 = (if x3 = 1 then 4 else 3))) := by
  obtain ⟨hR, hM, hU, hP, hV, hS, hL⟩ := h
  have hR9 := hR
  obtain ⟨r0, r1, r2, r3, r5, q0, q1, q2, q3, q5⟩ := hR
  by_cases c1 : zX5_has (σ 5 0) x1 = 0
  · left; unfold zX0_endReservation; rw [if_pos c1]; exact ⟨Or.inl c1, rfl⟩
  by_cases c2 : zX7_isWithin x2 1000 9999 = 0
  · left; unfold zX0_endReservation; rw [if_neg c1, if_pos c2]; exact ⟨Or.inr (Or.inl c2), rfl⟩
  by_cases c3 : zX7_isWithin x3 0 1 = 0
  · left; unfold zX0_endReservation; rw [if_neg c1, if_neg c2, if_pos c3]; exact ⟨Or.inr (Or.inr c3), rfl⟩
  right
  obtain ⟨l, hl, el⟩ := has_n (r := nl) (by omega) (by rw [← r0]; exact c1)
  subst el
  refine ⟨c1, c2, c3, l, hl, rfl, ?_⟩
  rcases mc_or r1 q1 l x2 with ⟨k1, k2⟩ | ⟨m, hm, k1, k2, k3⟩
  · left
    refine ⟨k2, ?_⟩
    unfold zX0_endReservation
    rw [if_neg c1, if_neg c2, if_neg c3, k1, if_neg (by decide)]
  right
  obtain ⟨s1, s2, s3⟩ := cdq_t.mp k2
  have hm24 : m < 24 := by omega
  have hl5 : l < 5 := by omega
  obtain ⟨-, -, m3⟩ := hM m hm
  obtain ⟨-, p, hp, ep, -⟩ := m3 s1
  refine ⟨m, hm, k2, k3, ?_⟩
  have ne : ∀ z d : Nat, d < 8 → d ≠ 0 → ∀ v : Int32, ce 8 (cu 8 (σ 1) m 0 v) m d = ce 8 (σ 1) m d := fun _ d hd h0 v => by
    rw [ce_cu (by decide) hd, if_neg (fun q => h0 q.2)]
  by_cases c4 : x3 = 1
  · have eg : zX0_endReservation σ (nI l) x2 x3 = (nI m, sgC (sgC σ 1 (cu 8 (σ 1) m 0 4)) 0 (cu 9 (σ 0) l 6 (ce 9 (σ 0) l 6 + 1))) := by
      unfold zX0_endReservation
      rw [if_neg c1, if_neg c2, if_neg c3, k1, if_pos (nI_pos' (by omega)), if_pos c4, sM0 hm24, rL6 hl5]
      rfl
    rw [eg, if_pos c4]
    refine ⟨rfl, ?_⟩
    show (RowQ (σ 5) nl nm np nv t ∧ MealQ (cu 8 (σ 1) m 0 4) (σ 2) nl nm np ∧ UniqQ (cu 8 (σ 1) m 0 4) nm ∧ PeopQ (σ 2) t B ∧ VolQ (σ 3) (cu 8 (σ 1) m 0 4) nl nm nv t W ∧ SetQ (σ 4) ∧ LockQ (cu 9 (σ 0) l 6 (ce 9 (σ 0) l 6 + 1)) (cu 8 (σ 1) m 0 4) nl nm) ∧ ce 8 (cu 8 (σ 1) m 0 4) m 0 = 4
    have d : D1 (σ 1) (cu 8 (σ 1) m 0 4) m := D1.rf.u (by decide)
    have e0 : ce 8 (cu 8 (σ 1) m 0 4) m 0 = 4 := by rw [ce_cu (by decide) (by decide), if_pos ⟨rfl, rfl⟩]
    exact ⟨⟨hR9, hM.d1 d (fun _ => ⟨⟨4, by decide, e0⟩, fun z => by rw [e0] at z; exact absurd z (by decide), fun z => by rw [e0] at z; exact absurd z (by decide)⟩), hU.d1 d (by rw [e0]; decide), hP, hV.d1 d (by rw [e0]; decide), hS, (hL.d1 d (by rw [e0, s1]; decide)).u (by decide) (by decide) (by decide)⟩, e0⟩
  · have eg : zX0_endReservation σ (nI l) x2 x3 = (nI m, sgC (sgC (sgC σ 1 (cu 8 (σ 1) m 0 3)) 0 (cu 9 (σ 0) l 5 (ce 9 (σ 0) l 5 + 1))) 2 (cu 6 (σ 2) p 4 (ce 6 (σ 2) p 4 + 1))) := by
      unfold zX0_endReservation
      rw [if_neg c1, if_neg c2, if_neg c3, k1, if_pos (nI_pos' (by omega)), if_neg c4, sM0 hm24, rL5 hl5, gM5 hm24]
      have e5 : ce 8 ((sgC (sgC σ 1 (cu 8 (σ 1) m 0 3)) 0 (cu 9 (sgC σ 1 (cu 8 (σ 1) m 0 3) 0) l 5 (ce 9 (sgC σ 1 (cu 8 (σ 1) m 0 3) 0) l 5 + 1))) 1) m 5 = nI p := (ne 0 5 (by decide) (by decide) 3).trans ep
      rw [e5, rP4 (by omega)]
      rfl
    rw [eg, if_neg c4]
    refine ⟨rfl, ?_⟩
    show (RowQ (σ 5) nl nm np nv t ∧ MealQ (cu 8 (σ 1) m 0 3) (cu 6 (σ 2) p 4 (ce 6 (σ 2) p 4 + 1)) nl nm np ∧ UniqQ (cu 8 (σ 1) m 0 3) nm ∧ PeopQ (cu 6 (σ 2) p 4 (ce 6 (σ 2) p 4 + 1)) t B ∧ VolQ (σ 3) (cu 8 (σ 1) m 0 3) nl nm nv t W ∧ SetQ (σ 4) ∧ LockQ (cu 9 (σ 0) l 5 (ce 9 (σ 0) l 5 + 1)) (cu 8 (σ 1) m 0 3) nl nm) ∧ ce 8 (cu 8 (σ 1) m 0 3) m 0 = 3
    have d : D1 (σ 1) (cu 8 (σ 1) m 0 3) m := D1.rf.u (by decide)
    have e0 : ce 8 (cu 8 (σ 1) m 0 3) m 0 = 3 := by rw [ce_cu (by decide) (by decide), if_pos ⟨rfl, rfl⟩]
    refine ⟨⟨hR9, (hM.d1 d (fun _ => ⟨⟨3, by decide, e0⟩, fun z => by rw [e0] at z; exact absurd z (by decide), fun z => by rw [e0] at z; exact absurd z (by decide)⟩)).pu (by decide) (Nat.le_refl _) (Or.inl (by decide)), hU.d1 d (by rw [e0]; decide), hP.u (by decide) (by decide) (by decide) (by decide), hV.d1 d (by rw [e0]; decide), hS, fun i hi1 hi2 => ?_, ?_, ?_⟩, e0⟩
    · rw [ce_cu (by decide) (by decide), if_neg (by omega), ce_cu (by decide) (by decide), if_neg (by omega)]
      exact hL.1 i hi1 hi2
    · rw [← hL.2.1]
      exact sumI_cg 5 (fun i _ => by show ce 9 _ i 3 = _; rw [ce_cu (by decide) (by decide), if_neg (fun q => absurd q.2 (by decide))])
    · rw [sumI_up (f := fun l => ce 9 (σ 0) l 5) (a := l) 5 hl5 (by show ce 9 _ l 5 = _; rw [ce_cu (by decide) (by decide), if_pos ⟨rfl, rfl⟩]) (fun i hi => by show ce 9 _ i 5 = _; rw [ce_cu (by decide) (by decide), if_neg (fun q => hi q.1)]), hL.2.2, ← nI_succ]
      rw [cnt_one (p := stg (σ 1) 3) (q := stg (cu 8 (σ 1) m 0 3) 3) (a := m) (fun i hi => (stg_d1 d 3 i hi).symm) (by unfold stg; rw [s1]; decide) (by unfold stg; rw [e0]; decide) hm]
theorem mw_e (e : σ 5 1 = nI nm) (hn : nm ≤ 24) (v : Nat) : zbc (zX4_mealsWith σ (nI v)) = nI (cnt (carr (σ 1) v) nm) := by
  rw [← zbc_set hn]
  unfold zX4_mealsWith
  rw [e, nI_clamp (by omega)]
  refine congrArg zbc (upTo_congr _ (fun i z hi => ?_))
  unfold bX4_mealsWith bset carr
  rw [gM0 (by omega), gM6 (by omega)]
  by_cases h1 : ce 8 (σ 1) i 0 = 2
  · rw [if_pos h1, decide_eq_true h1, Bool.true_and]
    by_cases h2 : ce 8 (σ 1) i 6 = nI v
    · rw [if_pos h2, if_pos (decide_eq_true h2)]
    · rw [if_neg h2, if_neg (by rw [decide_eq_false h2]; decide)]
  · rw [if_neg h1, decide_eq_false h1, Bool.false_and, if_neg (by decide)]
theorem op_take (h : InvN σ nl nm np nv t B W) (x1 x2 : Int32) :
    ((zX5_has (σ 5 3) x1 = 0 ∨ zX5_has (σ 5 1) x2 = 0) ∧ zX0_takeMeal σ x1 x2 = (-1, σ)) ∨
    ∃ v m : Nat, v < nv ∧ m < nm ∧ x1 = nI v ∧ x2 = nI m ∧ (zX0_takeMeal σ x1 x2 = (-2, σ) ∨
      (¬ 0 < zX4_wayHoursLeft σ x1 ∧ ce 8 (σ 1) m 0 = 0 ∧ ce 8 (σ 1) m 1 = ce 5 (σ 3) v 1 ∧ ∃ c r : Nat, c < r ∧ r ≤ 4 ∧ ce 5 (σ 3) v 0 = nI r ∧ (zX0_takeMeal σ x1 x2).1 = nI (c + 1) ∧ InvN (zX0_takeMeal σ x1 x2).2 nl nm np nv t B W ∧ ce 8 ((zX0_takeMeal σ x1 x2).2 1) m 0 = 2 ∧ ce 8 ((zX0_takeMeal σ x1 x2).2 1) m 6 = nI v ∧ (zX0_takeMeal σ x1 x2).2 3 = σ 3)) := by
  obtain ⟨hR, hM, hU, hP, hV, hS, hL⟩ := h
  have hR9 := hR
  obtain ⟨r0, r1, r2, r3, r5, q0, q1, q2, q3, q5⟩ := hR
  by_cases c1 : zX5_has (σ 5 3) x1 = 0
  · left; unfold zX0_takeMeal; rw [if_pos c1]; exact ⟨Or.inl c1, rfl⟩
  by_cases c2 : zX5_has (σ 5 1) x2 = 0
  · left; unfold zX0_takeMeal; rw [if_neg c1, if_pos c2]; exact ⟨Or.inr c2, rfl⟩
  right
  obtain ⟨v, hv, ev⟩ := has_n (r := nv) (by omega) (by rw [← r3]; exact c1)
  obtain ⟨m, hm, em⟩ := has_n (r := nm) (by omega) (by rw [← r1]; exact c2)
  subst ev; subst em
  refine ⟨v, m, hv, hm, rfl, rfl, ?_⟩
  have hm24 : m < 24 := by omega
  have hv3 : v < 3 := by omega
  obtain ⟨r, a, w, h1, h2, h3, h4, h5, h6, h7, h8, h9⟩ := hV v hv3
  obtain ⟨l, hl, el⟩ := h9 hv
  have hc24 := cnt_le (carr (σ 1) v) nm
  by_cases c3 : 0 < zX4_wayHoursLeft σ (nI v)
  · left; unfold zX0_takeMeal; rw [if_neg c1, if_neg c2, if_pos c3]
  by_cases c4 : zatt σ 3 (nI v) 0 ≤ zbc (zX4_mealsWith σ (nI v))
  · left; unfold zX0_takeMeal; rw [if_neg c1, if_neg c2, if_neg c3, if_pos c4]
  by_cases c5 : zatt σ 1 (nI m) 0 = 0
  rotate_left
  · left; unfold zX0_takeMeal; rw [if_neg c1, if_neg c2, if_neg c3, if_neg c4, if_neg c5]
  by_cases c6 : zatt σ 1 (nI m) 1 = zatt σ 3 (nI v) 1
  rotate_left
  · left; unfold zX0_takeMeal; rw [if_neg c1, if_neg c2, if_neg c3, if_neg c4, if_pos c5, if_neg c6]
  right
  have c4' := c4
  rw [gV0 hv3, h1, mw_e r1 q1 v, nI_leI (by omega) (by omega)] at c4'
  have c5' := c5
  rw [gM0 hm24] at c5'
  have c6' := c6
  rw [gM1 hm24, gV1 hv3] at c6'
  refine ⟨c3, c5', c6', cnt (carr (σ 1) v) nm, r, by omega, h4, h1, ?_⟩
  have eg : zX0_takeMeal σ (nI v) (nI m) = (nI (cnt (carr (σ 1) v) nm + 1), sgC (sgC (sgC σ 1 (cu 8 (σ 1) m 0 2)) 1 (cu 8 (cu 8 (σ 1) m 0 2) m 6 (nI v))) 0 (cu 9 (σ 0) l 7 (ce 9 (σ 0) l 7 + 1))) := by
    unfold zX0_takeMeal
    rw [if_neg c1, if_neg c2, if_neg c3, if_neg c4, if_pos c5, if_pos c6, mw_e r1 q1 v, gV1 hv3, el, sM0 hm24, sM6 hm24, rL7 (by omega), nI_1]
    rfl
  rw [eg]
  refine ⟨rfl, ?_⟩
  show (RowQ (σ 5) nl nm np nv t ∧ MealQ (cu 8 (cu 8 (σ 1) m 0 2) m 6 (nI v)) (σ 2) nl nm np ∧ UniqQ (cu 8 (cu 8 (σ 1) m 0 2) m 6 (nI v)) nm ∧ PeopQ (σ 2) t B ∧ VolQ (σ 3) (cu 8 (cu 8 (σ 1) m 0 2) m 6 (nI v)) nl nm nv t W ∧ SetQ (σ 4) ∧ LockQ (cu 9 (σ 0) l 7 (ce 9 (σ 0) l 7 + 1)) (cu 8 (cu 8 (σ 1) m 0 2) m 6 (nI v)) nl nm) ∧ ce 8 (cu 8 (cu 8 (σ 1) m 0 2) m 6 (nI v)) m 0 = 2 ∧ ce 8 (cu 8 (cu 8 (σ 1) m 0 2) m 6 (nI v)) m 6 = nI v ∧ σ 3 = σ 3
  have d : D1 (σ 1) (cu 8 (cu 8 (σ 1) m 0 2) m 6 (nI v)) m := (D1.rf.u (by decide)).u (by decide)
  have e0 : ce 8 (cu 8 (cu 8 (σ 1) m 0 2) m 6 (nI v)) m 0 = 2 := by
    rw [ce_cu (by decide) (by decide), if_neg (fun q => absurd q.2 (by decide)), ce_cu (by decide) (by decide), if_pos ⟨rfl, rfl⟩]
  have e6 : ce 8 (cu 8 (cu 8 (σ 1) m 0 2) m 6 (nI v)) m 6 = nI v := by
    rw [ce_cu (by decide) (by decide), if_pos ⟨rfl, rfl⟩]
  generalize cu 8 (cu 8 (σ 1) m 0 2) m 6 (nI v) = f2 at d e0 e6 ⊢
  refine ⟨⟨hR9, hM.d1 d (fun _ => ⟨⟨2, by decide, e0⟩, fun z => by rw [e0] at z; exact absurd z (by decide), fun z => by rw [e0] at z; exact absurd z (by decide)⟩), hU.d1 d (by rw [e0]; decide), hP, fun u hu => ?_, hS, (hL.d1 d (by rw [e0, c5']; decide)).u (by decide) (by decide) (by decide)⟩, e0, e6, rfl⟩
  have n0 : ∀ u, carr (σ 1) u m = false := fun u => by unfold carr; rw [c5', decide_eq_false (by decide), Bool.false_and]
  by_cases eu : u = v
  · subst eu
    refine ⟨r, a, w, h1, h2, h3, h4, h5, h6, ?_, h8, h9⟩
    rw [cnt_one (p := carr (σ 1) u) (q := carr f2 u) (a := m) (fun i hi => (carr_d1 d u i hi).symm) (n0 u) (carr_t.mpr ⟨e0, e6⟩) hm]
    omega
  · refine (hV u hu).cnt ?_
    rw [cnt_same (p := carr (σ 1) u) (q := carr f2 u) (i := m) (carr_d1 d u) (by
      rw [n0 u]
      unfold carr
      rw [e6, decide_eq_false (fun z => eu (nI_inj (by omega) (by omega) z).symm), Bool.and_false])]
    exact Nat.le_refl _
theorem zabs_n {a b : Nat} (ha : a < 1000) (hb : b < 1000) : ∃ d : Nat, zabs (nI a - nI b) = nI d ∧ d ≤ a + b ∧ (d ≤ a ∨ d ≤ b) := by
  have e := pk_sub_toInt (a := a) (b := b) (by omega) (by omega)
  unfold zabs
  by_cases h : (0 : Int32) ≤ nI a - nI b
  · rw [if_pos h]
    rw [Int32.le_iff_toInt_le, e] at h
    have z : (0 : Int32).toInt = 0 := by decide
    exact ⟨a - b, pk_sub (by omega), by omega, by omega⟩
  · rw [if_neg h]
    rw [Int32.le_iff_toInt_le, e] at h
    have z : (0 : Int32).toInt = 0 := by decide
    refine ⟨b - a, ?_, by omega, by omega⟩
    rw [← pk_sub (a := b) (b := a) (by omega)]
    show 0 - (nI a - nI b) = _
    rw [Int32.sub_eq_add_neg, Int32.neg_sub, Int32.zero_add]
theorem wh_n (hS : SetQ (σ 4)) {a b : Nat} (ha : a < 5) (hb : b < 5) : ∃ d : Nat, zX4_wayHours σ (nI a) (nI b) = nI d ∧ d ≤ 36 := by
  obtain ⟨-, -, -, k, k1, k2, ek⟩ := hS
  obtain ⟨d, e, h1, h2⟩ := zabs_n (a := a) (b := b) (by omega) (by omega)
  refine ⟨d * k, ?_, ?_⟩
  · unfold zX4_wayHours
    rw [e, gS3, ek, pk_mul]
  · exact Nat.le_trans (Nat.mul_le_mul (show d ≤ 4 by omega) k2) (by decide)
theorem op_go (h : InvN σ nl nm np nv t B W) (x1 x2 : Int32) :
    ((zX5_has (σ 5 3) x1 = 0 ∨ zX5_has (σ 5 0) x2 = 0) ∧ zX0_sendVolunteer σ x1 x2 = (-1, σ)) ∨
    ∃ v l : Nat, v < nv ∧ l < nl ∧ x1 = nI v ∧ x2 = nI l ∧ (((0 < zX4_wayHoursLeft σ x1 ∨ ce 5 (σ 3) v 1 = nI l) ∧ zX0_sendVolunteer σ x1 x2 = (-2, σ)) ∨
      (¬ 0 < zX4_wayHoursLeft σ x1 ∧ ¬ ce 5 (σ 3) v 1 = nI l ∧ ∃ d : Nat, d ≤ 36 ∧ (zX0_sendVolunteer σ x1 x2).1 = nI (t + d) ∧ InvN (zX0_sendVolunteer σ x1 x2).2 nl nm np nv t B W ∧ ce 5 ((zX0_sendVolunteer σ x1 x2).2 3) v 3 = nI (t + d) ∧ (zX0_sendVolunteer σ x1 x2).2 5 = σ 5)) := by
  obtain ⟨hR, hM, hU, hP, hV, hS, hL⟩ := h
  have hR9 := hR
  obtain ⟨r0, r1, r2, r3, r5, q0, q1, q2, q3, q5⟩ := hR
  by_cases c1 : zX5_has (σ 5 3) x1 = 0
  · left; unfold zX0_sendVolunteer; rw [if_pos c1]; exact ⟨Or.inl c1, rfl⟩
  by_cases c2 : zX5_has (σ 5 0) x2 = 0
  · left; unfold zX0_sendVolunteer; rw [if_neg c1, if_pos c2]; exact ⟨Or.inr c2, rfl⟩
  right
  obtain ⟨v, hv, ev⟩ := has_n (r := nv) (by omega) (by rw [← r3]; exact c1)
  obtain ⟨l, hl, el⟩ := has_n (r := nl) (by omega) (by rw [← r0]; exact c2)
  subst ev; subst el
  refine ⟨v, l, hv, hl, rfl, rfl, ?_⟩
  have hv3 : v < 3 := by omega
  by_cases c3 : 0 < zX4_wayHoursLeft σ (nI v)
  · left; unfold zX0_sendVolunteer; rw [if_neg c1, if_neg c2, if_pos c3]; exact ⟨Or.inl c3, rfl⟩
  by_cases c4 : zatt σ 3 (nI v) 1 = nI l
  · left; unfold zX0_sendVolunteer; rw [if_neg c1, if_neg c2, if_neg c3, if_pos c4]; rw [gV1 hv3] at c4; exact ⟨Or.inr c4, rfl⟩
  right
  have c4' := c4
  rw [gV1 hv3] at c4'
  obtain ⟨r, a, w, h1, h2, h3, h4, h5, h6, h7, h8, h9⟩ := hV v hv3
  obtain ⟨l0, hl0, el0⟩ := h9 hv
  obtain ⟨d, ed, hd⟩ := wh_n (σ := σ) hS (a := l0) (b := l) (by omega) (by omega)
  refine ⟨c3, c4', d, hd, ?_⟩
  have eg : zX0_sendVolunteer σ (nI v) (nI l) = (nI (t + d), sgC (sgC σ 3 (cu 5 (σ 3) v 1 (nI l))) 3 (cu 5 (cu 5 (σ 3) v 1 (nI l)) v 3 (nI (t + d)))) := by
    unfold zX0_sendVolunteer
    rw [if_neg c1, if_neg c2, if_neg c3, if_neg c4, gV1 hv3, el0, ed, r5, nI_add, sV1 hv3, sV3 hv3]
    rfl
  rw [eg]
  refine ⟨rfl, ?_⟩
  show (RowQ (σ 5) nl nm np nv t ∧ MealQ (σ 1) (σ 2) nl nm np ∧ UniqQ (σ 1) nm ∧ PeopQ (σ 2) t B ∧ VolQ (cu 5 (cu 5 (σ 3) v 1 (nI l)) v 3 (nI (t + d))) (σ 1) nl nm nv t W ∧ SetQ (σ 4) ∧ LockQ (σ 0) (σ 1) nl nm) ∧ ce 5 (cu 5 (cu 5 (σ 3) v 1 (nI l)) v 3 (nI (t + d))) v 3 = nI (t + d) ∧ σ 5 = σ 5
  have e3 : ce 5 (cu 5 (cu 5 (σ 3) v 1 (nI l)) v 3 (nI (t + d))) v 3 = nI (t + d) := by
    rw [ce_cu (by decide) (by decide), if_pos ⟨rfl, rfl⟩]
  refine ⟨⟨hR9, hM, hU, hP, fun u hu => ?_, hS, hL⟩, e3, rfl⟩
  by_cases eu : u = v
  · subst eu
    have e : ∀ c, c < 5 → c ≠ 1 → c ≠ 3 → ce 5 (cu 5 (cu 5 (σ 3) u 1 (nI l)) u 3 (nI (t + d))) u c = ce 5 (σ 3) u c := fun c hc n1 n3 => by
      rw [ce_cu (by decide) hc, if_neg (fun q => n3 q.2), ce_cu (by decide) hc, if_neg (fun q => n1 q.2)]
    refine ⟨r, t + d, w, ?_, e3, ?_, h4, by omega, h6, h7, h8, fun _ => ⟨l, hl, ?_⟩⟩
    · rw [e 0 (by decide) (by decide) (by decide)]; exact h1
    · rw [e 4 (by decide) (by decide) (by decide)]; exact h3
    · rw [ce_cu (by decide) (by decide), if_neg (fun q => absurd q.2 (by decide)), ce_cu (by decide) (by decide), if_pos ⟨rfl, rfl⟩]
  · have e : ∀ c, c < 5 → ce 5 (cu 5 (cu 5 (σ 3) v 1 (nI l)) v 3 (nI (t + d))) u c = ce 5 (σ 3) u c := fun c hc => by
      rw [ce_cu (by decide) hc, if_neg (fun q => eu q.1), ce_cu (by decide) hc, if_neg (fun q => eu q.1)]
    show VolC _ (σ 1) nl nm nv t (W u) u
    unfold VolC
    rw [e 0 (by decide), e 1 (by decide), e 3 (by decide), e 4 (by decide)]
    exact hV u hu
end
