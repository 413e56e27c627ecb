/-! WHAT THE CLASS ANSWERS OF A STATE THAT HOLDS -/
theorem cnt_t (Ω : Og) {x1 : Int32} (hx : ¬ x1 = 11 ∧ ¬ x1 = 12) : (zX7_count Ω x1).1 = zX3_total (Ω 0) x1 := by
  unfold zX7_count
  rw [if_neg hx.1, if_neg hx.2]
section
variable {σ : Sg} {nl nm np nv t B : Nat} {W : Nat → Nat}
theorem one_0 : ¬ (1 : Int32) = 0 := by decide
theorem oP_at (h : InvN σ nl nm np nv t B W) {p : Nat} (hp : p < np) : zX3_ofPerson σ (nI p) 0 = ce 6 (σ 2) p 0 ∧ zX3_ofPerson σ (nI p) 1 = ce 6 (σ 2) p 1 ∧ zX3_ofPerson σ (nI p) 5 = ce 6 (σ 2) p 5 ∧ zX3_ofPerson σ (nI p) 2 = zX4_barredHours σ (nI p) ∧ zX3_ofPerson σ (nI p) 3 = zX4_mealReservedBy σ (nI p) := by
  obtain ⟨r0, r1, r2, r3, r5, q0, q1, q2, q3, q5⟩ := h.1
  have hh : ¬ zX5_has (σ 5 2) (nI p) = 0 := by rw [r2, has_f (by omega) (by omega), if_pos hp]; exact one_0
  refine ⟨?_, ?_, ?_, ?_, ?_⟩
  · unfold zX3_ofPerson; rw [if_neg hh, if_neg (by decide), if_neg (by decide), if_neg (by decide), gP0 (by omega)]
  · unfold zX3_ofPerson; rw [if_neg hh, if_neg (by decide), if_neg (by decide), if_neg (by decide), gP1 (by omega)]
  · unfold zX3_ofPerson; rw [if_neg hh, if_neg (by decide), if_neg (by decide), if_neg (by decide), gP5 (by omega)]
  · unfold zX3_ofPerson; rw [if_neg hh, if_neg (by decide), if_pos rfl]
  · unfold zX3_ofPerson; rw [if_neg hh, if_neg (by decide), if_neg (by decide), if_pos rfl]
theorem oM_at (h : InvN σ nl nm np nv t B W) {m : Nat} (hm : m < nm) : zX3_ofMeal σ (nI m) 0 = ce 8 (σ 1) m 0 ∧ zX3_ofMeal σ (nI m) 1 = ce 8 (σ 1) m 1 ∧ zX3_ofMeal σ (nI m) 3 = ce 8 (σ 1) m 3 ∧ zX3_ofMeal σ (nI m) 4 = (if ce 8 (σ 1) m 0 = 1 then ce 8 (σ 1) m 4 else -4) ∧ (ce 8 (σ 1) m 0 = 1 → zX3_ofMeal σ (nI m) 5 = ce 8 (σ 1) m 5) ∧ zX3_ofMeal σ (nI m) 6 = (if ce 8 (σ 1) m 0 = 2 then ce 8 (σ 1) m 6 else -4) := by
  obtain ⟨r0, r1, r2, r3, r5, q0, q1, q2, q3, q5⟩ := h.1
  have hm24 : m < 24 := by omega
  have hh : ¬ zX5_has (σ 5 1) (nI m) = 0 := by rw [r1, has_f (by omega) (by omega), if_pos hm]; exact one_0
  have tl : ∀ c : Int32, ¬ c = 4 → ¬ c = 5 → ¬ c = 6 → ∀ x, zX3_tells x c = 1 := fun c a b d x => by
    unfold zX3_tells; rw [if_neg a, if_neg b, if_neg d]
  refine ⟨?_, ?_, ?_, ?_, fun e => ?_, ?_⟩
  · unfold zX3_ofMeal; rw [if_neg hh, if_neg (by decide), tl 0 (by decide) (by decide) (by decide), if_neg one_0, gM0 hm24]
  · unfold zX3_ofMeal; rw [if_neg hh, if_neg (by decide), tl 1 (by decide) (by decide) (by decide), if_neg one_0, gM1 hm24]
  · unfold zX3_ofMeal; rw [if_neg hh, if_neg (by decide), tl 3 (by decide) (by decide) (by decide), if_neg one_0, gM3 hm24]
  · unfold zX3_ofMeal; rw [if_neg hh, if_neg (by decide), gM0 hm24, gM4 hm24]
    unfold zX3_tells
    rw [if_pos rfl]
    by_cases c : ce 8 (σ 1) m 0 = 1
    · rw [if_pos c, if_neg one_0, if_pos c]
    · rw [if_neg c, if_pos rfl, if_neg c]
  · unfold zX3_ofMeal; rw [if_neg hh, if_neg (by decide), gM0 hm24, gM5 hm24]
    unfold zX3_tells
    rw [if_neg (show ¬ (5 : Int32) = 4 by decide), if_pos (show (5 : Int32) = 5 from rfl), if_pos e, if_neg one_0]
  · unfold zX3_ofMeal; rw [if_neg hh, if_neg (by decide), gM0 hm24, gM6 hm24]
    unfold zX3_tells
    rw [if_neg (show ¬ (6 : Int32) = 4 by decide), if_neg (show ¬ (6 : Int32) = 5 by decide), if_pos (show (6 : Int32) = 6 from rfl)]
    by_cases c : ce 8 (σ 1) m 0 = 2
    · rw [if_pos c, if_neg one_0, if_pos c]
    · rw [if_neg c, if_pos rfl, if_neg c]
theorem oL_at (h : InvN σ nl nm np nv t B W) {l : Nat} (hl : l < nl) : zX3_ofLocker σ (nI l) 3 = ce 9 (σ 0) l 3 ∧ zX3_ofLocker σ (nI l) 5 = ce 9 (σ 0) l 5 := by
  obtain ⟨r0, r1, r2, r3, r5, q0, q1, q2, q3, q5⟩ := h.1
  have hh : ¬ zX5_has (σ 5 0) (nI l) = 0 := by rw [r0, has_f (by omega) (by omega), if_pos hl]; exact one_0
  refine ⟨?_, ?_⟩
  · unfold zX3_ofLocker; rw [if_neg hh, if_neg (by decide), if_neg (by decide), gL3 (by omega)]
  · unfold zX3_ofLocker; rw [if_neg hh, if_neg (by decide), if_neg (by decide), gL5 (by omega)]
theorem oV_at (h : InvN σ nl nm np nv t B W) {v : Nat} (hv : v < nv) : zX3_ofVolunteer σ (nI v) 0 = ce 5 (σ 3) v 0 ∧ zX3_ofVolunteer σ (nI v) 1 = ce 5 (σ 3) v 1 ∧ zX3_ofVolunteer σ (nI v) 4 = ce 5 (σ 3) v 4 ∧ zX3_ofVolunteer σ (nI v) 3 = zX4_wayHoursLeft σ (nI v) := by
  obtain ⟨r0, r1, r2, r3, r5, q0, q1, q2, q3, q5⟩ := h.1
  have hh : ¬ zX5_has (σ 5 3) (nI v) = 0 := by rw [r3, has_f (by omega) (by omega), if_pos hv]; exact one_0
  refine ⟨?_, ?_, ?_, ?_⟩
  · unfold zX3_ofVolunteer; rw [if_neg hh, if_neg (by decide), if_neg (by decide), if_neg (by decide), gV0 (by omega)]
  · unfold zX3_ofVolunteer; rw [if_neg hh, if_neg (by decide), if_neg (by decide), if_neg (by decide), gV1 (by omega)]
  · unfold zX3_ofVolunteer; rw [if_neg hh, if_neg (by decide), if_neg (by decide), if_neg (by decide), gV4 (by omega)]
  · unfold zX3_ofVolunteer; rw [if_neg hh, if_neg (by decide), if_neg (by decide), if_pos rfl]
/-- the later hour, less the hour that it is -/
theorem lft_n {a b k : Nat} (ha : a ≤ b + k) (hb : b < 100000) (hk : k < 1000) : ∃ d : Nat, zmax 0 (nI a - nI b) = nI d ∧ d ≤ k ∧ d = a - b := by
  have e := pk_sub_toInt (a := a) (b := b) (by omega) (by omega)
  have z : (0 : Int32).toInt = 0 := by decide
  unfold zmax
  by_cases h : (0 : Int32) < nI a - nI b
  · rw [if_pos h]
    rw [Int32.lt_iff_toInt_lt, e, z] at h
    exact ⟨a - b, pk_sub (by omega), by omega, rfl⟩
  · rw [if_neg h]
    rw [Int32.lt_iff_toInt_lt, e, z] at h
    exact ⟨0, rfl, by omega, by omega⟩
theorem bar_n (h : InvN σ nl nm np nv t B W) {p : Nat} (hp : p < np) : ∃ d : Nat, zX4_barredHours σ (nI p) = nI d ∧ d ≤ 99 := by
  obtain ⟨r0, r1, r2, r3, r5, q0, q1, q2, q3, q5⟩ := h.1
  obtain ⟨a, b, u, h1, h2, h3, h4, h5, h6, h7⟩ := h.2.2.2.1 p (by omega)
  obtain ⟨d, e1, e2, -⟩ := lft_n (a := u) (b := t) (k := 99) h7 (by omega) (by omega)
  refine ⟨d, ?_, e2⟩
  unfold zX4_barredHours
  rw [gP2 (by omega), h3, r5, e1]
theorem way_n (h : InvN σ nl nm np nv t B W) {v : Nat} (hv : v < nv) : ∃ d a : Nat, zX4_wayHoursLeft σ (nI v) = nI d ∧ d ≤ 36 ∧ ce 5 (σ 3) v 3 = nI a ∧ d = a - t ∧ a ≤ t + 36 := by
  obtain ⟨r0, r1, r2, r3, r5, q0, q1, q2, q3, q5⟩ := h.1
  obtain ⟨r, a, w, h1, h2, h3, h4, h5, -⟩ := h.2.2.2.2.1 v (by omega)
  obtain ⟨d, e1, e2, e3⟩ := lft_n (a := a) (b := t) (k := 36) h5 (by omega) (by omega)
  refine ⟨d, a, ?_, e2, h2, e3, h5⟩
  unfold zX4_wayHoursLeft
  rw [gV3 (by omega), h2, r5, e1]
/-! counts of stages -/
def inq (f : Nat → Int32) (a b : Int32) (m : Nat) : Bool := decide (¬ zX7_isWithin (ce 8 f m 0) a b = 0)
theorem ms_n (e : σ 5 1 = nI nm) (hn : nm ≤ 24) (a b : Int32) : zX3_mealsAtStages σ a b = nI (cnt (inq (σ 1) a b) nm) := by
  unfold zX3_mealsAtStages
  rw [e, nI_clamp (by omega)]
  have key := upTo_ind (R := fun i (v : Int32) => v = nI (cnt (inq (σ 1) a b) i)) (f := bX3_mealsAtStages σ a b) (a := 0) rfl nm (fun i v hi R => by
    unfold bX3_mealsAtStages
    rw [gM0 (by omega)]
    show _ = nI (cnt (inq (σ 1) a b) i + (if inq (σ 1) a b i = true then 1 else 0))
    by_cases c : zX7_isWithin (ce 8 (σ 1) i 0) a b = 0
    · rw [if_pos c, if_neg (by unfold inq; rw [decide_eq_false (fun z => z c)]; decide), R, Nat.add_zero]
    · rw [if_neg c, if_pos (by unfold inq; exact decide_eq_true c), R, nI_1])
  exact key
theorem inq_1 {f : Nat → Int32} {m s : Nat} (hs : s ≤ 5) (e : ce 8 f m 0 = nI s) : inq f 0 1 m = decide (s ≤ 1) ∧ inq f 2 2 m = decide (s = 2) ∧ inq f 3 3 m = decide (s = 3) ∧ inq f 4 4 m = decide (s = 4) ∧ inq f 5 5 m = decide (s = 5) ∧ inq f 1 1 m = decide (s = 1) ∧ inq f 3 5 m = decide (3 ≤ s) ∧ stg f 3 m = decide (s = 3) ∧ stg f 5 m = decide (s = 5) ∧ stg f 1 m = decide (s = 1) ∧ stg f 4 m = decide (s = 4) := by
  unfold inq stg
  rw [e]
  rcases (show s = 0 ∨ s = 1 ∨ s = 2 ∨ s = 3 ∨ s = 4 ∨ s = 5 by omega) with z | z | z | z | z | z <;> subst z <;> decide
theorem part5 {f : Nat → Int32} : ∀ n, (∀ m, m < n → ∃ s : Nat, s ≤ 5 ∧ ce 8 f m 0 = nI s) → cnt (inq f 0 1) n + cnt (inq f 2 2) n + cnt (inq f 3 3) n + cnt (inq f 4 4) n + cnt (inq f 5 5) n = n ∧ cnt (inq f 3 5) n = cnt (inq f 3 3) n + cnt (inq f 4 4) n + cnt (inq f 5 5) n
  | 0, _ => ⟨rfl, rfl⟩
  | n + 1, h => by
    obtain ⟨i1, i2⟩ := part5 n (fun m hm => h m (by omega))
    obtain ⟨s, hs, es⟩ := h n (by omega)
    obtain ⟨a, b, c, d, e, -, g, -⟩ := inq_1 hs es
    show cnt (inq f 0 1) n + (if inq f 0 1 n = true then 1 else 0) + (cnt (inq f 2 2) n + (if inq f 2 2 n = true then 1 else 0)) + (cnt (inq f 3 3) n + (if inq f 3 3 n = true then 1 else 0)) + (cnt (inq f 4 4) n + (if inq f 4 4 n = true then 1 else 0)) + (cnt (inq f 5 5) n + (if inq f 5 5 n = true then 1 else 0)) = n + 1 ∧ cnt (inq f 3 5) n + (if inq f 3 5 n = true then 1 else 0) = cnt (inq f 3 3) n + (if inq f 3 3 n = true then 1 else 0) + (cnt (inq f 4 4) n + (if inq f 4 4 n = true then 1 else 0)) + (cnt (inq f 5 5) n + (if inq f 5 5 n = true then 1 else 0))
    rw [a, b, c, d, e, g]
    rcases (show s = 0 ∨ s = 1 ∨ s = 2 ∨ s = 3 ∨ s = 4 ∨ s = 5 by omega) with z | z | z | z | z | z <;> subst z <;> simp <;> omega
theorem cst_e (h : InvN σ nl nm np nv t B W) : cnt (inq (σ 1) 3 3) nm = cnt (stg (σ 1) 3) nm ∧ cnt (inq (σ 1) 5 5) nm = cnt (stg (σ 1) 5) nm ∧ cnt (inq (σ 1) 1 1) nm = cnt (stg (σ 1) 1) nm ∧ cnt (inq (σ 1) 4 4) nm = cnt (stg (σ 1) 4) nm := by
  have k : ∀ m, m < nm → _ := fun m hm => (h.2.1 m hm).1
  refine ⟨cnt_congr (fun m hm => ?_), cnt_congr (fun m hm => ?_), cnt_congr (fun m hm => ?_), cnt_congr (fun m hm => ?_)⟩
  all_goals
    obtain ⟨s, hs, es⟩ := k m hm
    obtain ⟨a, b, c, d, e, f, g, i, j, l, o⟩ := inq_1 hs es
    first | (rw [c, i]; done) | (rw [e, j]; done) | (rw [f, l]; done) | (rw [d, o]; done)
theorem tot_n (h : InvN σ nl nm np nv t B W) : zX3_total σ 0 = nI nl ∧ zX3_total σ 1 = nI nm ∧ zX3_total σ 2 = nI np ∧ zX3_total σ 3 = nI nv ∧ zX3_total σ 4 = nI t ∧ zX3_total σ 5 = nI (cnt (inq (σ 1) 0 1) nm) ∧ zX3_total σ 6 = nI (cnt (inq (σ 1) 2 2) nm) ∧ zX3_total σ 7 = nI (cnt (stg (σ 1) 3) nm) ∧ zX3_total σ 8 = nI (cnt (stg (σ 1) 4) nm) ∧ zX3_total σ 9 = nI (cnt (stg (σ 1) 5) nm) ∧ zX3_total σ 10 = nI (cnt (stg (σ 1) 1) nm) := by
  obtain ⟨r0, r1, r2, r3, r5, q0, q1, q2, q3, q5⟩ := h.1
  obtain ⟨c3, c5, c1, c4⟩ := cst_e h
  have k := fun a b => ms_n (σ := σ) r1 q1 a b
  refine ⟨r0, r1, r2, r3, r5, k 0 1, k 2 2, ?_, ?_, ?_, ?_⟩
  · rw [← c3]; exact k 3 3
  · rw [← c4]; exact k 4 4
  · rw [← c5]; exact k 5 5
  · rw [← c1]; exact k 1 1
/-! who has a reservation -/
def exB (q : Nat → Bool) : Nat → Bool
  | 0 => false
  | n + 1 => exB q n || q n
theorem exB_f {q : Nat → Bool} : ∀ n, (∀ m, m < n → q m = false) → exB q n = false
  | 0, _ => rfl
  | n + 1, h => by
    show (exB q n || q n) = false
    rw [exB_f n (fun m hm => h m (by omega)), h n (by omega)]
    rfl
theorem exB_t {q : Nat → Bool} {m : Nat} : ∀ n, m < n → q m = true → exB q n = true
  | 0, h, _ => absurd h (Nat.not_lt_zero _)
  | n + 1, h, e => by
    show (exB q n || q n) = true
    by_cases c : m = n
    · subst c; rw [e, Bool.or_true]
    · rw [exB_t n (by omega) e, Bool.true_or]
theorem exB_of {q : Nat → Bool} : ∀ n, exB q n = true → ∃ m, m < n ∧ q m = true
  | 0, h => absurd (show false = true from h) (by decide)
  | n + 1, h => by
    have h : (exB q n || q n) = true := h
    by_cases c : q n = true
    · exact ⟨n, by omega, c⟩
    · rw [Bool.eq_false_iff.mpr c, Bool.or_false] at h
      obtain ⟨m, h1, h2⟩ := exB_of n h
      exact ⟨m, by omega, h2⟩
theorem cnt_oneB {p q : Nat → Bool} {a : Nat} (hp : p a = false) (hq : q a = true) : ∀ n, (∀ i, i < n → i ≠ a → p i = q i) → a < n → cnt q n = cnt p n + 1
  | 0, _, h0 => absurd h0 (Nat.not_lt_zero _)
  | n + 1, h, h0 => by
    show cnt q n + _ = cnt p n + _ + 1
    by_cases e : a = n
    · subst e
      rw [cnt_congr (p := q) (q := p) (n := a) (fun i hi => (h i (by omega) (by omega)).symm), if_pos hq, if_neg (by rw [hp]; decide)]
    · rw [cnt_oneB hp hq n (fun i hi => h i (by omega)) (by omega), h n (by omega) (fun z => e z.symm)]; omega
theorem resv_cnt {f g : Nat → Int32} (hM : MealQ f g nl nm np) (hU : UniqQ f nm) (hp : np ≤ 8) : ∀ n, n ≤ nm → cnt (fun p => exB (rsv f p) n) np = cnt (stg f 1) n
  | 0, _ => cnt_zero (fun _ _ => rfl)
  | n + 1, hn => by
    have ih := resv_cnt hM hU hp n (by omega)
    show cnt (fun p => exB (rsv f p) n || rsv f p n) np = cnt (stg f 1) n + (if stg f 1 n = true then 1 else 0)
    by_cases c : ce 8 f n 0 = 1
    · obtain ⟨-, -, m3⟩ := hM n (by omega)
      obtain ⟨-, q, hq, eq, -⟩ := m3 c
      rw [if_pos (show stg f 1 n = true from decide_eq_true c), ← ih]
      refine cnt_oneB (a := q) ?_ ?_ np (fun i hin hi => ?_) hq
      rotate_left 2
      · have e : rsv f i n = false := by
          refine Bool.eq_false_iff.mpr (fun z => ?_)
          have k := (rsv_t.mp z).2
          exact hi (nI_inj (by omega) (by omega) (k.symm.trans eq))
        show exB (rsv f i) n = (exB (rsv f i) n || rsv f i n)
        rw [e, Bool.or_false]
      · refine Bool.eq_false_iff.mpr (fun z => ?_)
        obtain ⟨m, h1, h2⟩ := exB_of n z
        obtain ⟨k1, k2⟩ := rsv_t.mp h2
        have := hU m n (by omega) (by omega) k1 c (k2.trans eq.symm)
        omega
      · show (exB (rsv f q) n || rsv f q n) = true
        rw [rsv_t.mpr ⟨c, eq⟩, Bool.or_true]
    · rw [if_neg (by unfold stg; rw [decide_eq_false c]; decide), Nat.add_zero, ← ih]
      refine cnt_congr (fun i _ => ?_)
      have e : rsv f i n = false := by
        refine Bool.eq_false_iff.mpr (fun z => c (rsv_t.mp z).1)
      rw [e, Bool.or_false]
end
