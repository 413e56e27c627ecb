/-- an index within, by what a method tests -/
theorem zin_of {i : Int32} {n : Nat} (h1 : ¬ i < 0) (h2 : ¬ Int32.ofNat n ≤ i) (hn : n < 2 ^ 31) : vp_in i n := by
  intro h
  rcases h with h | h
  · exact h1 h
  · apply h2
    have e : (Int32.ofNat n).toInt = (n : Int) := toInt_of rfl hn
    rw [Int32.le_iff_toInt_le, e]
    have h0 : 0 ≤ i.toInt := by
      have := h1; rw [Int32.lt_iff_toInt_lt, Int32.toInt_zero] at this; omega
    have h3 : i.toNatClampNeg = i.toInt.toNat := rfl
    omega
/-- a table: its object, its cells -/
def tbW (cI : ClassId) (a b : Nat) (lim col : Int32) (n : Nat) (rows : Int32) (f : Nat → Int32) : va_W := [(a, .inr (5, [.int lim, .int col, .ref b, .int rows])), (b, .inl (cI, n, .inl f))]
def tbA (a b : Nat) : Nat → Prop := fun q => q = a ∨ q = b
theorem tb_D {cI : ClassId} {a b : Nat} {lim col : Int32} {n : Nat} {rows : Int32} {f : Nat → Int32} (h : a ≠ b) : va_D (tbA a b) (tbW cI a b lim col n rows f) := by
  refine ⟨fun i j p q hi hj e => ?_, fun k q hk => ?_⟩
  · match i, j, hi, hj with
    | 0, 0, _, _ => rfl
    | 1, 1, _, _ => rfl
    | 0, 1, hi, hj => cases hi; cases hj; exact absurd e h
    | 1, 0, hi, hj => cases hi; cases hj; exact absurd e.symm h
    | i + 2, _, hi, _ => simp [tbW] at hi
    | 0, j + 2, _, hj => simp [tbW] at hj
    | 1, j + 2, _, hj => simp [tbW] at hj
  · match k, hk with
    | 0, hk => cases hk; exact Or.inl rfl
    | 1, hk => cases hk; exact Or.inr rfl
    | k + 2, hk => simp [tbW] at hk
def limK (k : Nat) : Int32 := match k with
  | 0 => 5
  | 1 => 24
  | 2 => 8
  | 3 => 3
  | _ => 4
def colK (k : Nat) : Int32 := match k with
  | 0 => 9
  | 1 => 8
  | 2 => 6
  | 3 => 5
  | _ => 1
def lenK (k : Nat) : Nat := match k with
  | 0 => 45
  | 1 => 192
  | 2 => 48
  | 3 => 15
  | _ => 4
theorem lenK_lt (k : Nat) : lenK k < 2 ^ 31 := by
  unfold lenK
  split <;> decide
/-- a State: its object, its five tables; σ k is table k's cells for k < 5, σ 5 k its rows, σ 5 5 the time -/
abbrev Sg : Type := Nat → Nat → Int32
def stW (cI : ClassId) (ad : Nat → Nat) (σ : Sg) : va_W := [(ad 0, .inr (4, [.ref (ad 1), .ref (ad 3), .ref (ad 5), .ref (ad 7), .ref (ad 9), .int (σ 5 5)])),
  (ad 1, .inr (5, [.int 5, .int 9, .ref (ad 2), .int (σ 5 0)])), (ad 2, .inl (cI, 45, .inl (σ 0))),
  (ad 3, .inr (5, [.int 24, .int 8, .ref (ad 4), .int (σ 5 1)])), (ad 4, .inl (cI, 192, .inl (σ 1))),
  (ad 5, .inr (5, [.int 8, .int 6, .ref (ad 6), .int (σ 5 2)])), (ad 6, .inl (cI, 48, .inl (σ 2))),
  (ad 7, .inr (5, [.int 3, .int 5, .ref (ad 8), .int (σ 5 3)])), (ad 8, .inl (cI, 15, .inl (σ 3))),
  (ad 9, .inr (5, [.int 4, .int 1, .ref (ad 10), .int (σ 5 4)])), (ad 10, .inl (cI, 4, .inl (σ 4)))]
def stA (ad : Nat → Nat) : Nat → Prop := fun q => ∃ k, k < 11 ∧ q = ad k
def StH (D : va_G) (y : Y3) (ad : Nat → Nat) (σ : Sg) (H : Heap) : Prop := va_P D vwCl (stW y.1 ad σ) H
/-- the addresses of a State are apart -/
def adI (ad : Nat → Nat) : Prop := ∀ i j, i < 11 → j < 11 → ad i = ad j → i = j
def sgT (σ : Sg) (k : Nat) (f : Nat → Int32) (rows : Int32) : Sg := fun j => if j = k then f else if j = 5 then upd (σ 5) k rows else σ j
def sgC (σ : Sg) (k : Nat) (f : Nat → Int32) : Sg := fun j => if j = k then f else σ j
def sgR (σ : Sg) (k : Nat) (x : Int32) : Sg := fun j => if j = 5 then upd (σ 5) k x else σ j
theorem sgT_same {σ : Sg} {k : Nat} {f : Nat → Int32} (hk : k < 5) : sgT σ k f (σ 5 k) = sgC σ k f := by
  funext j i
  unfold sgT sgC
  by_cases h1 : j = k
  · rw [if_pos h1, if_pos h1]
  · rw [if_neg h1, if_neg h1]
    by_cases h2 : j = 5
    · subst h2
      rw [if_pos rfl]
      by_cases h3 : i = k
      · subst h3; simp [upd]
      · simp [upd, h3]
    · rw [if_neg h2]
theorem sgT_rows {σ : Sg} {k : Nat} {x : Int32} (hk : k < 5) : sgT σ k (σ k) x = sgR σ k x := by
  funext j
  unfold sgT sgR
  by_cases h1 : j = k
  · subst h1
    rw [if_pos rfl, if_neg (by omega)]
  · rw [if_neg h1]
theorem st_tab {D : va_G} {y : Y3} {ad : Nat → Nat} {σ : Sg} {H : Heap} (h : StH D y ad σ H) {k : Nat} (hk : k < 5) : va_P D vwCl (tbW y.1 (ad (2 * k + 1)) (ad (2 * k + 2)) (limK k) (colK k) (lenK k) (σ 5 k) (σ k)) H := by
  match k, hk with
  | 0, _ => exact h.sub [1, 2] rfl
  | 1, _ => exact h.sub [3, 4] rfl
  | 2, _ => exact h.sub [5, 6] rfl
  | 3, _ => exact h.sub [7, 8] rfl
  | 4, _ => exact h.sub [9, 10] rfl
theorem st_get {ad : Nat → Nat} {σ : Sg} {cI : ClassId} {i : Nat} {q : Nat × va_E} (h : (stW cI ad σ)[i]? = some q) : i < 11 ∧ q.1 = ad i := by
  match i, h with
  | 0, h => cases h; exact ⟨by decide, rfl⟩
  | 1, h => cases h; exact ⟨by decide, rfl⟩
  | 2, h => cases h; exact ⟨by decide, rfl⟩
  | 3, h => cases h; exact ⟨by decide, rfl⟩
  | 4, h => cases h; exact ⟨by decide, rfl⟩
  | 5, h => cases h; exact ⟨by decide, rfl⟩
  | 6, h => cases h; exact ⟨by decide, rfl⟩
  | 7, h => cases h; exact ⟨by decide, rfl⟩
  | 8, h => cases h; exact ⟨by decide, rfl⟩
  | 9, h => cases h; exact ⟨by decide, rfl⟩
  | 10, h => cases h; exact ⟨by decide, rfl⟩
  | i + 11, h => simp [stW] at h
theorem st_D {ad : Nat → Nat} {σ : Sg} {cI : ClassId} (hi : adI ad) : va_D (stA ad) (stW cI ad σ) := by
  refine ⟨fun i j p q h1 h2 e => ?_, fun k q hk => ?_⟩
  · obtain ⟨a1, a2⟩ := st_get h1
    obtain ⟨b1, b2⟩ := st_get h2
    exact hi i j a1 b1 (by rw [← a2, ← b2]; exact e)
  · obtain ⟨a1, a2⟩ := st_get hk
    exact ⟨k, a1, a2⟩
theorem st_lt {D : va_G} {y : Y3} {ad : Nat → Nat} {σ : Sg} {H : Heap} (h : StH D y ad σ H) {k : Nat} (hk : k < 11) : ad k < H.size := by
  have hl : (stW y.1 ad σ).length = 11 := rfl
  have h1 : (stW y.1 ad σ)[k]? = some ((stW y.1 ad σ)[k]'(by omega)) := List.getElem?_eq_getElem _
  have h2 := (h k _ h1).lt
  rw [(st_get h1).2] at h2
  exact h2
/-- a State whose cells were not written stays -/
theorem st_kept {D : va_G} {y : Y3} {ad : Nat → Nat} {σ : Sg} {H H1 : Heap} (h : StH D y ad σ H) (hq : ∀ k, k < 11 → H1[ad k]? = H[ad k]?) : StH D y ad σ H1 :=
  va_P.kept h (fun k q hk => by obtain ⟨a1, a2⟩ := st_get hk; rw [a2]; exact hq k a1)
/-- a table of a State was written -/
theorem st_set {D : va_G} {y : Y3} {ad : Nat → Nat} {σ : Sg} {H H1 : Heap} (h : StH D y ad σ H) (hi : adI ad) {k : Nat} (hk : k < 5) {rows : Int32} {f : Nat → Int32}
    (h1 : va_P D vwCl (tbW y.1 (ad (2 * k + 1)) (ad (2 * k + 2)) (limK k) (colK k) (lenK k) rows f) H1) (hq : ∀ q : Nat, q < H.size → ¬ tbA (ad (2 * k + 1)) (ad (2 * k + 2)) q → H1[q]? = H[q]?) : StH D y ad (sgT σ k f rows) H1 := by
  have hn : ∀ i, i < 11 → i ≠ 2 * k + 1 → i ≠ 2 * k + 2 → H1[ad i]? = H[ad i]? := fun i h2 h3 h4 => hq _ (st_lt h h2) (fun z => z.elim (fun z => h3 (hi i _ h2 (by omega) z)) (fun z => h4 (hi i _ h2 (by omega) z)))
  have keep : ∀ (i : Nat) (q : Nat × va_E), (stW y.1 ad σ)[i]? = some q → i ≠ 2 * k + 1 → i ≠ 2 * k + 2 → va_at D vwCl q H1 := fun i q h2 h3 h4 => (h i q h2).kept (by rw [(st_get h2).2]; exact hn i (st_get h2).1 h3 h4)
  intro i q hiq
  match k, hk, h1, keep with
  | 0, _, h1, keep =>
    match i, hiq with
    | 1, hiq => cases hiq; exact h1 0 _ rfl
    | 2, hiq => cases hiq; exact h1 1 _ rfl
    | 0, hiq => cases hiq; exact keep 0 _ rfl (by decide) (by decide)
    | 3, hiq => cases hiq; exact keep 3 _ rfl (by decide) (by decide)
    | 4, hiq => cases hiq; exact keep 4 _ rfl (by decide) (by decide)
    | 5, hiq => cases hiq; exact keep 5 _ rfl (by decide) (by decide)
    | 6, hiq => cases hiq; exact keep 6 _ rfl (by decide) (by decide)
    | 7, hiq => cases hiq; exact keep 7 _ rfl (by decide) (by decide)
    | 8, hiq => cases hiq; exact keep 8 _ rfl (by decide) (by decide)
    | 9, hiq => cases hiq; exact keep 9 _ rfl (by decide) (by decide)
    | 10, hiq => cases hiq; exact keep 10 _ rfl (by decide) (by decide)
    | i + 11, hiq => simp [stW] at hiq
  | 1, _, h1, keep =>
    match i, hiq with
    | 3, hiq => cases hiq; exact h1 0 _ rfl
    | 4, hiq => cases hiq; exact h1 1 _ rfl
    | 0, hiq => cases hiq; exact keep 0 _ rfl (by decide) (by decide)
    | 1, hiq => cases hiq; exact keep 1 _ rfl (by decide) (by decide)
    | 2, hiq => cases hiq; exact keep 2 _ rfl (by decide) (by decide)
    | 5, hiq => cases hiq; exact keep 5 _ rfl (by decide) (by decide)
    | 6, hiq => cases hiq; exact keep 6 _ rfl (by decide) (by decide)
    | 7, hiq => cases hiq; exact keep 7 _ rfl (by decide) (by decide)
    | 8, hiq => cases hiq; exact keep 8 _ rfl (by decide) (by decide)
    | 9, hiq => cases hiq; exact keep 9 _ rfl (by decide) (by decide)
    | 10, hiq => cases hiq; exact keep 10 _ rfl (by decide) (by decide)
    | i + 11, hiq => simp [stW] at hiq
  | 2, _, h1, keep =>
    match i, hiq with
    | 5, hiq => cases hiq; exact h1 0 _ rfl
    | 6, hiq => cases hiq; exact h1 1 _ rfl
    | 0, hiq => cases hiq; exact keep 0 _ rfl (by decide) (by decide)
    | 1, hiq => cases hiq; exact keep 1 _ rfl (by decide) (by decide)
    | 2, hiq => cases hiq; exact keep 2 _ rfl (by decide) (by decide)
    | 3, hiq => cases hiq; exact keep 3 _ rfl (by decide) (by decide)
    | 4, hiq => cases hiq; exact keep 4 _ rfl (by decide) (by decide)
    | 7, hiq => cases hiq; exact keep 7 _ rfl (by decide) (by decide)
    | 8, hiq => cases hiq; exact keep 8 _ rfl (by decide) (by decide)
    | 9, hiq => cases hiq; exact keep 9 _ rfl (by decide) (by decide)
    | 10, hiq => cases hiq; exact keep 10 _ rfl (by decide) (by decide)
    | i + 11, hiq => simp [stW] at hiq
  | 3, _, h1, keep =>
    match i, hiq with
    | 7, hiq => cases hiq; exact h1 0 _ rfl
    | 8, hiq => cases hiq; exact h1 1 _ rfl
    | 0, hiq => cases hiq; exact keep 0 _ rfl (by decide) (by decide)
    | 1, hiq => cases hiq; exact keep 1 _ rfl (by decide) (by decide)
    | 2, hiq => cases hiq; exact keep 2 _ rfl (by decide) (by decide)
    | 3, hiq => cases hiq; exact keep 3 _ rfl (by decide) (by decide)
    | 4, hiq => cases hiq; exact keep 4 _ rfl (by decide) (by decide)
    | 5, hiq => cases hiq; exact keep 5 _ rfl (by decide) (by decide)
    | 6, hiq => cases hiq; exact keep 6 _ rfl (by decide) (by decide)
    | 9, hiq => cases hiq; exact keep 9 _ rfl (by decide) (by decide)
    | 10, hiq => cases hiq; exact keep 10 _ rfl (by decide) (by decide)
    | i + 11, hiq => simp [stW] at hiq
  | 4, _, h1, keep =>
    match i, hiq with
    | 9, hiq => cases hiq; exact h1 0 _ rfl
    | 10, hiq => cases hiq; exact h1 1 _ rfl
    | 0, hiq => cases hiq; exact keep 0 _ rfl (by decide) (by decide)
    | 1, hiq => cases hiq; exact keep 1 _ rfl (by decide) (by decide)
    | 2, hiq => cases hiq; exact keep 2 _ rfl (by decide) (by decide)
    | 3, hiq => cases hiq; exact keep 3 _ rfl (by decide) (by decide)
    | 4, hiq => cases hiq; exact keep 4 _ rfl (by decide) (by decide)
    | 5, hiq => cases hiq; exact keep 5 _ rfl (by decide) (by decide)
    | 6, hiq => cases hiq; exact keep 6 _ rfl (by decide) (by decide)
    | 7, hiq => cases hiq; exact keep 7 _ rfl (by decide) (by decide)
    | 8, hiq => cases hiq; exact keep 8 _ rfl (by decide) (by decide)
    | i + 11, hiq => simp [stW] at hiq
/-- counting up: f 0, f 1 .. f (n - 1), one behind the other -/
def upTo {S : Type} (f : Nat → S → S) (a : S) : Nat → S
  | 0 => a
  | n + 1 => f n (upTo f a n)
/-- the least k of i, i + 1 .. i + n - 1 with c k, else i + n -/
def fstK (c : Nat → Bool) : Nat → Nat → Nat
  | i, 0 => i
  | i, n + 1 => if c i then i else fstK c (i + 1) n
theorem nI_toNat {x : Int32} (h : 0 ≤ x.toInt) : nI x.toNatClampNeg = x := by
  apply Int32.toInt_inj.mp
  have h3 : x.toNatClampNeg = x.toInt.toNat := rfl
  have h4 := Int32.toInt_lt x
  rw [nI_toInt (by omega), h3]
  omega
theorem nI_lt_x {i : Nat} {x : Int32} (h : ¬ x ≤ nI i) (hi : i < 2 ^ 31) : i < x.toNatClampNeg := by
  rw [Int32.le_iff_toInt_le, nI_toInt hi] at h
  have h3 : x.toNatClampNeg = x.toInt.toNat := rfl
  omega
theorem nI_ge_x {i : Nat} {x : Int32} (h : x ≤ nI i) (hi : i < 2 ^ 31) : x.toNatClampNeg ≤ i := by
  rw [Int32.le_iff_toInt_le, nI_toInt hi] at h
  have h3 : x.toNatClampNeg = x.toInt.toNat := rfl
  omega
theorem clamp_lt (x : Int32) : x.toNatClampNeg < 2 ^ 31 := by
  have h3 : x.toNatClampNeg = x.toInt.toNat := rfl
  have h4 := Int32.toInt_lt x
  omega
