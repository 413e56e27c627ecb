/-! COUNTS, BITS, LOOPS, CELLS (no heap) -/
/-- an int of 0 .. n - 1 -/
abbrev rg (x : Int32) (n : Int) : Prop := 0 ≤ x.toInt ∧ x.toInt < n
theorem rg_nI {x : Int32} {n : Int} (h : rg x n) : x = nI x.toNatClampNeg ∧ (x.toNatClampNeg : Int) = x.toInt := by
  refine ⟨(nI_toNat h.1).symm, ?_⟩
  have h3 : x.toNatClampNeg = x.toInt.toNat := rfl
  have := h.1
  omega
theorem rg_of {i : Nat} {n : Int} (h : (i : Int) < n) (hn : n ≤ 2000) : rg (nI i) n := by
  have e : (nI i).toInt = (i : Int) := nI_toInt (by omega)
  exact ⟨by omega, by omega⟩
def cnt (p : Nat → Bool) : Nat → Nat
  | 0 => 0
  | n + 1 => cnt p n + (if p n then 1 else 0)
theorem cnt_congr {p q : Nat → Bool} : ∀ {n : Nat}, (∀ i, i < n → p i = q i) → cnt p n = cnt q n
  | 0, _ => rfl
  | n + 1, h => by
    show cnt p n + _ = cnt q n + _
    rw [cnt_congr (fun i hi => h i (by omega)), h n (by omega)]
theorem cnt_le (p : Nat → Bool) : ∀ n, cnt p n ≤ n
  | 0 => Nat.le_refl _
  | n + 1 => by
    have h := cnt_le p n
    show cnt p n + _ ≤ n + 1
    by_cases hp : p n = true
    · rw [if_pos hp]; omega
    · rw [if_neg hp]; omega
theorem cnt_mono {p q : Nat → Bool} : ∀ n, (∀ i, i < n → p i = true → q i = true) → cnt p n ≤ cnt q n
  | 0, _ => Nat.le_refl _
  | n + 1, h => by
    have h1 := cnt_mono n (fun i hi => h i (by omega))
    have h2 := h n (by omega)
    show cnt p n + _ ≤ cnt q n + _
    by_cases hp : p n = true
    · rw [if_pos hp, if_pos (h2 hp)]; omega
    · rw [if_neg hp]; omega
theorem cnt_one {p q : Nat → Bool} {a : Nat} (h : ∀ i, i ≠ a → p i = q i) (hp : p a = false) (hq : q a = true) : ∀ {n : Nat}, a < n → cnt q n = cnt p n + 1
  | 0, h0 => absurd h0 (Nat.not_lt_zero _)
  | n + 1, h0 => by
    show cnt q n + _ = cnt p n + _ + 1
    by_cases e : a = n
    · subst e
      rw [cnt_congr (p := q) (q := p) (n := a) (fun i hi => (h i (by omega)).symm), if_pos hq, if_neg (by rw [hp]; decide)]
    · rw [cnt_one h hp hq (n := n) (by omega), h n (fun z => e z.symm)]; omega
theorem cnt_zero {p : Nat → Bool} : ∀ {n : Nat}, (∀ i, i < n → p i = false) → cnt p n = 0
  | 0, _ => rfl
  | n + 1, h => by
    show cnt p n + _ = 0
    rw [cnt_zero (fun i hi => h i (by omega)), if_neg (by rw [h n (by omega)]; decide)]
theorem cnt_pos {p : Nat → Bool} : ∀ {n a : Nat}, a < n → p a = true → 0 < cnt p n
  | 0, _, h0, _ => absurd h0 (Nat.not_lt_zero _)
  | n + 1, a, h0, h => by
    show 0 < cnt p n + _
    by_cases e : a = n
    · subst e; rw [if_pos h]; omega
    · have := cnt_pos (n := n) (a := a) (by omega) h; omega
theorem cnt_add (p : Nat → Bool) (m : Nat) : ∀ n, cnt p (m + n) = cnt p m + cnt (fun i => p (m + i)) n
  | 0 => rfl
  | n + 1 => by
    show cnt p (m + n) + (if p (m + n) then 1 else 0) = cnt p m + (cnt (fun i => p (m + i)) n + (if p (m + n) then 1 else 0))
    rw [cnt_add p m n]; omega
theorem upTo_rel {S T : Type} {R : Nat → S → T → Prop} {f : Nat → S → S} {g : Nat → T → T} {a : S} {b : T} (h0 : R 0 a b) : ∀ n, (∀ i v w, i < n → R i v w → R (i + 1) (f i v) (g i w)) → R n (upTo f a n) (upTo g b n)
  | 0, _ => h0
  | n + 1, h => h n _ _ (Nat.lt_succ_self n) (upTo_rel h0 n (fun i v w hi => h i v w (by omega)))
theorem upTo_ind {S : Type} {R : Nat → S → Prop} {f : Nat → S → S} {a : S} (h0 : R 0 a) : ∀ n, (∀ i v, i < n → R i v → R (i + 1) (f i v)) → R n (upTo f a n)
  | 0, _ => h0
  | n + 1, h => h n _ (Nat.lt_succ_self n) (upTo_ind h0 n (fun i v hi => h i v (by omega)))
theorem upTo_congr {S : Type} {f g : Nat → S → S} {a : S} : ∀ n, (∀ i v, i < n → f i v = g i v) → upTo f a n = upTo g a n
  | 0, _ => rfl
  | n + 1, h => by
    show f n (upTo f a n) = g n (upTo g a n)
    rw [upTo_congr n (fun i v hi => h i v (by omega)), h n _ (by omega)]
theorem fstK_congr {c d : Nat → Bool} : ∀ n i, (∀ k, i ≤ k → k < i + n → c k = d k) → fstK c i n = fstK d i n
  | 0, _, _ => rfl
  | n + 1, i, h => by
    show (if c i then i else fstK c (i + 1) n) = (if d i then i else fstK d (i + 1) n)
    rw [h i (by omega) (by omega), fstK_congr n (i + 1) (fun k h1 h2 => h k (by omega) (by omega))]
/-- where the first hit stands: none, or a place with c, and none ahead of it -/
theorem fstK_spec {c : Nat → Bool} : ∀ n i, (fstK c i n = i + n ∧ ∀ k, i ≤ k → k < i + n → c k = false) ∨ (i ≤ fstK c i n ∧ fstK c i n < i + n ∧ c (fstK c i n) = true)
  | 0, i => Or.inl ⟨rfl, fun k h1 h2 => by omega⟩
  | n + 1, i => by
    by_cases h : c i = true
    · right
      have e : fstK c i (n + 1) = i := if_pos h
      rw [e]
      exact ⟨Nat.le_refl _, by omega, h⟩
    · have e : fstK c i (n + 1) = fstK c (i + 1) n := if_neg h
      rw [e]
      rcases fstK_spec (c := c) n (i + 1) with h1 | h1
      · left
        refine ⟨by omega, fun k h2 h3 => ?_⟩
        by_cases e2 : k = i
        · subst e2
          exact Bool.eq_false_iff.mpr h
        · exact h1.2 k (by omega) (by omega)
      · right
        exact ⟨by omega, by omega, h1.2.2⟩
def bt (x : Int32) (k : Nat) : Bool := x.toBitVec.getLsbD k
theorem bt_0 (k : Nat) : bt 0 k = false := by
  show (0#32).getLsbD k = false
  simp
theorem bt_ge (x : Int32) {k : Nat} (h : 32 ≤ k) : bt x k = false := BitVec.getLsbD_of_ge _ _ h
theorem bt_or (x y : Int32) (k : Nat) : bt (x ||| y) k = (bt x k || bt y k) := by
  unfold bt
  rw [Int32.toBitVec_or, BitVec.getLsbD_or]
theorem bt_and (x y : Int32) (k : Nat) : bt (x &&& y) k = (bt x k && bt y k) := by
  unfold bt
  rw [Int32.toBitVec_and, BitVec.getLsbD_and]
theorem bt_not (x : Int32) {k : Nat} (hk : k < 32) : bt (x ^^^ (-1)) k = !(bt x k) := by
  unfold bt
  rw [Int32.toBitVec_xor, BitVec.getLsbD_xor]
  have h : ∀ k, k < 32 → (-1 : Int32).toBitVec.getLsbD k = true := by decide +kernel
  rw [h k hk]
  simp
theorem bt_one {i : Nat} (hi : i < 32) (k : Nat) : bt ((1 : Int32) <<< ((nI i) &&& 31)) k = decide (k = i) := by
  by_cases hk : k < 32
  · have h : ∀ i, i < 32 → ∀ k, k < 32 → bt ((1 : Int32) <<< ((nI i) &&& 31)) k = decide (k = i) := by decide +kernel
    exact h i hi k hk
  · rw [bt_ge _ (by omega)]
    exact (decide_eq_false (by omega)).symm
theorem bt_ext {x y : Int32} (h : ∀ k, k < 32 → bt x k = bt y k) : x = y :=
  Int32.toBitVec_inj.mp (BitVec.eq_of_getLsbD_eq (fun i hi => h i hi))
theorem bt_nI {n : Nat} (hn : n < 2 ^ 32) (k : Nat) : bt (nI n) k = n.testBit k := by
  show (nI n).toBitVec.toNat.testBit k = _
  rw [pk_tn hn]
theorem ones_bit {x : Int32} {i : Nat} (hi : i < 32) : ((x >>> ((nI i) &&& 31)) &&& 1) = if bt x i then 1 else 0 := by
  have hs : ∀ i, i < 32 → (((nI i) &&& 31).toBitVec.smod 32).toNat = i := by decide +kernel
  have h2 : ∀ k, bt (1 : Int32) k = decide (k = 0) := fun k => by
    by_cases hk : k < 32
    · have h : ∀ k, k < 32 → bt (1 : Int32) k = decide (k = 0) := by decide +kernel
      exact h k hk
    · rw [bt_ge _ (by omega)]
      exact (decide_eq_false (by omega)).symm
  have h3 : bt (x >>> ((nI i) &&& 31)) 0 = bt x i := by
    show (x.toBitVec.sshiftRight (((nI i) &&& 31).toBitVec.smod 32).toNat).getLsbD 0 = _
    rw [hs i hi, BitVec.getLsbD_sshiftRight]
    unfold bt
    simp [hi]
  refine bt_ext (fun k hk => ?_)
  rw [bt_and, h2]
  by_cases h0 : k = 0
  · subst h0
    rw [h3]
    by_cases hb : bt x i = true
    · rw [if_pos hb, hb, h2]
      rfl
    · rw [if_neg hb, bt_0, Bool.eq_false_iff.mpr hb]
      rfl
  · rw [decide_eq_false h0, Bool.and_false]
    by_cases hb : bt x i = true
    · rw [if_pos hb, h2, decide_eq_false h0]
    · rw [if_neg hb, bt_0]
theorem ld8 {a m Y K : Nat} (ha : a < 256) (hm : m < 256) : (a + 256 * Y) &&& (m + 256 * K) = (a &&& m) + 256 * (Y &&& K) := by
  have h1 : ((a + 256 * Y) &&& (m + 256 * K)) % 2 ^ 8 = ((a + 256 * Y) % 2 ^ 8) &&& ((m + 256 * K) % 2 ^ 8) := Nat.and_mod_two_pow
  have h2 : ((a + 256 * Y) &&& (m + 256 * K)) / 2 ^ 8 = ((a + 256 * Y) / 2 ^ 8) &&& ((m + 256 * K) / 2 ^ 8) := Nat.and_div_two_pow
  rw [show (2 : Nat) ^ 8 = 256 from rfl] at h1 h2
  rw [show (a + 256 * Y) % 256 = a by omega, show (m + 256 * K) % 256 = m by omega] at h1
  rw [show (a + 256 * Y) / 256 = Y by omega, show (m + 256 * K) / 256 = K by omega] at h2
  have h3 := Nat.mod_add_div ((a + 256 * Y) &&& (m + 256 * K)) 256
  rw [h1, h2] at h3
  exact h3.symm
def e1 (a : Nat) : Nat := a - ((a / 2) &&& 85)
def e2 (w : Nat) : Nat := (w &&& 51) + ((w / 4) &&& 51)
def e3 (w : Nat) : Nat := (w + w / 16) &&& 15
theorem by1 : ∀ a, a < 256 → ∀ y, y < 2 → (a / 2 + 128 * y) &&& 85 = (a / 2) &&& 85 := by decide +kernel
theorem by2 : ∀ a, a < 256 → ∀ y, y < 4 → (a / 4 + 64 * y) &&& 51 = (a / 4) &&& 51 := by decide +kernel
theorem by3 : ∀ a, a < 137 → ∀ y, y < 5 → (a + a / 16 + 16 * y) &&& 15 = (a + a / 16) &&& 15 := by decide +kernel
theorem by4 : ∀ a, a < 256 → e1 a < 256 ∧ e2 (e1 a) ≤ 68 ∧ e2 (e1 a) % 16 ≤ 4 ∧ e3 (e2 (e1 a)) = cnt (Nat.testBit a) 8 ∧ (a / 2) &&& 85 ≤ a := by decide +kernel
theorem st1 {a Y K : Nat} (ha : a < 256) (hY : (Y / 2) &&& K ≤ Y) : (a + 256 * Y) - (((a + 256 * Y) / 2) &&& (85 + 256 * K)) = e1 a + 256 * (Y - ((Y / 2) &&& K)) := by
  have h0 : (a + 256 * Y) / 2 = (a / 2 + 128 * (Y % 2)) + 256 * (Y / 2) := by omega
  rw [h0, ld8 (by omega) (by decide), by1 a ha _ (by omega)]
  have h1 := (by4 a ha).2.2.2.2
  unfold e1
  omega
theorem st2 {w V K : Nat} (hw : w < 256) : ((w + 256 * V) &&& (51 + 256 * K)) + (((w + 256 * V) / 4) &&& (51 + 256 * K)) = e2 w + 256 * ((V &&& K) + ((V / 4) &&& K)) := by
  have h0 : (w + 256 * V) / 4 = (w / 4 + 64 * (V % 4)) + 256 * (V / 4) := by omega
  rw [h0, ld8 hw (by decide), ld8 (by omega) (by decide), by2 w hw _ (by omega)]
  unfold e2
  omega
theorem st3 {w V K : Nat} (hw : w ≤ 68) (hV : V % 16 ≤ 4) : ((w + 256 * V) + (w + 256 * V) / 16) &&& (15 + 256 * K) = e3 w + 256 * ((V + V / 16) &&& K) := by
  have h0 : (w + 256 * V) + (w + 256 * V) / 16 = (w + w / 16 + 16 * (V % 16)) + 256 * (V + V / 16) := by omega
  rw [h0, ld8 (by omega) (by decide), by3 w (by omega) _ (by omega)]
  rfl
def zN (X : Nat) : Nat :=
  let w1 := X - ((X / 2) &&& 1431655765)
  let w2 := (w1 &&& 858993459) + ((w1 / 4) &&& 858993459)
  let w3 := (w2 + w2 / 16) &&& 252645135
  let w4 := w3 + w3 / 256
  let w5 := w4 + w4 / 65536
  w5 % 64
theorem half_and (Y K : Nat) : (Y / 2) &&& K ≤ Y := Nat.le_trans Nat.and_le_left (Nat.div_le_self _ _)
theorem zN_cnt {X : Nat} (hX : X < 2 ^ 24) : zN X = cnt (Nat.testBit X) 24 := by
  obtain ⟨a, b, c, ha, hb, hc, e⟩ : ∃ a b c, a < 256 ∧ b < 256 ∧ c < 256 ∧ X = a + 256 * (b + 256 * (c + 256 * 0)) := ⟨X % 256, X / 256 % 256, X / 65536, by omega, by omega, by omega, by omega⟩
  obtain ⟨a1, a2, a3, a4, -⟩ := by4 a ha
  obtain ⟨b1, b2, b3, b4, -⟩ := by4 b hb
  obtain ⟨c1, c2, c3, c4, -⟩ := by4 c hc
  have w1 : X - ((X / 2) &&& 1431655765) = e1 a + 256 * (e1 b + 256 * (e1 c + 256 * 0)) := by
    rw [e, show (1431655765 : Nat) = 85 + 256 * (85 + 256 * (85 + 256 * 85)) from rfl, st1 ha (half_and _ _), st1 hb (half_and _ _), st1 hc (half_and _ _)]
    rfl
  have w2 : ((e1 a + 256 * (e1 b + 256 * (e1 c + 256 * 0))) &&& 858993459) + (((e1 a + 256 * (e1 b + 256 * (e1 c + 256 * 0))) / 4) &&& 858993459) = e2 (e1 a) + 256 * (e2 (e1 b) + 256 * (e2 (e1 c) + 256 * 0)) := by
    rw [show (858993459 : Nat) = 51 + 256 * (51 + 256 * (51 + 256 * 51)) from rfl, st2 a1, st2 b1, st2 c1]
    rfl
  have w3 : ((e2 (e1 a) + 256 * (e2 (e1 b) + 256 * (e2 (e1 c) + 256 * 0))) + (e2 (e1 a) + 256 * (e2 (e1 b) + 256 * (e2 (e1 c) + 256 * 0))) / 16) &&& 252645135 = e3 (e2 (e1 a)) + 256 * (e3 (e2 (e1 b)) + 256 * (e3 (e2 (e1 c)) + 256 * 0)) := by
    rw [show (252645135 : Nat) = 15 + 256 * (15 + 256 * (15 + 256 * 15)) from rfl, st3 a2 (by omega), st3 b2 (by omega), st3 c2 (by omega)]
    rfl
  have t : cnt (Nat.testBit X) 24 = cnt (Nat.testBit a) 8 + (cnt (Nat.testBit b) 8 + cnt (Nat.testBit c) 8) := by
    rw [show (24 : Nat) = 8 + (8 + 8) from rfl, cnt_add, cnt_add]
    have f0 : cnt (Nat.testBit X) 8 = cnt (Nat.testBit a) 8 := cnt_congr (fun i hi => by
      have h := Nat.testBit_mod_two_pow X 8 i
      rw [show X % 2 ^ 8 = a by omega] at h
      rw [h, decide_eq_true hi, Bool.true_and])
    have f1 : cnt (fun i => Nat.testBit X (8 + i)) 8 = cnt (Nat.testBit b) 8 := cnt_congr (fun i hi => by
      have h := Nat.testBit_mod_two_pow (X / 2 ^ 8) 8 i
      rw [show X / 2 ^ 8 % 2 ^ 8 = b by omega, Nat.testBit_div_two_pow] at h
      rw [h, decide_eq_true hi, Bool.true_and]
      first | rfl | rw [Nat.add_comm])
    have f2 : cnt (fun i => Nat.testBit X (8 + (8 + i))) 8 = cnt (Nat.testBit c) 8 := cnt_congr (fun i hi => by
      have h := Nat.testBit_mod_two_pow (X / 2 ^ 16) 8 i
      rw [show X / 2 ^ 16 % 2 ^ 8 = c by omega, Nat.testBit_div_two_pow] at h
      rw [h, decide_eq_true hi, Bool.true_and]
      exact congrArg _ (by omega))
    rw [f0, f1, f2]
  have l1 := cnt_le (Nat.testBit a) 8
  have l2 := cnt_le (Nat.testBit b) 8
  have l3 := cnt_le (Nat.testBit c) 8
  unfold zN
  simp only [w1, w2, w3]
  rw [t, a4, b4, c4]
  generalize cnt (Nat.testBit a) 8 = A at l1
  generalize cnt (Nat.testBit b) 8 = B at l2
  generalize cnt (Nat.testBit c) 8 = C at l3
  have d1 : (A + 256 * (B + 256 * (C + 256 * 0))) / 256 = B + 256 * C := by omega
  rw [d1]
  have d2 : (A + 256 * (B + 256 * (C + 256 * 0)) + (B + 256 * C)) / 65536 = C := by omega
  rw [d2]
  omega
theorem nI_land {a b : Nat} (ha : a < 2 ^ 32) (hb : b < 2 ^ 32) : nI a &&& nI b = nI (a &&& b) := by
  refine bt_ext (fun k hk => ?_)
  rw [bt_and, bt_nI ha, bt_nI hb, bt_nI (Nat.lt_of_le_of_lt Nat.and_le_left ha), Nat.testBit_and]
theorem us_of (n k : Nat) (hn : n < 2 ^ 32) (s : Int32) (hs : ((s.toUInt32 &&& Int32.toUInt32 31).toBitVec % 32).toNat = k) {r : Nat} (hr : n / 2 ^ k = r) : ((nI n).toUInt32 >>> (s.toUInt32 &&& Int32.toUInt32 31)).toInt32 = nI r := by
  rw [pk_ushrN hn s k hs, hr]
theorem zbc_cnt {x : Int32} (hx : ∀ k, 24 ≤ k → bt x k = false) : zbc x = nI (cnt (bt x) 24) := by
  have hX : x.toBitVec.toNat < 2 ^ 24 := by
    apply Nat.lt_pow_two_of_testBit
    intro k hk
    exact hx k hk
  have ex : x = nI x.toBitVec.toNat := by
    refine bt_ext (fun k hk => ?_)
    rw [bt_nI x.toBitVec.isLt]
    rfl
  generalize x.toBitVec.toNat = X at hX ex
  subst ex
  have hc : cnt (bt (nI X)) 24 = cnt (Nat.testBit X) 24 := cnt_congr (fun i _ => bt_nI (by omega) i)
  rw [hc, ← zN_cnt hX]
  have m1 : (1431655765 : Int32) = nI 1431655765 := rfl
  have m2 : (858993459 : Int32) = nI 858993459 := rfl
  have m3 : (252645135 : Int32) = nI 252645135 := rfl
  have k1 : (X / 2) &&& 1431655765 ≤ X := half_and _ _
  have k2 : ∀ w, w &&& 858993459 ≤ 858993459 := fun w => Nat.and_le_right
  have k3 : ∀ w, w &&& 252645135 ≤ 252645135 := fun w => Nat.and_le_right
  unfold zbc zN
  simp only []
  rw [us_of X 1 (by omega) 1 (by decide) (r := X / 2) rfl, m1, nI_land (by omega) (by decide), pk_sub k1]
  generalize e1' : X - ((X / 2) &&& 1431655765) = w1
  have h1 : w1 < 2 ^ 24 := by omega
  rw [us_of w1 2 (by omega) 2 (by decide) (r := w1 / 4) rfl, m2, nI_land (by omega) (by decide), nI_land (by omega) (by decide), nI_add]
  generalize e2' : (w1 &&& 858993459) + ((w1 / 4) &&& 858993459) = w2
  have h2 : w2 < 2 ^ 31 := by
    have := k2 w1
    have := k2 (w1 / 4)
    omega
  rw [us_of w2 4 (by omega) 4 (by decide) (r := w2 / 16) rfl, m3, nI_add, nI_land (by omega) (by decide)]
  generalize e3' : (w2 + w2 / 16) &&& 252645135 = w3
  have h3 : w3 ≤ 252645135 := by
    have := k3 (w2 + w2 / 16)
    omega
  rw [us_of w3 8 (by omega) 8 (by decide) (r := w3 / 256) rfl, nI_add]
  rw [us_of (w3 + w3 / 256) 16 (by omega) 16 (by decide) (r := (w3 + w3 / 256) / 65536) rfl, nI_add]
  rw [pk_andN (by omega) 6 (by decide)]
/-- a set, made by a loop -/
def bset (p : Nat → Bool) (i : Nat) (v : Int32) : Int32 := if p i then v ||| ((1 : Int32) <<< ((nI i) &&& 31)) else v
theorem bt_bset {p : Nat → Bool} : ∀ {n : Nat}, n ≤ 32 → ∀ k, bt (upTo (bset p) 0 n) k = (decide (k < n) && p k)
  | 0, _, k => by
    show bt 0 k = _
    rw [bt_0, decide_eq_false (by omega), Bool.false_and]
  | n + 1, hn, k => by
    have ih := bt_bset (p := p) (n := n) (by omega) k
    show bt (if p n then _ else _) k = _
    by_cases hp : p n = true
    · rw [if_pos hp, bt_or, ih, bt_one (by omega)]
      by_cases e : k = n
      · subst e
        rw [hp]
        simp
      · rw [decide_eq_false e, Bool.or_false]
        congr 1
        exact decide_eq_decide.mpr (by omega)
    · rw [if_neg hp, ih]
      by_cases e : k = n
      · subst e
        rw [Bool.eq_false_iff.mpr hp, Bool.and_false, Bool.and_false]
      · congr 1
        exact decide_eq_decide.mpr (by omega)
theorem cnt_ext {p : Nat → Bool} {n : Nat} : ∀ d, cnt (fun k => decide (k < n) && p k) (n + d) = cnt p n
  | 0 => cnt_congr (fun i hi => by rw [decide_eq_true (by omega), Bool.true_and])
  | d + 1 => by
    show cnt (fun k => decide (k < n) && p k) (n + d) + (if (decide (n + d < n) && p (n + d)) = true then 1 else 0) = _
    rw [cnt_ext d, if_neg (show ¬ (decide (n + d < n) && p (n + d)) = true by rw [decide_eq_false (by omega), Bool.false_and]; decide)]
    rfl
def colN (k : Nat) : Nat := match k with
  | 0 => 9
  | 1 => 8
  | 2 => 6
  | 3 => 5
  | _ => 1
theorem colN_eq : ∀ k : Nat, colK k = nI (colN k)
  | 0 => rfl
  | 1 => rfl
  | 2 => rfl
  | 3 => rfl
  | _ + 4 => rfl
def sgU (σ : Sg) (k i : Nat) (v : Int32) : Sg := sgC σ k (upd (σ k) i v)
theorem sgU_eq {σ : Sg} {k i : Nat} {v : Int32} : sgU σ k i v k i = v := by
  show (if k = k then upd (σ k) i v else σ k) i = v
  rw [if_pos rfl]
  exact pk_us
theorem sgU_ne {σ : Sg} {k i k2 i2 : Nat} {v : Int32} (h : k2 ≠ k ∨ i2 ≠ i) : sgU σ k i v k2 i2 = σ k2 i2 := by
  show (if k2 = k then upd (σ k) i v else σ k2) i2 = σ k2 i2
  by_cases e : k2 = k
  · subst e
    rw [if_pos rfl]
    exact pk_un (h.elim (fun z => absurd rfl z) id)
  · rw [if_neg e]
theorem sgU_row {σ : Sg} {k i k2 : Nat} {v : Int32} (h : k2 ≠ k) : sgU σ k i v k2 = σ k2 := if_neg h
theorem sgU_id {σ : Sg} {k i : Nat} {v : Int32} (h : σ k i = v) : sgU σ k i v = σ := by
  funext a b
  by_cases h1 : a = k ∧ b = i
  · obtain ⟨rfl, rfl⟩ := h1
    rw [sgU_eq, h]
  · rw [sgU_ne (by omega)]
theorem upd_comm {s : Nat → Int32} {i j : Nat} {a b : Int32} (h : j ≠ i) : upd (upd s i a) j b = upd (upd s j b) i a := by
  funext k
  by_cases h1 : k = i
  · subst h1
    rw [pk_un (fun z => h z.symm), pk_us, pk_us]
  · by_cases h2 : k = j
    · subst h2
      rw [pk_us, pk_un h1, pk_us]
    · rw [pk_un h2, pk_un h1, pk_un h1, pk_un h2]
theorem zatt_n {σ : Sg} {k m c : Nat} (h : colN k * m + c < lenK k) : zatt σ k (nI m) (nI c) = σ k (colN k * m + c) := by
  have hl := lenK_lt k
  have e : nI m * colK k + nI c = nI (colN k * m + c) := by rw [colN_eq, pk_mul, nI_add, Nat.mul_comm m]
  unfold zatt zX5_at
  rw [e, if_neg (nI_pos (by omega)), if_neg (show ¬ Int32.ofNat (lenK k) ≤ nI (colN k * m + c) from nI_ge h hl), nI_clamp (by omega)]
theorem zsto_n {σ : Sg} {k m c : Nat} {v : Int32} (h : colN k * m + c < lenK k) : zsto σ k (nI m) (nI c) v = sgU σ k (colN k * m + c) v := by
  have hl := lenK_lt k
  have e : nI m * colK k + nI c = nI (colN k * m + c) := by rw [colN_eq, pk_mul, nI_add, Nat.mul_comm m]
  unfold zsto zX5_store
  rw [e, if_neg (nI_pos (by omega)), if_neg (show ¬ Int32.ofNat (lenK k) ≤ nI (colN k * m + c) from nI_ge h hl), nI_clamp (by omega)]
  rfl
theorem zrai_n {σ : Sg} {k m c : Nat} (h : colN k * m + c < lenK k) : zrai σ k (nI m) (nI c) = sgU σ k (colN k * m + c) (σ k (colN k * m + c) + 1) := by
  have h1 : zrai σ k (nI m) (nI c) = zsto σ k (nI m) (nI c) (zatt σ k (nI m) (nI c) + 1) := rfl
  rw [h1, zsto_n h, zatt_n h]
theorem has_of {r x : Int32} {n : Int} (hr : rg r n) (h : ¬ zX5_has r x = 0) : ∃ j : Nat, x = nI j ∧ j < r.toNatClampNeg ∧ (j : Int) < n := by
  unfold zX5_has at h
  by_cases h0 : x < 0
  · rw [if_pos h0] at h; exact absurd rfl h
  · rw [if_neg h0] at h
    by_cases h1 : r ≤ x
    · rw [if_pos h1] at h; exact absurd rfl h
    · obtain ⟨j, hj, ex⟩ := nI_of h0
      subst ex
      have := nI_lt_x h1 hj
      have h3 := (rg_nI hr).2
      have h4 := hr.2
      exact ⟨j, rfl, this, by omega⟩
theorem or0 (x : Int32) : x ||| 0 = x := bt_ext (fun k hk => by rw [bt_or, bt_0, Bool.or_false])
theorem le2_iff (x : Int32) : 2 ≤ x ↔ 1 < x := by
  rw [Int32.le_iff_toInt_le, Int32.lt_iff_toInt_lt]
  have a : (2 : Int32).toInt = 2 := by decide
  have b : (1 : Int32).toInt = 1 := by decide
  omega
theorem le3_iff (x : Int32) : 3 ≤ x ↔ ¬ x ≤ 2 := by
  rw [Int32.le_iff_toInt_le, Int32.le_iff_toInt_le]
  have a : (2 : Int32).toInt = 2 := by decide
  have b : (3 : Int32).toInt = 3 := by decide
  omega
/-- the later hour, less the hour that it is -/
theorem sub_toInt {x y : Int32} (hx : rg x 100000) (hy : rg y 100000) : (x - y).toInt = x.toInt - y.toInt := by
  obtain ⟨a, b⟩ := rg_nI hx
  obtain ⟨c, d⟩ := rg_nI hy
  have h1 := hx.2
  have h2 := hy.2
  rw [a, c, pk_sub_toInt (by omega) (by omega), ← a, ← c]
  omega
theorem rg_w {x : Int32} {a b : Int} (h : rg x a) (hab : a ≤ b) : rg x b := ⟨h.1, by have := h.2; omega⟩
theorem zmax_sub {x y : Int32} (hx : rg x 100000) (hy : rg y 100000) : zmax 0 (x - y) = (if x ≤ y then 0 else x - y) ∧ (0 < zmax 0 (x - y) ↔ ¬ x ≤ y) := by
  have e := sub_toInt hx hy
  have z : (0 : Int32).toInt = 0 := by decide
  have h1 : (0 : Int32) < x - y ↔ ¬ x ≤ y := by
    rw [Int32.lt_iff_toInt_lt, Int32.le_iff_toInt_le, e, z]
    omega
  unfold zmax
  by_cases h2 : x ≤ y
  · rw [if_neg (fun w => h1.mp w h2), if_pos h2]
    exact ⟨rfl, ⟨fun w => absurd w (by decide), fun w => absurd h2 w⟩⟩
  · rw [if_pos (h1.mpr h2), if_neg h2]
    exact ⟨rfl, h1⟩
theorem full_of {lim n : Nat} (hl : lim < 1000) (hn : n < 1000) : zX5_isFull (nI lim) (nI n) = if n < lim then 0 else 1 := by
  unfold zX5_isFull
  by_cases h : n < lim
  · rw [if_pos h, if_pos (nI_lt h (by omega))]
  · rw [if_neg h, if_neg (fun z => h ((nI_ltI (by omega) (by omega)).mp z))]
/-- the loop with its way out, as a loop without -/
def cbS (x1 x2 x3 : Int32) (i : Nat) (v : Int32 × Sg) : Int32 × Sg := if x3 ≤ v.1 then v else bX0_stowMeals x1 x2 x3 i v
theorem stow_stay {x1 x2 x3 : Int32} {a : Int32 × Sg} {i : Nat} (h : x3 ≤ (upTo (cbS x1 x2 x3) a i).1) : ∀ k, upTo (cbS x1 x2 x3) a (i + k) = upTo (cbS x1 x2 x3) a i
  | 0 => rfl
  | k + 1 => by
    show cbS x1 x2 x3 (i + k) (upTo (cbS x1 x2 x3) a (i + k)) = _
    rw [stow_stay h k]
    exact if_pos h
theorem stow_up {x1 x2 x3 : Int32} {a : Int32 × Sg} : ∀ k i, wX0_stowMeals x1 x2 x3 k i (upTo (cbS x1 x2 x3) a i) = upTo (cbS x1 x2 x3) a (i + k)
  | 0, _ => rfl
  | k + 1, i => by
    show (if x3 ≤ (upTo (cbS x1 x2 x3) a i).1 then upTo (cbS x1 x2 x3) a i else wX0_stowMeals x1 x2 x3 k (i + 1) (bX0_stowMeals x1 x2 x3 i (upTo (cbS x1 x2 x3) a i))) = _
    by_cases h : x3 ≤ (upTo (cbS x1 x2 x3) a i).1
    · rw [if_pos h, stow_stay h (k + 1)]
    · rw [if_neg h]
      have e : bX0_stowMeals x1 x2 x3 i (upTo (cbS x1 x2 x3) a i) = upTo (cbS x1 x2 x3) a (i + 1) := (if_neg h).symm
      rw [e, stow_up k (i + 1)]
      exact congrArg _ (by omega)
theorem rg_inc1 {x : Int32} {t : Int} (h : rg x t) (ht : t ≤ 100000) : rg (x + 1) (t + 1) ∧ (x + 1).toInt = x.toInt + 1 := by
  obtain ⟨a, b⟩ := rg_nI h
  have c := h.2
  have e : (x + 1).toInt = x.toInt + 1 := by
    rw [a, nI_1, nI_toInt (by omega), ← a]
    omega
  exact ⟨⟨by have := h.1; omega, by omega⟩, e⟩
theorem nn_of {x : Int32} {n : Nat} (h : 0 ≤ x.toInt ∧ x.toInt ≤ n) : ∃ j : Nat, j ≤ n ∧ x = nI j := by
  obtain ⟨a, b⟩ := rg_nI (x := x) (n := n + 1) ⟨h.1, by omega⟩
  exact ⟨_, by omega, a⟩
theorem pr_eta {α β : Type} (p : α × β) : (p.1, p.2) = p := rfl
theorem oS_id {Ω : Og} {k : Nat} : oS Ω k (Ω k) = Ω := by
  funext j
  show (if j = k then Ω k else Ω j) = Ω j
  by_cases e : j = k
  · rw [if_pos e, e]
  · rw [if_neg e]
theorem neg13 : (-1 : Int32) < 0 ∧ (-3 : Int32) < 0 := by decide
theorem oP_e {Ω : Og} {k : Nat} {v : Int32} : oP Ω k v 7 1 k = v := by
  show (if (7 : Nat) = 7 then (fun j : Nat => if j = 1 then upd (Ω 7 1) k v else Ω 7 j) else Ω 7) 1 k = v
  rw [if_pos rfl]
  show (if (1 : Nat) = 1 then upd (Ω 7 1) k v else Ω 7 1) k = v
  rw [if_pos rfl, pk_us]
theorem oP_n {Ω : Og} {k i : Nat} {v : Int32} (h : i ≠ k) : oP Ω k v 7 1 i = Ω 7 1 i := by
  show (if (7 : Nat) = 7 then (fun j : Nat => if j = 1 then upd (Ω 7 1) k v else Ω 7 j) else Ω 7) 1 i = Ω 7 1 i
  rw [if_pos rfl]
  show (if (1 : Nat) = 1 then upd (Ω 7 1) k v else Ω 7 1) i = Ω 7 1 i
  rw [if_pos rfl, pk_un h]
theorem oP_j {Ω : Og} {k j : Nat} {v : Int32} (h : j ≠ 7) : oP Ω k v j = Ω j := if_neg h
theorem zbc_set {p : Nat → Bool} {n : Nat} (hn : n ≤ 24) : zbc (upTo (bset p) 0 n) = nI (cnt p n) := by
  rw [zbc_cnt (fun k hk => by rw [bt_bset (by omega), decide_eq_false (by omega), Bool.false_and]), cnt_congr (q := fun k => decide (k < n) && p k) (fun i _ => bt_bset (by omega) i)]
  have h := cnt_ext (p := p) (n := n) (24 - n)
  rw [show n + (24 - n) = 24 by omega] at h
  rw [h]
/-- a cell, by row and column -/
def ce (w : Nat) (f : Nat → Int32) (m c : Nat) : Int32 := f (w * m + c)
def cu (w : Nat) (f : Nat → Int32) (i c : Nat) (z : Int32) : Nat → Int32 := upd f (w * i + c) z
theorem ce_idx {w a b c d : Nat} (hc : c < w) (hd : d < w) (e : w * a + c = w * b + d) : a = b ∧ c = d := by
  have h1 : (w * a + c) / w = a := by rw [Nat.mul_add_div (by omega), Nat.div_eq_of_lt hc, Nat.add_zero]
  have h2 : (w * b + d) / w = b := by rw [Nat.mul_add_div (by omega), Nat.div_eq_of_lt hd, Nat.add_zero]
  have h3 : a = b := by rw [← h1, ← h2, e]
  subst h3
  exact ⟨rfl, by omega⟩
theorem ce_cu {w : Nat} {f : Nat → Int32} {i c m d : Nat} {z : Int32} (hc : c < w) (hd : d < w) : ce w (cu w f i c z) m d = if m = i ∧ d = c then z else ce w f m d := by
  unfold ce cu
  by_cases h : m = i ∧ d = c
  · obtain ⟨rfl, rfl⟩ := h
    rw [pk_us, if_pos ⟨rfl, rfl⟩]
  · rw [if_neg h, pk_un (fun e => h (ce_idx hd hc e))]
theorem nI_inj {a b : Nat} (ha : a < 2 ^ 31) (hb : b < 2 ^ 31) (h : nI a = nI b) : a = b := by
  have e := congrArg Int32.toNatClampNeg h
  rw [nI_clamp ha, nI_clamp hb] at e
  exact e
theorem wi_e {x a b : Int32} (h : ¬ zX7_isWithin x a b = 0) : a.toInt ≤ x.toInt ∧ x.toInt ≤ b.toInt := by
  unfold zX7_isWithin at h
  by_cases h1 : x < a
  · rw [if_pos h1] at h; exact absurd rfl h
  · rw [if_neg h1] at h
    by_cases h2 : b < x
    · rw [if_pos h2] at h; exact absurd rfl h
    · rw [Int32.lt_iff_toInt_lt] at h1 h2
      exact ⟨by omega, by omega⟩
theorem wi_t {x a b : Int32} (h1 : a.toInt ≤ x.toInt) (h2 : x.toInt ≤ b.toInt) : zX7_isWithin x a b = 1 := by
  unfold zX7_isWithin
  rw [if_neg (by rw [Int32.lt_iff_toInt_lt]; omega), if_neg (by rw [Int32.lt_iff_toInt_lt]; omega)]
/-- an int within, as a plain number -/
theorem wi_n {x : Int32} {a b : Nat} (hb : b < 2 ^ 31) (ha : a < 2 ^ 31) (h : ¬ zX7_isWithin x (nI a) (nI b) = 0) : ∃ j : Nat, a ≤ j ∧ j ≤ b ∧ x = nI j := by
  obtain ⟨h1, h2⟩ := wi_e h
  rw [nI_toInt ha] at h1
  rw [nI_toInt hb] at h2
  obtain ⟨e1, e2⟩ := rg_nI (x := x) (n := (b : Int) + 1) ⟨by omega, by omega⟩
  exact ⟨x.toNatClampNeg, by omega, by omega, e1⟩
theorem has_n {r : Nat} {x : Int32} (hr : r < 1000) (h : ¬ zX5_has (nI r) x = 0) : ∃ j : Nat, j < r ∧ x = nI j := by
  obtain ⟨j, h1, h2, -⟩ := has_of (r := nI r) (n := 1000) ⟨by rw [nI_toInt (by omega)]; omega, by rw [nI_toInt (by omega)]; omega⟩ h
  rw [nI_clamp (by omega)] at h2
  exact ⟨j, h2, h1⟩
theorem has_t {r j : Nat} (hr : r < 1000) : zX5_has (nI r) (nI j) = if j < r then 1 else zX5_has (nI r) (nI j) := by
  by_cases h : j < r
  · rw [if_pos h]
    unfold zX5_has
    rw [if_neg (nI_pos (by omega)), if_neg (by rw [nI_leI (by omega) (by omega)]; omega)]
  · rw [if_neg h]
theorem has_f {r j : Nat} (hr : r < 1000) (hj : j < 2 ^ 31) : zX5_has (nI r) (nI j) = if j < r then 1 else 0 := by
  unfold zX5_has
  rw [if_neg (nI_pos hj)]
  by_cases h : j < r
  · rw [if_pos h, if_neg (by rw [nI_leI (by omega) hj]; omega)]
  · rw [if_neg h, if_pos (by rw [nI_leI (by omega) hj]; omega)]
theorem gL0 {σ : Sg} {m : Nat} (h : m < 5) : zatt σ 0 (nI m) 0 = ce 9 (σ 0) m 0 := zatt_n (k := 0) (m := m) (c := 0) (show 9 * m + 0 < 45 by omega)
theorem sL0 {σ : Sg} {m : Nat} {z : Int32} (h : m < 5) : zsto σ 0 (nI m) 0 z = sgC σ 0 (cu 9 (σ 0) m 0 z) := zsto_n (k := 0) (m := m) (c := 0) (show 9 * m + 0 < 45 by omega)
theorem rL0 {σ : Sg} {m : Nat} (h : m < 5) : zrai σ 0 (nI m) 0 = sgC σ 0 (cu 9 (σ 0) m 0 (ce 9 (σ 0) m 0 + 1)) := zrai_n (k := 0) (m := m) (c := 0) (show 9 * m + 0 < 45 by omega)
theorem gL1 {σ : Sg} {m : Nat} (h : m < 5) : zatt σ 0 (nI m) 1 = ce 9 (σ 0) m 1 := zatt_n (k := 0) (m := m) (c := 1) (show 9 * m + 1 < 45 by omega)
theorem sL1 {σ : Sg} {m : Nat} {z : Int32} (h : m < 5) : zsto σ 0 (nI m) 1 z = sgC σ 0 (cu 9 (σ 0) m 1 z) := zsto_n (k := 0) (m := m) (c := 1) (show 9 * m + 1 < 45 by omega)
theorem rL1 {σ : Sg} {m : Nat} (h : m < 5) : zrai σ 0 (nI m) 1 = sgC σ 0 (cu 9 (σ 0) m 1 (ce 9 (σ 0) m 1 + 1)) := zrai_n (k := 0) (m := m) (c := 1) (show 9 * m + 1 < 45 by omega)
theorem gL2 {σ : Sg} {m : Nat} (h : m < 5) : zatt σ 0 (nI m) 2 = ce 9 (σ 0) m 2 := zatt_n (k := 0) (m := m) (c := 2) (show 9 * m + 2 < 45 by omega)
theorem sL2 {σ : Sg} {m : Nat} {z : Int32} (h : m < 5) : zsto σ 0 (nI m) 2 z = sgC σ 0 (cu 9 (σ 0) m 2 z) := zsto_n (k := 0) (m := m) (c := 2) (show 9 * m + 2 < 45 by omega)
theorem rL2 {σ : Sg} {m : Nat} (h : m < 5) : zrai σ 0 (nI m) 2 = sgC σ 0 (cu 9 (σ 0) m 2 (ce 9 (σ 0) m 2 + 1)) := zrai_n (k := 0) (m := m) (c := 2) (show 9 * m + 2 < 45 by omega)
theorem gL3 {σ : Sg} {m : Nat} (h : m < 5) : zatt σ 0 (nI m) 3 = ce 9 (σ 0) m 3 := zatt_n (k := 0) (m := m) (c := 3) (show 9 * m + 3 < 45 by omega)
theorem sL3 {σ : Sg} {m : Nat} {z : Int32} (h : m < 5) : zsto σ 0 (nI m) 3 z = sgC σ 0 (cu 9 (σ 0) m 3 z) := zsto_n (k := 0) (m := m) (c := 3) (show 9 * m + 3 < 45 by omega)
theorem rL3 {σ : Sg} {m : Nat} (h : m < 5) : zrai σ 0 (nI m) 3 = sgC σ 0 (cu 9 (σ 0) m 3 (ce 9 (σ 0) m 3 + 1)) := zrai_n (k := 0) (m := m) (c := 3) (show 9 * m + 3 < 45 by omega)
theorem gL4 {σ : Sg} {m : Nat} (h : m < 5) : zatt σ 0 (nI m) 4 = ce 9 (σ 0) m 4 := zatt_n (k := 0) (m := m) (c := 4) (show 9 * m + 4 < 45 by omega)
theorem sL4 {σ : Sg} {m : Nat} {z : Int32} (h : m < 5) : zsto σ 0 (nI m) 4 z = sgC σ 0 (cu 9 (σ 0) m 4 z) := zsto_n (k := 0) (m := m) (c := 4) (show 9 * m + 4 < 45 by omega)
theorem rL4 {σ : Sg} {m : Nat} (h : m < 5) : zrai σ 0 (nI m) 4 = sgC σ 0 (cu 9 (σ 0) m 4 (ce 9 (σ 0) m 4 + 1)) := zrai_n (k := 0) (m := m) (c := 4) (show 9 * m + 4 < 45 by omega)
theorem gL5 {σ : Sg} {m : Nat} (h : m < 5) : zatt σ 0 (nI m) 5 = ce 9 (σ 0) m 5 := zatt_n (k := 0) (m := m) (c := 5) (show 9 * m + 5 < 45 by omega)
theorem sL5 {σ : Sg} {m : Nat} {z : Int32} (h : m < 5) : zsto σ 0 (nI m) 5 z = sgC σ 0 (cu 9 (σ 0) m 5 z) := zsto_n (k := 0) (m := m) (c := 5) (show 9 * m + 5 < 45 by omega)
theorem rL5 {σ : Sg} {m : Nat} (h : m < 5) : zrai σ 0 (nI m) 5 = sgC σ 0 (cu 9 (σ 0) m 5 (ce 9 (σ 0) m 5 + 1)) := zrai_n (k := 0) (m := m) (c := 5) (show 9 * m + 5 < 45 by omega)
theorem gL6 {σ : Sg} {m : Nat} (h : m < 5) : zatt σ 0 (nI m) 6 = ce 9 (σ 0) m 6 := zatt_n (k := 0) (m := m) (c := 6) (show 9 * m + 6 < 45 by omega)
theorem sL6 {σ : Sg} {m : Nat} {z : Int32} (h : m < 5) : zsto σ 0 (nI m) 6 z = sgC σ 0 (cu 9 (σ 0) m 6 z) := zsto_n (k := 0) (m := m) (c := 6) (show 9 * m + 6 < 45 by omega)
theorem rL6 {σ : Sg} {m : Nat} (h : m < 5) : zrai σ 0 (nI m) 6 = sgC σ 0 (cu 9 (σ 0) m 6 (ce 9 (σ 0) m 6 + 1)) := zrai_n (k := 0) (m := m) (c := 6) (show 9 * m + 6 < 45 by omega)
theorem gL7 {σ : Sg} {m : Nat} (h : m < 5) : zatt σ 0 (nI m) 7 = ce 9 (σ 0) m 7 := zatt_n (k := 0) (m := m) (c := 7) (show 9 * m + 7 < 45 by omega)
theorem sL7 {σ : Sg} {m : Nat} {z : Int32} (h : m < 5) : zsto σ 0 (nI m) 7 z = sgC σ 0 (cu 9 (σ 0) m 7 z) := zsto_n (k := 0) (m := m) (c := 7) (show 9 * m + 7 < 45 by omega)
theorem rL7 {σ : Sg} {m : Nat} (h : m < 5) : zrai σ 0 (nI m) 7 = sgC σ 0 (cu 9 (σ 0) m 7 (ce 9 (σ 0) m 7 + 1)) := zrai_n (k := 0) (m := m) (c := 7) (show 9 * m + 7 < 45 by omega)
theorem gL8 {σ : Sg} {m : Nat} (h : m < 5) : zatt σ 0 (nI m) 8 = ce 9 (σ 0) m 8 := zatt_n (k := 0) (m := m) (c := 8) (show 9 * m + 8 < 45 by omega)
theorem sL8 {σ : Sg} {m : Nat} {z : Int32} (h : m < 5) : zsto σ 0 (nI m) 8 z = sgC σ 0 (cu 9 (σ 0) m 8 z) := zsto_n (k := 0) (m := m) (c := 8) (show 9 * m + 8 < 45 by omega)
theorem rL8 {σ : Sg} {m : Nat} (h : m < 5) : zrai σ 0 (nI m) 8 = sgC σ 0 (cu 9 (σ 0) m 8 (ce 9 (σ 0) m 8 + 1)) := zrai_n (k := 0) (m := m) (c := 8) (show 9 * m + 8 < 45 by omega)
theorem gM0 {σ : Sg} {m : Nat} (h : m < 24) : zatt σ 1 (nI m) 0 = ce 8 (σ 1) m 0 := zatt_n (k := 1) (m := m) (c := 0) (show 8 * m + 0 < 192 by omega)
theorem sM0 {σ : Sg} {m : Nat} {z : Int32} (h : m < 24) : zsto σ 1 (nI m) 0 z = sgC σ 1 (cu 8 (σ 1) m 0 z) := zsto_n (k := 1) (m := m) (c := 0) (show 8 * m + 0 < 192 by omega)
theorem rM0 {σ : Sg} {m : Nat} (h : m < 24) : zrai σ 1 (nI m) 0 = sgC σ 1 (cu 8 (σ 1) m 0 (ce 8 (σ 1) m 0 + 1)) := zrai_n (k := 1) (m := m) (c := 0) (show 8 * m + 0 < 192 by omega)
theorem gM1 {σ : Sg} {m : Nat} (h : m < 24) : zatt σ 1 (nI m) 1 = ce 8 (σ 1) m 1 := zatt_n (k := 1) (m := m) (c := 1) (show 8 * m + 1 < 192 by omega)
theorem sM1 {σ : Sg} {m : Nat} {z : Int32} (h : m < 24) : zsto σ 1 (nI m) 1 z = sgC σ 1 (cu 8 (σ 1) m 1 z) := zsto_n (k := 1) (m := m) (c := 1) (show 8 * m + 1 < 192 by omega)
theorem rM1 {σ : Sg} {m : Nat} (h : m < 24) : zrai σ 1 (nI m) 1 = sgC σ 1 (cu 8 (σ 1) m 1 (ce 8 (σ 1) m 1 + 1)) := zrai_n (k := 1) (m := m) (c := 1) (show 8 * m + 1 < 192 by omega)
theorem gM2 {σ : Sg} {m : Nat} (h : m < 24) : zatt σ 1 (nI m) 2 = ce 8 (σ 1) m 2 := zatt_n (k := 1) (m := m) (c := 2) (show 8 * m + 2 < 192 by omega)
theorem sM2 {σ : Sg} {m : Nat} {z : Int32} (h : m < 24) : zsto σ 1 (nI m) 2 z = sgC σ 1 (cu 8 (σ 1) m 2 z) := zsto_n (k := 1) (m := m) (c := 2) (show 8 * m + 2 < 192 by omega)
theorem rM2 {σ : Sg} {m : Nat} (h : m < 24) : zrai σ 1 (nI m) 2 = sgC σ 1 (cu 8 (σ 1) m 2 (ce 8 (σ 1) m 2 + 1)) := zrai_n (k := 1) (m := m) (c := 2) (show 8 * m + 2 < 192 by omega)
theorem gM3 {σ : Sg} {m : Nat} (h : m < 24) : zatt σ 1 (nI m) 3 = ce 8 (σ 1) m 3 := zatt_n (k := 1) (m := m) (c := 3) (show 8 * m + 3 < 192 by omega)
theorem sM3 {σ : Sg} {m : Nat} {z : Int32} (h : m < 24) : zsto σ 1 (nI m) 3 z = sgC σ 1 (cu 8 (σ 1) m 3 z) := zsto_n (k := 1) (m := m) (c := 3) (show 8 * m + 3 < 192 by omega)
theorem rM3 {σ : Sg} {m : Nat} (h : m < 24) : zrai σ 1 (nI m) 3 = sgC σ 1 (cu 8 (σ 1) m 3 (ce 8 (σ 1) m 3 + 1)) := zrai_n (k := 1) (m := m) (c := 3) (show 8 * m + 3 < 192 by omega)
theorem gM4 {σ : Sg} {m : Nat} (h : m < 24) : zatt σ 1 (nI m) 4 = ce 8 (σ 1) m 4 := zatt_n (k := 1) (m := m) (c := 4) (show 8 * m + 4 < 192 by omega)
theorem sM4 {σ : Sg} {m : Nat} {z : Int32} (h : m < 24) : zsto σ 1 (nI m) 4 z = sgC σ 1 (cu 8 (σ 1) m 4 z) := zsto_n (k := 1) (m := m) (c := 4) (show 8 * m + 4 < 192 by omega)
theorem rM4 {σ : Sg} {m : Nat} (h : m < 24) : zrai σ 1 (nI m) 4 = sgC σ 1 (cu 8 (σ 1) m 4 (ce 8 (σ 1) m 4 + 1)) := zrai_n (k := 1) (m := m) (c := 4) (show 8 * m + 4 < 192 by omega)
theorem gM5 {σ : Sg} {m : Nat} (h : m < 24) : zatt σ 1 (nI m) 5 = ce 8 (σ 1) m 5 := zatt_n (k := 1) (m := m) (c := 5) (show 8 * m + 5 < 192 by omega)
theorem sM5 {σ : Sg} {m : Nat} {z : Int32} (h : m < 24) : zsto σ 1 (nI m) 5 z = sgC σ 1 (cu 8 (σ 1) m 5 z) := zsto_n (k := 1) (m := m) (c := 5) (show 8 * m + 5 < 192 by omega)
theorem rM5 {σ : Sg} {m : Nat} (h : m < 24) : zrai σ 1 (nI m) 5 = sgC σ 1 (cu 8 (σ 1) m 5 (ce 8 (σ 1) m 5 + 1)) := zrai_n (k := 1) (m := m) (c := 5) (show 8 * m + 5 < 192 by omega)
theorem gM6 {σ : Sg} {m : Nat} (h : m < 24) : zatt σ 1 (nI m) 6 = ce 8 (σ 1) m 6 := zatt_n (k := 1) (m := m) (c := 6) (show 8 * m + 6 < 192 by omega)
theorem sM6 {σ : Sg} {m : Nat} {z : Int32} (h : m < 24) : zsto σ 1 (nI m) 6 z = sgC σ 1 (cu 8 (σ 1) m 6 z) := zsto_n (k := 1) (m := m) (c := 6) (show 8 * m + 6 < 192 by omega)
theorem rM6 {σ : Sg} {m : Nat} (h : m < 24) : zrai σ 1 (nI m) 6 = sgC σ 1 (cu 8 (σ 1) m 6 (ce 8 (σ 1) m 6 + 1)) := zrai_n (k := 1) (m := m) (c := 6) (show 8 * m + 6 < 192 by omega)
theorem gM7 {σ : Sg} {m : Nat} (h : m < 24) : zatt σ 1 (nI m) 7 = ce 8 (σ 1) m 7 := zatt_n (k := 1) (m := m) (c := 7) (show 8 * m + 7 < 192 by omega)
theorem sM7 {σ : Sg} {m : Nat} {z : Int32} (h : m < 24) : zsto σ 1 (nI m) 7 z = sgC σ 1 (cu 8 (σ 1) m 7 z) := zsto_n (k := 1) (m := m) (c := 7) (show 8 * m + 7 < 192 by omega)
theorem rM7 {σ : Sg} {m : Nat} (h : m < 24) : zrai σ 1 (nI m) 7 = sgC σ 1 (cu 8 (σ 1) m 7 (ce 8 (σ 1) m 7 + 1)) := zrai_n (k := 1) (m := m) (c := 7) (show 8 * m + 7 < 192 by omega)
theorem gP0 {σ : Sg} {m : Nat} (h : m < 8) : zatt σ 2 (nI m) 0 = ce 6 (σ 2) m 0 := zatt_n (k := 2) (m := m) (c := 0) (show 6 * m + 0 < 48 by omega)
theorem sP0 {σ : Sg} {m : Nat} {z : Int32} (h : m < 8) : zsto σ 2 (nI m) 0 z = sgC σ 2 (cu 6 (σ 2) m 0 z) := zsto_n (k := 2) (m := m) (c := 0) (show 6 * m + 0 < 48 by omega)
theorem rP0 {σ : Sg} {m : Nat} (h : m < 8) : zrai σ 2 (nI m) 0 = sgC σ 2 (cu 6 (σ 2) m 0 (ce 6 (σ 2) m 0 + 1)) := zrai_n (k := 2) (m := m) (c := 0) (show 6 * m + 0 < 48 by omega)
theorem gP1 {σ : Sg} {m : Nat} (h : m < 8) : zatt σ 2 (nI m) 1 = ce 6 (σ 2) m 1 := zatt_n (k := 2) (m := m) (c := 1) (show 6 * m + 1 < 48 by omega)
theorem sP1 {σ : Sg} {m : Nat} {z : Int32} (h : m < 8) : zsto σ 2 (nI m) 1 z = sgC σ 2 (cu 6 (σ 2) m 1 z) := zsto_n (k := 2) (m := m) (c := 1) (show 6 * m + 1 < 48 by omega)
theorem rP1 {σ : Sg} {m : Nat} (h : m < 8) : zrai σ 2 (nI m) 1 = sgC σ 2 (cu 6 (σ 2) m 1 (ce 6 (σ 2) m 1 + 1)) := zrai_n (k := 2) (m := m) (c := 1) (show 6 * m + 1 < 48 by omega)
theorem gP2 {σ : Sg} {m : Nat} (h : m < 8) : zatt σ 2 (nI m) 2 = ce 6 (σ 2) m 2 := zatt_n (k := 2) (m := m) (c := 2) (show 6 * m + 2 < 48 by omega)
theorem sP2 {σ : Sg} {m : Nat} {z : Int32} (h : m < 8) : zsto σ 2 (nI m) 2 z = sgC σ 2 (cu 6 (σ 2) m 2 z) := zsto_n (k := 2) (m := m) (c := 2) (show 6 * m + 2 < 48 by omega)
theorem rP2 {σ : Sg} {m : Nat} (h : m < 8) : zrai σ 2 (nI m) 2 = sgC σ 2 (cu 6 (σ 2) m 2 (ce 6 (σ 2) m 2 + 1)) := zrai_n (k := 2) (m := m) (c := 2) (show 6 * m + 2 < 48 by omega)
theorem gP3 {σ : Sg} {m : Nat} (h : m < 8) : zatt σ 2 (nI m) 3 = ce 6 (σ 2) m 3 := zatt_n (k := 2) (m := m) (c := 3) (show 6 * m + 3 < 48 by omega)
theorem sP3 {σ : Sg} {m : Nat} {z : Int32} (h : m < 8) : zsto σ 2 (nI m) 3 z = sgC σ 2 (cu 6 (σ 2) m 3 z) := zsto_n (k := 2) (m := m) (c := 3) (show 6 * m + 3 < 48 by omega)
theorem rP3 {σ : Sg} {m : Nat} (h : m < 8) : zrai σ 2 (nI m) 3 = sgC σ 2 (cu 6 (σ 2) m 3 (ce 6 (σ 2) m 3 + 1)) := zrai_n (k := 2) (m := m) (c := 3) (show 6 * m + 3 < 48 by omega)
theorem gP4 {σ : Sg} {m : Nat} (h : m < 8) : zatt σ 2 (nI m) 4 = ce 6 (σ 2) m 4 := zatt_n (k := 2) (m := m) (c := 4) (show 6 * m + 4 < 48 by omega)
theorem sP4 {σ : Sg} {m : Nat} {z : Int32} (h : m < 8) : zsto σ 2 (nI m) 4 z = sgC σ 2 (cu 6 (σ 2) m 4 z) := zsto_n (k := 2) (m := m) (c := 4) (show 6 * m + 4 < 48 by omega)
theorem rP4 {σ : Sg} {m : Nat} (h : m < 8) : zrai σ 2 (nI m) 4 = sgC σ 2 (cu 6 (σ 2) m 4 (ce 6 (σ 2) m 4 + 1)) := zrai_n (k := 2) (m := m) (c := 4) (show 6 * m + 4 < 48 by omega)
theorem gP5 {σ : Sg} {m : Nat} (h : m < 8) : zatt σ 2 (nI m) 5 = ce 6 (σ 2) m 5 := zatt_n (k := 2) (m := m) (c := 5) (show 6 * m + 5 < 48 by omega)
theorem sP5 {σ : Sg} {m : Nat} {z : Int32} (h : m < 8) : zsto σ 2 (nI m) 5 z = sgC σ 2 (cu 6 (σ 2) m 5 z) := zsto_n (k := 2) (m := m) (c := 5) (show 6 * m + 5 < 48 by omega)
theorem rP5 {σ : Sg} {m : Nat} (h : m < 8) : zrai σ 2 (nI m) 5 = sgC σ 2 (cu 6 (σ 2) m 5 (ce 6 (σ 2) m 5 + 1)) := zrai_n (k := 2) (m := m) (c := 5) (show 6 * m + 5 < 48 by omega)
theorem gV0 {σ : Sg} {m : Nat} (h : m < 3) : zatt σ 3 (nI m) 0 = ce 5 (σ 3) m 0 := zatt_n (k := 3) (m := m) (c := 0) (show 5 * m + 0 < 15 by omega)
theorem sV0 {σ : Sg} {m : Nat} {z : Int32} (h : m < 3) : zsto σ 3 (nI m) 0 z = sgC σ 3 (cu 5 (σ 3) m 0 z) := zsto_n (k := 3) (m := m) (c := 0) (show 5 * m + 0 < 15 by omega)
theorem rV0 {σ : Sg} {m : Nat} (h : m < 3) : zrai σ 3 (nI m) 0 = sgC σ 3 (cu 5 (σ 3) m 0 (ce 5 (σ 3) m 0 + 1)) := zrai_n (k := 3) (m := m) (c := 0) (show 5 * m + 0 < 15 by omega)
theorem gV1 {σ : Sg} {m : Nat} (h : m < 3) : zatt σ 3 (nI m) 1 = ce 5 (σ 3) m 1 := zatt_n (k := 3) (m := m) (c := 1) (show 5 * m + 1 < 15 by omega)
theorem sV1 {σ : Sg} {m : Nat} {z : Int32} (h : m < 3) : zsto σ 3 (nI m) 1 z = sgC σ 3 (cu 5 (σ 3) m 1 z) := zsto_n (k := 3) (m := m) (c := 1) (show 5 * m + 1 < 15 by omega)
theorem rV1 {σ : Sg} {m : Nat} (h : m < 3) : zrai σ 3 (nI m) 1 = sgC σ 3 (cu 5 (σ 3) m 1 (ce 5 (σ 3) m 1 + 1)) := zrai_n (k := 3) (m := m) (c := 1) (show 5 * m + 1 < 15 by omega)
theorem gV2 {σ : Sg} {m : Nat} (h : m < 3) : zatt σ 3 (nI m) 2 = ce 5 (σ 3) m 2 := zatt_n (k := 3) (m := m) (c := 2) (show 5 * m + 2 < 15 by omega)
theorem sV2 {σ : Sg} {m : Nat} {z : Int32} (h : m < 3) : zsto σ 3 (nI m) 2 z = sgC σ 3 (cu 5 (σ 3) m 2 z) := zsto_n (k := 3) (m := m) (c := 2) (show 5 * m + 2 < 15 by omega)
theorem rV2 {σ : Sg} {m : Nat} (h : m < 3) : zrai σ 3 (nI m) 2 = sgC σ 3 (cu 5 (σ 3) m 2 (ce 5 (σ 3) m 2 + 1)) := zrai_n (k := 3) (m := m) (c := 2) (show 5 * m + 2 < 15 by omega)
theorem gV3 {σ : Sg} {m : Nat} (h : m < 3) : zatt σ 3 (nI m) 3 = ce 5 (σ 3) m 3 := zatt_n (k := 3) (m := m) (c := 3) (show 5 * m + 3 < 15 by omega)
theorem sV3 {σ : Sg} {m : Nat} {z : Int32} (h : m < 3) : zsto σ 3 (nI m) 3 z = sgC σ 3 (cu 5 (σ 3) m 3 z) := zsto_n (k := 3) (m := m) (c := 3) (show 5 * m + 3 < 15 by omega)
theorem rV3 {σ : Sg} {m : Nat} (h : m < 3) : zrai σ 3 (nI m) 3 = sgC σ 3 (cu 5 (σ 3) m 3 (ce 5 (σ 3) m 3 + 1)) := zrai_n (k := 3) (m := m) (c := 3) (show 5 * m + 3 < 15 by omega)
theorem gV4 {σ : Sg} {m : Nat} (h : m < 3) : zatt σ 3 (nI m) 4 = ce 5 (σ 3) m 4 := zatt_n (k := 3) (m := m) (c := 4) (show 5 * m + 4 < 15 by omega)
theorem sV4 {σ : Sg} {m : Nat} {z : Int32} (h : m < 3) : zsto σ 3 (nI m) 4 z = sgC σ 3 (cu 5 (σ 3) m 4 z) := zsto_n (k := 3) (m := m) (c := 4) (show 5 * m + 4 < 15 by omega)
theorem rV4 {σ : Sg} {m : Nat} (h : m < 3) : zrai σ 3 (nI m) 4 = sgC σ 3 (cu 5 (σ 3) m 4 (ce 5 (σ 3) m 4 + 1)) := zrai_n (k := 3) (m := m) (c := 4) (show 5 * m + 4 < 15 by omega)
theorem gS0 {σ : Sg} : zX4_setting σ 0 = σ 4 0 := zatt_n (k := 4) (m := 0) (c := 0) (by decide)
theorem gS1 {σ : Sg} : zX4_setting σ 1 = σ 4 1 := zatt_n (k := 4) (m := 1) (c := 0) (by decide)
theorem gS2 {σ : Sg} : zX4_setting σ 2 = σ 4 2 := zatt_n (k := 4) (m := 2) (c := 0) (by decide)
theorem gS3 {σ : Sg} : zX4_setting σ 3 = σ 4 3 := zatt_n (k := 4) (m := 3) (c := 0) (by decide)
theorem sSn {σ : Sg} {j : Nat} {z : Int32} (h : j < 4) : zsto σ 4 (nI j) 0 z = sgC σ 4 (upd (σ 4) j z) := (zsto_n (k := 4) (m := j) (c := 0) (show 1 * j + 0 < 4 by omega)).trans (congrArg (fun i => sgU σ 4 i z) (show 1 * j + 0 = j by omega))
theorem gSn {σ : Sg} {j : Nat} (h : j < 4) : zX4_setting σ (nI j) = σ 4 j := (zatt_n (k := 4) (m := j) (c := 0) (show 1 * j + 0 < 4 by omega)).trans (congrArg (σ 4) (show 1 * j + 0 = j by omega))
/-- sums, counts -/
def sumI (f : Nat → Int32) : Nat → Int32
  | 0 => 0
  | n + 1 => sumI f n + f n
theorem sumI_cg {f g : Nat → Int32} : ∀ n, (∀ i, i < n → f i = g i) → sumI f n = sumI g n
  | 0, _ => rfl
  | n + 1, h => by
    show sumI f n + f n = sumI g n + g n
    rw [sumI_cg n (fun i hi => h i (by omega)), h n (by omega)]
theorem sumI_up {f g : Nat → Int32} {a : Nat} : ∀ n, a < n → g a = f a + 1 → (∀ i, i ≠ a → g i = f i) → sumI g n = sumI f n + 1
  | 0, h, _, _ => absurd h (Nat.not_lt_zero _)
  | n + 1, h, ha, hg => by
    show sumI g n + g n = sumI f n + f n + 1
    by_cases e : a = n
    · subst e
      rw [sumI_cg (f := g) (g := f) a (fun i hi => hg i (by omega)), ha, Int32.add_assoc]
    · rw [sumI_up n (by omega) ha hg, hg n (fun z => e z.symm), Int32.add_assoc, Int32.add_comm 1, ← Int32.add_assoc]
theorem sumI_0 {f : Nat → Int32} {a : Nat} : ∀ n, (∀ i, a ≤ i → i < a + n → f i = 0) → sumI f (a + n) = sumI f a
  | 0, _ => rfl
  | n + 1, h => by
    show sumI f (a + n) + f (a + n) = _
    rw [sumI_0 n (fun i h1 h2 => h i h1 (by omega)), h (a + n) (by omega) (by omega), Int32.add_zero]
theorem cnt_drop {p q : Nat → Bool} {a : Nat} (h : ∀ i, i ≠ a → q i = p i) (hq : q a = false) (n : Nat) : cnt q n ≤ cnt p n := cnt_mono n (fun i _ hi => by
  by_cases e : i = a
  · subst e; rw [hq] at hi; exact absurd hi (by decide)
  · rw [← h i e]; exact hi)
