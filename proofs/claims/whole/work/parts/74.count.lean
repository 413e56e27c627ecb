/-! COUNTS, SETS OF BITS, LOOPS (no heap) -/
def cnt (p : Nat → Bool) : Nat → Nat
  | 0 => 0
  | n + 1 => cnt p n + (if p n then 1 else 0)
theorem cnt_congr {p q : Nat → Bool} : ∀ {n : Nat}, (∀ i, i < n → p i = q i) → cnt p n = cnt q n
  | 0, _ => rfl
  | n + 1, h => by
    show cnt p n + _ = cnt q n + _
    rw [cnt_congr (fun i hi => h i (by omega)), h n (by omega)]
theorem cnt_le (p : Nat → Bool) : ∀ n, cnt p n ≤ n
  | 0 => Nat.le_refl _
  | n + 1 => by
    have h := cnt_le p n
    show cnt p n + _ ≤ n + 1
    by_cases hp : p n = true
    · rw [if_pos hp]; omega
    · rw [if_neg hp]; omega
theorem cnt_mono {p q : Nat → Bool} : ∀ n, (∀ i, i < n → p i = true → q i = true) → cnt p n ≤ cnt q n
  | 0, _ => Nat.le_refl _
  | n + 1, h => by
    have h1 := cnt_mono n (fun i hi => h i (by omega))
    have h2 := h n (by omega)
    show cnt p n + _ ≤ cnt q n + _
    by_cases hp : p n = true
    · rw [if_pos hp, if_pos (h2 hp)]; omega
    · rw [if_neg hp]; omega
theorem cnt_one {p q : Nat → Bool} {a : Nat} (h : ∀ i, i ≠ a → p i = q i) (hp : p a = false) (hq : q a = true) : ∀ {n : Nat}, a < n → cnt q n = cnt p n + 1
  | 0, h0 => absurd h0 (Nat.not_lt_zero _)
  | n + 1, h0 => by
    show cnt q n + _ = cnt p n + _ + 1
    by_cases e : a = n
    · subst e
      rw [cnt_congr (p := q) (q := p) (n := a) (fun i hi => (h i (by omega)).symm), if_pos hq, if_neg (by rw [hp]; decide)]
    · rw [cnt_one h hp hq (n := n) (by omega), h n (fun z => e z.symm)]; omega
theorem cnt_zero {p : Nat → Bool} : ∀ {n : Nat}, (∀ i, i < n → p i = false) → cnt p n = 0
  | 0, _ => rfl
  | n + 1, h => by
    show cnt p n + _ = 0
    rw [cnt_zero (fun i hi => h i (by omega)), if_neg (by rw [h n (by omega)]; decide)]
theorem cnt_pos {p : Nat → Bool} : ∀ {n a : Nat}, a < n → p a = true → 0 < cnt p n
  | 0, _, h0, _ => absurd h0 (Nat.not_lt_zero _)
  | n + 1, a, h0, h => by
    show 0 < cnt p n + _
    by_cases e : a = n
    · subst e; rw [if_pos h]; omega
    · have := cnt_pos (n := n) (a := a) (by omega) h; omega
theorem cnt_add (p : Nat → Bool) (m : Nat) : ∀ n, cnt p (m + n) = cnt p m + cnt (fun i => p (m + i)) n
  | 0 => rfl
  | n + 1 => by
    show cnt p (m + n) + (if p (m + n) then 1 else 0) = cnt p m + (cnt (fun i => p (m + i)) n + (if p (m + n) then 1 else 0))
    rw [cnt_add p m n]; omega
theorem upTo_rel {S T : Type} {R : Nat → S → T → Prop} {f : Nat → S → S} {g : Nat → T → T} {a : S} {b : T} (h0 : R 0 a b) : ∀ n, (∀ i v w, i < n → R i v w → R (i + 1) (f i v) (g i w)) → R n (upTo f a n) (upTo g b n)
  | 0, _ => h0
  | n + 1, h => h n _ _ (Nat.lt_succ_self n) (upTo_rel h0 n (fun i v w hi => h i v w (by omega)))
theorem upTo_ind {S : Type} {R : Nat → S → Prop} {f : Nat → S → S} {a : S} (h0 : R 0 a) : ∀ n, (∀ i v, i < n → R i v → R (i + 1) (f i v)) → R n (upTo f a n)
  | 0, _ => h0
  | n + 1, h => h n _ (Nat.lt_succ_self n) (upTo_ind h0 n (fun i v hi => h i v (by omega)))
theorem upTo_congr {S : Type} {f g : Nat → S → S} {a : S} : ∀ n, (∀ i v, i < n → f i v = g i v) → upTo f a n = upTo g a n
  | 0, _ => rfl
  | n + 1, h => by
    show f n (upTo f a n) = g n (upTo g a n)
    rw [upTo_congr n (fun i v hi => h i v (by omega)), h n _ (by omega)]
theorem fstK_congr {c d : Nat → Bool} : ∀ n i, (∀ k, i ≤ k → k < i + n → c k = d k) → fstK c i n = fstK d i n
  | 0, _, _ => rfl
  | n + 1, i, h => by
    show (if c i then i else fstK c (i + 1) n) = (if d i then i else fstK d (i + 1) n)
    rw [h i (by omega) (by omega), fstK_congr n (i + 1) (fun k h1 h2 => h k (by omega) (by omega))]
/-- where the first hit stands: none, or a place with c, and none ahead of it -/
theorem fstK_spec {c : Nat → Bool} : ∀ n i, (fstK c i n = i + n ∧ ∀ k, i ≤ k → k < i + n → c k = false) ∨ (i ≤ fstK c i n ∧ fstK c i n < i + n ∧ c (fstK c i n) = true)
  | 0, i => Or.inl ⟨rfl, fun k h1 h2 => by omega⟩
  | n + 1, i => by
    by_cases h : c i = true
    · right
      have e : fstK c i (n + 1) = i := if_pos h
      rw [e]
      exact ⟨Nat.le_refl _, by omega, h⟩
    · have e : fstK c i (n + 1) = fstK c (i + 1) n := if_neg h
      rw [e]
      rcases fstK_spec (c := c) n (i + 1) with h1 | h1
      · left
        refine ⟨by omega, fun k h2 h3 => ?_⟩
        by_cases e2 : k = i
        · subst e2
          exact Bool.eq_false_iff.mpr h
        · exact h1.2 k (by omega) (by omega)
      · right
        exact ⟨by omega, by omega, h1.2.2⟩
/-! bits -/
def bt (x : Int32) (k : Nat) : Bool := x.toBitVec.getLsbD k
theorem bt_0 (k : Nat) : bt 0 k = false := by
  show (0#32).getLsbD k = false
  simp
theorem bt_ge (x : Int32) {k : Nat} (h : 32 ≤ k) : bt x k = false := BitVec.getLsbD_of_ge _ _ h
theorem bt_or (x y : Int32) (k : Nat) : bt (x ||| y) k = (bt x k || bt y k) := by
  unfold bt
  rw [Int32.toBitVec_or, BitVec.getLsbD_or]
theorem bt_and (x y : Int32) (k : Nat) : bt (x &&& y) k = (bt x k && bt y k) := by
  unfold bt
  rw [Int32.toBitVec_and, BitVec.getLsbD_and]
theorem bt_not (x : Int32) {k : Nat} (hk : k < 32) : bt (x ^^^ (-1)) k = !(bt x k) := by
  unfold bt
  rw [Int32.toBitVec_xor, BitVec.getLsbD_xor]
  have h : ∀ k, k < 32 → (-1 : Int32).toBitVec.getLsbD k = true := by decide +kernel
  rw [h k hk]
  simp
theorem bt_one {i : Nat} (hi : i < 32) (k : Nat) : bt ((1 : Int32) <<< ((nI i) &&& 31)) k = decide (k = i) := by
  by_cases hk : k < 32
  · have h : ∀ i, i < 32 → ∀ k, k < 32 → bt ((1 : Int32) <<< ((nI i) &&& 31)) k = decide (k = i) := by decide +kernel
    exact h i hi k hk
  · rw [bt_ge _ (by omega)]
    exact (decide_eq_false (by omega)).symm
theorem bt_ext {x y : Int32} (h : ∀ k, k < 32 → bt x k = bt y k) : x = y :=
  Int32.toBitVec_inj.mp (BitVec.eq_of_getLsbD_eq (fun i hi => h i hi))
theorem bt_nI {n : Nat} (hn : n < 2 ^ 32) (k : Nat) : bt (nI n) k = n.testBit k := by
  show (nI n).toBitVec.toNat.testBit k = _
  rw [pk_tn hn]
theorem ones_bit {x : Int32} {i : Nat} (hi : i < 32) : ((x >>> ((nI i) &&& 31)) &&& 1) = if bt x i then 1 else 0 := by
  have hs : ∀ i, i < 32 → (((nI i) &&& 31).toBitVec.smod 32).toNat = i := by decide +kernel
  have h2 : ∀ k, bt (1 : Int32) k = decide (k = 0) := fun k => by
    by_cases hk : k < 32
    · have h : ∀ k, k < 32 → bt (1 : Int32) k = decide (k = 0) := by decide +kernel
      exact h k hk
    · rw [bt_ge _ (by omega)]
      exact (decide_eq_false (by omega)).symm
  have h3 : bt (x >>> ((nI i) &&& 31)) 0 = bt x i := by
    show (x.toBitVec.sshiftRight (((nI i) &&& 31).toBitVec.smod 32).toNat).getLsbD 0 = _
    rw [hs i hi, BitVec.getLsbD_sshiftRight]
    unfold bt
    simp [hi]
  refine bt_ext (fun k hk => ?_)
  rw [bt_and, h2]
  by_cases h0 : k = 0
  · subst h0
    rw [h3]
    by_cases hb : bt x i = true
    · rw [if_pos hb, hb, h2]
      rfl
    · rw [if_neg hb, bt_0, Bool.eq_false_iff.mpr hb]
      rfl
  · rw [decide_eq_false h0, Bool.and_false]
    by_cases hb : bt x i = true
    · rw [if_pos hb, h2, decide_eq_false h0]
    · rw [if_neg hb, bt_0]
theorem ones_cnt (x : Int32) : zX8_ones x = nI (cnt (bt x) 24) := by
  have h : ∀ n, n ≤ 32 → upTo (bX8_ones x) 0 n = nI (cnt (bt x) n) := by
    intro n
    induction n with
    | zero => intro _; rfl
    | succ n ih =>
      intro hn
      show bX8_ones x n (upTo (bX8_ones x) 0 n) = _
      rw [ih (by omega)]
      show nI (cnt (bt x) n) + ((x >>> ((nI n) &&& 31)) &&& 1) = nI (cnt (bt x) n + _)
      rw [ones_bit (by omega), ← nI_add]
      by_cases hb : bt x n = true
      · rw [if_pos hb, if_pos hb]; rfl
      · rw [if_neg hb, if_neg hb]; rfl
  exact h 24 (by decide)
/-! Integer.bitCount of a set of 24 -/
theorem ld8 {a m Y K : Nat} (ha : a < 256) (hm : m < 256) : (a + 256 * Y) &&& (m + 256 * K) = (a &&& m) + 256 * (Y &&& K) := by
  have h1 : ((a + 256 * Y) &&& (m + 256 * K)) % 2 ^ 8 = ((a + 256 * Y) % 2 ^ 8) &&& ((m + 256 * K) % 2 ^ 8) := Nat.and_mod_two_pow
  have h2 : ((a + 256 * Y) &&& (m + 256 * K)) / 2 ^ 8 = ((a + 256 * Y) / 2 ^ 8) &&& ((m + 256 * K) / 2 ^ 8) := Nat.and_div_two_pow
  rw [show (2 : Nat) ^ 8 = 256 from rfl] at h1 h2
  rw [show (a + 256 * Y) % 256 = a by omega, show (m + 256 * K) % 256 = m by omega] at h1
  rw [show (a + 256 * Y) / 256 = Y by omega, show (m + 256 * K) / 256 = K by omega] at h2
  have h3 := Nat.mod_add_div ((a + 256 * Y) &&& (m + 256 * K)) 256
  rw [h1, h2] at h3
  exact h3.symm
def e1 (a : Nat) : Nat := a - ((a / 2) &&& 85)
def e2 (w : Nat) : Nat := (w &&& 51) + ((w / 4) &&& 51)
def e3 (w : Nat) : Nat := (w + w / 16) &&& 15
theorem by1 : ∀ a, a < 256 → ∀ y, y < 2 → (a / 2 + 128 * y) &&& 85 = (a / 2) &&& 85 := by decide +kernel
theorem by2 : ∀ a, a < 256 → ∀ y, y < 4 → (a / 4 + 64 * y) &&& 51 = (a / 4) &&& 51 := by decide +kernel
theorem by3 : ∀ a, a < 137 → ∀ y, y < 5 → (a + a / 16 + 16 * y) &&& 15 = (a + a / 16) &&& 15 := by decide +kernel
theorem by4 : ∀ a, a < 256 → e1 a < 256 ∧ e2 (e1 a) ≤ 68 ∧ e2 (e1 a) % 16 ≤ 4 ∧ e3 (e2 (e1 a)) = cnt (Nat.testBit a) 8 ∧ (a / 2) &&& 85 ≤ a := by decide +kernel
theorem st1 {a Y K : Nat} (ha : a < 256) (hY : (Y / 2) &&& K ≤ Y) : (a + 256 * Y) - (((a + 256 * Y) / 2) &&& (85 + 256 * K)) = e1 a + 256 * (Y - ((Y / 2) &&& K)) := by
  have h0 : (a + 256 * Y) / 2 = (a / 2 + 128 * (Y % 2)) + 256 * (Y / 2) := by omega
  rw [h0, ld8 (by omega) (by decide), by1 a ha _ (by omega)]
  have h1 := (by4 a ha).2.2.2.2
  unfold e1
  omega
theorem st2 {w V K : Nat} (hw : w < 256) : ((w + 256 * V) &&& (51 + 256 * K)) + (((w + 256 * V) / 4) &&& (51 + 256 * K)) = e2 w + 256 * ((V &&& K) + ((V / 4) &&& K)) := by
  have h0 : (w + 256 * V) / 4 = (w / 4 + 64 * (V % 4)) + 256 * (V / 4) := by omega
  rw [h0, ld8 hw (by decide), ld8 (by omega) (by decide), by2 w hw _ (by omega)]
  unfold e2
  omega
theorem st3 {w V K : Nat} (hw : w ≤ 68) (hV : V % 16 ≤ 4) : ((w + 256 * V) + (w + 256 * V) / 16) &&& (15 + 256 * K) = e3 w + 256 * ((V + V / 16) &&& K) := by
  have h0 : (w + 256 * V) + (w + 256 * V) / 16 = (w + w / 16 + 16 * (V % 16)) + 256 * (V + V / 16) := by omega
  rw [h0, ld8 (by omega) (by decide), by3 w (by omega) _ (by omega)]
  rfl
def zN (X : Nat) : Nat :=
  let w1 := X - ((X / 2) &&& 1431655765)
  let w2 := (w1 &&& 858993459) + ((w1 / 4) &&& 858993459)
  let w3 := (w2 + w2 / 16) &&& 252645135
  let w4 := w3 + w3 / 256
  let w5 := w4 + w4 / 65536
  w5 % 64
theorem half_and (Y K : Nat) : (Y / 2) &&& K ≤ Y := Nat.le_trans Nat.and_le_left (Nat.div_le_self _ _)
theorem zN_cnt {X : Nat} (hX : X < 2 ^ 24) : zN X = cnt (Nat.testBit X) 24 := by
  obtain ⟨a, b, c, ha, hb, hc, e⟩ : ∃ a b c, a < 256 ∧ b < 256 ∧ c < 256 ∧ X = a + 256 * (b + 256 * (c + 256 * 0)) := ⟨X % 256, X / 256 % 256, X / 65536, by omega, by omega, by omega, by omega⟩
  obtain ⟨a1, a2, a3, a4, -⟩ := by4 a ha
  obtain ⟨b1, b2, b3, b4, -⟩ := by4 b hb
  obtain ⟨c1, c2, c3, c4, -⟩ := by4 c hc
  have w1 : X - ((X / 2) &&& 1431655765) = e1 a + 256 * (e1 b + 256 * (e1 c + 256 * 0)) := by
    rw [e, show (1431655765 : Nat) = 85 + 256 * (85 + 256 * (85 + 256 * 85)) from rfl, st1 ha (half_and _ _), st1 hb (half_and _ _), st1 hc (half_and _ _)]
    rfl
  have w2 : ((e1 a + 256 * (e1 b + 256 * (e1 c + 256 * 0))) &&& 858993459) + (((e1 a + 256 * (e1 b + 256 * (e1 c + 256 * 0))) / 4) &&& 858993459) = e2 (e1 a) + 256 * (e2 (e1 b) + 256 * (e2 (e1 c) + 256 * 0)) := by
    rw [show (858993459 : Nat) = 51 + 256 * (51 + 256 * (51 + 256 * 51)) from rfl, st2 a1, st2 b1, st2 c1]
    rfl
  have w3 : ((e2 (e1 a) + 256 * (e2 (e1 b) + 256 * (e2 (e1 c) + 256 * 0))) + (e2 (e1 a) + 256 * (e2 (e1 b) + 256 * (e2 (e1 c) + 256 * 0))) / 16) &&& 252645135 = e3 (e2 (e1 a)) + 256 * (e3 (e2 (e1 b)) + 256 * (e3 (e2 (e1 c)) + 256 * 0)) := by
    rw [show (252645135 : Nat) = 15 + 256 * (15 + 256 * (15 + 256 * 15)) from rfl, st3 a2 (by omega), st3 b2 (by omega), st3 c2 (by omega)]
    rfl
  have t : cnt (Nat.testBit X) 24 = cnt (Nat.testBit a) 8 + (cnt (Nat.testBit b) 8 + cnt (Nat.testBit c) 8) := by
    rw [show (24 : Nat) = 8 + (8 + 8) from rfl, cnt_add, cnt_add]
    have f0 : cnt (Nat.testBit X) 8 = cnt (Nat.testBit a) 8 := cnt_congr (fun i hi => by
      have h := Nat.testBit_mod_two_pow X 8 i
      rw [show X % 2 ^ 8 = a by omega] at h
      rw [h, decide_eq_true hi, Bool.true_and])
    have f1 : cnt (fun i => Nat.testBit X (8 + i)) 8 = cnt (Nat.testBit b) 8 := cnt_congr (fun i hi => by
      have h := Nat.testBit_mod_two_pow (X / 2 ^ 8) 8 i
      rw [show X / 2 ^ 8 % 2 ^ 8 = b by omega, Nat.testBit_div_two_pow] at h
      rw [h, decide_eq_true hi, Bool.true_and]
      first | rfl | rw [Nat.add_comm])
    have f2 : cnt (fun i => Nat.testBit X (8 + (8 + i))) 8 = cnt (Nat.testBit c) 8 := cnt_congr (fun i hi => by
      have h := Nat.testBit_mod_two_pow (X / 2 ^ 16) 8 i
      rw [show X / 2 ^ 16 % 2 ^ 8 = c by omega, Nat.testBit_div_two_pow] at h
      rw [h, decide_eq_true hi, Bool.true_and]
      exact congrArg _ (by omega))
    rw [f0, f1, f2]
  have l1 := cnt_le (Nat.testBit a) 8
  have l2 := cnt_le (Nat.testBit b) 8
  have l3 := cnt_le (Nat.testBit c) 8
  unfold zN
  simp only [w1, w2, w3]
  rw [t, a4, b4, c4]
  generalize cnt (Nat.testBit a) 8 = A at l1
  generalize cnt (Nat.testBit b) 8 = B at l2
  generalize cnt (Nat.testBit c) 8 = C at l3
  have d1 : (A + 256 * (B + 256 * (C + 256 * 0))) / 256 = B + 256 * C := by omega
  rw [d1]
  have d2 : (A + 256 * (B + 256 * (C + 256 * 0)) + (B + 256 * C)) / 65536 = C := by omega
  rw [d2]
  omega
theorem nI_land {a b : Nat} (ha : a < 2 ^ 32) (hb : b < 2 ^ 32) : nI a &&& nI b = nI (a &&& b) := by
  refine bt_ext (fun k hk => ?_)
  rw [bt_and, bt_nI ha, bt_nI hb, bt_nI (Nat.lt_of_le_of_lt Nat.and_le_left ha), Nat.testBit_and]
theorem us_of (n k : Nat) (hn : n < 2 ^ 32) (s : Int32) (hs : ((s.toUInt32 &&& Int32.toUInt32 31).toBitVec % 32).toNat = k) {r : Nat} (hr : n / 2 ^ k = r) : ((nI n).toUInt32 >>> (s.toUInt32 &&& Int32.toUInt32 31)).toInt32 = nI r := by
  rw [pk_ushrN hn s k hs, hr]
theorem zbc_cnt {x : Int32} (hx : ∀ k, 24 ≤ k → bt x k = false) : zbc x = nI (cnt (bt x) 24) := by
  have hX : x.toBitVec.toNat < 2 ^ 24 := by
    apply Nat.lt_pow_two_of_testBit
    intro k hk
    exact hx k hk
  have ex : x = nI x.toBitVec.toNat := by
    refine bt_ext (fun k hk => ?_)
    rw [bt_nI x.toBitVec.isLt]
    rfl
  generalize x.toBitVec.toNat = X at hX ex
  subst ex
  have hc : cnt (bt (nI X)) 24 = cnt (Nat.testBit X) 24 := cnt_congr (fun i _ => bt_nI (by omega) i)
  rw [hc, ← zN_cnt hX]
  have m1 : (1431655765 : Int32) = nI 1431655765 := rfl
  have m2 : (858993459 : Int32) = nI 858993459 := rfl
  have m3 : (252645135 : Int32) = nI 252645135 := rfl
  have k1 : (X / 2) &&& 1431655765 ≤ X := half_and _ _
  have k2 : ∀ w, w &&& 858993459 ≤ 858993459 := fun w => Nat.and_le_right
  have k3 : ∀ w, w &&& 252645135 ≤ 252645135 := fun w => Nat.and_le_right
  unfold zbc zN
  simp only []
  rw [us_of X 1 (by omega) 1 (by decide) (r := X / 2) rfl, m1, nI_land (by omega) (by decide), pk_sub k1]
  generalize e1' : X - ((X / 2) &&& 1431655765) = w1
  have h1 : w1 < 2 ^ 24 := by omega
  rw [us_of w1 2 (by omega) 2 (by decide) (r := w1 / 4) rfl, m2, nI_land (by omega) (by decide), nI_land (by omega) (by decide), nI_add]
  generalize e2' : (w1 &&& 858993459) + ((w1 / 4) &&& 858993459) = w2
  have h2 : w2 < 2 ^ 31 := by
    have := k2 w1
    have := k2 (w1 / 4)
    omega
  rw [us_of w2 4 (by omega) 4 (by decide) (r := w2 / 16) rfl, m3, nI_add, nI_land (by omega) (by decide)]
  generalize e3' : (w2 + w2 / 16) &&& 252645135 = w3
  have h3 : w3 ≤ 252645135 := by
    have := k3 (w2 + w2 / 16)
    omega
  rw [us_of w3 8 (by omega) 8 (by decide) (r := w3 / 256) rfl, nI_add]
  rw [us_of (w3 + w3 / 256) 16 (by omega) 16 (by decide) (r := (w3 + w3 / 256) / 65536) rfl, nI_add]
  rw [pk_andN (by omega) 6 (by decide)]
/-- both ways to count a set of 24 -/
theorem zbc_ones {x : Int32} (hx : ∀ k, 24 ≤ k → bt x k = false) : zbc x = zX8_ones x := (zbc_cnt hx).trans (ones_cnt x).symm
/-- a set, made by a loop -/
def bset (p : Nat → Bool) (i : Nat) (v : Int32) : Int32 := if p i then v ||| ((1 : Int32) <<< ((nI i) &&& 31)) else v
theorem bt_bset {p : Nat → Bool} : ∀ {n : Nat}, n ≤ 32 → ∀ k, bt (upTo (bset p) 0 n) k = (decide (k < n) && p k)
  | 0, _, k => by
    show bt 0 k = _
    rw [bt_0, decide_eq_false (by omega), Bool.false_and]
  | n + 1, hn, k => by
    have ih := bt_bset (p := p) (n := n) (by omega) k
    show bt (if p n then _ else _) k = _
    by_cases hp : p n = true
    · rw [if_pos hp, bt_or, ih, bt_one (by omega)]
      by_cases e : k = n
      · subst e
        rw [hp]
        simp
      · rw [decide_eq_false e, Bool.or_false]
        congr 1
        exact decide_eq_decide.mpr (by omega)
    · rw [if_neg hp, ih]
      by_cases e : k = n
      · subst e
        rw [Bool.eq_false_iff.mpr hp, Bool.and_false, Bool.and_false]
      · congr 1
        exact decide_eq_decide.mpr (by omega)
theorem cnt_ext {p : Nat → Bool} {n : Nat} : ∀ d, cnt (fun k => decide (k < n) && p k) (n + d) = cnt p n
  | 0 => cnt_congr (fun i hi => by rw [decide_eq_true (by omega), Bool.true_and])
  | d + 1 => by
    show cnt (fun k => decide (k < n) && p k) (n + d) + (if (decide (n + d < n) && p (n + d)) = true then 1 else 0) = _
    rw [cnt_ext d, if_neg (show ¬ (decide (n + d < n) && p (n + d)) = true by rw [decide_eq_false (by omega), Bool.false_and]; decide)]
    rfl
theorem ones_bset {p : Nat → Bool} {n : Nat} (hn : n ≤ 24) : zX8_ones (upTo (bset p) 0 n) = nI (cnt p n) := by
  rw [ones_cnt, cnt_congr (q := fun k => decide (k < n) && p k) (fun i _ => bt_bset (by omega) i)]
  have h := cnt_ext (p := p) (n := n) (24 - n)
  rw [show n + (24 - n) = 24 by omega] at h
  rw [h]
theorem zbc_bset {p : Nat → Bool} {n : Nat} (hn : n ≤ 24) : zbc (upTo (bset p) 0 n) = nI (cnt p n) := by
  rw [zbc_ones (fun k hk => by rw [bt_bset (by omega), decide_eq_false (by omega), Bool.false_and]), ones_bset hn]
/-- one bit more -/
theorem ones_more {x : Int32} {i : Nat} (hi : i < 24) (h : bt x i = false) : zX8_ones (x ||| ((1 : Int32) <<< ((nI i) &&& 31))) = zX8_ones x + 1 := by
  rw [ones_cnt, ones_cnt, cnt_one (p := bt x) (a := i) (fun k hk => by rw [bt_or, bt_one (by omega), decide_eq_false hk, Bool.or_false]) h (by rw [bt_or, bt_one (by omega), decide_eq_true rfl, Bool.or_true]) hi, nI_1]
