/-! WHAT THE LAW'S ACTS COME TO -/
theorem low_nn (x : Int32) : ¬ (x &&& 2147483647) < 0 := by
  intro h
  rw [Int32.lt_iff_toInt_lt] at h
  have z : (0 : Int32).toInt = 0 := by decide
  rw [z] at h
  have e : (x &&& 2147483647).toBitVec.msb = false := by
    rw [Int32.toBitVec_and, BitVec.msb_and]
    have q : (2147483647 : Int32).toBitVec.msb = false := by decide
    rw [q, Bool.and_false]
  rw [BitVec.msb_eq_toInt] at e
  have h2 : (x &&& 2147483647).toBitVec.toInt < 0 := h
  rw [decide_eq_true h2] at e
  exact absurd e (by decide)
theorem low_n (x : Int32) {d : Nat} (h0 : 0 < d) (hd : d < 2 ^ 31) : ∃ k : Nat, k < d ∧ zL_low x (nI d) = nI k := by
  obtain ⟨a, ha, ea⟩ := nI_of (low_nn x)
  refine ⟨a % d, Nat.mod_lt _ h0, ?_⟩
  unfold zL_low
  rw [ea, pk_rem ha h0 hd]
theorem low_5 (x : Int32) : ∃ N : Nat, N ≤ 4 ∧ zL_low x 5 = nI N := by
  obtain ⟨k, h1, h2⟩ := low_n x (d := 5) (by decide) (by decide)
  exact ⟨k, by omega, h2⟩
theorem low_4 (x : Int32) : ∃ v : Nat, v ≤ 9999 ∧ zL_low x 4 = nI v := by
  obtain ⟨k, h1, h2⟩ := low_n x (d := 4) (by decide) (by decide)
  exact ⟨k, by omega, h2⟩
theorem low_r {r : Int32} (h : r = 12 ∨ r = 3) : ¬ r = 0 := by
  rcases h with h | h <;> subst h <;> decide
theorem low_f {x r : Int32} (h : r = 12 ∨ r = 3) : ∃ v : Nat, v ≤ 11 ∧ zL_low x r = nI v := by
  rcases h with h | h <;> subst h
  · obtain ⟨k, h1, h2⟩ := low_n x (d := 12) (by decide) (by decide)
    exact ⟨k, by omega, h2⟩
  · obtain ⟨k, h1, h2⟩ := low_n x (d := 3) (by decide) (by decide)
    exact ⟨k, by omega, h2⟩
theorem le_nlt {x : Int32} (h : 0 ≤ x) : ¬ x < 0 := by
  rw [Int32.le_iff_toInt_le] at h
  rw [Int32.lt_iff_toInt_lt]
  omega
/-- a number that names a row, or the one behind the last -/
def KB (Ω : Og) (j : Nat) (k : Int32) : Prop := ∃ q : Nat, q ≤ (Ω 0 5 j).toNatClampNeg ∧ k = nI q
section
variable {Ω : Og}
theorem rows_n (hI : InvO Ω) (j : Nat) (hj : j < 4) : zX3_total (Ω 0) (nI j) = nI (Ω 0 5 j).toNatClampNeg ∧ (Ω 0 5 j).toNatClampNeg ≤ 24 := by
  obtain ⟨nl, nm, np, nv, t, h⟩ := hI.2.1 0 (by decide) (by decide)
  obtain ⟨r0, r1, r2, r3, r5, q0, q1, q2, q3, q5⟩ := h.1
  obtain ⟨t0, t1, t2, t3, -⟩ := tot_n h
  match j, hj with
  | 0, _ => rw [r0, nI_clamp (by omega)]; exact ⟨t0, by omega⟩
  | 1, _ => rw [r1, nI_clamp (by omega)]; exact ⟨t1, by omega⟩
  | 2, _ => rw [r2, nI_clamp (by omega)]; exact ⟨t2, by omega⟩
  | 3, _ => rw [r3, nI_clamp (by omega)]; exact ⟨t3, by omega⟩
theorem tot_ne (hI : InvO Ω) (j : Nat) (hj : j < 4 := by decide) : ¬ zX3_total (Ω 0) (nI j) + 1 = 0 := by
  obtain ⟨e, h⟩ := rows_n hI j hj
  rw [e, nI_1]
  exact nI_ne0 (by omega) (by omega)
theorem low_k (hI : InvO Ω) (j : Nat) (hj : j < 4) (x : Int32) : KB Ω j (zL_low x (zX3_total (Ω 0) (nI j) + 1)) := by
  obtain ⟨e, h⟩ := rows_n hI j hj
  rw [e, nI_1]
  obtain ⟨k, h1, h2⟩ := low_n x (d := (Ω 0 5 j).toNatClampNeg + 1) (by omega) (by omega)
  exact ⟨k, by omega, h2⟩
theorem low_m (hI : InvO Ω) (h : ¬ zX3_total (Ω 0) 1 = 0) (x : Int32) : ∃ v : Nat, v ≤ 23 ∧ zL_low x (zX3_total (Ω 0) 1) = nI v := by
  obtain ⟨e, h24⟩ := rows_n hI 1 (by decide)
  have e : zX3_total (Ω 0) 1 = nI (Ω 0 5 1).toNatClampNeg := e
  rw [e] at h ⊢
  generalize (Ω 0 5 1).toNatClampNeg = n at h h24
  have h0 : 0 < n := by
    rcases Nat.eq_zero_or_pos n with z | z
    · subst z; exact absurd rfl h
    · exact z
  obtain ⟨k, h1, h2⟩ := low_n x h0 (by omega)
  exact ⟨k, by omega, h2⟩
theorem code_m (hI : InvO Ω) {x : Int32} (h : ¬ zX3_ofMeal (Ω 0) x 4 < 0) : ∃ v : Nat, v ≤ 9999 ∧ zX3_ofMeal (Ω 0) x 4 = nI v := by
  obtain ⟨nl, nm, np, nv, t, k⟩ := hI.2.1 0 (by decide) (by decide)
  obtain ⟨r0, r1, r2, r3, r5, q0, q1, q2, q3, q5⟩ := k.1
  by_cases c : zX5_has (Ω 0 5 1) x = 0
  · have e : zX3_ofMeal (Ω 0) x 4 = -1 := by unfold zX3_ofMeal; rw [if_pos c]
    rw [e] at h
    exact absurd (by decide) h
  · obtain ⟨m, hm, em⟩ := has_n (r := nm) (by omega) (by rw [← r1]; exact c)
    subst em
    obtain ⟨-, -, -, e4, -, -⟩ := oM_at k hm
    by_cases s1 : ce 8 (Ω 0 1) m 0 = 1
    · obtain ⟨-, -, m3⟩ := k.2.1 m hm
      obtain ⟨⟨c, g1, g2, g3⟩, -⟩ := m3 s1
      exact ⟨c, g2, by rw [e4, if_pos s1, g3]⟩
    · rw [e4, if_neg s1] at h
      exact absurd (by decide) h
theorem nI_nneg {a : Nat} (ha : a < 2 ^ 31) {x : Int32} (hx : x < 0) : ¬ nI a = x := fun e => nI_pos ha (by rw [e]; exact hx)
theorem act_meal (hI : InvO Ω) {k i who v : Int32} (hk : KB Ω 0 k) (hi : KB Ω 1 i) (hw : KB Ω 2 who) (hv : KB Ω 3 v) (y2 : Int32) : (zA_meal Ω y2 k i who v).1 = 1 ∧ InvO (zA_meal Ω y2 k i who v).2 ∧ HSt Ω (zA_meal Ω y2 k i who v).2 := by
  obtain ⟨nl, nm, np, nv, t, h⟩ := hI.2.1 0 (by decide) (by decide)
  obtain ⟨r0, r1, r2, r3, r5, q0, q1, q2, q3, q5⟩ := h.1
  obtain ⟨t0, t1, t2, t3, t4, t5, t6, t7, t8, t9, t10⟩ := tot_n h
  obtain ⟨kk, hkk, rfl⟩ := hk
  rw [r0, nI_clamp (by omega)] at hkk
  obtain ⟨hh, hh1, eh⟩ := low_n y2 (d := 45) (by decide) (by decide)
  obtain ⟨ss, ss1, es⟩ := low_n (y2 >>> (6 &&& 31)) (d := 34) (by decide) (by decide)
  have eh : zL_low y2 45 = nI hh := eh
  have es : zL_low (y2 >>> (6 &&& 31)) 34 = nI ss := es
  obtain ⟨p1, p2, p3, -⟩ := pub_meal hI (nI kk) (nI hh) (nI ss)
  have op := op_meal h (nI kk) (nI hh) (nI ss)
  rw [← p1] at op
  suffices key : zA_meal Ω y2 (nI kk) i who v = (1, (zX7_meal Ω (nI kk) (nI hh) (nI ss)).2) by
    rw [key]; exact ⟨rfl, p2, p3⟩
  unfold zA_meal
  rw [eh, es, t0, t1, t4]
  have u7 : (0 : Int32) ≤ nI t := nI_pos' (by omega)
  have eq1 : ∀ x, zX0_addMeal (Ω 0) (nI kk) (nI hh) (nI ss) = (x, Ω 0) → (zX7_meal Ω (nI kk) (nI hh) (nI ss)).1 = x := fun x e => p1.trans (congrArg Prod.fst e)
  by_cases c1 : kk < nl
  rotate_left
  · have c2 : nI kk = nI nl := congrArg nI (by omega)
    have e : (zX7_meal Ω (nI kk) (nI hh) (nI ss)).1 = -1 := by
      rcases op with ⟨-, e⟩ | ⟨e, -⟩
      · exact eq1 _ e
      · rw [r0, has_f (by omega) (by omega), if_neg c1] at e; exact absurd rfl e
    simp only [if_pos c2, if_pos e, ite_self]
  have c2 : ¬ nI nl ≤ nI kk := fun z => by have := (nI_leI (by omega) (by omega)).mp z; omega
  have c3 : ¬ nI kk = nI nl := fun z => by have := nI_inj (by omega) (by omega) z; omega
  by_cases c4 : nI hh = 0
  · have e : (zX7_meal Ω (nI kk) (nI hh) (nI ss)).1 = -1 := by
      rcases op with ⟨-, e⟩ | ⟨-, e, -⟩
      · exact eq1 _ e
      · rw [c4] at e; exact absurd (by decide) e
    simp only [if_neg c2, if_neg c3, if_pos c4, if_pos e]
  by_cases c5 : nI ss ≤ 31
  rotate_left
  · have e : (zX7_meal Ω (nI kk) (nI hh) (nI ss)).1 = -1 := by
      rcases op with ⟨-, e⟩ | ⟨-, -, e, -⟩
      · exact eq1 _ e
      · obtain ⟨j, j1, j2, j3⟩ := wi_n (a := 0) (b := 31) (by decide) (by decide) e
        have := nI_inj (by omega) (by omega) j3
        exact absurd (nI_le (a := ss) (b := 31) (by omega) (by decide)) c5
    simp only [if_neg c2, if_neg c3, if_neg c4, if_neg c5, if_pos e]
  have c6 : ss ≤ 31 := (nI_leI (a := ss) (b := 31) (by omega) (by decide)).mp c5
  have c7 : 1 ≤ hh := by
    rcases Nat.eq_zero_or_pos hh with z | z
    · subst z; exact absurd rfl c4
    · exact z
  rcases op with ⟨e, -⟩ | ⟨-, -, -, e | ⟨e24, e⟩ | ⟨-, e, -⟩⟩
  · exfalso
    rcases e with e | e | e
    · rw [r0, has_f (by omega) (by omega), if_pos c1] at e; exact absurd e (by decide)
    · rw [wi_t (x := nI hh) (a := 1) (b := 99) (by rw [nI_toInt (by omega)]; have : (1 : Int32).toInt = 1 := by decide
                                                   omega) (by rw [nI_toInt (by omega)]; have : (99 : Int32).toInt = 99 := by decide
                                                              omega)] at e
      exact absurd e (by decide)
    · rw [wi_t (x := nI ss) (a := 0) (b := 31) (by rw [nI_toInt (by omega)]; have : (0 : Int32).toInt = 0 := by decide
                                                   omega) (by rw [nI_toInt (by omega)]; have : (31 : Int32).toInt = 31 := by decide
                                                              omega)] at e
      exact absurd e (by decide)
  · have e := eq1 _ e
    have n1 : ¬ (zX7_meal Ω (nI kk) (nI hh) (nI ss)).1 = nI nm := by rw [e]; exact fun z => nI_nneg (a := nm) (by omega) (x := -2) (by decide) z.symm
    simp only [if_neg c2, if_neg c3, if_neg c4, if_pos c5, if_neg n1, if_pos e]
  · have e := eq1 _ e
    have n1 : ¬ (zX7_meal Ω (nI kk) (nI hh) (nI ss)).1 = nI nm := by rw [e]; exact fun z => nI_nneg (a := nm) (by omega) (x := -3) (by decide) z.symm
    have n2 : ¬ (zX7_meal Ω (nI kk) (nI hh) (nI ss)).1 = -2 := by rw [e]; decide
    have n3 : nI nm = 24 := by rw [e24]; rfl
    simp only [if_neg c2, if_neg c3, if_neg c4, if_pos c5, if_neg n1, if_neg n2, if_pos e, if_pos n3]
  · have e : (zX7_meal Ω (nI kk) (nI hh) (nI ss)).1 = nI nm := e
    simp only [if_neg c2, if_neg c3, if_neg c4, if_pos c5, if_pos e, if_pos u7]
end
