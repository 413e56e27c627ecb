/-! WHAT THE LAW ASKS OF A STATE HOLDS -/
theorem sh_ok : ∀ a : Nat, a < 25 → ∀ b : Nat, b < 25 → (!(decide (0 < b) && decide (a ≤ b)) || (fn32 (FP.fdiv (FP.i2f (nI a)) (FP.i2f (nI b))) && okfb 5 (FP.fdiv (FP.i2f (nI a)) (FP.i2f (nI b))) && !decide (zX3_floatBits (FP.fdiv (FP.i2f (nI a)) (FP.i2f (nI b))) = -4))) = true := by decide +kernel
section
variable {σ : Sg} {nl nm np nv t B : Nat} {W : Nat → Nat}
theorem gone_n (h : InvN σ nl nm np nv t B W) : ∃ a b : Nat, a ≤ b ∧ b ≤ 24 ∧ zX3_mealsAtStages σ 3 3 = nI a ∧ zX3_mealsAtStages σ 3 5 = nI b ∧ cnt (inq (σ 1) 0 1) nm + cnt (inq (σ 1) 2 2) nm + b = nm := by
  obtain ⟨r0, r1, r2, r3, r5, q0, q1, q2, q3, q5⟩ := h.1
  obtain ⟨e1, e2⟩ := part5 (f := σ 1) nm (fun m hm => (h.2.1 m hm).1)
  exact ⟨cnt (inq (σ 1) 3 3) nm, cnt (inq (σ 1) 3 5) nm, by omega, by omega, ms_n r1 q1 3 3, ms_n r1 q1 3 5, by omega⟩
theorem sh_2 {a b : Nat} (hb : b ≤ 24) (h0 : 0 < b) (hab : a ≤ b) : vf_n32 (FP.fdiv (FP.i2f (nI a)) (FP.i2f (nI b))) ∧ okfb 5 (FP.fdiv (FP.i2f (nI a)) (FP.i2f (nI b))) = true ∧ ¬ zX3_floatBits (FP.fdiv (FP.i2f (nI a)) (FP.i2f (nI b))) = -4 := by
  have e := sh_ok a (by omega) b (by omega)
  rw [decide_eq_true h0, decide_eq_true hab] at e
  simp only [Bool.and_self, Bool.not_true, Bool.false_or, Bool.and_eq_true, Bool.not_eq_true', decide_eq_false_iff_not] at e
  exact ⟨fn32_ok e.1.1, e.1.2, e.2⟩
theorem ok_sh (h : InvN σ nl nm np nv t B W) : okSh σ := by
  obtain ⟨a, b, hab, hb, e3, e5, -⟩ := gone_n h
  intro hc
  rw [e5] at hc ⊢
  rw [e3]
  have h0 : 0 < b := by
    rcases Nat.eq_zero_or_pos b with z | z
    · subst z; exact absurd (show nI 0 ≤ 0 by decide) hc
    · exact z
  have k := sh_2 hb h0 hab
  exact ⟨k.1, k.2.1⟩
theorem bits_n (h : InvN σ nl nm np nv t B W) : zX3_bitsOfFetchedShare σ = -4 ↔ cnt (inq (σ 1) 0 1) nm + cnt (inq (σ 1) 2 2) nm = nm := by
  obtain ⟨a, b, hab, hb, e3, e5, es⟩ := gone_n h
  unfold zX3_bitsOfFetchedShare
  rw [e3, e5]
  by_cases h0 : b = 0
  · subst h0
    rw [if_neg (show ¬ (0 : Int32) < nI 0 by decide)]
    exact ⟨fun _ => by omega, fun _ => rfl⟩
  · rw [if_pos (show (0 : Int32) < nI b from nI_lt (a := 0) (by omega) (by omega))]
    exact ⟨fun z => absurd z (sh_2 hb (by omega) hab).2.2, fun z => absurd z (by omega)⟩
theorem nlt_n {a b : Nat} (h : a ≤ b) (hb : b < 2 ^ 31) : ¬ nI b < nI a := by
  rw [nI_ltI hb (by omega)]
  omega
theorem neg4 {m : Nat} (hm : m < 2 ^ 31) : ¬ nI m = -4 := fun z => nI_pos hm (by rw [z]; decide)
theorem h1_ok (h : InvN σ nl nm np nv t B W) (hB : B < 1000000) {p : Nat} (hp : p < np) (v : Int32) : bh1 σ p v = some (if exB (rsv (σ 1) p) nm = true then v + 1 else v + 0) := by
  obtain ⟨r0, r1, r2, r3, r5, q0, q1, q2, q3, q5⟩ := h.1
  obtain ⟨a0, a1, a5, a2, a3⟩ := oP_at h hp
  obtain ⟨d, ed, hd⟩ := bar_n h hp
  obtain ⟨a, b, u, h1, h2, h3, h4, h5, h6, h7⟩ := h.2.2.2.1 p (by omega)
  have t1 : ¬ (99 : Int32) < zX3_ofPerson σ (nI p) 2 := by
    rw [a2, ed]
    exact nlt_n (a := d) (b := 99) hd (by decide)
  have t2 : ¬ (8 : Int32) < zX3_ofPerson σ (nI p) 1 := by
    rw [a1, h1]
    exact nlt_n (a := a) (b := 8) h4 (by decide)
  have t3 : zX3_ofPerson σ (nI p) 1 ≤ zX3_ofPerson σ (nI p) 5 := by
    rw [a1, a5, h1, h2]
    by_cases hb : b < 2 ^ 31
    · exact nI_le h5 hb
    · exact absurd h6 (by have := hB; omega)
  unfold bh1
  rcases mr_or r1 q1 p with ⟨k1, k2⟩ | ⟨m, hm, k1, k2⟩
  · rw [a3, k1, if_pos (by decide), if_pos rfl, if_neg t1, if_neg t2, if_pos t3, exB_f nm k2, if_neg (by decide)]
  · obtain ⟨s1, s5⟩ := rsv_t.mp k2
    obtain ⟨c0, c1, c3, c4, c5, c6⟩ := oM_at h hm
    obtain ⟨-, -, m3⟩ := h.2.1 m hm
    obtain ⟨⟨c, g1, g2, g3⟩, q, hq, eq, ea⟩ := m3 s1
    have epq : q = p := nI_inj (by omega) (by omega) (eq.symm.trans s5)
    subst epq
    have c4' : zX3_ofMeal σ (nI m) 4 = nI c := by rw [c4, if_pos s1, g3]
    have t4 : ¬ zX3_ofMeal σ (nI m) 4 < 1000 := by
      rw [c4']
      exact nlt_n (a := 1000) (b := c) g1 (by omega)
    have t5 : ¬ (9999 : Int32) < zX3_ofMeal σ (nI m) 4 := by
      rw [c4']
      exact nlt_n (a := c) (b := 9999) g2 (by decide)
    rw [a3, k1, if_neg (nI_pos (by omega)), if_neg (neg4 (by omega)), if_pos (c0.trans s1), if_pos ((c5 s1).trans s5), if_pos (by rw [c3, a0]; exact ea), if_neg t4, if_neg t5, if_neg t1, if_neg t2, if_pos t3, exB_t nm hm k2, if_pos rfl]
theorem h2_ok (h : InvN σ nl nm np nv t B W) : ∀ i, i ≤ nl → upTo (bh2 σ) (0, 0) i = (sumI (fun l => ce 9 (σ 0) l 3) i, sumI (fun l => ce 9 (σ 0) l 5) i)
  | 0, _ => rfl
  | i + 1, hi => by
    obtain ⟨e1, e2⟩ := oL_at h (l := i) (by omega)
    show bh2 σ i (upTo (bh2 σ) (0, 0) i) = _
    rw [h2_ok h i (by omega)]
    unfold bh2
    rw [e1, e2]
    rfl
theorem h3_ok (h : InvN σ nl nm np nv t B (fun _ => t)) {v : Nat} (hv : v < nv) : bh3 σ v = true := by
  obtain ⟨r0, r1, r2, r3, r5, q0, q1, q2, q3, q5⟩ := h.1
  obtain ⟨a0, a1, a4, a3⟩ := oV_at h hv
  obtain ⟨d, a, ed, hd, -, -⟩ := way_n h hv
  obtain ⟨r, a, w, h1, h2, h3, h4, h5, h6, h7, h8, h9⟩ := h.2.2.2.2.1 v (by omega)
  have h6 : w ≤ t := h6
  unfold bh3
  rw [a3, ed, if_neg (nI_pos (by omega)), if_neg (show ¬ (36 : Int32) < nI d from nlt_n (a := d) (b := 36) hd (by decide)), a4, h3, (tot_n h).2.2.2.2.1, if_pos (nI_le h6 (by omega))]
end
theorem holds_ok {σ : Sg} (hI : InvS σ) : HoldsOk σ ∧ okSh σ := by
  obtain ⟨nl, nm, np, nv, t, h⟩ := hI
  refine ⟨?_, ok_sh h⟩
  obtain ⟨r0, r1, r2, r3, r5, q0, q1, q2, q3, q5⟩ := h.1
  obtain ⟨t0, t1, t2, t3, t4, t5, t6, t7, t8, t9, t10⟩ := tot_n h
  refine ⟨fun i => nI (cnt (fun p => exB (rsv (σ 1) p) nm) i), rfl, fun i hi => ?_, fun i hi => ?_, ?_⟩
  · rw [t2, nI_clamp (by omega)] at hi
    rw [h1_ok h (by omega) hi]
    show _ = some (nI (cnt (fun p => exB (rsv (σ 1) p) nm) i + (if exB (rsv (σ 1) i) nm = true then 1 else 0)))
    by_cases c : exB (rsv (σ 1) i) nm = true
    · rw [if_pos c, if_pos c, nI_1]
    · rw [if_neg c, if_neg c, Int32.add_zero, Nat.add_zero]
  · rw [t3, nI_clamp (by omega)] at hi
    exact h3_ok h hi
  · rw [t0, t2, nI_clamp (by omega), nI_clamp (by omega), h2_ok h nl (Nat.le_refl _)]
    have hL := h.2.2.2.2.2.2
    have s3 : sumI (fun l => ce 9 (σ 0) l 3) nl = nI nm := by
      rw [← hL.2.1]
      have k := sumI_0 (f := fun l => ce 9 (σ 0) l 3) (a := nl) (5 - nl) (fun i h1 h2 => (hL.1 i h1 (by omega)).1)
      rw [show nl + (5 - nl) = 5 by omega] at k
      exact k.symm
    have s5 : sumI (fun l => ce 9 (σ 0) l 5) nl = nI (cnt (stg (σ 1) 3) nm) := by
      rw [← hL.2.2]
      have k := sumI_0 (f := fun l => ce 9 (σ 0) l 5) (a := nl) (5 - nl) (fun i h1 h2 => (hL.1 i h1 (by omega)).2)
      rw [show nl + (5 - nl) = 5 by omega] at k
      exact k.symm
    show zhe σ (nI (cnt (fun p => exB (rsv (σ 1) p) nm) np)) (sumI (fun l => ce 9 (σ 0) l 3) nl) (sumI (fun l => ce 9 (σ 0) l 5) nl) = 1
    rw [s3, s5, resv_cnt h.2.1 h.2.2.1 q2 nm (Nat.le_refl _)]
    obtain ⟨c3, c5, c1, c4⟩ := cst_e h
    obtain ⟨p1, p2⟩ := part5 (f := σ 1) nm (fun m hm => (h.2.1 m hm).1)
    have hb := bits_n h
    unfold zhe
    rw [t10, if_pos rfl, t1, if_pos rfl, t7, if_pos rfl, t5, t6, t8, t9, nI_add, nI_add, nI_add, nI_add, if_pos (congrArg nI (by omega))]
    by_cases c : zX3_bitsOfFetchedShare σ = -4
    · rw [if_pos c, if_pos (congrArg nI (hb.mp c))]
    · rw [if_neg c, if_neg (fun z => c (hb.mpr (nI_inj (by omega) (by omega) z)))]
