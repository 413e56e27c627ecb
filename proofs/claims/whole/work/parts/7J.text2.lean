/-! ONE COMMAND, A TEXT, BOTH SIDES -/
theorem parse_end {τ μ : Sg} {len q : Nat} (hn : len ≤ 60) (hl : τ 1 0 = nI len) (hq : τ 1 1 = nI q) (hqn : q ≤ len) (h5 : ¬ μ 4 5 = 0) (hm : μ 4 1 = nI len) (hp : μ 4 2 = nI q) (ht : ∀ i, i < 60 → τ 0 i = μ 3 i) (L f s : Int32) : (zX6_readSign τ 59 = (0, τ) ∧ ∃ ν, zde μ L f s = (1, ν) ∧ ν 4 4 = 1) ∨ (q < len ∧ zX6_readSign τ 59 = (1, sT τ 1 (nI (q + 1))) ∧ zde μ L f s = zcl (mT (mT μ 5 1) 2 (nI (q + 1))) L f s) := by
  have s1 := c_sgn hn hl hq hqn (c := 59) (by decide)
  have s2 := r_sgn hn h5 hm hp hqn (c := 59) (by decide)
  by_cases c : q < len ∧ τ 0 q = 59
  · right
    rw [if_pos c] at s1
    rw [if_pos ⟨c.1, by rw [← ht _ (by omega)]; exact c.2⟩] at s2
    refine ⟨c.1, s1, ?_⟩
    have e := de_ok (μ := μ) (by rw [s2, mT_n (by decide), mT_e]; decide) L f s
    rw [s2] at e
    exact e
  · left
    rw [if_neg c] at s1
    rw [if_neg (fun z => c ⟨z.1, by rw [ht _ (by omega)]; exact z.2⟩)] at s2
    exact ⟨s1, de_bad2 (by rw [s2, mT_n (by decide), mT_e]) L f s⟩
theorem parse {τ μ : Sg} {len p : Nat} (hl : τ 1 0 = nI len) (hm : μ 4 1 = nI len) (hp : μ 4 2 = nI p) (hn : len ≤ 60) (hpl : p < len) (ht : ∀ i, i < 60 → τ 0 i = μ 3 i) :
    ((zX6_readCommand τ (nI p)).1 = 0 ∧ (zX6_readCommand τ (nI p)).2 0 = τ 0 ∧ (zX6_readCommand τ (nI p)).2 1 0 = nI len ∧ ∃ ν, zdt (zdp μ) (zX8_here μ) = (1, ν) ∧ ν 4 4 = 1) ∨
    ∃ (f s : Int32) (q : Nat) (ν : Sg), p < q ∧ q ≤ len ∧ (zX6_readCommand τ (nI p)).1 = 1 ∧ (zX6_readCommand τ (nI p)).2 0 = τ 0 ∧ (zX6_readCommand τ (nI p)).2 1 0 = nI len ∧ (zX6_readCommand τ (nI p)).2 1 1 = nI q ∧ (zX6_readCommand τ (nI p)).2 1 3 = τ 0 p ∧ (zX6_readCommand τ (nI p)).2 1 4 = f ∧ ((zX6_readCommand τ (nI p)).2 1 5 = s ∨ τ 0 p = 112 ∨ τ 0 p = 104) ∧ zdt (zdp μ) (zX8_here μ) = zcl ν (τ 0 p) f s ∧ ν 4 2 = nI q ∧ ν 4 3 = μ 4 3 ∧ ν 4 1 = nI len ∧ ∀ j, j ≠ 4 → ν j = μ j := by
  have eh : zX8_here μ = τ 0 p := by rw [r_here hm hp hn (by omega), if_pos hpl, ht p (by omega)]
  rw [rc_e, nI_1]
  have hs : zX6_signAt (sT τ 1 (nI (p + 1))) (nI p) = τ 0 p := by
    rw [c_sign (τ := sT τ 1 (nI (p + 1))) (len := len) hl hn (by omega), if_pos hpl]
    rfl
  rw [hs]
  generalize hτ : sT (sT τ 1 (nI (p + 1))) 3 (τ 0 p) = τ0
  have z0 : τ0 0 = τ 0 := by rw [← hτ]; rfl
  have z10 : τ0 1 0 = nI len := by rw [← hτ]; exact hl
  have z11 : τ0 1 1 = nI (p + 1) := by rw [← hτ]; rfl
  have z13 : τ0 1 3 = τ 0 p := by rw [← hτ]; rfl
  have hcg : ∀ (n : Nat) (v : Int32) (k : Nat), nuN (μ 3) len n v k = nuN (τ 0) len n v k := nuN_cg (fun i hi => (ht i (by omega)).symm)
  unfold rcA
  rw [z13]
  rcases nb_two (τ 0 p) with ⟨n2, t2⟩ | ⟨n1, t1, l1⟩ | ⟨n0, t0, a0, b0⟩
  rotate_left 2
  · left
    rw [if_pos n0]
    refine ⟨rfl, z0, z10, ?_⟩
    have hb := dp_bad (μ := μ) (by rw [eh]; exact t0) (by rw [eh]; exact a0) (by rw [eh]; exact b0)
    exact dt_bad (by rw [r_bad hb]; show mT (zdp μ) 5 0 4 5 = 0; exact mT_e) _
  all_goals
    have hd := dp_ok hp (by rw [eh]; first | exact Or.inl t2 | exact Or.inr ⟨t1, l1⟩)
    rw [hd, eh]
    generalize hμ1 : mT (mT μ 5 1) 2 (nI (p + 1)) = μ1
    have y5 : ¬ μ1 4 5 = 0 := by rw [← hμ1, mT_n (by decide), mT_e]; decide
    have y1 : μ1 4 1 = nI len := by rw [← hμ1, mT_n (by decide), mT_n (by decide)]; exact hm
    have y2 : μ1 4 2 = nI (p + 1) := by rw [← hμ1]; exact mT_e
    have y3 : μ1 4 3 = μ 4 3 := by rw [← hμ1, mT_n (by decide), mT_n (by decide)]
    have yj : ∀ j, j ≠ 4 → μ1 j = μ j := fun j hj => by rw [← hμ1, mT_j hj, mT_j hj]
    have y30 : μ1 3 = μ 3 := yj 3 (by decide)
    obtain ⟨τ1, a1, a2, a3, a4, a5⟩ := c_read hn z10 z11 (by omega)
    rw [z0] at a1 a2 a4 a5
    have r1 := r_read hn y5 y1 y2 (by omega)
    rw [y30, hcg] at r1
    have le1 := nuN_le (t := τ 0) (len := len) 4 0 (p + 1) (by omega)
    generalize nuN (τ 0) len 4 0 (p + 1) = N1 at a1 a4 a5 r1 le1
    rw [a1]
    unfold rcB
    simp only
    rw [if_neg (by first | (rw [n2]; decide) | (rw [n1]; decide))]
    by_cases c1 : p + 1 < N1.2
    rotate_left
    · left
      rw [if_neg c1, if_pos rfl]
      rw [if_neg c1] at r1
      exact ⟨rfl, a2, (a3 0 (by decide) (by decide)).trans z10, dt_bad (by rw [r1]; show mT μ1 5 0 4 5 = 0; exact mT_e) _⟩
    rw [if_pos c1, if_neg (show ¬ (1 : Int32) = 0 by decide)]
    rw [if_pos c1] at r1
    generalize hμ2 : mT (mT μ1 5 1) 2 (nI N1.2) = μ2 at r1
    have x5 : ¬ μ2 4 5 = 0 := by rw [← hμ2, mT_n (by decide), mT_e]; decide
    have x1 : μ2 4 1 = nI len := by rw [← hμ2, mT_n (by decide), mT_n (by decide)]; exact y1
    have x2 : μ2 4 2 = nI N1.2 := by rw [← hμ2]; exact mT_e
    have x3 : μ2 4 3 = μ 4 3 := by rw [← hμ2, mT_n (by decide), mT_n (by decide)]; exact y3
    have xj : ∀ j, j ≠ 4 → μ2 j = μ j := fun j hj => by rw [← hμ2, mT_j hj, mT_j hj]; exact yj j hj
    have x30 : μ2 3 = μ 3 := xj 3 (by decide)
    generalize hτ2 : sT τ1 4 (τ1 1 2) = τ2
    have w0 : τ2 0 = τ 0 := by rw [← hτ2]; exact a2
    have w10 : τ2 1 0 = nI len := by rw [← hτ2]; exact (a3 0 (by decide) (by decide)).trans z10
    have w11 : τ2 1 1 = nI N1.2 := by rw [← hτ2]; exact a4
    have w13 : τ2 1 3 = τ 0 p := by rw [← hτ2]; exact (a3 3 (by decide) (by decide)).trans z13
    have w14 : τ2 1 4 = N1.1 := by rw [← hτ2]; exact a5
  · rw [if_pos n2]
    have s1 := c_sgn hn w10 w11 le1.2 (c := 44) (by decide)
    have s2 := r_sgn hn x5 x1 x2 le1.2 (c := 44) (by decide)
    rw [w0] at s1
    have ed : zdt μ1 (τ 0 p) = zde ((zX8_number (zX8_takesSign μ2 44)).2) (τ 0 p) N1.1 ((zX8_number (zX8_takesSign μ2 44)).1) := by
      unfold zdt
      rw [r1]
      simp only
      rw [if_neg x5, if_neg t2]
    rw [ed]
    by_cases c2 : N1.2 < len ∧ τ 0 N1.2 = 44
    rotate_left
    · left
      rw [if_neg c2] at s1
      rw [x30, if_neg (fun z => c2 ⟨z.1, by rw [ht _ (by omega)]; exact z.2⟩)] at s2
      rw [s1, s2]
      unfold rcC
      rw [if_pos rfl]
      refine ⟨rfl, w0, w10, ?_⟩
      rw [r_bad (show (mT (mT μ2 5 0) 2 (nI N1.2)) 4 5 = 0 by rw [mT_n (by decide), mT_e])]
      exact de_bad mT_e _ _ _
    rw [if_pos c2] at s1
    rw [x30, if_pos ⟨c2.1, by rw [← ht _ (by omega)]; exact c2.2⟩] at s2
    rw [s1, s2]
    unfold rcC
    simp only
    rw [if_neg (show ¬ (1 : Int32) = 0 by decide)]
    generalize hτ3 : sT τ2 1 (nI (N1.2 + 1)) = τ3
    have u0 : τ3 0 = τ 0 := by rw [← hτ3]; exact w0
    have u10 : τ3 1 0 = nI len := by rw [← hτ3]; exact w10
    have u11 : τ3 1 1 = nI (N1.2 + 1) := by rw [← hτ3]; rfl
    have u13 : τ3 1 3 = τ 0 p := by rw [← hτ3]; exact w13
    have u14 : τ3 1 4 = N1.1 := by rw [← hτ3]; exact w14
    generalize hμ3 : mT (mT μ2 5 1) 2 (nI (N1.2 + 1)) = μ3
    have v5 : ¬ μ3 4 5 = 0 := by rw [← hμ3, mT_n (by decide), mT_e]; decide
    have v1 : μ3 4 1 = nI len := by rw [← hμ3, mT_n (by decide), mT_n (by decide)]; exact x1
    have v2 : μ3 4 2 = nI (N1.2 + 1) := by rw [← hμ3]; exact mT_e
    have v3 : μ3 4 3 = μ 4 3 := by rw [← hμ3, mT_n (by decide), mT_n (by decide)]; exact x3
    have vj : ∀ j, j ≠ 4 → μ3 j = μ j := fun j hj => by rw [← hμ3, mT_j hj, mT_j hj]; exact xj j hj
    have v30 : μ3 3 = μ 3 := vj 3 (by decide)
    obtain ⟨τ4, b1, b2, b3, b4, b5⟩ := c_read hn u10 u11 (by omega)
    rw [u0] at b1 b2 b4 b5
    have r2 := r_read hn v5 v1 v2 (by omega)
    rw [v30, hcg] at r2
    have le2 := nuN_le (t := τ 0) (len := len) 4 0 (N1.2 + 1) (by omega)
    generalize nuN (τ 0) len 4 0 (N1.2 + 1) = N2 at b1 b4 b5 r2 le2
    rw [b1]
    unfold rcD
    simp only
    by_cases c3 : N1.2 + 1 < N2.2
    rotate_left
    · left
      rw [if_neg c3, if_pos rfl]
      rw [if_neg c3] at r2
      refine ⟨rfl, b2, (b3 0 (by decide) (by decide)).trans u10, ?_⟩
      rw [r2]
      exact de_bad mT_e _ _ _
    rw [if_pos c3, if_neg (show ¬ (1 : Int32) = 0 by decide)]
    rw [if_pos c3] at r2
    rw [r2]
    simp only
    generalize hμ4 : mT (mT μ3 5 1) 2 (nI N2.2) = μ4
    have q5 : ¬ μ4 4 5 = 0 := by rw [← hμ4, mT_n (by decide), mT_e]; decide
    have q1 : μ4 4 1 = nI len := by rw [← hμ4, mT_n (by decide), mT_n (by decide)]; exact v1
    have q2 : μ4 4 2 = nI N2.2 := by rw [← hμ4]; exact mT_e
    have q3 : μ4 4 3 = μ 4 3 := by rw [← hμ4, mT_n (by decide), mT_n (by decide)]; exact v3
    have qj : ∀ j, j ≠ 4 → μ4 j = μ j := fun j hj => by rw [← hμ4, mT_j hj, mT_j hj]; exact vj j hj
    generalize hτ5 : sT τ4 5 (τ4 1 2) = τ5
    have k0 : τ5 0 = τ 0 := by rw [← hτ5]; exact b2
    have k10 : τ5 1 0 = nI len := by rw [← hτ5]; exact (b3 0 (by decide) (by decide)).trans u10
    have k11 : τ5 1 1 = nI N2.2 := by rw [← hτ5]; exact b4
    have k13 : τ5 1 3 = τ 0 p := by rw [← hτ5]; exact (b3 3 (by decide) (by decide)).trans u13
    have k14 : τ5 1 4 = N1.1 := by rw [← hτ5]; exact (b3 4 (by decide) (by decide)).trans u14
    have k15 : τ5 1 5 = N2.1 := by rw [← hτ5]; exact b5
    rcases parse_end hn k10 k11 le2.2 q5 q1 q2 (fun i hi => by rw [k0, qj 3 (by decide)]; exact ht i hi) (τ 0 p) N1.1 N2.1 with ⟨g1, g2⟩ | ⟨g0, g1, g2⟩
    · left
      rw [g1]
      exact ⟨rfl, k0, k10, g2⟩
    · right
      rw [g1, g2]
      refine ⟨N1.1, N2.1, N2.2 + 1, mT (mT μ4 5 1) 2 (nI (N2.2 + 1)), by omega, by omega, rfl, k0, k10, rfl, k13, k14, Or.inl k15, rfl, mT_e, ?_, by rw [mT_n (by decide), mT_n (by decide)]; exact q1, fun j hj => ?_⟩
      · rw [mT_n (by decide), mT_n (by decide)]; exact q3
      · rw [mT_j hj, mT_j hj]; exact qj j hj
  · rw [if_neg (by rw [n1]; decide)]
    have ed : zdt μ1 (τ 0 p) = zde μ2 (τ 0 p) N1.1 0 := by
      unfold zdt
      rw [r1]
      simp only
      rw [if_neg x5, if_pos t1]
    rw [ed]
    rcases parse_end hn w10 w11 le1.2 x5 x1 x2 (fun i hi => by rw [w0, x30]; exact ht i hi) (τ 0 p) N1.1 0 with ⟨g1, g2⟩ | ⟨g0, g1, g2⟩
    · left
      rw [g1]
      exact ⟨rfl, w0, w10, g2⟩
    · right
      rw [g1, g2]
      refine ⟨N1.1, 0, N1.2 + 1, mT (mT μ2 5 1) 2 (nI (N1.2 + 1)), by omega, by omega, rfl, w0, w10, rfl, w13, w14, Or.inr l1, rfl, mT_e, ?_, by rw [mT_n (by decide), mT_n (by decide)]; exact x1, fun j hj => ?_⟩
      · rw [mT_n (by decide), mT_n (by decide)]; exact x3
      · rw [mT_j hj, mT_j hj]; exact xj j hj
/-- the command itself -/
theorem do_e (Ω : Og) {L f s : Int32} (h3 : Ω 6 1 3 = L) (h4 : Ω 6 1 4 = f) (h5 : Ω 6 1 5 = s ∨ L = 112 ∨ L = 104) {μ : Sg} (h : Rel (fun _ => 0) 5001 (Ω 1) (μ 0)) : (zX2_doCommand Ω).1 = (zX8_called μ L f s).1 ∧ Rel (fun _ => 0) 5001 ((zX2_doCommand Ω).2 1) ((zX8_called μ L f s).2 0) ∧ ∀ k, k ≠ 1 → (zX2_doCommand Ω).2 k = Ω k := by
  have k1 : ∀ (τ : Sg) (k : Nat), k ≠ 1 → oS Ω 1 τ k = Ω k := fun τ k hk => if_neg hk
  have hp := op_pass h f
  unfold zX2_doCommand zX8_called
  rw [h3, h4]
  rcases h5 with h5 | h5 | h5
  rotate_left
  · subst h5
    rw [if_neg (show ¬ (112 : Int32) = 102 by decide), if_neg (show ¬ (112 : Int32) = 102 by decide)]
    rw [if_neg (show ¬ (112 : Int32) = 103 by decide), if_neg (show ¬ (112 : Int32) = 103 by decide)]
    rw [if_neg (show ¬ (112 : Int32) = 104 by decide), if_neg (show ¬ (112 : Int32) = 104 by decide)]
    rw [if_neg (show ¬ (112 : Int32) = 105 by decide), if_neg (show ¬ (112 : Int32) = 105 by decide)]
    rw [if_neg (show ¬ (112 : Int32) = 106 by decide), if_neg (show ¬ (112 : Int32) = 106 by decide)]
    rw [if_neg (show ¬ (112 : Int32) = 107 by decide), if_neg (show ¬ (112 : Int32) = 107 by decide)]
    rw [if_neg (show ¬ (112 : Int32) = 108 by decide), if_neg (show ¬ (112 : Int32) = 108 by decide)]
    rw [if_neg (show ¬ (112 : Int32) = 109 by decide), if_neg (show ¬ (112 : Int32) = 109 by decide)]
    rw [if_neg (show ¬ (112 : Int32) = 110 by decide), if_neg (show ¬ (112 : Int32) = 110 by decide)]
    rw [if_neg (show ¬ (112 : Int32) = 111 by decide), if_neg (show ¬ (112 : Int32) = 111 by decide)]
    rw [if_pos (show (112 : Int32) = 112 from rfl), if_pos (show (112 : Int32) = 112 from rfl)]
    have op := op_put h (by decide) f
    exact ⟨op.1, op.2, fun k hk => k1 _ k hk⟩
  · subst h5
    rw [if_neg (show ¬ (104 : Int32) = 102 by decide), if_neg (show ¬ (104 : Int32) = 102 by decide)]
    rw [if_neg (show ¬ (104 : Int32) = 103 by decide), if_neg (show ¬ (104 : Int32) = 103 by decide)]
    rw [if_pos (show (104 : Int32) = 104 from rfl), if_pos (show (104 : Int32) = 104 from rfl)]
    exact ⟨hp.1, hp.2, fun k hk => k1 _ k hk⟩
  rw [h5]
  by_cases c0 : L = 102
  · rw [if_pos c0, if_pos c0]
    have op := op_fetch h f s 0
    exact ⟨op.1, op.2, fun k hk => k1 _ k hk⟩
  rw [if_neg c0, if_neg c0]
  by_cases c1 : L = 103
  · rw [if_pos c1, if_pos c1]
    have op := op_go h (by decide) f s
    exact ⟨op.1, op.2, fun k hk => k1 _ k hk⟩
  rw [if_neg c1, if_neg c1]
  by_cases c2 : L = 104
  · rw [if_pos c2, if_pos c2]
    exact ⟨hp.1, hp.2, fun k hk => k1 _ k hk⟩
  rw [if_neg c2, if_neg c2]
  by_cases c3 : L = 105
  · rw [if_pos c3, if_pos c3]
    exact ⟨hp.1, hp.2, fun k hk => k1 _ k hk⟩
  rw [if_neg c3, if_neg c3]
  by_cases c4 : L = 106
  · rw [if_pos c4, if_pos c4]
    exact ⟨hp.1, hp.2, fun k hk => k1 _ k hk⟩
  rw [if_neg c4, if_neg c4]
  by_cases c5 : L = 107
  · rw [if_pos c5, if_pos c5]
    exact ⟨hp.1, hp.2, fun k hk => k1 _ k hk⟩
  rw [if_neg c5, if_neg c5]
  by_cases c6 : L = 108
  · rw [if_pos c6, if_pos c6]
    exact ⟨hp.1, hp.2, fun k hk => k1 _ k hk⟩
  rw [if_neg c6, if_neg c6]
  by_cases c7 : L = 109
  · rw [if_pos c7, if_pos c7]
    exact ⟨hp.1, hp.2, fun k hk => k1 _ k hk⟩
  rw [if_neg c7, if_neg c7]
  by_cases c8 : L = 110
  · rw [if_pos c8, if_pos c8]
    have op := op_fetch h f s 1
    exact ⟨op.1, op.2, fun k hk => k1 _ k hk⟩
  rw [if_neg c8, if_neg c8]
  by_cases c9 : L = 111
  · rw [if_pos c9, if_pos c9]
    exact ⟨hp.1, hp.2, fun k hk => k1 _ k hk⟩
  rw [if_neg c9, if_neg c9]
  by_cases c10 : L = 112
  · rw [if_pos c10, if_pos c10]
    have op := op_put h (by decide) f
    exact ⟨op.1, op.2, fun k hk => k1 _ k hk⟩
  rw [if_neg c10, if_neg c10]
  by_cases c11 : L = 113
  · rw [if_pos c11, if_pos c11]
    exact ⟨hp.1, hp.2, fun k hk => k1 _ k hk⟩
  rw [if_neg c11, if_neg c11]
  by_cases c12 : L = 114
  · rw [if_pos c12, if_pos c12]
    have op := op_reserve h (by decide) f s
    exact ⟨op.1, op.2, fun k hk => k1 _ k hk⟩
  rw [if_neg c12, if_neg c12]
  by_cases c13 : L = 115
  · rw [if_pos c13, if_pos c13]
    exact ⟨hp.1, hp.2, fun k hk => k1 _ k hk⟩
  rw [if_neg c13, if_neg c13]
  by_cases c14 : L = 116
  · rw [if_pos c14, if_pos c14]
    have op := op_take h (by decide) f s
    exact ⟨op.1, op.2, fun k hk => k1 _ k hk⟩
  rw [if_neg c14, if_neg c14]
  exact ⟨hp.1, hp.2, fun k hk => k1 _ k hk⟩
