/-! WHAT THE LAW'S ACTS COME TO, 2 -/
theorem wi_f {j a b : Nat} (hj : j < 2 ^ 31) (ha : a < 2 ^ 31) (hb : b < 2 ^ 31) : zX7_isWithin (nI j) (nI a) (nI b) = if a ≤ j ∧ j ≤ b then 1 else 0 := by
  unfold zX7_isWithin
  by_cases h1 : j < a
  · rw [if_pos (nI_lt h1 ha), if_neg (by omega)]
  · rw [if_neg (fun z => h1 ((nI_ltI hj ha).mp z))]
    by_cases h2 : b < j
    · rw [if_pos (nI_lt h2 hj), if_neg (by omega)]
    · rw [if_neg (fun z => h2 ((nI_ltI hb hj).mp z)), if_pos (by omega)]
theorem and_31 (z : Int32) : ∃ j : Nat, j ≤ 31 ∧ (z &&& 31) = nI j := by
  refine ⟨(z &&& 31).toBitVec.toNat, ?_, ?_⟩
  · rw [Int32.toBitVec_and, BitVec.toNat_and]
    exact Nat.le_trans Nat.and_le_right (by decide)
  · refine bt_ext (fun k hk => ?_)
    rw [bt_nI (BitVec.isLt _)]
    rfl
section
variable {Ω : Og}
theorem act_locker (hI : InvO Ω) {k i who v : Int32} (hk : KB Ω 0 k) (hi : KB Ω 1 i) (hw : KB Ω 2 who) (hv : KB Ω 3 v) (y2 : Int32) : (zA_locker Ω y2 k i who v).1 = 1 ∧ InvO (zA_locker Ω y2 k i who v).2 ∧ HSt Ω (zA_locker Ω y2 k i who v).2 := by
  obtain ⟨nl, nm, np, nv, t, h⟩ := hI.2.1 0 (by decide) (by decide)
  obtain ⟨r0, r1, r2, r3, r5, q0, q1, q2, q3, q5⟩ := h.1
  obtain ⟨t0, t1, t2, t3, t4, t5, t6, t7, t8, t9, t10⟩ := tot_n h
  obtain ⟨c, hc, ec⟩ := low_n y2 (d := 10) (by decide) (by decide)
  obtain ⟨b, hb, eb⟩ := low_n (y2 >>> (4 &&& 31)) (d := 2) (by decide) (by decide)
  have ec : zL_low y2 10 = nI c := ec
  have eb : zL_low (y2 >>> (4 &&& 31)) 2 = nI b := eb
  obtain ⟨p1, p2, p3, -⟩ := pub_locker hI (nI c) (nI b)
  have op := op_locker h (nI c) (nI b)
  suffices key : zA_locker Ω y2 k i who v = (1, (zX7_locker Ω (nI c) (nI b)).2) by
    rw [key]; exact ⟨rfl, p2, p3⟩
  have w1 : zX7_isWithin (nI c) 1 8 = (if 1 ≤ c ∧ c ≤ 8 then 1 else 0) := wi_f (a := 1) (b := 8) (by omega) (by decide) (by decide)
  have w2 : zX7_isWithin (nI b) 0 1 = (if 0 ≤ b ∧ b ≤ 1 then 1 else 0) := wi_f (a := 0) (b := 1) (by omega) (by decide) (by decide)
  rw [if_pos (by omega)] at w2
  unfold zA_locker
  rw [ec, eb, t0, p1]
  by_cases c1 : 1 ≤ c ∧ c ≤ 8
  · rw [if_pos c1] at w1
    have n0 : ¬ nI c = 0 := nI_ne0 (by omega) (by omega)
    have n9 : ¬ nI c = 9 := fun z => by have := nI_inj (b := 9) (by omega) (by decide) z; omega
    rcases op with ⟨e, -⟩ | ⟨-, -, e5, ee⟩ | ⟨-, -, e5, ee, -⟩
    · rw [w1, w2] at e; exact absurd e (by decide)
    · rw [if_neg n0, if_neg n9, if_pos (show nI nl = 5 by rw [e5]; rfl), ee, if_pos rfl]
    · rw [if_neg n0, if_neg n9, if_neg (show ¬ nI nl = 5 from fun z => by have := nI_inj (b := 5) (by omega) (by decide) z; omega), if_pos ee]
  · rw [if_neg c1] at w1
    have ee : (zX0_addLocker (Ω 0) (nI c) (nI b)).1 = -1 := by
      rcases op with ⟨-, ee⟩ | ⟨e, -⟩ | ⟨e, -⟩
      · rw [ee]
      · exact absurd w1 e
      · exact absurd w1 e
    rw [ee]
    by_cases c0 : c = 0
    · rw [if_pos (show nI c = 0 by rw [c0]; rfl), if_pos rfl]
    · rw [if_neg (nI_ne0 (by omega) (by omega)), if_pos (show nI c = 9 by rw [show c = 9 by omega]; rfl), if_pos rfl]
theorem act_person (hI : InvO Ω) {k i who v : Int32} (hk : KB Ω 0 k) (hi : KB Ω 1 i) (hw : KB Ω 2 who) (hv : KB Ω 3 v) (y2 : Int32) : (zA_person Ω y2 k i who v).1 = 1 ∧ InvO (zA_person Ω y2 k i who v).2 ∧ HSt Ω (zA_person Ω y2 k i who v).2 := by
  obtain ⟨nl, nm, np, nv, t, h⟩ := hI.2.1 0 (by decide) (by decide)
  obtain ⟨r0, r1, r2, r3, r5, q0, q1, q2, q3, q5⟩ := h.1
  obtain ⟨t0, t1, t2, t3, t4, t5, t6, t7, t8, t9, t10⟩ := tot_n h
  obtain ⟨j, hj, ej⟩ := and_31 (y2 &&& (y2 >>> (6 &&& 31)))
  unfold zA_person
  rw [ej, t2]
  obtain ⟨p1, p2, p3, -⟩ := pub_person hI (nI j)
  have w1 : zX7_isWithin (nI j) 0 31 = (if 0 ≤ j ∧ j ≤ 31 then 1 else 0) := wi_f (a := 0) (b := 31) (by omega) (by decide) (by decide)
  rw [if_pos (by omega)] at w1
  rw [p1]
  rcases op_person h (nI j) with ⟨e, -⟩ | ⟨-, e8, ee⟩ | ⟨-, e8, ee, -⟩
  · rw [w1] at e; exact absurd e (by decide)
  · rw [if_pos (show nI np = 8 by rw [e8]; rfl), ee, if_pos rfl]
    exact ⟨rfl, p2, p3⟩
  · rw [if_neg (show ¬ nI np = 8 from fun z => by have := nI_inj (b := 8) (by omega) (by decide) z; omega), if_pos ee]
    exact ⟨rfl, p2, p3⟩
theorem act_volunteer (hI : InvO Ω) {k i who v : Int32} (hk : KB Ω 0 k) (hi : KB Ω 1 i) (hw : KB Ω 2 who) (hv : KB Ω 3 v) (y2 : Int32) : (zA_volunteer Ω y2 k i who v).1 = 1 ∧ InvO (zA_volunteer Ω y2 k i who v).2 ∧ HSt Ω (zA_volunteer Ω y2 k i who v).2 := by
  obtain ⟨nl, nm, np, nv, t, h⟩ := hI.2.1 0 (by decide) (by decide)
  obtain ⟨r0, r1, r2, r3, r5, q0, q1, q2, q3, q5⟩ := h.1
  obtain ⟨t0, t1, t2, t3, t4, t5, t6, t7, t8, t9, t10⟩ := tot_n h
  obtain ⟨kk, hkk, rfl⟩ := hk
  rw [r0, nI_clamp (by omega)] at hkk
  obtain ⟨c, hc, ec⟩ := low_n y2 (d := 6) (by decide) (by decide)
  have ec : zL_low y2 6 = nI c := ec
  unfold zA_volunteer
  rw [ec, t0, t3]
  obtain ⟨p1, p2, p3, -⟩ := pub_volunteer hI (nI kk) (nI c)
  have op := op_volunteer h (nI kk) (nI c)
  have w0 : zX5_has (Ω 0 5 0) (nI kk) = if kk < nl then 1 else 0 := by rw [r0]; exact has_f (by omega) (by omega)
  have w1 : zX7_isWithin (nI c) 1 4 = (if 1 ≤ c ∧ c ≤ 4 then 1 else 0) := wi_f (a := 1) (b := 4) (by omega) (by decide) (by decide)
  suffices key : (if nI kk = nI nl then (if (zX0_addVolunteer (Ω 0) (nI kk) (nI c)).1 = (-1) then ((1 : Int32), (zX7_volunteer Ω (nI kk) (nI c)).2) else (0, (zX7_volunteer Ω (nI kk) (nI c)).2)) else (if nI c = 0 then (if (zX0_addVolunteer (Ω 0) (nI kk) (nI c)).1 = (-1) then (1, (zX7_volunteer Ω (nI kk) (nI c)).2) else (0, (zX7_volunteer Ω (nI kk) (nI c)).2)) else (if nI c = 5 then (if (zX0_addVolunteer (Ω 0) (nI kk) (nI c)).1 = (-1) then (1, (zX7_volunteer Ω (nI kk) (nI c)).2) else (0, (zX7_volunteer Ω (nI kk) (nI c)).2)) else (if nI nv = 3 then (if (zX0_addVolunteer (Ω 0) (nI kk) (nI c)).1 = (-3) then (1, (zX7_volunteer Ω (nI kk) (nI c)).2) else (0, (zX7_volunteer Ω (nI kk) (nI c)).2)) else (if (zX0_addVolunteer (Ω 0) (nI kk) (nI c)).1 = nI nv then (1, (zX7_volunteer Ω (nI kk) (nI c)).2) else (0, (zX7_volunteer Ω (nI kk) (nI c)).2)))))) = (1, (zX7_volunteer Ω (nI kk) (nI c)).2) by
    rw [p1, key]; exact ⟨rfl, p2, p3⟩
  by_cases c0 : kk < nl
  rotate_left
  · rw [if_neg c0] at w0
    have ee : (zX0_addVolunteer (Ω 0) (nI kk) (nI c)).1 = -1 := by
      rcases op with ⟨-, ee⟩ | ⟨e, -⟩ | ⟨e, -⟩
      · rw [ee]
      · exact absurd w0 e
      · exact absurd w0 e
    rw [if_pos (congrArg nI (by omega)), if_pos ee]
  rw [if_pos c0] at w0
  rw [if_neg (fun z => by have := nI_inj (by omega) (by omega) z; omega)]
  by_cases c1 : 1 ≤ c ∧ c ≤ 4
  · rw [if_pos c1] at w1
    rw [if_neg (nI_ne0 (by omega) (by omega)), if_neg (fun z => by have := nI_inj (b := 5) (by omega) (by decide) z; omega)]
    rcases op with ⟨e, -⟩ | ⟨-, -, e5, ee⟩ | ⟨-, -, e5, ee, -⟩
    · rw [w0, w1] at e; exact absurd e (by decide)
    · rw [if_pos (show nI nv = 3 by rw [e5]; rfl), ee, if_pos rfl]
    · rw [if_neg (show ¬ nI nv = 3 from fun z => by have := nI_inj (b := 3) (by omega) (by decide) z; omega), if_pos ee]
  · rw [if_neg c1] at w1
    have ee : (zX0_addVolunteer (Ω 0) (nI kk) (nI c)).1 = -1 := by
      rcases op with ⟨-, ee⟩ | ⟨-, e, -⟩ | ⟨-, e, -⟩
      · rw [ee]
      · exact absurd w1 e
      · exact absurd w1 e
    by_cases c2 : c = 0
    · rw [if_pos (show nI c = 0 by rw [c2]; rfl), if_pos ee]
    · rw [if_neg (nI_ne0 (by omega) (by omega)), if_pos (show nI c = 5 by rw [show c = 5 by omega]; rfl), if_pos ee]
theorem act_put (hI : InvO Ω) {k i who v : Int32} (hk : KB Ω 0 k) (hi : KB Ω 1 i) (hw : KB Ω 2 who) (hv : KB Ω 3 v) (y2 : Int32) : (zA_put Ω y2 k i who v).1 = 1 ∧ InvO (zA_put Ω y2 k i who v).2 ∧ HSt Ω (zA_put Ω y2 k i who v).2 := by
  obtain ⟨nl, nm, np, nv, t, h⟩ := hI.2.1 0 (by decide) (by decide)
  obtain ⟨r0, r1, r2, r3, r5, q0, q1, q2, q3, q5⟩ := h.1
  obtain ⟨t0, t1, t2, t3, t4, t5, t6, t7, t8, t9, t10⟩ := tot_n h
  obtain ⟨vv, hvv, rfl⟩ := hv
  rw [r3, nI_clamp (by omega)] at hvv
  obtain ⟨p1, p2, p3, -⟩ := pub_put hI (nI vv)
  have w0 : zX5_has (Ω 0 5 3) (nI vv) = if vv < nv then 1 else 0 := by rw [r3]; exact has_f (by omega) (by omega)
  unfold zA_put
  rw [t3, p1]
  rcases op_put h (nI vv) with ⟨e, ee⟩ | ⟨e, τ, -, ee | ⟨c, c1, c2, ee⟩⟩
  · have c0 : ¬ vv < nv := fun z => by rw [if_pos z] at w0; rw [w0] at e; exact absurd e (by decide)
    rw [if_pos (congrArg nI (by omega)), ee, if_pos rfl]
    exact ⟨rfl, p2, p3⟩
  · have c0 : vv < nv := by
      by_cases z : vv < nv
      · exact z
      · rw [if_neg z] at w0; exact absurd w0 e
    rw [if_neg (fun z => by have := nI_inj (by omega) (by omega) z; omega), ee, if_pos rfl]
    exact ⟨rfl, p2, p3⟩
  · have c0 : vv < nv := by
      by_cases z : vv < nv
      · exact z
      · rw [if_neg z] at w0; exact absurd w0 e
    rw [if_neg (fun z => by have := nI_inj (by omega) (by omega) z; omega), ee]
    rw [if_neg (show ¬ nI c = -2 from nI_nneg (by omega) (by decide)), if_neg (nI_nle c1 (by omega)), if_neg (show ¬ (4 : Int32) < nI c from nlt_n (a := c) (b := 4) c2 (by decide))]
    exact ⟨rfl, p2, p3⟩
theorem act_reserve (hI : InvO Ω) {k i who v : Int32} (hk : KB Ω 0 k) (hi : KB Ω 1 i) (hw : KB Ω 2 who) (hv : KB Ω 3 v) (y2 : Int32) : (zA_reserve Ω y2 k i who v).1 = 1 ∧ InvO (zA_reserve Ω y2 k i who v).2 ∧ HSt Ω (zA_reserve Ω y2 k i who v).2 := by
  obtain ⟨nl, nm, np, nv, t, h⟩ := hI.2.1 0 (by decide) (by decide)
  obtain ⟨r0, r1, r2, r3, r5, q0, q1, q2, q3, q5⟩ := h.1
  obtain ⟨t0, t1, t2, t3, t4, t5, t6, t7, t8, t9, t10⟩ := tot_n h
  obtain ⟨m, hm, rfl⟩ := hi
  obtain ⟨p, hp, rfl⟩ := hw
  rw [r1, nI_clamp (by omega)] at hm
  rw [r2, nI_clamp (by omega)] at hp
  obtain ⟨p1, p2, p3, p4, p5⟩ := pub_reserve hI (nI p) (nI m)
  have w2 : zX5_has (Ω 0 5 2) (nI p) = if p < np then 1 else 0 := by rw [r2]; exact has_f (by omega) (by omega)
  have w1 : zX5_has (Ω 0 5 1) (nI m) = if m < nm then 1 else 0 := by rw [r1]; exact has_f (by omega) (by omega)
  have op := op_reserve h (nI p) (nI m)
  rw [← p1] at op
  suffices key : zA_reserve Ω y2 k (nI m) (nI p) v = (1, (zX7_reserve Ω (nI p) (nI m)).2) by
    rw [key]; exact ⟨rfl, p2, p3⟩
  have eq1 : ∀ x, zX0_reserveMeal (Ω 0) (nI p) (nI m) = (x, Ω 0) → (zX7_reserve Ω (nI p) (nI m)).1 = x := fun x e => p1.trans (congrArg Prod.fst e)
  unfold zA_reserve
  rw [t1, t2]
  by_cases c1 : p < np
  rotate_left
  · have ee : (zX7_reserve Ω (nI p) (nI m)).1 = -1 := by
      rcases op with ⟨-, ee⟩ | ⟨p', m', g1, g2, g3, -⟩
      · exact eq1 _ ee
      · have := nI_inj (by omega) (by omega) g3; omega
    rw [if_pos (nI_le (by omega) (by omega)), if_pos ee]
  rw [if_neg (fun z => by have := (nI_leI (by omega) (by omega)).mp z; omega)]
  by_cases c2 : m < nm
  rotate_left
  · have ee : (zX7_reserve Ω (nI p) (nI m)).1 = -1 := by
      rcases op with ⟨-, ee⟩ | ⟨p', m', g1, g2, g3, g4, -⟩
      · exact eq1 _ ee
      · have := nI_inj (by omega) (by omega) g4; omega
    rw [if_pos (nI_le (by omega) (by omega)), if_pos ee]
  rw [if_neg (fun z => by have := (nI_leI (by omega) (by omega)).mp z; omega)]
  obtain ⟨b0, b1, b3, b4, b5, b6⟩ := oM_at h c2
  obtain ⟨a0, a1, a5, a2, a3⟩ := oP_at h c1
  obtain ⟨d, ed, hd⟩ := bar_n h c1
  rw [b0, b3, a0, a2, a3]
  have fit : zX4_isFitFor (Ω 0) (nI p) (nI m) = if ce 8 (Ω 0 1) m 0 = 0 then (if ce 8 (Ω 0 1) m 3 &&& ce 6 (Ω 0 2) p 0 = 0 then 1 else 0) else 0 := by
    unfold zX4_isFitFor
    rw [gM0 (by omega), gM3 (by omega), gP0 (by omega)]
  rcases op with ⟨e, -⟩ | ⟨p', m', g1, g2, g3, g4, ⟨gn, ee⟩ | ⟨gf, gb, gr, c, k1, k2, k3, k4, k5, k6, k7⟩⟩
  · rw [w1, w2, if_pos c1, if_pos c2] at e
    exact absurd e (by decide)
  · have ee := eq1 _ ee
    by_cases s0 : ce 8 (Ω 0 1) m 0 = 0
    rotate_left
    · rw [if_neg s0, if_pos ee]
    rw [if_pos s0]
    by_cases s1 : zX4_barredHours (Ω 0) (nI p) = 0
    rotate_left
    · rw [if_neg s1, if_pos ee]
    rw [if_pos s1]
    by_cases s2 : zX4_mealReservedBy (Ω 0) (nI p) = -4
    rotate_left
    · rw [if_neg s2, if_pos ee]
    rw [if_pos s2]
    by_cases s3 : ce 8 (Ω 0 1) m 3 &&& ce 6 (Ω 0 2) p 0 = 0
    · exact absurd ⟨by rw [fit, if_pos s0, if_pos s3]; decide, by rw [s1]; decide, by rw [s2]; decide⟩ gn
    · rw [if_neg s3, if_pos ee]
  · have em : m' = m := (nI_inj (by omega) (by omega) g4).symm
    have ep : p' = p := (nI_inj (by omega) (by omega) g3).symm
    subst em; subst ep
    have f0 : ce 8 (Ω 0 1) m' 0 = 0 ∧ ce 8 (Ω 0 1) m' 3 &&& ce 6 (Ω 0 2) p' 0 = 0 := by
      rw [fit] at gf
      by_cases s0 : ce 8 (Ω 0 1) m' 0 = 0
      · rw [if_pos s0] at gf
        by_cases s3 : ce 8 (Ω 0 1) m' 3 &&& ce 6 (Ω 0 2) p' 0 = 0
        · exact ⟨s0, s3⟩
        · rw [if_neg s3] at gf; exact absurd rfl gf
      · rw [if_neg s0] at gf; exact absurd rfl gf
    have f1 : zX4_barredHours (Ω 0) (nI p') = 0 := by
      rw [ed] at gb ⊢
      rcases Nat.eq_zero_or_pos d with z | z
      · rw [z]; rfl
      · exact absurd (nI_lt (a := 0) z (by omega)) gb
    have f2 : zX4_mealReservedBy (Ω 0) (nI p') = -4 := by
      rcases mr_or r1 q1 p' with ⟨z, -⟩ | ⟨j, hj, z, -⟩
      · exact z
      · rw [z] at gr; exact absurd gr (nI_pos (by omega))
    have e0 : (zX7_reserve Ω (nI p') (nI m')).2 0 = (zX0_reserveMeal (Ω 0) (nI p') (nI m')).2 := p5 (by rw [← p1, k3]; exact nI_pos (by omega))
    rw [if_pos f0.1, if_pos f1, if_pos f2, if_pos f0.2, k3, if_neg (show ¬ nI c < 1000 from nlt_n (a := 1000) (b := c) k1 (by omega)), e0]
    obtain ⟨-, -, -, d4, -, -⟩ := oM_at k4 g2
    obtain ⟨-, -, -, -, d3⟩ := oP_at k4 g1
    rw [d4, if_pos k5, if_pos k6, d3]
    have er : zX4_mealReservedBy (zX0_reserveMeal (Ω 0) (nI p') (nI m')).2 (nI p') = nI m' := by
      rcases mr_or k4.r1.1 q1 p' with ⟨-, z⟩ | ⟨j, hj, z, z2⟩
      · have := z m' g2
        rw [rsv_t.mpr ⟨k5, k7⟩] at this
        exact absurd this (by decide)
      · obtain ⟨z3, z4⟩ := rsv_t.mp z2
        rw [z, k4.2.2.1 j m' hj g2 z3 k5 (z4.trans k7.symm)]
    rw [if_pos er]
theorem act_take (hI : InvO Ω) {k i who v : Int32} (hk : KB Ω 0 k) (hi : KB Ω 1 i) (hw : KB Ω 2 who) (hv : KB Ω 3 v) (y2 : Int32) : (zA_take Ω y2 k i who v).1 = 1 ∧ InvO (zA_take Ω y2 k i who v).2 ∧ HSt Ω (zA_take Ω y2 k i who v).2 := by
  obtain ⟨nl, nm, np, nv, t, h⟩ := hI.2.1 0 (by decide) (by decide)
  obtain ⟨r0, r1, r2, r3, r5, q0, q1, q2, q3, q5⟩ := h.1
  obtain ⟨t0, t1, t2, t3, t4, t5, t6, t7, t8, t9, t10⟩ := tot_n h
  obtain ⟨m, hm, rfl⟩ := hi
  obtain ⟨w, hw9, rfl⟩ := hv
  rw [r1, nI_clamp (by omega)] at hm
  rw [r3, nI_clamp (by omega)] at hw9
  obtain ⟨p1, p2, p3, p4, p5⟩ := pub_take hI (nI w) (nI m)
  have w2 : zX5_has (Ω 0 5 3) (nI w) = if w < nv then 1 else 0 := by rw [r3]; exact has_f (by omega) (by omega)
  have w1 : zX5_has (Ω 0 5 1) (nI m) = if m < nm then 1 else 0 := by rw [r1]; exact has_f (by omega) (by omega)
  have op := op_take h (nI w) (nI m)
  rw [← p1] at op
  suffices key : zA_take Ω y2 k (nI m) who (nI w) = (1, (zX7_take Ω (nI w) (nI m)).2) by
    rw [key]; exact ⟨rfl, p2, p3⟩
  have eq1 : ∀ x, zX0_takeMeal (Ω 0) (nI w) (nI m) = (x, Ω 0) → (zX7_take Ω (nI w) (nI m)).1 = x := fun x e => p1.trans (congrArg Prod.fst e)
  unfold zA_take
  rw [t1, t3]
  by_cases c1 : w < nv
  rotate_left
  · have ee : (zX7_take Ω (nI w) (nI m)).1 = -1 := by
      rcases op with ⟨-, ee⟩ | ⟨p', m', g1, g2, g3, -⟩
      · exact eq1 _ ee
      · have := nI_inj (by omega) (by omega) g3; omega
    rw [if_pos (nI_le (by omega) (by omega)), if_pos ee]
  rw [if_neg (fun z => by have := (nI_leI (by omega) (by omega)).mp z; omega)]
  by_cases c2 : m < nm
  rotate_left
  · have ee : (zX7_take Ω (nI w) (nI m)).1 = -1 := by
      rcases op with ⟨-, ee⟩ | ⟨p', m', g1, g2, g3, g4, -⟩
      · exact eq1 _ ee
      · have := nI_inj (by omega) (by omega) g4; omega
    rw [if_pos (nI_le (by omega) (by omega)), if_pos ee]
  rw [if_neg (fun z => by have := (nI_leI (by omega) (by omega)).mp z; omega)]
  obtain ⟨b0, b1, b3, b4, b5, b6⟩ := oM_at h c2
  obtain ⟨a0, a1, a4, a3⟩ := oV_at h c1
  obtain ⟨d, ar, ed, hd, -, -⟩ := way_n h c1
  rcases op with ⟨e, -⟩ | ⟨w', m', g1, g2, g3, g4, ee | ⟨gw, g0, gl, c, r, k1, k2, k3, k4, k5, k6, k7, k8⟩⟩
  · rw [w1, w2, if_pos c1, if_pos c2] at e
    exact absurd e (by decide)
  · have ee := eq1 _ ee
    have n0 : ¬ (0 : Int32) ≤ (zX7_take Ω (nI w) (nI m)).1 := by rw [ee]; decide
    simp only [if_neg n0, if_pos ee, ite_self]
  · have em : m' = m := (nI_inj (by omega) (by omega) g4).symm
    have ew : w' = w := (nI_inj (by omega) (by omega) g3).symm
    subst em; subst ew
    have f1 : zX4_wayHoursLeft (Ω 0) (nI w') = 0 := by
      rw [ed] at gw ⊢
      rcases Nat.eq_zero_or_pos d with z | z
      · rw [z]; rfl
      · exact absurd (nI_lt (a := 0) z (by omega)) gw
    have e0 : (zX7_take Ω (nI w') (nI m')).2 0 = (zX0_takeMeal (Ω 0) (nI w') (nI m')).2 := p5 (by rw [← p1, k4]; exact nI_pos (by omega))
    rw [a3, if_pos f1, b0, if_pos g0, b1, a1, if_pos gl, k4, if_pos (nI_pos' (by omega)), e0]
    obtain ⟨-, -, -, -, -, d6⟩ := oM_at k5 g2
    obtain ⟨d0, -⟩ := oV_at k5 g1
    rw [d0, k8, k3, if_neg (nlt_n (a := c + 1) (b := r) (by omega) (by omega)), d6, if_pos k6, if_pos k7]
theorem act_go (hI : InvO Ω) {k i who v : Int32} (hk : KB Ω 0 k) (hi : KB Ω 1 i) (hw : KB Ω 2 who) (hv : KB Ω 3 v) (y2 : Int32) : (zA_go Ω y2 k i who v).1 = 1 ∧ InvO (zA_go Ω y2 k i who v).2 ∧ HSt Ω (zA_go Ω y2 k i who v).2 := by
  obtain ⟨nl, nm, np, nv, t, h⟩ := hI.2.1 0 (by decide) (by decide)
  obtain ⟨r0, r1, r2, r3, r5, q0, q1, q2, q3, q5⟩ := h.1
  obtain ⟨t0, t1, t2, t3, t4, t5, t6, t7, t8, t9, t10⟩ := tot_n h
  obtain ⟨l, hl, rfl⟩ := hk
  obtain ⟨w, hw9, rfl⟩ := hv
  rw [r0, nI_clamp (by omega)] at hl
  rw [r3, nI_clamp (by omega)] at hw9
  obtain ⟨p1, p2, p3, p4, p5⟩ := pub_go hI (nI w) (nI l)
  have w2 : zX5_has (Ω 0 5 3) (nI w) = if w < nv then 1 else 0 := by rw [r3]; exact has_f (by omega) (by omega)
  have w1 : zX5_has (Ω 0 5 0) (nI l) = if l < nl then 1 else 0 := by rw [r0]; exact has_f (by omega) (by omega)
  have op := op_go h (nI w) (nI l)
  rw [← p1] at op
  suffices key : zA_go Ω y2 (nI l) i who (nI w) = (1, (zX7_go Ω (nI w) (nI l)).2) by
    rw [key]; exact ⟨rfl, p2, p3⟩
  have eq1 : ∀ x, zX0_sendVolunteer (Ω 0) (nI w) (nI l) = (x, Ω 0) → (zX7_go Ω (nI w) (nI l)).1 = x := fun x e => p1.trans (congrArg Prod.fst e)
  unfold zA_go
  rw [t0, t3]
  by_cases c1 : w < nv
  rotate_left
  · have ee : (zX7_go Ω (nI w) (nI l)).1 = -1 := by
      rcases op with ⟨-, ee⟩ | ⟨p', m', g1, g2, g3, -⟩
      · exact eq1 _ ee
      · have := nI_inj (by omega) (by omega) g3; omega
    rw [if_pos (nI_le (by omega) (by omega)), if_pos ee]
  rw [if_neg (fun z => by have := (nI_leI (by omega) (by omega)).mp z; omega)]
  by_cases c2 : l < nl
  rotate_left
  · have ee : (zX7_go Ω (nI w) (nI l)).1 = -1 := by
      rcases op with ⟨-, ee⟩ | ⟨p', m', g1, g2, g3, g4, -⟩
      · exact eq1 _ ee
      · have := nI_inj (by omega) (by omega) g4; omega
    rw [if_pos (nI_le (by omega) (by omega)), if_pos ee]
  rw [if_neg (fun z => by have := (nI_leI (by omega) (by omega)).mp z; omega)]
  obtain ⟨a0, a1, a4, a3⟩ := oV_at h c1
  obtain ⟨d, ar, ed, hd, -, -⟩ := way_n h c1
  rw [a3, a1]
  rcases op with ⟨e, -⟩ | ⟨w', l', g1, g2, g3, g4, ⟨gn, ee⟩ | ⟨gw, gl, dd, k1, k2, k3, k4, k5⟩⟩
  · rw [w1, w2, if_pos c1, if_pos c2] at e
    exact absurd e (by decide)
  · have el : l' = l := (nI_inj (by omega) (by omega) g4).symm
    have ew : w' = w := (nI_inj (by omega) (by omega) g3).symm
    subst el; subst ew
    have ee := eq1 _ ee
    by_cases s0 : zX4_wayHoursLeft (Ω 0) (nI w') = 0
    rotate_left
    · rw [if_neg s0, if_pos ee]
    rw [if_pos s0]
    rcases gn with z | z
    · rw [s0] at z; exact absurd z (by decide)
    · rw [if_pos z, if_pos ee]
  · have el : l' = l := (nI_inj (by omega) (by omega) g4).symm
    have ew : w' = w := (nI_inj (by omega) (by omega) g3).symm
    subst el; subst ew
    have f1 : zX4_wayHoursLeft (Ω 0) (nI w') = 0 := by
      rw [ed] at gw ⊢
      rcases Nat.eq_zero_or_pos d with z | z
      · rw [z]; rfl
      · exact absurd (nI_lt (a := 0) z (by omega)) gw
    have e0 : (zX7_go Ω (nI w') (nI l')).2 0 = (zX0_sendVolunteer (Ω 0) (nI w') (nI l')).2 := p5 (by rw [← p1, k2]; exact nI_pos (by omega))
    obtain ⟨-, -, -, d3⟩ := oV_at k3 g1
    obtain ⟨d9, a9, ed9, hd9, ea9, e99, le9⟩ := way_n k3 g1
    have ex : a9 = t + dd := nI_inj (by omega) (by omega) (ea9.symm.trans k4)
    rw [if_pos f1, if_neg gl, k2, e0, (tot_n k3).2.2.2.2.1, d3, ed9, nI_add, if_pos (congrArg nI (by omega))]
theorem act_fetch (hI : InvO Ω) {k i who v : Int32} (hk : KB Ω 0 k) (hi : KB Ω 1 i) (hw : KB Ω 2 who) (hv : KB Ω 3 v) (y2 : Int32) : (zA_fetch Ω y2 k i who v).1 = 1 ∧ InvO (zA_fetch Ω y2 k i who v).2 ∧ HSt Ω (zA_fetch Ω y2 k i who v).2 := by
  obtain ⟨nl, nm, np, nv, t, h⟩ := hI.2.1 0 (by decide) (by decide)
  obtain ⟨r0, r1, r2, r3, r5, q0, q1, q2, q3, q5⟩ := h.1
  obtain ⟨t0, t1, t2, t3, t4, t5, t6, t7, t8, t9, t10⟩ := tot_n h
  obtain ⟨m, hm, rfl⟩ := hi
  rw [r1, nI_clamp (by omega)] at hm
  have two : InvO (zX7_fetch (zX7_fetch Ω 0 999 0).2 k 1000 2).2 ∧ HSt Ω (zX7_fetch (zX7_fetch Ω 0 999 0).2 k 1000 2).2 ∧ (zX7_fetch Ω 0 999 0).1 = -1 ∧ (zX7_fetch (zX7_fetch Ω 0 999 0).2 k 1000 2).1 = -1 := by
    obtain ⟨p1, p2, p3, p4, -⟩ := pub_fetch hI 0 999 0
    have e1 : (zX0_endReservation (Ω 0) 0 999 0).1 = -1 := by
      rcases op_end h 0 999 0 with ⟨-, e⟩ | ⟨-, e, -⟩
      · rw [e]
      · exact absurd (by decide) e
    obtain ⟨s1, s2, s3, -⟩ := pub_fetch p2 k 1000 2
    have e2 : (zX0_endReservation ((zX7_fetch Ω 0 999 0).2 0) k 1000 2).1 = -1 := by
      obtain ⟨nl2, nm2, np2, nv2, t2, h2⟩ := p2.2.1 0 (by decide) (by decide)
      rcases op_end h2 k 1000 2 with ⟨-, e⟩ | ⟨-, -, e, -⟩
      · rw [e]
      · exact absurd (by decide) e
    exact ⟨s2, HSt.tr (p4 (by rw [e1]; decide)) s3, p1.trans e1, s1.trans e2⟩
  obtain ⟨w1, w2, w3, w4⟩ := two
  unfold zA_fetch
  rw [t1]
  by_cases c1 : m < nm
  rotate_left
  · rw [if_pos (congrArg nI (by omega)), if_pos w3, if_pos w4]
    exact ⟨rfl, w1, w2⟩
  rw [if_neg (fun z => by have := nI_inj (by omega) (by omega) z; omega)]
  obtain ⟨b0, b1, b3, b4, b5, b6⟩ := oM_at h c1
  by_cases s0 : ce 8 (Ω 0 1) m 0 = 1
  rotate_left
  · rw [b0, if_neg s0, if_pos w3, if_pos w4]
    exact ⟨rfl, w1, w2⟩
  obtain ⟨-, m2, m3⟩ := h.2.1 m c1
  obtain ⟨⟨cc, g1, g2, g3⟩, -⟩ := m3 s0
  obtain ⟨l, hl, el⟩ := m2 (Or.inr s0)
  obtain ⟨b, hb, eb⟩ := low_n y2 (d := 2) (by decide) (by decide)
  have eb : zL_low y2 2 = nI b := eb
  rw [b0, if_pos s0, b1, b4, if_pos s0, el, g3, eb]
  obtain ⟨p1, p2, p3, p4, p5⟩ := pub_fetch hI (nI l) (nI cc) (nI b)
  have f0 : zX5_has (Ω 0 5 0) (nI l) = 1 := by rw [r0, has_f (by omega) (by omega), if_pos hl]
  have f1 : zX7_isWithin (nI cc) 1000 9999 = 1 := (wi_f (a := 1000) (b := 9999) (by omega) (by decide) (by decide)).trans (if_pos (by omega))
  have f2 : zX7_isWithin (nI b) 0 1 = 1 := (wi_f (a := 0) (b := 1) (by omega) (by decide) (by decide)).trans (if_pos (by omega))
  have op := op_end h (nI l) (nI cc) (nI b)
  rw [← p1] at op
  have hit : cdq (Ω 0 1) l (nI cc) m = true := cdq_t.mpr ⟨s0, el, g3⟩
  rcases op with ⟨e, -⟩ | ⟨-, -, -, l', hl', el', ⟨e, -⟩ | ⟨j, hj, k1, k2, k3, k4, k5⟩⟩
  · rw [f0, f1, f2] at e
    exact absurd e (by decide)
  · have ell : l' = l := (nI_inj (by omega) (by omega) el').symm
    subst ell
    rw [e m c1] at hit
    exact absurd hit (by decide)
  · have ell : l' = l := (nI_inj (by omega) (by omega) el').symm
    subst ell
    have e0 : (zX7_fetch Ω (nI l') (nI cc) (nI b)).2 0 = (zX0_endReservation (Ω 0) (nI l') (nI cc) (nI b)).2 := p5 (by rw [← p1, k3]; exact nI_pos (by omega))
    have eb2 : (if nI b = 1 then (4 : Int32) else 3) = 3 + nI b := by
      rcases (show b = 0 ∨ b = 1 by omega) with z | z <;> subst z <;> decide
    have tt : (zX7_count (zX7_fetch Ω (nI l') (nI cc) (nI b)).2 (7 + nI b)).1 = nI (cnt (stg ((zX0_endReservation (Ω 0) (nI l') (nI cc) (nI b)).2 1) (3 + nI b)) nm) := by
      have e7 : 7 + nI b = nI (7 + b) := by rw [← nI_add]; rfl
      obtain ⟨-, -, -, -, -, -, -, u7, u8, -⟩ := tot_n k4
      rw [e7, cnt_t _ ⟨fun z => by have := nI_inj (b := 11) (by omega) (by decide) z; omega, fun z => by have := nI_inj (b := 12) (by omega) (by decide) z; omega⟩, e0]
      rcases (show b = 0 ∨ b = 1 by omega) with z | z
      · subst z; exact u7
      · subst z; exact u8
    have pos : 0 < cnt (stg ((zX0_endReservation (Ω 0) (nI l') (nI cc) (nI b)).2 1) (3 + nI b)) nm := cnt_pos (a := j) hj (by unfold stg; rw [k5, eb2]; exact decide_eq_true rfl)
    have lc := cnt_le (stg ((zX0_endReservation (Ω 0) (nI l') (nI cc) (nI b)).2 1) (3 + nI b)) nm
    rw [k3, if_neg (nI_pos (by omega)), if_neg (nlt_n (a := j) (b := m) (k2 m c1 hit) (by omega)), tt, e0, (oM_at k4 hj).1, k5, if_pos eb2, if_neg (nI_nle pos (by omega))]
    exact ⟨rfl, p2, p3⟩
theorem act_set (hI : InvO Ω) {k i who v : Int32} (hk : KB Ω 0 k) (hi : KB Ω 1 i) (hw : KB Ω 2 who) (hv : KB Ω 3 v) (y2 : Int32) : (zA_set Ω y2 k i who v).1 = 1 ∧ InvO (zA_set Ω y2 k i who v).2 ∧ HSt Ω (zA_set Ω y2 k i who v).2 := by
  obtain ⟨nl, nm, np, nv, t, h⟩ := hI.2.1 0 (by decide) (by decide)
  obtain ⟨w, hw9, ew⟩ := low_n y2 (d := 5) (by decide) (by decide)
  obtain ⟨b, hb, eb⟩ := low_n (y2 >>> (3 &&& 31)) (d := 11) (by decide) (by decide)
  have ew : zL_low y2 5 = nI w := ew
  have eb : zL_low (y2 >>> (3 &&& 31)) 11 = nI b := eb
  obtain ⟨p1, p2, p3, -⟩ := pub_set hI (nI w) (nI b)
  suffices key : zA_set Ω y2 k i who v = (1, (zX7_set Ω (nI w) (nI b)).2) by
    rw [key]; exact ⟨rfl, p2, p3⟩
  unfold zA_set
  rw [ew, eb]
  have op := op_set h (nI w) (nI b)
  have hm : ∀ j, j < 4 → mostI j = nI ([48, 9, 99, 9].getD j 0) := fun j hj => by
    match j, hj with
    | 0, _ => rfl
    | 1, _ => rfl
    | 2, _ => rfl
    | 3, _ => rfl
  have bad : (w = 4 ∨ b = 0 ∨ (b = 10 ∧ (w = 1 ∨ w = 3))) → (zX7_set Ω (nI w) (nI b)).1 = -1 := fun q => by
    rw [p1]
    rcases op with e | ⟨j, c, g1, g2, g3, g4, g9, g5, g6, -⟩
    · rw [e]
    · exfalso
      have e1 := nI_inj (by omega) (by omega) g2
      subst e1
      have hc : c = b := (nI_inj (by omega) (by omega) g3).symm
      subst hc
      rw [hm w g1] at g5
      rcases q with z | z | ⟨z, z2⟩
      · omega
      · omega
      · subst z
        rcases z2 with z2 | z2 <;> subst z2 <;> exact absurd g5 (by decide)
  have good : ¬ (w = 4 ∨ b = 0 ∨ (b = 10 ∧ (w = 1 ∨ w = 3))) → (zX7_set Ω (nI w) (nI b)).1 = (zX7_count Ω (13 + nI w)).1 := fun q => by
    have hw4 : w < 4 := by omega
    have e13 : 13 + nI w = nI (13 + w) := by rw [← nI_add]; rfl
    have ec : (zX7_count Ω (13 + nI w)).1 = Ω 0 4 w := by
      rw [e13, cnt_t _ ⟨fun z => by have := nI_inj (b := 11) (by omega) (by decide) z; omega, fun z => by have := nI_inj (b := 12) (by omega) (by decide) z; omega⟩]
      have eg := gSn (σ := Ω 0) hw4
      rcases (show w = 0 ∨ w = 1 ∨ w = 2 ∨ w = 3 by omega) with z | z | z | z <;> subst z <;> exact eg
    rw [p1, ec]
    rcases op with e | ⟨j, c, g1, g2, g3, g4, g9, g5, g6, -⟩
    · exfalso
      have hj : mostI w = nI ([48, 9, 99, 9].getD w 0) := hm w hw4
      have hw0 : ¬ nI w < 0 := nI_pos (by omega)
      have hw5 : nI w < 4 := nI_lt (b := 4) hw4 (by decide)
      unfold zX0_changeSetting at e
      rw [if_neg hw0, if_pos hw5, nI_clamp (by omega), hj] at e
      have wi : zX7_isWithin (nI b) 1 (nI ([48, 9, 99, 9].getD w 0)) = 1 := (wi_f (a := 1) (by omega) (by decide) (by
        rcases (show w = 0 ∨ w = 1 ∨ w = 2 ∨ w = 3 by omega) with z | z | z | z <;> subst z <;> decide)).trans (if_pos (by
        rcases (show w = 0 ∨ w = 1 ∨ w = 2 ∨ w = 3 by omega) with z | z | z | z <;> subst z <;> simp <;> omega))
      rw [wi, if_neg one_0, gSn hw4] at e
      have e9 := congrArg Prod.fst e
      have e9 : Ω 0 4 w = -1 := e9
      obtain ⟨⟨a0, -, u0, k0⟩, ⟨a1, -, u1, k1⟩, ⟨a2, -, u2, k2⟩, a3, -, u3, k3⟩ := h.2.2.2.2.2.1
      rcases (show w = 0 ∨ w = 1 ∨ w = 2 ∨ w = 3 by omega) with z | z | z | z
      · subst z; rw [k0] at e9; exact nI_nneg (by omega) (by decide) e9
      · subst z; rw [k1] at e9; exact nI_nneg (by omega) (by decide) e9
      · subst z; rw [k2] at e9; exact nI_nneg (by omega) (by decide) e9
      · subst z; rw [k3] at e9; exact nI_nneg (by omega) (by decide) e9
    · have e1 := nI_inj (by omega) (by omega) g2
      subst e1
      exact g6
  have nw : ∀ a : Nat, a < 100 → (nI w = nI a ↔ w = a) := fun a ha => nI_eq (by omega) (by omega)
  have nb : ∀ a : Nat, a < 100 → (nI b = nI a ↔ b = a) := fun a ha => nI_eq (by omega) (by omega)
  by_cases c4 : w = 4
  · have i4 : nI w = 4 := (nw 4 (by decide)).mpr c4
    rw [if_pos i4, if_pos i4, if_pos (bad (Or.inl c4))]
  have i4 : ¬ nI w = 4 := fun z => c4 ((nw 4 (by decide)).mp z)
  rw [if_neg i4, if_neg i4]
  by_cases c0 : b = 0
  · rw [if_pos (show nI b = 0 from (nb 0 (by decide)).mpr c0), if_pos (bad (Or.inr (Or.inl c0)))]
  rw [if_neg (show ¬ nI b = 0 from fun z => c0 ((nb 0 (by decide)).mp z))]
  by_cases c10 : b = 10
  rotate_left
  · rw [if_neg (show ¬ nI b = 10 from fun z => c10 ((nb 10 (by decide)).mp z)), if_pos (good (by omega))]
  rw [if_pos (show nI b = 10 from (nb 10 (by decide)).mpr c10)]
  by_cases c1 : w = 1
  · rw [if_pos (show nI w = 1 from (nw 1 (by decide)).mpr c1), if_pos (bad (by omega))]
  rw [if_neg (show ¬ nI w = 1 from fun z => c1 ((nw 1 (by decide)).mp z))]
  by_cases c3 : w = 3
  · rw [if_pos (show nI w = 3 from (nw 3 (by decide)).mpr c3), if_pos (bad (by omega))]
  rw [if_neg (show ¬ nI w = 3 from fun z => c3 ((nw 3 (by decide)).mp z)), if_pos (good (by omega))]
def psF (Ω : Og) (x : Int32) : Int32 × Og := if x = 0 then (if (zX7_pass Ω x).1 = (-1) then (1, (zX7_pass Ω x).2) else (0, (zX7_pass Ω x).2)) else (if x = 100 then (if (zX7_pass Ω x).1 = (-1) then (1, (zX7_pass Ω x).2) else (0, (zX7_pass Ω x).2)) else (if (zX7_pass Ω x).1 = (-3) then (if ((zX3_total (Ω 0) 4) + x) ≤ 5000 then (0, (zX7_pass Ω x).2) else (1, (zX7_pass Ω x).2)) else (if (zX7_pass Ω x).1 = ((zX3_total ((zX7_pass Ω x).2 0) 9) - (zX3_total (Ω 0) 9)) then (if (zX3_total ((zX7_pass Ω x).2 0) 4) = ((zX3_total (Ω 0) 4) + x) then (1, (zX7_pass Ω x).2) else (0, (zX7_pass Ω x).2)) else (0, (zX7_pass Ω x).2))))
theorem ps_ok (hI : InvO Ω) {n : Nat} (hn : n ≤ 100) : (psF Ω (nI n)).1 = 1 ∧ InvO (psF Ω (nI n)).2 ∧ HSt Ω (psF Ω (nI n)).2 := by
  obtain ⟨nl, nm, np, nv, t, h⟩ := hI.2.1 0 (by decide) (by decide)
  obtain ⟨r0, r1, r2, r3, r5, q0, q1, q2, q3, q5⟩ := h.1
  obtain ⟨t0, t1, t2, t3, t4, t5, t6, t7, t8, t9, t10⟩ := tot_n h
  obtain ⟨p1, p2, p3, p4, p5⟩ := pub_pass hI (nI n)
  suffices key : psF Ω (nI n) = (1, (zX7_pass Ω (nI n)).2) by
    rw [key]; exact ⟨rfl, p2, p3⟩
  have w1 : zX7_isWithin (nI n) 1 99 = (if 1 ≤ n ∧ n ≤ 99 then 1 else 0) := wi_f (a := 1) (b := 99) (by omega) (by decide) (by decide)
  unfold psF
  rw [t4, t9, p1]
  rcases op_pass h (nI n) with ⟨e, ee⟩ | ⟨n', n1, n2, en, ⟨e, ee⟩ | ⟨e, c, c1, c2, c3, c4⟩⟩
  · have hc : ¬ (1 ≤ n ∧ n ≤ 99) := fun z => by rw [w1, if_pos z] at e; exact absurd e (by decide)
    rw [ee]
    by_cases z : n = 0
    · rw [if_pos (show nI n = 0 by rw [z]; rfl), if_pos rfl]
    · rw [if_neg (nI_ne0 (by omega) (by omega)), if_pos (show nI n = 100 by rw [show n = 100 by omega]; rfl), if_pos rfl]
  · have en := nI_inj (by omega) (by omega) en
    subst en
    rw [if_neg (nI_ne0 (by omega) (by omega)), if_neg (fun z => by have := nI_inj (b := 100) (by omega) (by decide) z; omega), ee, if_pos rfl, nI_add, if_neg (show ¬ nI (t + n) ≤ 5000 from nI_ge (a := 5000) (b := t + n) e (by omega))]
  · have en := nI_inj (by omega) (by omega) en
    subst en
    have lc := cnt_le (stg (Ω 0 1) 5) nm
    have e0 : (zX7_pass Ω (nI n)).2 0 = (zX0_passHours (Ω 0) (nI n) 5000).2 := p5 (by rw [c2]; exact nI_pos (by omega))
    obtain ⟨-, -, -, -, u4, -, -, -, -, u9, -⟩ := tot_n c3
    rw [if_neg (nI_ne0 (by omega) (by omega)), if_neg (fun z => by have := nI_inj (b := 100) (by omega) (by decide) z; omega), c2, if_neg (nI_nneg (by omega) (by decide)), e0, u9, u4, c4, pk_sub (by omega), if_pos (congrArg nI (by omega)), if_pos (nI_add t n).symm]
theorem act_pass (hI : InvO Ω) {k i who v : Int32} (hk : KB Ω 0 k) (hi : KB Ω 1 i) (hw : KB Ω 2 who) (hv : KB Ω 3 v) (y2 : Int32) : (zA_pass Ω y2 k i who v).1 = 1 ∧ InvO (zA_pass Ω y2 k i who v).2 ∧ HSt Ω (zA_pass Ω y2 k i who v).2 := by
  have e : zA_pass Ω y2 k i who v = if (zL_low y2 4) = 0 then psF Ω (zL_low (y2 >>> (2 &&& 31)) 101) else psF Ω ((1 : Int32) + (zL_low (y2 >>> (2 &&& 31)) 5)) := rfl
  rw [e]
  by_cases c : zL_low y2 4 = 0
  · rw [if_pos c]
    obtain ⟨n, hn, en⟩ := low_n (y2 >>> (2 &&& 31)) (d := 101) (by decide) (by decide)
    have en : zL_low (y2 >>> (2 &&& 31)) 101 = nI n := en
    rw [en]
    exact ps_ok hI (by omega)
  · rw [if_neg c]
    obtain ⟨n, hn, en⟩ := low_n (y2 >>> (2 &&& 31)) (d := 5) (by decide) (by decide)
    have en : zL_low (y2 >>> (2 &&& 31)) 5 = nI n := en
    have e1 : 1 + nI n = nI (1 + n) := by rw [← nI_add]; rfl
    rw [en, e1]
    exact ps_ok hI (by omega)
end
