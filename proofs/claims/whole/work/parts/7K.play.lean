/-! TEXTS PLAYED, BOTH SIDES -/
theorem oP_e {Ω : Og} {k : Nat} {v : Int32} : oP Ω k v 7 1 k = v := by
  show (if (7 : Nat) = 7 then (fun j : Nat => if j = 1 then upd (Ω 7 1) k v else Ω 7 j) else Ω 7) 1 k = v
  rw [if_pos rfl]
  show (if (1 : Nat) = 1 then upd (Ω 7 1) k v else Ω 7 1) k = v
  rw [if_pos rfl, pk_us]
theorem oP_n {Ω : Og} {k i : Nat} {v : Int32} (h : i ≠ k) : oP Ω k v 7 1 i = Ω 7 1 i := by
  show (if (7 : Nat) = 7 then (fun j : Nat => if j = 1 then upd (Ω 7 1) k v else Ω 7 j) else Ω 7) 1 i = Ω 7 1 i
  rw [if_pos rfl]
  show (if (1 : Nat) = 1 then upd (Ω 7 1) k v else Ω 7 1) i = Ω 7 1 i
  rw [if_pos rfl, pk_un h]
theorem oP_j {Ω : Og} {k j : Nat} {v : Int32} (h : j ≠ 7) : oP Ω k v j = Ω j := if_neg h
def PlR (len i : Nat) (t0 : Nat → Int32) (d0 : Int32) (a : Int32 × Og) (b : Int32 × Sg) : Prop := a.2 6 0 = t0 ∧ a.2 6 1 0 = nI len ∧
  ((∃ c : Nat, a.1 = nI (i + c) ∧ i + c ≤ 60 ∧ b.1 = -1 ∧ Rel (fun _ => 0) 5001 (a.2 1) (b.2 0) ∧ b.2 4 3 = d0 + nI c ∧ a.2 7 1 1 = 0) ∨
   (∃ (q : Nat) (r : Int32), q < len ∧ a.1 = -2 ∧ b.1 = nI q ∧ a.2 7 1 0 = nI q ∧ a.2 7 1 1 = r ∧ b.2 4 4 = r ∧ ¬ r = 0))
theorem sim_play {len : Nat} (hlen : len ≤ 60) : ∀ (n i : Nat) (Ω : Og) (ν : Sg) (p m : Nat), n + i = 60 → i ≤ p → n + 1 ≤ m → Rel (fun _ => 0) 5001 (Ω 1) (ν 0) → Ω 6 1 0 = nI len → p ≤ len → Ω 7 1 0 = nI p → Ω 7 1 1 = 0 → ν 4 1 = nI len → ν 4 2 = nI p → (∀ k, k < 60 → Ω 6 0 k = ν 3 k) → PlR len i (Ω 6 0) (ν 4 3) (wX2_playText n i Ω) (wdo m ν)
  | n, i, Ω, ν, p, 0, _, _, hm, _, _, _, _, _, _, _, _ => absurd hm (by omega)
  | 0, i, Ω, ν, p, m + 1, hi, hip, hm, h1, hl, hpl, hp, hr, hm1, hm2, ht => by
    have e : wdo (m + 1) ν = (-1, ν) := by
      show (if (ν 4 1) ≤ (ν 4 2) then (-1, ν) else _) = _
      rw [hm1, hm2, if_pos (nI_le (by omega) (by omega))]
    rw [e]
    exact ⟨rfl, hl, Or.inl ⟨0, rfl, by omega, rfl, h1, (Int32.add_zero _).symm, hr⟩⟩
  | n + 1, i, Ω, ν, p, m + 1, hi, hip, hm, h1, hl, hpl, hp, hr, hm1, hm2, ht => by
    have e1 : wX2_playText (n + 1) i Ω = if (zX6_length (Ω 6)) ≤ (Ω 7 1 0) then (nI i, Ω) else (if (zX6_readCommand (Ω 6) (Ω 7 1 0)).1 = 0 then (if ((oP (oS Ω 6 (zX6_readCommand (Ω 6) (Ω 7 1 0)).2) 1 1) 7 1 1) = 0 then wX2_playText n (i + 1) (oP (oP (oS Ω 6 (zX6_readCommand (Ω 6) (Ω 7 1 0)).2) 1 1) 0 ((oP (oS Ω 6 (zX6_readCommand (Ω 6) (Ω 7 1 0)).2) 1 1) 6 1 1)) else (-2, oP (oS Ω 6 (zX6_readCommand (Ω 6) (Ω 7 1 0)).2) 1 1)) else (if ((oP ((zX2_doCommand (oS Ω 6 (zX6_readCommand (Ω 6) (Ω 7 1 0)).2)).2) 1 (zX2_reasonOf ((zX2_doCommand (oS Ω 6 (zX6_readCommand (Ω 6) (Ω 7 1 0)).2)).1))) 7 1 1) = 0 then wX2_playText n (i + 1) (oP (oP ((zX2_doCommand (oS Ω 6 (zX6_readCommand (Ω 6) (Ω 7 1 0)).2)).2) 1 (zX2_reasonOf ((zX2_doCommand (oS Ω 6 (zX6_readCommand (Ω 6) (Ω 7 1 0)).2)).1))) 0 ((oP ((zX2_doCommand (oS Ω 6 (zX6_readCommand (Ω 6) (Ω 7 1 0)).2)).2) 1 (zX2_reasonOf ((zX2_doCommand (oS Ω 6 (zX6_readCommand (Ω 6) (Ω 7 1 0)).2)).1))) 6 1 1)) else (-2, oP ((zX2_doCommand (oS Ω 6 (zX6_readCommand (Ω 6) (Ω 7 1 0)).2)).2) 1 (zX2_reasonOf ((zX2_doCommand (oS Ω 6 (zX6_readCommand (Ω 6) (Ω 7 1 0)).2)).1))))) := rfl
    have e2 : wdo (m + 1) ν = if (ν 4 1) ≤ (ν 4 2) then (-1, ν) else if (zdt (zdp ν) (zX8_here ν)).1 = 0 then wdo m (zdt (zdp ν) (zX8_here ν)).2 else ((ν 4 2), (zdt (zdp ν) (zX8_here ν)).2) := rfl
    rw [e1, e2, show zX6_length (Ω 6) = nI len from hl, hp, hm1, hm2]
    by_cases c : nI len ≤ nI p
    · rw [if_pos c, if_pos c]
      exact ⟨rfl, hl, Or.inl ⟨0, rfl, by omega, rfl, h1, (Int32.add_zero _).symm, hr⟩⟩
    rw [if_neg c, if_neg c]
    have hlt : p < len := by
      have := mt (nI_leI (a := len) (b := p) (by omega) (by omega)).mpr c
      omega
    have one0 : ¬ (1 : Int32) = 0 := by decide
    rcases parse hl hm1 hm2 hlen hlt ht with ⟨r1, r2, r3, ν2, z1, z2⟩ | ⟨f, s, q, ν2, hq, hql, r1, r0, r10, r11, r13, r14, r15, z1, z2, z3, hν1, z4⟩
    · generalize zX6_readCommand (Ω 6) (nI p) = rc at r1 r2 r3
      rw [if_pos r1, if_neg (by rw [oP_e]; exact one0), z1]
      simp only
      rw [if_neg one0]
      refine ⟨?_, ?_, Or.inr ⟨p, 1, hlt, rfl, rfl, ?_, ?_, z2, one0⟩⟩
      · show oP (oS Ω 6 rc.2) 1 1 6 0 = _
        rw [oP_j (by decide)]
        exact r2
      · show oP (oS Ω 6 rc.2) 1 1 6 1 0 = _
        rw [oP_j (by decide)]
        exact r3
      · show oP (oS Ω 6 rc.2) 1 1 7 1 0 = _
        rw [oP_n (by decide)]
        exact hp
      · show oP (oS Ω 6 rc.2) 1 1 7 1 1 = _
        exact oP_e
    · generalize zX6_readCommand (Ω 6) (nI p) = rc at r1 r0 r10 r11 r13 r14 r15
      rw [if_neg (by rw [r1]; exact one0), z1]
      have hν0 : ν2 0 = ν 0 := z4 0 (by decide)
      obtain ⟨d1, d2, d3⟩ := do_e (oS Ω 6 rc.2) (L := Ω 6 0 p) (f := f) (s := s) r13 r14 r15 (μ := ν2) (by rw [hν0]; exact h1)
      have gd := gd_X8_called (μ := ν2) (i_eq hν0 h1.I) (Ω 6 0 p) f s
      unfold zcl
      generalize zX8_called ν2 (Ω 6 0 p) f s = cl at d1 d2 gd ⊢
      rw [d1]
      generalize zX2_doCommand (oS Ω 6 rc.2) = dc at d1 d2 d3
      have k6 : dc.2 6 = rc.2 := d3 6 (by decide)
      have k7 : dc.2 7 = Ω 7 := d3 7 (by decide)
      have bad : ∀ r : Int32, ¬ r = 0 → ∀ ρ : Sg, ρ 4 4 = r → PlR len i (Ω 6 0) (ν 4 3) (-2, oP dc.2 1 r) (nI p, ρ) := fun r hr0 ρ hρ => by
        refine ⟨?_, ?_, Or.inr ⟨p, r, hlt, rfl, rfl, ?_, ?_, hρ, hr0⟩⟩
        · show oP dc.2 1 r 6 0 = _
          rw [oP_j (by decide), k6]
          exact r0
        · show oP dc.2 1 r 6 1 0 = _
          rw [oP_j (by decide), k6]
          exact r10
        · show oP dc.2 1 r 7 1 0 = _
          rw [oP_n (by decide), k7]
          exact hp
        · show oP dc.2 1 r 7 1 1 = _
          exact oP_e
      by_cases cm : cl.1 = -1
      · have er : zX2_reasonOf cl.1 = 2 := by rw [cm]; decide
        rw [er, if_neg (by rw [oP_e]; decide), if_pos cm]
        simp only
        rw [if_neg one0]
        exact bad 2 (by decide) _ mT_e
      · rw [if_neg cm]
        by_cases c0 : 0 ≤ cl.1
        · have hlt0 : ¬ cl.1 < 0 := by
            rw [Int32.le_iff_toInt_le] at c0
            rw [Int32.lt_iff_toInt_lt]
            omega
          have er : zX2_reasonOf cl.1 = 0 := if_neg hlt0
          rw [er, if_pos oP_e, if_pos c0]
          simp only
          rw [if_pos trivial]
          have g4 : cl.2 4 = ν2 4 := gd.2.2 4 (by decide)
          have g3 : cl.2 3 = ν2 3 := gd.2.2 3 (by decide)
          have hX : oP dc.2 1 0 6 1 1 = nI q := by rw [oP_j (by decide), k6]; exact r11
          rw [hX]
          have ih := sim_play hlen n (i + 1) (oP (oP dc.2 1 0) 0 (nI q)) (mT (mT cl.2 4 3) 3 (((mT cl.2 4 3) 4 3) + 1)) q m (by omega) (by omega) (by omega) (by rw [oP_j (by decide), oP_j (by decide)]; exact d2) (by rw [oP_j (by decide), oP_j (by decide), k6]; exact r10) hql oP_e (by rw [oP_n (by decide)]; exact oP_e) (by rw [mT_n (by decide), mT_n (by decide), g4]; exact hν1) (by rw [mT_n (by decide), mT_n (by decide), g4]; exact z2) (fun k hk => by
            rw [oP_j (by decide), oP_j (by decide), k6, mT_j (by decide), mT_j (by decide), g3, r0, z4 3 (by decide)]
            exact ht k hk)
          obtain ⟨i1, i2, i3⟩ := ih
          have e60 : (oP (oP dc.2 1 0) 0 (nI q)) 6 0 = Ω 6 0 := by rw [oP_j (by decide), oP_j (by decide), k6]; exact r0
          refine ⟨i1.trans e60, i2, ?_⟩
          rcases i3 with ⟨w, w1, w2, w3, w4, w5, w6⟩ | w
          · left
            refine ⟨w + 1, by rw [w1]; exact congrArg nI (by omega), by omega, w3, w4, ?_, w6⟩
            rw [w5, mT_e, mT_n (by decide), g4, z3, Int32.add_assoc]
            refine congrArg (fun z => ν 4 3 + z) ?_
            rw [show (1 : Int32) = nI 1 from rfl, nI_add]
            exact congrArg nI (by omega)
          · exact Or.inr w
        · have hlt0 : cl.1 < 0 := by
            rw [Int32.le_iff_toInt_le] at c0
            rw [Int32.lt_iff_toInt_lt]
            omega
          have er : zX2_reasonOf cl.1 = 3 := by
            unfold zX2_reasonOf
            rw [if_pos hlt0, if_neg cm]
          rw [er, if_neg (by rw [oP_e]; decide), if_neg c0]
          simp only
          rw [if_neg one0]
          exact bad 3 (by decide) _ mT_e
theorem play_R {Ω : Og} {μ : Sg} (H : Big Ω μ) : ∃ len : Nat, len ≤ 60 ∧ PlR len 0 (Ω 6 0) 0 (zX2_playText (zonT Ω)) (zX8_does (zX8_begins μ)) ∧ Ω 6 1 0 = nI len := by
  obtain ⟨k, r, t, z, hh, l, tx⟩ := H
  obtain ⟨a, b⟩ := rg_nI t.1
  have c := t.1.2
  refine ⟨(μ 4 1).toNatClampNeg, by omega, ?_, by rw [l]; exact a⟩
  unfold zX2_playText zX8_does
  have e := sim_play (len := (μ 4 1).toNatClampNeg) (by omega) 60 0 (oP (oP (zonT Ω) 0 0) 1 0) (mT (mT (zX8_begins μ) 2 0) 3 0) 0 61 (by decide) (by decide) (by decide) r (by show Ω 6 1 0 = _; rw [l]; exact a) (by omega) rfl rfl a rfl tx
  exact e
theorem play_O {Ω : Og} {μ : Sg} (H : Big Ω μ) : SameO Ω (zX2_playText (zonT Ω)).2 := by
  obtain ⟨len, hl, ⟨p1, p2, -⟩, p3⟩ := play_R H
  obtain ⟨q1, q2, q3⟩ := play_e (zonT Ω)
  have ok2 : okO (zonT Ω) := okO_st H.1 (by decide) _
  exact ⟨q3 0 (by decide) (by decide), fun k h2 h6 => (q3 k h6 (by omega)).trans (if_neg (by omega)), q1, (okO_play ok2).1, p1, p2.trans p3.symm⟩
theorem does_M {Ω : Og} {μ : Sg} (H : Big Ω μ) : SameM μ (zX8_does (zX8_begins μ)).2 ∧ (zX8_does (zX8_begins μ)).2 1 = μ 0 := by
  have k := kt_does (μ := zX8_begins μ) H.I H.2.2.1
  exact ⟨⟨k.2.2.2.2.2.1, k.2.2.2.2.2.2, k.2.2.1, k.2.2.2.1, k.2.1⟩, k.2.2.2.2.1⟩
theorem pub_play {Ω : Og} {μ : Sg} (H : Big Ω μ) : (zX7_play Ω).1 = (zX8_play μ).1 ∧ Big (zX7_play Ω).2 (zX8_play μ).2 := by
  obtain ⟨len, hl, ⟨-, -, p4⟩, p3⟩ := play_R H
  obtain ⟨m1, m2⟩ := does_M H
  have hO := play_O H
  show (zX7_settle ((zX2_playText (zonT Ω)).2) ((zX2_playText (zonT Ω)).1)).1 = _ ∧ Big (zX7_settle ((zX2_playText (zonT Ω)).2) ((zX2_playText (zonT Ω)).1)).2 _
  unfold zX8_play
  rcases p4 with ⟨c, w1, w2, w3, w4, w5, w6⟩ | ⟨q, r, w0, w1, w2, w3, w4, w5, w6⟩
  · rw [w3, if_neg (by decide), w1, w5, Int32.zero_add, Nat.zero_add]
    exact big_set H hO m1 m2 (fun _ => w4)
  · rw [w2, if_pos (nI_pos' (by omega)), w1]
    exact big_set H hO m1 m2 (fun z => absurd z (by decide))
theorem pub_fault {Ω : Og} {μ : Sg} (H : Big Ω μ) (x1 : Int32) : (zX7_fault Ω x1).1 = (zX8_fault μ x1).1 ∧ Big (zX7_fault Ω x1).2 (zX8_fault μ x1).2 := by
  obtain ⟨len, hl, ⟨-, -, p4⟩, p3⟩ := play_R H
  obtain ⟨m1, m2⟩ := does_M H
  have hO := play_O H
  show zX2_ofFault ((zX2_playText (zonT Ω)).2) x1 = _ ∧ Big (zX2_playText (zonT Ω)).2 _
  unfold zX8_fault zX2_ofFault
  rw [wi_in]
  by_cases c0 : zX8_in x1 0 1 = 0
  · rw [if_pos c0, if_pos c0]
    exact ⟨rfl, big_same H hO ⟨rfl, rfl, rfl, rfl, H.2.2.1⟩ rfl⟩
  rw [if_neg c0, if_neg c0]
  have hB : Big (zX2_playText (zonT Ω)).2 (zX8_returns ((zX8_does (zX8_begins μ)).2)) := big_same H hO ⟨m1.1, m1.2.1, m1.2.2.1, m1.2.2.2.1, m1.2.2.2.2⟩ m2
  rcases p4 with ⟨c, w1, w2, w3, w4, w5, w6⟩ | ⟨q, r, w0, w1, w2, w3, w4, w5, w6⟩
  · rw [w3, if_neg (show ¬ (0 : Int32) ≤ -1 by decide), w6, if_pos rfl]
    exact ⟨rfl, hB⟩
  · rw [w2, if_pos (nI_pos' (by omega)), w4, if_neg w6]
    by_cases c1 : x1 = 0
    · rw [if_pos c1, if_pos c1]
      exact ⟨w3, hB⟩
    · rw [if_neg c1, if_neg c1]
      exact ⟨w5.symm, hB⟩
