/-! A TEXT TRIED TWICE AND PLAYED -/
theorem flt_e (Ω : Og) {x : Int32} (hx : x = 0 ∨ x = 1) : (zX7_fault Ω x).1 = if (zX2_playText (zonT Ω)).2 7 1 1 = 0 then -4 else if x = 0 then (zX2_playText (zonT Ω)).2 7 1 0 else (zX2_playText (zonT Ω)).2 7 1 1 := by
  show zX2_ofFault (zX2_playText (zonT Ω)).2 x = _
  unfold zX2_ofFault
  rw [if_neg (by rcases hx with h | h <;> subst h <;> decide)]
theorem reads_ok {Ω : Og} (hI : InvO Ω) : (zL_reads Ω).1 = 1 ∧ InvO (zL_reads Ω).2 ∧ HSt Ω (zL_reads Ω).2 := by
  obtain ⟨n, hn, en⟩ := hI.2.2
  obtain ⟨i1, s1, l1, x1⟩ := fault_ok hI 0
  obtain ⟨i2, s2, l2, x2⟩ := fault_ok i1 1
  obtain ⟨i3, s3, a3, l3⟩ := pub_play i2
  obtain ⟨ra, ea, pa1, pa2, pa3, -⟩ := play_k hI hn en
  obtain ⟨rb, eb, pb1, pb2, pb3, -⟩ := play_k i1 hn (l1.trans en)
  obtain ⟨rc, ec, pc1, pc2, pc3, -⟩ := play_k i2 hn (l2.trans (l1.trans en))
  rw [x1, s1.1] at eb
  rw [x2, x1, s2.1, s1.1] at ec
  rw [eb, ← ea] at pb1 pb2 pb3
  rw [ec, ← ea] at pc1 pc2 pc3
  obtain ⟨nl, nm, np, nv, t, h⟩ := hI.2.1 0 (by decide) (by decide)
  have k := plF_k (tx := Ω 6 0) (len := n) 60 0 (Ω 0) 0 (by omega) (by omega) ⟨t, h⟩
  rw [← ea] at k
  have f0 := flt_e Ω (x := 0) (Or.inl rfl)
  have f1 := flt_e (zX7_fault Ω 0).2 (x := 1) (Or.inr rfl)
  rw [pa3, pa2] at f0
  rw [pb3] at f1
  have c2 : (zX7_count (zX7_fault (zX7_fault Ω 0).2 1).2 12).1 = nI n := by
    show (zX7_fault (zX7_fault Ω 0).2 1).2 6 1 0 = nI n
    rw [l2, l1, en]
  have c3 : (zX7_count (zX7_play (zX7_fault (zX7_fault Ω 0).2 1).2).2 12).1 = nI n := by
    show (zX7_play (zX7_fault (zX7_fault Ω 0).2 1).2).2 6 1 0 = nI n
    rw [l3, l2, l1, en]
  rw [pc1] at a3
  have st : HSt Ω (zX7_play (zX7_fault (zX7_fault Ω 0).2 1).2).2 := HSt.tr s1 (HSt.tr s2 s3)
  have fin : ∀ X : Og, InvO X → HSt Ω X → zL_reads Ω = (1, X) → ((zL_reads Ω).1 = 1 ∧ InvO (zL_reads Ω).2 ∧ HSt Ω (zL_reads Ω).2) := fun X a b c => by rw [c]; exact ⟨rfl, a, b⟩
  refine fin _ i3 st ?_
  unfold zL_reads
  rcases k with ⟨j, k1, k2, k3, -⟩ | ⟨k1, k2, k3⟩
  · rw [k3, if_pos rfl] at f0 f1
    rw [k1] at a3
    have e3 : nI n / 3 = nI (n / 3) := pk_div (a := n) (d := 3) (by omega) (by decide) (by decide)
    rw [f0, f1, a3, c2, c3, e3, if_pos rfl, if_pos rfl, if_neg (nI_pos (by omega)), if_neg (nlt_n (a := j) (b := n / 3) (by omega) (by omega)), if_pos (by decide), if_pos rfl]
  · have q0 : ¬ ra.2.2.1 = 0 := by
      rcases k3 with z | z | z <;> rw [z] <;> decide
    rw [if_neg q0, if_pos rfl] at f0
    rw [if_neg q0, if_neg (by decide)] at f1
    rw [k1] at a3
    have q1 : ¬ ra.2.2.1 ≤ 0 := by
      rcases k3 with z | z | z <;> rw [z] <;> decide
    have q2 : ¬ (4 : Int32) ≤ ra.2.2.1 := by
      rcases k3 with z | z | z <;> rw [z] <;> decide
    rw [f0, f1, a3, c2, c3, if_neg (nI_nneg (by omega) (by decide)), if_neg (nI_pos (by omega)), if_neg (nI_ge k2 (by omega)), if_neg q1, if_neg q2, if_pos rfl, if_pos rfl]
