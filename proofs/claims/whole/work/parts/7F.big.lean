/-! BOTH SIDES WHOLE: states, histories, texts -/
theorem Rel.cg {δ : Nat → Int32} {T : Int} {σ : Sg} {s s2 : Nat → Int32} (h : Rel δ T σ s) (e : ∀ k, k < 299 → s2 k = s k) : Rel δ T σ s2 := by
  refine ⟨fun k i hd => ?_, ?_, h.B, fun m hm hx => ?_, h.S, h.F, h.U, ?_⟩
  · have a := dm_lt hd
    have b := tr_fr k a.1 i a.2 hd
    rw [e _ b.2.2.2.1]
    exact h.R k i hd
  · obtain ⟨a0, a1, a2, a3, a4, a5, a6⟩ := h.I
    refine ⟨?_, ?_, ?_, ?_, fun m hm => ?_, fun m hm => ?_, fun k hk => ?_⟩
    · show rg (s2 0) 6
      rw [e _ (by omega)]; exact a0
    · show rg (s2 1) 25
      rw [e _ (by omega)]; exact a1
    · show rg (s2 2) 9
      rw [e _ (by omega)]; exact a2
    · show rg (s2 3) 4
      rw [e _ (by omega)]; exact a3
    · show rg (s2 (52 + 8 * m + 1)) 5
      rw [e _ (by omega)]; exact a4 m hm
    · show s2 (52 + 8 * m) = 1 → rg (s2 (52 + 8 * m + 5)) 8
      rw [e _ (by omega), e _ (by omega)]; exact a5 m hm
    · show rg (s2 (284 + 5 * k + 1)) 5
      rw [e _ (by omega)]; exact a6 k hk
  · rw [e _ (by omega)]
    exact h.W m hm hx
  · unfold Cq
    rw [e _ (by omega), e _ (by omega), e _ (by omega)]
    exact h.C
def RelN (σ : Sg) (s : Nat → Int32) : Prop := Rel (fun _ => 0) 5001 σ s
def Big (Ω : Og) (μ : Sg) : Prop := okO Ω ∧ RelN (Ω 0) (μ 0) ∧ InvT μ ∧ μ 4 0 = Ω 7 0 1 ∧ (∀ i, i < hZn Ω → RelN (Ω ((hO Ω + i) % 4 + 2)) (fun k => μ 2 (299 * i + k))) ∧ Ω 6 1 0 = μ 4 1 ∧ ∀ i, i < 60 → Ω 6 0 i = μ 3 i
def SameO (Ω Ω2 : Og) : Prop := Ω2 0 = Ω 0 ∧ (∀ k, 2 ≤ k → k < 6 → Ω2 k = Ω k) ∧ Ω2 7 0 = Ω 7 0 ∧ okC (Ω2 6) ∧ Ω2 6 0 = Ω 6 0 ∧ Ω2 6 1 0 = Ω 6 1 0
def SameM (μ ν : Sg) : Prop := ν 2 = μ 2 ∧ ν 3 = μ 3 ∧ ν 4 0 = μ 4 0 ∧ ν 4 1 = μ 4 1 ∧ InvT ν
theorem SameO.hO {Ω Ω2 : Og} (h : SameO Ω Ω2) : hO Ω2 = hO Ω := congrArg (fun f : Nat → Int32 => (f 0).toNatClampNeg) h.2.2.1
theorem SameO.hZ {Ω Ω2 : Og} (h : SameO Ω Ω2) : hZn Ω2 = hZn Ω := congrArg (fun f : Nat → Int32 => (f 1).toNatClampNeg) h.2.2.1
theorem SameO.ok {Ω Ω2 : Og} (h : SameO Ω Ω2) (k : okO Ω) : okO Ω2 := by
  refine ⟨h.2.2.2.1, ?_, ?_, ?_, ?_⟩
  · rw [h.hO]; exact k.2.1
  · rw [h.hZ]; exact k.2.2.1
  · rw [h.hO, h.2.2.1]; exact k.2.2.2.1
  · rw [h.hZ, h.2.2.1]; exact k.2.2.2.2
theorem big_same {Ω Ω2 : Og} {μ ν : Sg} (H : Big Ω μ) (hΩ : SameO Ω Ω2) (hν : SameM μ ν) (h0 : ν 0 = μ 0) : Big Ω2 ν := by
  obtain ⟨k, r, t, z, hh, l, tx⟩ := H
  refine ⟨hΩ.ok k, ?_, hν.2.2.2.2, ?_, fun i hi => ?_, ?_, fun i hi => ?_⟩
  · rw [hΩ.1, h0]; exact r
  · rw [hν.2.2.1, hΩ.2.2.1]; exact z
  · rw [hΩ.hZ] at hi
    rw [hΩ.hO, hν.1, hΩ.2.1 _ (by omega) (by omega)]
    exact hh i hi
  · rw [hΩ.2.2.2.2.2, hν.2.2.2.1]; exact l
  · rw [hΩ.2.2.2.2.1, hν.2.1]; exact tx i hi
theorem big_err {Ω Ω2 : Og} {μ ν : Sg} (H : Big Ω μ) (hΩ : SameO Ω Ω2) (hν : SameM μ ν) (h0 : ν 0 = μ 0) {a : Int32} (ha : a < 0) : (zX7_settle Ω2 a).1 = a ∧ Big (zX7_settle Ω2 a).2 ν := by
  unfold zX7_settle
  rw [if_pos ha]
  exact ⟨rfl, big_same H hΩ hν h0⟩
theorem big_set {Ω Ω2 : Og} {μ ν : Sg} (H : Big Ω μ) (hΩ : SameO Ω Ω2) (hν : SameM μ ν) (h1 : ν 1 = μ 0) {a : Int32} (hr : 0 ≤ a → RelN (Ω2 1) (ν 0)) : (zX7_settle Ω2 a).1 = (zX8_acted ν a).1 ∧ Big (zX7_settle Ω2 a).2 (zX8_acted ν a).2 := by
  have hlt : a < 0 ↔ ¬ 0 ≤ a := by
    rw [Int32.le_iff_toInt_le, Int32.lt_iff_toInt_lt]
    omega
  unfold zX7_settle zX8_acted
  by_cases ha : a < 0
  · rw [if_pos ha, if_neg (hlt.mp ha)]
    refine ⟨rfl, big_same H hΩ ⟨hν.1, hν.2.1, hν.2.2.1, hν.2.2.2.1, hν.2.2.2.2⟩ ?_⟩
    show (if (0 : Nat) = 0 then ν 1 else ν 0) = μ 0
    rw [if_pos rfl, h1]
  have ha2 : 0 ≤ a := Decidable.of_not_not (fun z => ha (hlt.mpr z))
  have hrel := hr ha2
  rw [if_neg ha, if_pos ha2]
  obtain ⟨k, r, t, z, hh, l, tx⟩ := H
  have k2 := hΩ.ok k
  have ez : ν 4 0 = nI (hZn Ω) := by rw [hν.2.2.1, z]; exact k.2.2.2.2
  have ho4 := k.2.1
  have hz5 := k.2.2.1
  have e1 : zkeep Ω2 1 = Ω2 1 := by
    unfold zkeep oH oS
    rw [if_neg (by decide), if_neg (by omega)]
  have e0 : oS (zkeep Ω2) 0 (zkeep Ω2 1) 0 = Ω2 1 := e1
  have ek : ∀ j, j ≠ 0 → oS (zkeep Ω2) 0 (zkeep Ω2 1) j = zkeep Ω2 j := fun j hj => if_neg hj
  have e6 : zkeep Ω2 6 = Ω2 6 := by
    unfold zkeep oH oS
    rw [if_neg (by decide), if_neg (by
      have : (keepN (hO Ω2) (hZn Ω2)).2.2 < 4 := by
        unfold keepN
        split <;> exact Nat.mod_lt _ (by decide)
      omega)]
  have e70 : zkeep Ω2 7 0 0 = nI (keepN (hO Ω2) (hZn Ω2)).1 := rfl
  have e71 : zkeep Ω2 7 0 1 = nI (keepN (hO Ω2) (hZn Ω2)).2.1 := rfl
  have eh : ∀ j, 2 ≤ j → j < 6 → zkeep Ω2 j = if j = (keepN (hO Ω2) (hZn Ω2)).2.2 + 2 then Ω2 0 else Ω2 j := fun j h2 h6 => by
    unfold zkeep oH oS
    rw [if_neg (by omega)]
  have okn : okO (oS (zkeep Ω2) 0 (zkeep Ω2 1)) := okO_st (okO_keep k2) (by decide) _
  have txn : ∀ i, i < 60 → oS (zkeep Ω2) 0 (zkeep Ω2 1) 6 0 i = μ 3 i := fun i hi => by
    rw [ek 6 (by decide), e6, hΩ.2.2.2.2.1]
    exact tx i hi
  have ln : oS (zkeep Ω2) 0 (zkeep Ω2 1) 6 1 0 = ν 4 1 := by
    rw [ek 6 (by decide), e6, hΩ.2.2.2.2.2, hν.2.2.2.1]
    exact l
  rw [hΩ.hO, hΩ.hZ] at e70 e71 eh
  by_cases hz : hZn Ω = 4
  · have en : keepN (hO Ω) (hZn Ω) = ((hO Ω + 1) % 4, 4, ((hO Ω + 1) % 4 + 3) % 4) := if_neg (by omega)
    simp only [en] at e70 e71 eh
    rw [if_pos (by rw [ez, hz]; rfl)]
    refine ⟨rfl, ?_⟩
    show Big (oS (zkeep Ω2) 0 (zkeep Ω2 1)) (mT (zkep (mT (zshf ν) 0 ((zshf ν) 4 0 - 1))) 0 (((zkep (mT (zshf ν) 0 ((zshf ν) 4 0 - 1))) 4 0) + 1))
    refine ⟨okn, ?_, hν.2.2.2.2, ?_, fun i hi => ?_, ln, fun i hi => ?_⟩
    · rw [e0]
      exact hrel
    · rw [ek 7 (by decide), e71]
      show ν 4 0 - 1 + 1 = _
      rw [ez, hz]
      rfl
    · have h1n : hZn (oS (zkeep Ω2) 0 (zkeep Ω2 1)) = 4 := by
        unfold hZn
        rw [ek 7 (by decide), e71]
        exact nI_clamp (by decide)
      have h0n : hO (oS (zkeep Ω2) 0 (zkeep Ω2 1)) = (hO Ω + 1) % 4 := by
        unfold hO
        rw [ek 7 (by decide), e70]
        exact nI_clamp (by omega)
      rw [h1n] at hi
      rw [h0n, ek _ (by omega), eh _ (by omega) (by omega)]
      have e3 : (ν 4 0 - 1).toNatClampNeg = 3 := by rw [ez, hz]; decide
      have ev : ∀ k, (zkep (mT (zshf ν) 0 ((zshf ν) 4 0 - 1))) 2 k = if 299 * 3 ≤ k ∧ k < 299 * 3 + 299 then ν 1 (k - 299 * 3) else if k < 897 then ν 2 (k + 299) else ν 2 k := fun k => by
        show (if 299 * (ν 4 0 - 1).toNatClampNeg ≤ k ∧ k < 299 * (ν 4 0 - 1).toNatClampNeg + 299 then ν 1 (k - 299 * (ν 4 0 - 1).toNatClampNeg) else if k < 897 then ν 2 (k + 299) else ν 2 k) = _
        rw [e3]
      by_cases h3 : i = 3
      · subst h3
        rw [if_pos (by omega), hΩ.1]
        refine Rel.cg r (fun k hk => ?_)
        show (zkep (mT (zshf ν) 0 ((zshf ν) 4 0 - 1))) 2 (299 * 3 + k) = μ 0 k
        rw [ev, if_pos (by omega), h1, Nat.add_sub_cancel_left]
      · rw [if_neg (by omega), hΩ.2.1 _ (by omega) (by omega)]
        have hi1 := hh (i + 1) (by omega)
        rw [show ((hO Ω + 1) % 4 + i) % 4 = (hO Ω + (i + 1)) % 4 by omega]
        refine Rel.cg hi1 (fun k hk => ?_)
        show (zkep (mT (zshf ν) 0 ((zshf ν) 4 0 - 1))) 2 (299 * i + k) = μ 2 (299 * (i + 1) + k)
        rw [ev, if_neg (by omega), if_pos (by omega), hν.1]
        exact congrArg _ (by omega)
    · rw [txn i hi]
      show μ 3 i = ν 3 i
      rw [hν.2.1]
  · have en : keepN (hO Ω) (hZn Ω) = (hO Ω, hZn Ω + 1, (hO Ω + hZn Ω) % 4) := if_pos (by omega)
    simp only [en] at e70 e71 eh
    rw [if_neg (by rw [ez]; intro q; have := (nI_eq (a := hZn Ω) (b := 4) (by omega) (by omega)).mp q; omega)]
    refine ⟨rfl, ?_⟩
    show Big (oS (zkeep Ω2) 0 (zkeep Ω2 1)) (mT (zkep ν) 0 (((zkep ν) 4 0) + 1))
    refine ⟨okn, ?_, hν.2.2.2.2, ?_, fun i hi => ?_, ln, fun i hi => ?_⟩
    · rw [e0]
      exact hrel
    · rw [ek 7 (by decide), e71]
      show ν 4 0 + 1 = _
      rw [ez, nI_1]
    · have h1n : hZn (oS (zkeep Ω2) 0 (zkeep Ω2 1)) = hZn Ω + 1 := by
        unfold hZn
        rw [ek 7 (by decide), e71]
        exact nI_clamp (by show hZn Ω + 1 < _; omega)
      have h0n : hO (oS (zkeep Ω2) 0 (zkeep Ω2 1)) = hO Ω := by
        unfold hO
        rw [ek 7 (by decide), e70]
        exact nI_clamp (by show hO Ω < _; omega)
      rw [h1n] at hi
      rw [h0n, ek _ (by omega), eh _ (by omega) (by omega)]
      have e3 : (ν 4 0).toNatClampNeg = hZn Ω := by rw [ez]; exact nI_clamp (by omega)
      have ev : ∀ k, (zkep ν) 2 k = if 299 * hZn Ω ≤ k ∧ k < 299 * hZn Ω + 299 then ν 1 (k - 299 * hZn Ω) else ν 2 k := fun k => by
        show (if 299 * (ν 4 0).toNatClampNeg ≤ k ∧ k < 299 * (ν 4 0).toNatClampNeg + 299 then ν 1 (k - 299 * (ν 4 0).toNatClampNeg) else ν 2 k) = _
        rw [e3]
      by_cases h3 : i = hZn Ω
      · subst h3
        rw [if_pos rfl, hΩ.1]
        refine Rel.cg r (fun k hk => ?_)
        show (zkep ν) 2 (299 * hZn Ω + k) = μ 0 k
        rw [ev, if_pos (by omega), h1, Nat.add_sub_cancel_left]
      · rw [if_neg (by omega), hΩ.2.1 _ (by omega) (by omega)]
        refine Rel.cg (hh i (by omega)) (fun k hk => ?_)
        show (zkep ν) 2 (299 * i + k) = μ 2 (299 * i + k)
        rw [ev, if_neg (by omega), hν.1]
    · rw [txn i hi]
      show μ 3 i = ν 3 i
      rw [hν.2.1]
theorem pub_undo {Ω : Og} {μ : Sg} (H : Big Ω μ) : (zX7_undo Ω).1 = (zX8_undo μ).1 ∧ Big (zX7_undo Ω).2 (zX8_undo μ).2 := by
  obtain ⟨k, r, t, z, hh, l, tx⟩ := H
  have ho4 := k.2.1
  have hz5 := k.2.2.1
  have ez : μ 4 0 = nI (hZn Ω) := by rw [z]; exact k.2.2.2.2
  unfold zX7_undo zX8_undo zrest
  have okn := okO_rest k
  unfold zrest at okn
  by_cases hz : hZn Ω = 0
  · rw [hz] at okn ⊢
    rw [if_pos (by rw [ez, hz]; rfl)]
    have er : restN (hO Ω) 0 = (0, -2) := rfl
    have eo : restO (hO Ω) 0 Ω = Ω := rfl
    rw [er, eo] at okn ⊢
    refine ⟨rfl, ?_⟩
    show Big (oH Ω (hO Ω) 0) μ
    refine ⟨okn, r, t, ?_, fun i hi => ?_, l, tx⟩
    · show μ 4 0 = nI 0
      rw [ez, hz]
    · have h1n : hZn (oH Ω (hO Ω) 0) = 0 := nI_clamp (n := 0) (by decide)
      rw [h1n] at hi
      omega
  · have er : restN (hO Ω) (hZn Ω) = (hZn Ω - 1, nI (hZn Ω - 1)) := if_neg hz
    have eo : restO (hO Ω) (hZn Ω) Ω = oS Ω 0 (Ω ((hO Ω + (hZn Ω - 1)) % 4 + 2)) := if_neg hz
    rw [er, eo] at okn ⊢
    rw [if_neg (by rw [ez]; intro q; have := (nI_eq (a := hZn Ω) (b := 0) (by omega) (by omega)).mp q; omega)]
    have e1 : μ 4 0 - 1 = nI (hZn Ω - 1) := by rw [ez]; exact pk_sub (a := hZn Ω) (b := 1) (by omega)
    have e3 : (μ 4 0 - 1).toNatClampNeg = hZn Ω - 1 := by rw [e1]; exact nI_clamp (by omega)
    refine ⟨e1.symm, ?_⟩
    show Big (oH (oS Ω 0 (Ω ((hO Ω + (hZn Ω - 1)) % 4 + 2))) (hO Ω) (hZn Ω - 1)) (zund (mT μ 0 ((μ 4 0) - 1)))
    refine ⟨okn, ?_, t, ?_, fun i hi => ?_, l, tx⟩
    · show RelN (Ω ((hO Ω + (hZn Ω - 1)) % 4 + 2)) _
      refine Rel.cg (hh (hZn Ω - 1) (by omega)) (fun k hk => ?_)
      show (if k < 299 then μ 2 (299 * (μ 4 0 - 1).toNatClampNeg + k) else μ 0 k) = _
      rw [if_pos hk, e3]
    · show μ 4 0 - 1 = nI (hZn Ω - 1)
      exact e1
    · have h1n : hZn (oH (oS Ω 0 (Ω ((hO Ω + (hZn Ω - 1)) % 4 + 2))) (hO Ω) (hZn Ω - 1)) = hZn Ω - 1 := nI_clamp (n := hZn Ω - 1) (by omega)
      have h0n : hO (oH (oS Ω 0 (Ω ((hO Ω + (hZn Ω - 1)) % 4 + 2))) (hO Ω) (hZn Ω - 1)) = hO Ω := nI_clamp (n := hO Ω) (by omega)
      rw [h1n] at hi
      rw [h0n]
      have ea : oH (oS Ω 0 (Ω ((hO Ω + (hZn Ω - 1)) % 4 + 2))) (hO Ω) (hZn Ω - 1) ((hO Ω + i) % 4 + 2) = Ω ((hO Ω + i) % 4 + 2) := by
        unfold oH oS
        rw [if_neg (by omega), if_neg (by omega)]
      rw [ea]
      exact hh i (by omega)
