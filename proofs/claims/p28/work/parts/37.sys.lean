/-- where the object's parts lie: ob 0 itself, 1 changes, 2 questions, 3 history, 4 its row, 5 text, 6 its characters, 7 player -/
def SysH (D : va_G) (y : Y3) (ob : Nat → Nat) (AD : Nat → Nat → Nat) (Ω : Og) (H : Heap) : Prop :=
  va_P D vwCl [(ob 0, .inr (7, [.ref (AD 0 0), .ref (AD 1 0), .ref (ob 1), .ref (ob 2), .ref (ob 3), .ref (ob 5), .ref (ob 7)]))] H ∧
  qoH D 0 (ob 1) (AD 1) H ∧ qoH D 3 (ob 2) (AD 0) H ∧ HisH D y (ob 3) (ob 4) AD (Ω 7 0 0) (Ω 7 0 1) H ∧ TxH D y (ob 5) (ob 6) (Ω 6) H ∧
  va_P D vwCl [(ob 7, .inr (2, [.ref (ob 5), .int (Ω 7 1 0), .int (Ω 7 1 1)]))] H ∧ SsH D y AD Ω H
def sysJ (ob : Nat → Nat) (AD : Nat → Nat → Nat) : Prop := adJ AD ∧ (∀ i j, i < 8 → j < 8 → ob i = ob j → i = j) ∧ ∀ k i j, k < 6 → i < 11 → j < 8 → AD k i ≠ ob j
def sysA (ob : Nat → Nat) (AD : Nat → Nat → Nat) : Nat → Prop := fun q => (∃ i, i < 8 ∧ q = ob i) ∨ alA AD q
/-- the history's numbers, as naturals -/
def hO (Ω : Og) : Nat := (Ω 7 0 0).toNatClampNeg
def hZn (Ω : Og) : Nat := (Ω 7 0 1).toNatClampNeg
def okO (Ω : Og) : Prop := okC (Ω 6) ∧ hO Ω < 4 ∧ hZn Ω < 5 ∧ Ω 7 0 0 = nI (hO Ω) ∧ Ω 7 0 1 = nI (hZn Ω)
def oH (Ω : Og) (o z : Nat) : Og := oS Ω 7 (fun j => if j = 0 then upd (upd (Ω 7 0) 0 (nI o)) 1 (nI z) else Ω 7 j)
theorem sysA_ob {ob : Nat → Nat} {AD : Nat → Nat → Nat} {i : Nat} (hi : i < 8) : sysA ob AD (ob i) := Or.inl ⟨i, hi, rfl⟩
theorem sysA_st {ob : Nat → Nat} {AD : Nat → Nat → Nat} {k : Nat} (hk : k < 6) : ∀ q, stA (AD k) q → sysA ob AD q := fun _ h => Or.inr ⟨k, hk, h⟩
theorem sysA_tx {ob : Nat → Nat} {AD : Nat → Nat → Nat} : ∀ q, tbA (ob 5) (ob 6) q → sysA ob AD q := fun _ h => h.elim (fun e => Or.inl ⟨5, by decide, e⟩) (fun e => Or.inl ⟨6, by decide, e⟩)
theorem sysA_hi {ob : Nat → Nat} {AD : Nat → Nat → Nat} : ∀ q, hisA (ob 3) AD q → sysA ob AD q := fun _ h => h.elim (fun e => Or.inl ⟨3, by decide, e⟩) (fun e => Or.inr e)
theorem sysA_pl {ob : Nat → Nat} {AD : Nat → Nat → Nat} : ∀ q, plA (ob 7) (ob 5) (ob 6) (AD 1) q → sysA ob AD q := fun q h => h.elim (fun e => Or.inl ⟨7, by decide, e⟩) (fun h => h.elim (sysA_tx q) (sysA_st (by decide) q))
theorem Sys.st {D : va_G} {y : Y3} {ob : Nat → Nat} {AD : Nat → Nat → Nat} {Ω : Og} {H H1 : Heap} (h : SysH D y ob AD Ω H) (J : sysJ ob AD) (k : Nat) (hk : k < 6) {σ : Sg} (h1 : StH D y (AD k) σ H1) (hq : ∀ q : Nat, q < H.size → ¬ stA (AD k) q → H1[q]? = H[q]?) : SysH D y ob AD (oS Ω k σ) H1 := by
  obtain ⟨a1, a2, a3, a4, a5, a6, a7⟩ := h
  have no : ∀ j, j < 8 → ob j < H.size → H1[ob j]? = H[ob j]? := fun j hj hl => hq _ hl (fun z => by obtain ⟨i, hi, e⟩ := z; exact J.2.2 k i j hk hi hj e.symm)
  have e6 : oS Ω k σ 6 = Ω 6 := by unfold oS; rw [if_neg (by omega)]
  have e7 : oS Ω k σ 7 = Ω 7 := by unfold oS; rw [if_neg (by omega)]
  refine ⟨va1_kept a1 (no 0 (by decide) (va1_lt a1)), qo_kept a2 (no 1 (by decide) (qo_lt a2)), qo_kept a3 (no 2 (by decide) (qo_lt a3)), ?_, ?_, ?_, ss_set a7 J.1 hk h1 hq⟩
  · rw [e7]; exact hi_kept a4 (no 3 (by decide) (hi_lt a4).1) (no 4 (by decide) (hi_lt a4).2)
  · rw [e6]; exact tx_kept a5 (fun q z => by
      rcases z with rfl | rfl
      · exact no 5 (by decide) (tx_lt a5).1
      · exact no 6 (by decide) (tx_lt a5).2)
  · rw [e7]; exact va1_kept a6 (no 7 (by decide) (va1_lt a6))
theorem Sys.tx {D : va_G} {y : Y3} {ob : Nat → Nat} {AD : Nat → Nat → Nat} {Ω : Og} {H H1 : Heap} (h : SysH D y ob AD Ω H) (J : sysJ ob AD) {τ : Sg} (h1 : TxH D y (ob 5) (ob 6) τ H1) (hq : ∀ q : Nat, q < H.size → ¬ tbA (ob 5) (ob 6) q → H1[q]? = H[q]?) : SysH D y ob AD (oS Ω 6 τ) H1 := by
  obtain ⟨a1, a2, a3, a4, a5, a6, a7⟩ := h
  have no : ∀ j, j < 8 → j ≠ 5 → j ≠ 6 → ob j < H.size → H1[ob j]? = H[ob j]? := fun j hj n5 n6 hl => hq _ hl (fun z => z.elim (fun e => n5 (J.2.1 j 5 hj (by decide) e)) (fun e => n6 (J.2.1 j 6 hj (by decide) e)))
  refine ⟨va1_kept a1 (no 0 (by decide) (by decide) (by decide) (va1_lt a1)), qo_kept a2 (no 1 (by decide) (by decide) (by decide) (qo_lt a2)), qo_kept a3 (no 2 (by decide) (by decide) (by decide) (qo_lt a3)), hi_kept a4 (no 3 (by decide) (by decide) (by decide) (hi_lt a4).1) (no 4 (by decide) (by decide) (by decide) (hi_lt a4).2), h1, va1_kept a6 (no 7 (by decide) (by decide) (by decide) (va1_lt a6)), ?_⟩
  intro k hk
  have e : oS Ω 6 τ k = Ω k := by unfold oS; rw [if_neg (by omega)]
  rw [e]
  exact st_kept (a7 k hk) (fun i hi => hq _ (st_lt (a7 k hk) hi) (fun z => z.elim (fun e => J.2.2 k i 5 hk hi (by decide) e) (fun e => J.2.2 k i 6 hk hi (by decide) e)))
theorem Sys.hi {D : va_G} {y : Y3} {ob : Nat → Nat} {AD : Nat → Nat → Nat} {Ω Ω2 : Og} {H H1 : Heap} (h : SysH D y ob AD Ω H) (J : sysJ ob AD) {o z : Nat} (h1 : HisH D y (ob 3) (ob 4) AD (nI o) (nI z) H1) (h2 : SsH D y AD Ω2 H1) (e6 : Ω2 6 = Ω 6) (e7 : Ω2 7 = Ω 7) (hq : ∀ q : Nat, q < H.size → ¬ hisA (ob 3) AD q → H1[q]? = H[q]?) : SysH D y ob AD (oH Ω2 o z) H1 := by
  obtain ⟨a1, a2, a3, a4, a5, a6, a7⟩ := h
  have no : ∀ j, j < 8 → j ≠ 3 → ob j < H.size → H1[ob j]? = H[ob j]? := fun j hj n3 hl => hq _ hl (fun z => z.elim (fun e => n3 (J.2.1 j 3 hj (by decide) e)) (fun z => by obtain ⟨k, hk, i, hi, e⟩ := z; exact J.2.2 k i j hk hi hj e.symm))
  have f6 : oH Ω2 o z 6 = Ω 6 := by rw [← e6]; rfl
  have f7 : oH Ω2 o z 7 1 = Ω 7 1 := by rw [← e7]; rfl
  refine ⟨va1_kept a1 (no 0 (by decide) (by decide) (va1_lt a1)), qo_kept a2 (no 1 (by decide) (by decide) (qo_lt a2)), qo_kept a3 (no 2 (by decide) (by decide) (qo_lt a3)), h1, ?_, ?_, ?_⟩
  · rw [f6]; exact tx_kept a5 (fun q z => by
      rcases z with rfl | rfl
      · exact no 5 (by decide) (by decide) (tx_lt a5).1
      · exact no 6 (by decide) (by decide) (tx_lt a5).2)
  · rw [f7]; exact va1_kept a6 (no 7 (by decide) (by decide) (va1_lt a6))
  · intro k hk
    have e : oH Ω2 o z k = Ω2 k := by unfold oH oS; rw [if_neg (by omega)]
    rw [e]
    exact h2 k hk
theorem Sys.pl {D : va_G} {y : Y3} {ob : Nat → Nat} {AD : Nat → Nat → Nat} {Ω Ω2 : Og} {H H1 : Heap} (h : SysH D y ob AD Ω H) (J : sysJ ob AD) (h1 : PLH D y (ob 7) (ob 5) (ob 6) (ob 1) (AD 1) Ω2 H1) (e : ∀ k, k < 6 → k ≠ 1 → Ω2 k = Ω k) (e7 : Ω2 7 0 = Ω 7 0) (hq : ∀ q : Nat, q < H.size → ¬ plA (ob 7) (ob 5) (ob 6) (AD 1) q → H1[q]? = H[q]?) : SysH D y ob AD Ω2 H1 := by
  obtain ⟨a1, a2, a3, a4, a5, a6, a7⟩ := h
  obtain ⟨b1, b2, b3, b4⟩ := h1
  have no : ∀ j, j < 8 → j ≠ 5 → j ≠ 6 → j ≠ 7 → ob j < H.size → H1[ob j]? = H[ob j]? := fun j hj n5 n6 n7 hl => hq _ hl (fun z => by
    rcases z with e | (e | e) | ⟨i, hi, e⟩
    · exact n7 (J.2.1 j 7 hj (by decide) e)
    · exact n5 (J.2.1 j 5 hj (by decide) e)
    · exact n6 (J.2.1 j 6 hj (by decide) e)
    · exact J.2.2 1 i j (by decide) hi hj e.symm)
  refine ⟨va1_kept a1 (no 0 (by decide) (by decide) (by decide) (by decide) (va1_lt a1)), b4, qo_kept a3 (no 2 (by decide) (by decide) (by decide) (by decide) (qo_lt a3)), ?_, b2, b1, ?_⟩
  · rw [e7]; exact hi_kept a4 (no 3 (by decide) (by decide) (by decide) (by decide) (hi_lt a4).1) (no 4 (by decide) (by decide) (by decide) (by decide) (hi_lt a4).2)
  · intro k hk
    by_cases hk1 : k = 1
    · subst hk1; exact b3
    · rw [e k hk hk1]
      exact st_kept (a7 k hk) (fun i hi => hq _ (st_lt (a7 k hk) hi) (fun z => by
        rcases z with e | (e | e) | ⟨i2, hi2, e⟩
        · exact J.2.2 k i 7 hk hi (by decide) e
        · exact J.2.2 k i 5 hk hi (by decide) e
        · exact J.2.2 k i 6 hk hi (by decide) e
        · exact hk1 (J.1 k i 1 i2 hk hi (by decide) hi2 e).1))
theorem Sys.plh {D : va_G} {y : Y3} {ob : Nat → Nat} {AD : Nat → Nat → Nat} {Ω : Og} {H : Heap} (h : SysH D y ob AD Ω H) : PLH D y (ob 7) (ob 5) (ob 6) (ob 1) (AD 1) Ω H := ⟨h.2.2.2.2.2.1, h.2.2.2.2.1, h.2.2.2.2.2.2 1 (by decide), h.2.1⟩
theorem sysJ.pl {ob : Nat → Nat} {AD : Nat → Nat → Nat} (J : sysJ ob AD) : plJ (ob 7) (ob 5) (ob 6) (ob 1) (AD 1) := by
  have n : ∀ i j, i < 8 → j < 8 → i ≠ j → ob i ≠ ob j := fun i j hi hj hne e => hne (J.2.1 i j hi hj e)
  exact ⟨J.1.one (by decide), n 5 6 (by decide) (by decide) (by decide), n 7 5 (by decide) (by decide) (by decide), n 7 6 (by decide) (by decide) (by decide), n 7 1 (by decide) (by decide) (by decide), n 5 1 (by decide) (by decide) (by decide), n 6 1 (by decide) (by decide) (by decide), fun k hk => ⟨J.2.2 1 k 1 (by decide) hk (by decide), J.2.2 1 k 7 (by decide) hk (by decide), J.2.2 1 k 5 (by decide) hk (by decide), J.2.2 1 k 6 (by decide) hk (by decide)⟩⟩
theorem okO_st {Ω : Og} (h : okO Ω) {k : Nat} (hk : k < 6) (σ : Sg) : okO (oS Ω k σ) := by
  have e6 : oS Ω k σ 6 = Ω 6 := by unfold oS; rw [if_neg (by omega)]
  have e7 : oS Ω k σ 7 = Ω 7 := by unfold oS; rw [if_neg (by omega)]
  unfold okO hO hZn
  rw [e6, e7]
  exact h
theorem okO_tx {Ω : Og} (h : okO Ω) {τ : Sg} (hc : okC τ) : okO (oS Ω 6 τ) := ⟨hc, h.2⟩
theorem okO_hi {Ω : Og} (h : okC (Ω 6)) {o z : Nat} (ho : o < 4) (hz : z < 5) : okO (oH Ω o z) := by
  have e1 : oH Ω o z 7 0 0 = nI o := rfl
  have e2 : oH Ω o z 7 0 1 = nI z := rfl
  have e3 : hO (oH Ω o z) = o := by unfold hO; rw [e1]; exact nI_clamp (by omega)
  have e4 : hZn (oH Ω o z) = z := by unfold hZn; rw [e2]; exact nI_clamp (by omega)
  exact ⟨h, by rw [e3]; exact ho, by rw [e4]; exact hz, by rw [e3]; exact e1, by rw [e4]; exact e2⟩
theorem keepN_lt {o z : Nat} (ho : o < 4) (hz : z < 5) : (keepN o z).1 < 4 ∧ (keepN o z).2.1 < 5 ∧ (keepN o z).2.2 < 4 := by
  unfold keepN
  split
  · exact ⟨ho, by dsimp only; omega, Nat.mod_lt _ (by decide)⟩
  · exact ⟨Nat.mod_lt _ (by decide), by dsimp only; omega, Nat.mod_lt _ (by decide)⟩
