/-! WRITES OF STAGES, PLACES, PERSONS, COUNTS -/
theorem Rel.st0 {δ : Nat → Int32} {T : Int} {σ : Sg} {s s2 : Nat → Int32} (h : Rel δ T σ s) {m : Nat} {v : Int32} (hm : m < nM σ) (ho : σ 1 (8 * m) ≠ 3 ∧ σ 1 (8 * m) ≠ 4 ∧ σ 1 (8 * m) ≠ 5) (hR : RR δ (sgU σ 1 (8 * m) v) s2) (hI : InvM (fun _ => s2)) (hw : ∀ a, a < 24 → s2 (52 + 8 * a + 5) = s (52 + 8 * a + 5)) (hc : s2 9 = s 9 + (if v = 3 then 1 else 0) ∧ s2 10 = s 10 + (if v = 4 then 1 else 0) ∧ s2 11 = s 11 + (if v = 5 then 1 else 0)) (hW : v = 1 ∨ v = 3 ∨ v = 4 → σ 1 (8 * m + 5) = s (52 + 8 * m + 5)) (hF : ¬ 1 < v → ¬ 1 < σ 1 (8 * m) ∨ ∀ l, l < 5 → σ 1 (8 * m + 1) = nI l → ((cnt (inL σ l) (nM σ) : Nat) : Int) + 1 ≤ (σ 0 (9 * l)).toInt) (hU : v = 1 → ∀ b, b < nM σ → b ≠ m → σ 1 (8 * b) = 1 → σ 1 (8 * b + 5) ≠ σ 1 (8 * m + 5)) : Rel δ T (sgU σ 1 (8 * m) v) s2 := by
  have hle := h.n
  have e0 : sgU σ 1 (8 * m) v 1 (8 * m) = v := sgU_eq
  have en : ∀ a, a ≠ m → sgU σ 1 (8 * m) v 1 (8 * a) = σ 1 (8 * a) := fun a ha => sgU_ne (by omega)
  have ew : ∀ a, sgU σ 1 (8 * m) v 1 (8 * a + 1) = σ 1 (8 * a + 1) := fun a => sgU_ne (by omega)
  have e5 : ∀ a, sgU σ 1 (8 * m) v 1 (8 * a + 5) = σ 1 (8 * a + 5) := fun a => sgU_ne (by omega)
  have eN : nM (sgU σ 1 (8 * m) v) = nM σ := congrArg Int32.toNatClampNeg (sgU_ne (by omega))
  have ei : ∀ l a, a ≠ m → inL (sgU σ 1 (8 * m) v) l a = inL σ l a := fun l a ha => by unfold inL; rw [en a ha, ew a]
  have im : ∀ l, inL (sgU σ 1 (8 * m) v) l m = (decide (¬ 1 < v) && decide (σ 1 (8 * m + 1) = nI l)) := fun l => by unfold inL; rw [e0, ew m]
  refine ⟨hR, hI, ⟨by rw [sgU_ne (by omega)]; exact h.B.1, fun q hq => by rw [sgU_ne (by omega)]; exact h.B.2.1 q hq, fun q hq => by rw [sgU_ne (by omega)]; exact h.B.2.2.1 q hq, fun q hq => by rw [sgU_ne (by omega)]; exact h.B.2.2.2 q hq⟩, ?_, ?_, ⟨?_, ?_⟩, ?_, ?_⟩
  · intro a ha hx
    rw [e5, hw a ha]
    by_cases e : a = m
    · subst e
      rw [e0] at hx
      exact hW hx
    · rw [en a e] at hx
      exact h.W a ha hx
  · intro a h2 ha
    rw [eN] at h2
    rw [en a (by omega)]
    exact h.S a h2 ha
  · intro l hl
    rw [eN, sgU_ne (by omega)]
    obtain ⟨f1, f2⟩ := h.F.1 l hl
    refine ⟨f1, ?_⟩
    by_cases c1 : inL (sgU σ 1 (8 * m) v) l m = true
    · have c2 := c1
      rw [im, Bool.and_eq_true, decide_eq_true_eq, decide_eq_true_eq] at c2
      by_cases c3 : inL σ l m = true
      · rw [cnt_congr (q := inL σ l) (fun i hi => by
          by_cases e : i = m
          · subst e; rw [c1, c3]
          · exact ei l i e)]
        exact f2
      · rcases hF c2.1 with z | z
        · exfalso
          apply c3
          unfold inL
          rw [decide_eq_true z, decide_eq_true c2.2]
          rfl
        · rw [cnt_one (p := inL σ l) (a := m) (fun i hi => (ei l i hi).symm) (Bool.eq_false_iff.mpr c3) c1 hm]
          have := z l hl c2.2
          omega
    · have c4 := cnt_mono (p := inL (sgU σ 1 (8 * m) v) l) (q := inL σ l) (nM σ) (fun i hi hi2 => by
        by_cases e : i = m
        · subst e; exact absurd hi2 c1
        · rw [← ei l i e]; exact hi2)
      omega
  · intro l h2 hl
    rw [sgU_ne (by omega)] at h2
    rw [sgU_ne (by omega)]
    exact h.F.2 l h2 hl
  · intro a b ha hb
    rw [eN] at ha hb
    rw [e5, e5]
    by_cases ea : a = m
    · by_cases eb : b = m
      · intro _ _ _
        omega
      · subst ea
        rw [e0, en b eb]
        intro h1 h2 h3
        exact absurd h3.symm (hU h1 b hb eb h2)
    · by_cases eb : b = m
      · subst eb
        rw [e0, en a ea]
        intro h1 h2 h3
        exact absurd h3 (hU h2 a ha ea h1)
      · rw [en a ea, en b eb]
        exact h.U a b ha hb
  · have key : ∀ c : Int32, σ 1 (8 * m) ≠ c → ∀ x y : Int32, x = nI (cnt (stq σ c) (nM σ)) → y = x + (if v = c then 1 else 0) → y = nI (cnt (stq (sgU σ 1 (8 * m) v) c) (nM σ)) := by
      intro c hcn x y hx hy
      rw [hy, hx]
      by_cases e : v = c
      · rw [if_pos e, cnt_one (p := stq σ c) (q := stq (sgU σ 1 (8 * m) v) c) (a := m) (fun i hi => by unfold stq; rw [en i hi]) (by unfold stq; exact decide_eq_false hcn) (by unfold stq; rw [e0]; exact decide_eq_true e) hm, nI_1]
      · rw [if_neg e, Int32.add_zero]
        refine congrArg nI (cnt_congr (fun i hi => ?_))
        unfold stq
        by_cases e2 : i = m
        · subst e2
          rw [e0, decide_eq_false hcn, decide_eq_false e]
        · rw [en i e2]
    unfold Cq
    rw [eN]
    exact ⟨key 3 ho.1 _ _ h.C.1 hc.1, key 4 ho.2.1 _ _ h.C.2.1 hc.2.1, key 5 ho.2.2 _ _ h.C.2.2 hc.2.2⟩
/-- a stage that is none of the last three -/
theorem Rel.st {δ : Nat → Int32} {T : Int} {σ : Sg} {s : Nat → Int32} (h : Rel δ T σ s) {m : Nat} {v : Int32} (hm : m < nM σ) (ho : σ 1 (8 * m) ≠ 3 ∧ σ 1 (8 * m) ≠ 4 ∧ σ 1 (8 * m) ≠ 5) (hv : v ≠ 3 ∧ v ≠ 4 ∧ v ≠ 5) (hW : v = 1 → σ 1 (8 * m + 5) = s (52 + 8 * m + 5) ∧ rg (s (52 + 8 * m + 5)) 8) (hF : ¬ 1 < v → ¬ 1 < σ 1 (8 * m) ∨ ∀ l, l < 5 → σ 1 (8 * m + 1) = nI l → ((cnt (inL σ l) (nM σ) : Nat) : Int) + 1 ≤ (σ 0 (9 * l)).toInt) (hU : v = 1 → ∀ b, b < nM σ → b ≠ m → σ 1 (8 * b) = 1 → σ 1 (8 * b + 5) ≠ σ 1 (8 * m + 5)) : Rel δ T (sgU σ 1 (8 * m) v) (upd s (52 + 8 * m) v) := by
  have hle := h.n
  refine h.st0 hm ho (by have := h.R.put (v := v) (dM0 (m := m) (by omega)) (by omega); rw [tM0] at this; exact this) (inv_s h.I (by omega) (fun a ha e => by omega) (fun a ha e hv => ?_) (fun a ha e => by omega) (fun k hk e => by omega)) (fun a ha => pk_un (by omega)) ⟨?_, ?_, ?_⟩ (fun z => ?_) hF hU
  · have : a = m := by omega
    subst this
    exact (hW hv).2
  · rw [pk_un (by omega), if_neg hv.1, Int32.add_zero]
  · rw [pk_un (by omega), if_neg hv.2.1, Int32.add_zero]
  · rw [pk_un (by omega), if_neg hv.2.2, Int32.add_zero]
  · rcases z with z | z | z
    · exact (hW z).1
    · exact absurd z hv.1
    · exact absurd z hv.2.1
/-- one of the last three stages, with its counter -/
theorem Rel.stE {δ : Nat → Int32} {T : Int} {σ : Sg} {s : Nat → Int32} (h : Rel δ T σ s) {m j : Nat} (hm : m < nM σ) (ho : σ 1 (8 * m) ≠ 3 ∧ σ 1 (8 * m) ≠ 4 ∧ σ 1 (8 * m) ≠ 5) (hj : j < 3) (hW : j < 2 → σ 1 (8 * m + 5) = s (52 + 8 * m + 5)) : Rel δ T (sgU σ 1 (8 * m) (nI (3 + j))) (upd (upd s (52 + 8 * m) (nI (3 + j))) (9 + j) (s (9 + j) + 1)) := by
  have hle := h.n
  have hk : ∀ a b : Nat, a < 10 → b < 10 → nI a = nI b → a = b := fun a b ha hb e => (nI_eq (by omega) (by omega)).mp e
  have n3 : ∀ b, b < 10 → b ≠ 3 + j → ¬ nI (3 + j) = nI b := fun b hb hne e => hne (hk _ _ (by omega) hb e).symm
  refine h.st0 hm ho (RR.sf (by have := h.R.put (v := nI (3 + j)) (dM0 (m := m) (by omega)) (by omega); rw [tM0] at this; exact this) (fr_c (by omega))) (inv_s (inv_s h.I (by omega) (fun a ha e => by omega) (fun a ha e hv => absurd hv (n3 1 (by omega) (by omega))) (fun a ha e => by omega) (fun k hk e => by omega)) (by omega) (fun a ha e => by omega) (fun a ha e hv => by omega) (fun a ha e => by omega) (fun k hk e => by omega)) (fun a ha => (pk_un (by omega)).trans (pk_un (by omega))) ?_ (fun z => ?_) (fun z => ?_) (fun z => absurd z (n3 1 (by omega) (by omega)))
  · have ne : ∀ c, c < 3 → c ≠ j → (upd (upd s (52 + 8 * m) (nI (3 + j))) (9 + j) (s (9 + j) + 1)) (9 + c) = s (9 + c) := fun c hc hcj => (pk_un (by omega)).trans (pk_un (by omega))
    match j, hj, n3, ne with
    | 0, _, n3, ne => exact ⟨by rw [if_pos (show nI (3 + 0) = 3 by decide)]; exact pk_us, by rw [if_neg (show ¬ nI (3 + 0) = 4 by decide), Int32.add_zero]; exact ne 1 (by omega) (by omega), by rw [if_neg (show ¬ nI (3 + 0) = 5 by decide), Int32.add_zero]; exact ne 2 (by omega) (by omega)⟩
    | 1, _, n3, ne => exact ⟨by rw [if_neg (show ¬ nI (3 + 1) = 3 by decide), Int32.add_zero]; exact ne 0 (by omega) (by omega), by rw [if_pos (show nI (3 + 1) = 4 by decide)]; exact pk_us, by rw [if_neg (show ¬ nI (3 + 1) = 5 by decide), Int32.add_zero]; exact ne 2 (by omega) (by omega)⟩
    | 2, _, n3, ne => exact ⟨by rw [if_neg (show ¬ nI (3 + 2) = 3 by decide), Int32.add_zero]; exact ne 0 (by omega) (by omega), by rw [if_neg (show ¬ nI (3 + 2) = 4 by decide), Int32.add_zero]; exact ne 1 (by omega) (by omega), by rw [if_pos (show nI (3 + 2) = 5 by decide)]; exact pk_us⟩
  · apply hW
    rcases z with z | z | z
    · exact absurd z (n3 1 (by omega) (by omega))
    · have := hk (3 + j) 3 (by omega) (by omega) z
      omega
    · have := hk (3 + j) 4 (by omega) (by omega) z
      omega
  · exfalso
    apply z
    have : nI 1 < nI (3 + j) := nI_lt (by omega) (by omega)
    exact this
/-- the person of a meal that has none -/
theorem Rel.pw {δ : Nat → Int32} {T : Int} {σ : Sg} {s : Nat → Int32} (h : Rel δ T σ s) {m : Nat} (hm : m < 24) (hs : σ 1 (8 * m) ≠ 1 ∧ σ 1 (8 * m) ≠ 3 ∧ σ 1 (8 * m) ≠ 4) (a b : Int32) : Rel δ T (sgU σ 1 (8 * m + 5) a) (upd s (52 + 8 * m + 5) b) := by
  have hle := h.n
  have hd : dm 1 (8 * m + 5) = false := by
    show (decide (8 * m + 5 < 192) && !decide ((8 * m + 5) % 8 = 5)) = false
    rw [decide_eq_true (p := (8 * m + 5) % 8 = 5) (by omega), Bool.not_true, Bool.and_false]
  have e0 : ∀ a2, sgU σ 1 (8 * m + 5) a 1 (8 * a2) = σ 1 (8 * a2) := fun a2 => sgU_ne (by omega)
  have e1 : ∀ a2, sgU σ 1 (8 * m + 5) a 1 (8 * a2 + 1) = σ 1 (8 * a2 + 1) := fun a2 => sgU_ne (by omega)
  have eN : nM (sgU σ 1 (8 * m + 5) a) = nM σ := congrArg Int32.toNatClampNeg (sgU_ne (by omega))
  refine ⟨(h.R.sf (fr_w hm)).cf hd, inv_s h.I (by omega) (fun a ha e => by omega) (fun a ha e hv => by omega) (fun a2 ha e hx => ?_) (fun k hk e => by omega), ⟨by rw [sgU_ne (by omega)]; exact h.B.1, fun q hq => by rw [sgU_ne (by omega)]; exact h.B.2.1 q hq, fun q hq => by rw [sgU_ne (by omega)]; exact h.B.2.2.1 q hq, fun q hq => by rw [sgU_ne (by omega)]; exact h.B.2.2.2 q hq⟩, ?_, ?_, ⟨?_, ?_⟩, ?_, ?_⟩
  · have : a2 = m := by omega
    subst this
    rw [h.gM0 hm] at hx
    exact absurd hx hs.1
  · intro a2 ha hx
    rw [e0] at hx
    have hne : a2 ≠ m := by
      intro e
      subst e
      rcases hx with z | z | z
      · exact hs.1 z
      · exact hs.2.1 z
      · exact hs.2.2 z
    rw [sgU_ne (by omega), pk_un (by omega)]
    exact h.W a2 ha hx
  · intro a2 h2 ha
    rw [eN] at h2
    rw [e0]
    exact h.S a2 h2 ha
  · intro l hl
    rw [eN, sgU_ne (by omega), cnt_congr (q := inL σ l) (fun i hi => by unfold inL; rw [e0, e1])]
    exact h.F.1 l hl
  · intro l h2 hl
    rw [sgU_ne (by omega)] at h2
    rw [sgU_ne (by omega)]
    exact h.F.2 l h2 hl
  · intro x y hx hy
    rw [eN] at hx hy
    rw [e0, e0]
    intro h1 h2
    have nx : x ≠ m := fun e => by subst e; exact hs.1 h1
    have ny : y ≠ m := fun e => by subst e; exact hs.1 h2
    rw [sgU_ne (by omega), sgU_ne (by omega)]
    exact h.U x y hx hy h1 h2
  · have e : ∀ c, cnt (stq (sgU σ 1 (8 * m + 5) a) c) (nM σ) = cnt (stq σ c) (nM σ) := fun c => cnt_congr (fun i hi => by unfold stq; rw [e0])
    unfold Cq
    rw [eN, e, e, e, pk_un (by omega), pk_un (by omega), pk_un (by omega)]
    exact h.C
theorem Rel.pws {δ : Nat → Int32} {T : Int} {σ : Sg} {s : Nat → Int32} (h : Rel δ T σ s) {m : Nat} (hm : m < 24) (hs : σ 1 (8 * m) ≠ 1 ∧ σ 1 (8 * m) ≠ 3 ∧ σ 1 (8 * m) ≠ 4) (b : Int32) : Rel δ T σ (upd s (52 + 8 * m + 5) b) := by
  have e := h.pw hm hs (σ 1 (8 * m + 5)) b
  rw [sgU_id rfl] at e
  exact e
/-- the place of a meal that is in no locker -/
theorem Rel.pwh {δ : Nat → Int32} {T : Int} {σ : Sg} {s : Nat → Int32} (h : Rel δ T σ s) {m : Nat} (hm : m < 24) {z : Int32} (hz : rg z 5) (hs : 1 < σ 1 (8 * m) ∨ nM σ ≤ m) : Rel δ T (sgU σ 1 (8 * m + 1) z) (upd s (52 + 8 * m + 1) z) := by
  have hle := h.n
  have e0 : ∀ a2, sgU σ 1 (8 * m + 1) z 1 (8 * a2) = σ 1 (8 * a2) := fun a2 => sgU_ne (by omega)
  have e5 : ∀ a2, sgU σ 1 (8 * m + 1) z 1 (8 * a2 + 5) = σ 1 (8 * a2 + 5) := fun a2 => sgU_ne (by omega)
  have eN : nM (sgU σ 1 (8 * m + 1) z) = nM σ := congrArg Int32.toNatClampNeg (sgU_ne (by omega))
  refine ⟨by have := h.R.put (v := z) (dM1 (m := m) hm) (by omega); rw [tM1] at this; exact this, inv_s h.I (by omega) (fun a ha e => hz) (fun a ha e hv => by omega) (fun a2 ha e hx => by omega) (fun k hk e => by omega), ⟨by rw [sgU_ne (by omega)]; exact h.B.1, fun q hq => by rw [sgU_ne (by omega)]; exact h.B.2.1 q hq, fun q hq => by rw [sgU_ne (by omega)]; exact h.B.2.2.1 q hq, fun q hq => by rw [sgU_ne (by omega)]; exact h.B.2.2.2 q hq⟩, ?_, ?_, ⟨?_, ?_⟩, ?_, ?_⟩
  · intro a2 ha hx
    rw [e0] at hx
    rw [e5, pk_un (by omega)]
    exact h.W a2 ha hx
  · intro a2 h2 ha
    rw [eN] at h2
    rw [e0]
    exact h.S a2 h2 ha
  · intro l hl
    rw [eN, sgU_ne (by omega), cnt_congr (q := inL σ l) (fun i hi => by
      unfold inL
      rw [e0]
      by_cases e : i = m
      · subst e
        rcases hs with q | q
        · rw [decide_eq_false (fun w => w q), Bool.false_and, Bool.false_and]
        · omega
      · rw [sgU_ne (by omega)])]
    exact h.F.1 l hl
  · intro l h2 hl
    rw [sgU_ne (by omega)] at h2
    rw [sgU_ne (by omega)]
    exact h.F.2 l h2 hl
  · intro x y hx hy
    rw [eN] at hx hy
    rw [e0, e0, e5, e5]
    exact h.U x y hx hy
  · have e : ∀ c, cnt (stq (sgU σ 1 (8 * m + 1) z) c) (nM σ) = cnt (stq σ c) (nM σ) := fun c => cnt_congr (fun i hi => by unfold stq; rw [e0])
    unfold Cq
    rw [eN, e, e, e, pk_un (by omega), pk_un (by omega), pk_un (by omega)]
    exact h.C
theorem inv_cnt {s : Nat → Int32} (h : InvM (fun _ => s)) {j : Nat} {v : Int32} (hj : j < 4) (hv : rg v ([6, 25, 9, 4][j]'hj)) : InvM (fun _ => upd s j v) := by
  obtain ⟨a0, a1, a2, a3, a4, a5, a6⟩ := h
  have q : ∀ i, i ≠ j → upd s j v i = s i := fun i hi => pk_un hi
  refine ⟨?_, ?_, ?_, ?_, fun m hm => ?_, fun m hm => ?_, fun k hk => ?_⟩
  · show rg (upd s j v 0) 6
    by_cases e : j = 0
    · subst e; rw [pk_us]; exact hv
    · rw [q 0 (by omega)]; exact a0
  · show rg (upd s j v 1) 25
    by_cases e : j = 1
    · subst e; rw [pk_us]; exact hv
    · rw [q 1 (by omega)]; exact a1
  · show rg (upd s j v 2) 9
    by_cases e : j = 2
    · subst e; rw [pk_us]; exact hv
    · rw [q 2 (by omega)]; exact a2
  · show rg (upd s j v 3) 4
    by_cases e : j = 3
    · subst e; rw [pk_us]; exact hv
    · rw [q 3 (by omega)]; exact a3
  · show rg (upd s j v (52 + 8 * m + 1)) 5
    rw [q _ (by omega)]
    exact a4 m hm
  · show upd s j v (52 + 8 * m) = 1 → rg (upd s j v (52 + 8 * m + 5)) 8
    rw [q _ (by omega), q _ (by omega)]
    exact a5 m hm
  · show rg (upd s j v (284 + 5 * k + 1)) 5
    rw [q _ (by omega)]
    exact a6 k hk
theorem RR.pF {δ : Nat → Int32} {σ : Sg} {s : Nat → Int32} (h : RR δ σ s) {j : Nat} {v : Int32} (hj : j < 4) : RR δ (sgU σ 5 j v) (upd s j v) := by
  have e := h.put (k := 5) (i := j) (v := v) (dF hj) (by omega)
  rw [tF hj] at e
  exact e
/-- one person, one volunteer more -/
theorem Rel.c23 {δ : Nat → Int32} {T : Int} {σ : Sg} {s : Nat → Int32} (h : Rel δ T σ s) {j : Nat} {v : Int32} (hj : j < 4) (h2 : 2 ≤ j) (hv : rg v ([6, 25, 9, 4][j]'hj)) : Rel δ T (sgU σ 5 j v) (upd s j v) :=
  h.fr (h.R.pF hj) (inv_cnt h.I hj hv) ⟨by rw [sgU_ne (by omega)]; exact h.B.1, fun q hq => by rw [sgU_ne (by omega)]; exact h.B.2.1 q hq, fun q hq => by rw [sgU_ne (by omega)]; exact h.B.2.2.1 q hq, fun q hq => by rw [sgU_ne (by omega)]; exact h.B.2.2.2 q hq⟩ (fun m hm => ⟨sgU_ne (by omega), sgU_ne (by omega), sgU_ne (by omega), pk_un (by omega)⟩) (fun l hl => sgU_ne (by omega)) ⟨sgU_ne (by omega), sgU_ne (by omega)⟩ ⟨pk_un (by omega), pk_un (by omega), pk_un (by omega)⟩
/-- one meal more, whose cells are written -/
theorem Rel.c1 {δ : Nat → Int32} {T : Int} {σ : Sg} {s : Nat → Int32} (h : Rel δ T σ s) (hm : nM σ < 24) {l : Nat} (hl : l < 5) (hw : σ 1 (8 * nM σ + 1) = nI l) (hf : ((cnt (inL σ l) (nM σ) : Nat) : Int) + 1 ≤ (σ 0 (9 * l)).toInt) : Rel δ T (sgU σ 5 1 (nI (nM σ + 1))) (upd s 1 (nI (nM σ + 1))) := by
  have e1 : ∀ i, sgU σ 5 1 (nI (nM σ + 1)) 1 i = σ 1 i := fun i => sgU_ne (by omega)
  have e0 : ∀ i, sgU σ 5 1 (nI (nM σ + 1)) 0 i = σ 0 i := fun i => sgU_ne (by omega)
  have eN : nM (sgU σ 5 1 (nI (nM σ + 1))) = nM σ + 1 := by
    unfold nM
    rw [sgU_eq]
    exact nI_clamp (by unfold nM at hm; omega)
  have hz := h.S (nM σ) (Nat.le_refl _) hm
  refine ⟨h.R.pF (by decide), inv_cnt h.I (by decide) (rg_of (n := 25) (by omega) (by decide)), ⟨by rw [sgU_ne (by omega)]; exact h.B.1, fun q hq => by rw [sgU_ne (by omega)]; exact h.B.2.1 q hq, fun q hq => by rw [sgU_ne (by omega)]; exact h.B.2.2.1 q hq, fun q hq => by rw [sgU_ne (by omega)]; exact h.B.2.2.2 q hq⟩, ?_, ?_, ⟨?_, ?_⟩, ?_, ?_⟩
  · intro a ha hx
    rw [e1] at hx
    rw [e1, pk_un (by omega)]
    exact h.W a ha hx
  · intro a h2 ha
    rw [eN] at h2
    rw [e1]
    exact h.S a (by omega) ha
  · intro l2 hl2
    obtain ⟨f1, f2⟩ := h.F.1 l2 hl2
    have ec : ∀ i, inL (sgU σ 5 1 (nI (nM σ + 1))) l2 i = inL σ l2 i := fun i => by unfold inL; rw [e1, e1]
    rw [eN, e0, cnt_congr (q := inL σ l2) (fun i _ => ec i)]
    refine ⟨f1, ?_⟩
    show ((cnt (inL σ l2) (nM σ) + (if inL σ l2 (nM σ) then 1 else 0) : Nat) : Int) ≤ _
    by_cases e : l2 = l
    · subst e
      have : (if inL σ l2 (nM σ) then 1 else 0 : Nat) ≤ 1 := by split <;> omega
      omega
    · have : inL σ l2 (nM σ) = false := by
        unfold inL
        rw [hw, decide_eq_false (p := nI l = nI l2) (fun z => e ((nI_eq (by omega) (by omega)).mp z).symm), Bool.and_false]
      rw [if_neg (by rw [this]; decide)]
      exact f2
  · intro l2 h2 hl2
    rw [sgU_ne (by omega)] at h2
    rw [e0]
    exact h.F.2 l2 h2 hl2
  · intro a b ha hb
    rw [eN] at ha hb
    rw [e1, e1, e1, e1]
    intro h1 h2
    have na : a ≠ nM σ := fun z => by rw [z, hz] at h1; exact absurd h1 (by decide)
    have nb : b ≠ nM σ := fun z => by rw [z, hz] at h2; exact absurd h2 (by decide)
    exact h.U a b (by omega) (by omega) h1 h2
  · have e : ∀ c : Int32, (0 : Int32) ≠ c → cnt (stq (sgU σ 5 1 (nI (nM σ + 1))) c) (nM σ + 1) = cnt (stq σ c) (nM σ) := fun c hc => by
      rw [cnt_congr (q := stq σ c) (fun i hi => by unfold stq; rw [e1])]
      show cnt (stq σ c) (nM σ) + (if stq σ c (nM σ) then 1 else 0) = _
      rw [if_neg (by unfold stq; rw [hz, decide_eq_false hc]; decide)]
      rfl
    unfold Cq
    rw [eN, e 3 (by decide), e 4 (by decide), e 5 (by decide), pk_un (by omega), pk_un (by omega), pk_un (by omega)]
    exact h.C
/-- one locker more, with its cells -/
theorem Rel.c0 {δ : Nat → Int32} {T : Int} {σ : Sg} {s : Nat → Int32} (h : Rel δ T σ s) {l : Nat} (hl : l < 5) (he : σ 5 0 = nI l) {x : Int32} (hx : rg x 9) : Rel δ T (sgU (sgU σ 0 (9 * l) x) 5 0 (nI (l + 1))) (upd (upd s (12 + 8 * l) x) 0 (nI (l + 1))) := by
  have e1 : ∀ i, (sgU (sgU σ 0 (9 * l) x) 5 0 (nI (l + 1))) 1 i = σ 1 i := fun i => (sgU_ne (by omega)).trans (sgU_ne (by omega))
  have eN : nM (sgU (sgU σ 0 (9 * l) x) 5 0 (nI (l + 1))) = nM σ := congrArg Int32.toNatClampNeg ((sgU_ne (by omega)).trans (sgU_ne (by omega)))
  have e5 : (sgU (sgU σ 0 (9 * l) x) 5 0 (nI (l + 1))) 5 0 = nI (l + 1) := sgU_eq
  have el : (σ 5 0).toNatClampNeg = l := by rw [he]; exact nI_clamp (by omega)
  have hz := h.F.2 l (by omega) hl
  have ec : ∀ l2 i, inL (sgU (sgU σ 0 (9 * l) x) 5 0 (nI (l + 1))) l2 i = inL σ l2 i := fun l2 i => by unfold inL; rw [e1, e1]
  have h0 := h.R.put (v := x) (dL0 hl) (by omega)
  rw [tL0] at h0
  refine ⟨h0.pF (by decide), inv_cnt (inv_s h.I (by omega) (fun a ha e => by omega) (fun a ha e hv => by omega) (fun a ha e => by omega) (fun k hk e => by omega)) (by decide) (rg_of (n := 6) (by omega) (by decide)), ⟨by rw [sgU_ne (by omega), sgU_ne (by omega)]; exact h.B.1, fun q hq => by rw [sgU_ne (by omega), sgU_ne (by omega)]; exact h.B.2.1 q hq, fun q hq => by rw [sgU_ne (by omega), sgU_ne (by omega)]; exact h.B.2.2.1 q hq, fun q hq => by rw [sgU_ne (by omega), sgU_ne (by omega)]; exact h.B.2.2.2 q hq⟩, ?_, ?_, ⟨?_, ?_⟩, ?_, ?_⟩
  · intro a ha hx
    rw [e1] at hx
    rw [e1, pk_un (by omega), pk_un (by omega)]
    exact h.W a ha hx
  · intro a h2 ha
    rw [eN] at h2
    rw [e1]
    exact h.S a h2 ha
  · intro l2 hl2
    obtain ⟨f1, f2⟩ := h.F.1 l2 hl2
    rw [eN, cnt_congr (q := inL σ l2) (fun i _ => ec l2 i), sgU_ne (by omega)]
    by_cases e : l2 = l
    · subst e
      rw [sgU_eq]
      rw [hz] at f2
      refine ⟨hx, ?_⟩
      have q0 : (0 : Int32).toInt = 0 := by decide
      have := hx.1
      omega
    · rw [sgU_ne (by omega)]
      exact ⟨f1, f2⟩
  · intro l2 h2 hl2
    rw [e5, nI_clamp (by omega)] at h2
    rw [sgU_ne (by omega), sgU_ne (by omega)]
    exact h.F.2 l2 (by omega) hl2
  · intro a b ha hb
    rw [eN] at ha hb
    rw [e1, e1, e1, e1]
    exact h.U a b ha hb
  · have e : ∀ c, cnt (stq (sgU (sgU σ 0 (9 * l) x) 5 0 (nI (l + 1))) c) (nM σ) = cnt (stq σ c) (nM σ) := fun c => cnt_congr (fun i hi => by unfold stq; rw [e1])
    unfold Cq
    rw [eN, e, e, e, pk_un (by omega), pk_un (by omega), pk_un (by omega), pk_un (by omega), pk_un (by omega), pk_un (by omega)]
    exact h.C
