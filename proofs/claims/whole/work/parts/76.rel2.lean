/-! THE RELATION OF A STATE OF THE SYSTEM AND THE REFERENCE'S ROW -/
def adj (δ : Nat → Int32) (k i : Nat) : Int32 := if k = 3 ∧ i % 5 = 4 then δ (i / 5) else 0
def RR (δ : Nat → Int32) (σ : Sg) (s : Nat → Int32) : Prop := ∀ k i, dm k i = true → s (tr k i) = σ k i + adj δ k i
def nM (σ : Sg) : Nat := (σ 5 1).toNatClampNeg
def inL (σ : Sg) (l m : Nat) : Bool := decide (¬ 1 < σ 1 (8 * m)) && decide (σ 1 (8 * m + 1) = nI l)
def stq (σ : Sg) (c : Int32) (m : Nat) : Bool := decide (σ 1 (8 * m) = c)
def bnd (T : Int) (σ : Sg) : Prop := rg (σ 5 5) T ∧ (∀ p, p < 8 → rg (σ 2 (6 * p + 2)) 10000) ∧ (∀ v, v < 3 → rg (σ 3 (5 * v + 3)) 10000) ∧ ∀ j, j < 4 → rg (σ 4 j) 100
def Wq (σ : Sg) (s : Nat → Int32) : Prop := ∀ m, m < 24 → σ 1 (8 * m) = 1 ∨ σ 1 (8 * m) = 3 ∨ σ 1 (8 * m) = 4 → σ 1 (8 * m + 5) = s (52 + 8 * m + 5)
def Sq (σ : Sg) : Prop := ∀ m, nM σ ≤ m → m < 24 → σ 1 (8 * m) = 0
def Fq (σ : Sg) : Prop := (∀ l, l < 5 → rg (σ 0 (9 * l)) 9 ∧ ((cnt (inL σ l) (nM σ) : Nat) : Int) ≤ (σ 0 (9 * l)).toInt) ∧ ∀ l, (σ 5 0).toNatClampNeg ≤ l → l < 5 → σ 0 (9 * l) = 0
def Uq (σ : Sg) : Prop := ∀ a b, a < nM σ → b < nM σ → σ 1 (8 * a) = 1 → σ 1 (8 * b) = 1 → σ 1 (8 * a + 5) = σ 1 (8 * b + 5) → a = b
def Cq (σ : Sg) (s : Nat → Int32) : Prop := s 9 = nI (cnt (stq σ 3) (nM σ)) ∧ s 10 = nI (cnt (stq σ 4) (nM σ)) ∧ s 11 = nI (cnt (stq σ 5) (nM σ))
def Rel (δ : Nat → Int32) (T : Int) (σ : Sg) (s : Nat → Int32) : Prop := RR δ σ s ∧ InvM (fun _ => s) ∧ bnd T σ ∧ Wq σ s ∧ Sq σ ∧ Fq σ ∧ Uq σ ∧ Cq σ s
theorem Rel.R {δ : Nat → Int32} {T : Int} {σ : Sg} {s : Nat → Int32} (h : Rel δ T σ s) : RR δ σ s := h.1
theorem Rel.I {δ : Nat → Int32} {T : Int} {σ : Sg} {s : Nat → Int32} (h : Rel δ T σ s) : InvM (fun _ => s) := h.2.1
theorem Rel.B {δ : Nat → Int32} {T : Int} {σ : Sg} {s : Nat → Int32} (h : Rel δ T σ s) : bnd T σ := h.2.2.1
theorem Rel.W {δ : Nat → Int32} {T : Int} {σ : Sg} {s : Nat → Int32} (h : Rel δ T σ s) : Wq σ s := h.2.2.2.1
theorem Rel.S {δ : Nat → Int32} {T : Int} {σ : Sg} {s : Nat → Int32} (h : Rel δ T σ s) : Sq σ := h.2.2.2.2.1
theorem Rel.F {δ : Nat → Int32} {T : Int} {σ : Sg} {s : Nat → Int32} (h : Rel δ T σ s) : Fq σ := h.2.2.2.2.2.1
theorem Rel.U {δ : Nat → Int32} {T : Int} {σ : Sg} {s : Nat → Int32} (h : Rel δ T σ s) : Uq σ := h.2.2.2.2.2.2.1
theorem Rel.C {δ : Nat → Int32} {T : Int} {σ : Sg} {s : Nat → Int32} (h : Rel δ T σ s) : Cq σ s := h.2.2.2.2.2.2.2
theorem RR.g {δ : Nat → Int32} {σ : Sg} {s : Nat → Int32} (h : RR δ σ s) {k i : Nat} (hd : dm k i = true) (hn : ¬ (k = 3 ∧ i % 5 = 4)) : s (tr k i) = σ k i := by
  rw [h k i hd]
  unfold adj
  rw [if_neg hn, Int32.add_zero]
theorem RR.put {δ : Nat → Int32} {σ : Sg} {s : Nat → Int32} (h : RR δ σ s) {k i : Nat} {v : Int32} (hd : dm k i = true) (hn : ¬ (k = 3 ∧ i % 5 = 4)) : RR δ (sgU σ k i v) (upd s (tr k i) v) := by
  intro a b hab
  by_cases e : a = k ∧ b = i
  · obtain ⟨rfl, rfl⟩ := e
    rw [pk_us, sgU_eq]
    unfold adj
    rw [if_neg hn, Int32.add_zero]
  · rw [pk_un (tr_ne hd hab (by omega)), sgU_ne (by omega)]
    exact h a b hab
theorem RR.sf {δ : Nat → Int32} {σ : Sg} {s : Nat → Int32} (h : RR δ σ s) {j : Nat} {v : Int32} (hj : ∀ k i, dm k i = true → tr k i ≠ j) : RR δ σ (upd s j v) := by
  intro a b hab
  rw [pk_un (hj a b hab)]
  exact h a b hab
theorem RR.cf {δ : Nat → Int32} {σ : Sg} {s : Nat → Int32} (h : RR δ σ s) {k i : Nat} {v : Int32} (hd : dm k i = false) : RR δ (sgU σ k i v) s := by
  intro a b hab
  rw [sgU_ne (by
    by_cases e : a = k
    · subst e
      right
      intro e2
      subst e2
      rw [hab] at hd
      exact absurd hd (by decide)
    · exact Or.inl e)]
  exact h a b hab
theorem fr_c {j : Nat} (hj : j = 9 ∨ j = 10 ∨ j = 11) : ∀ k i, dm k i = true → tr k i ≠ j := fun k i h => by
  have a := dm_lt h
  have b := tr_fr k a.1 i a.2 h
  omega
theorem fr_w {m : Nat} (hm : m < 24) : ∀ k i, dm k i = true → tr k i ≠ 52 + 8 * m + 5 := fun k i h => by
  have a := dm_lt h
  have b := tr_fr k a.1 i a.2 h
  omega
theorem inv_s {s : Nat → Int32} {i : Nat} {v : Int32} (h : InvM (fun _ => s)) (h4 : 4 ≤ i) (hm1 : ∀ m, m < 24 → i = 52 + 8 * m + 1 → rg v 5) (hm0 : ∀ m, m < 24 → i = 52 + 8 * m → v = 1 → rg (s (52 + 8 * m + 5)) 8) (hm5 : ∀ m, m < 24 → i = 52 + 8 * m + 5 → s (52 + 8 * m) = 1 → rg v 8) (hh : ∀ k, k < 3 → i = 284 + 5 * k + 1 → rg v 5) : InvM (fun _ => upd s i v) := inv_upd (μ := fun _ => s) h h4 hm1 hm0 hm5 hh
theorem Rel.g {δ : Nat → Int32} {T : Int} {σ : Sg} {s : Nat → Int32} (h : Rel δ T σ s) {k i : Nat} (hd : dm k i = true) (hn : ¬ (k = 3 ∧ i % 5 = 4)) : s (tr k i) = σ k i := h.R.g hd hn
theorem Rel.gL0 {δ : Nat → Int32} {T : Int} {σ : Sg} {s : Nat → Int32} (h : Rel δ T σ s) {l : Nat} (hl : l < 5) : s (12 + 8 * l) = σ 0 (9 * l) := by
  have e := h.g (dL0 hl) (by omega)
  rw [tL0] at e
  exact e
theorem Rel.gL1 {δ : Nat → Int32} {T : Int} {σ : Sg} {s : Nat → Int32} (h : Rel δ T σ s) {l : Nat} (hl : l < 5) : s (12 + 8 * l + 1) = σ 0 (9 * l + 1) := by
  have e := h.g (dL1 hl) (by omega)
  rw [tL1] at e
  exact e
theorem Rel.gL3 {δ : Nat → Int32} {T : Int} {σ : Sg} {s : Nat → Int32} (h : Rel δ T σ s) {l : Nat} (hl : l < 5) : s (12 + 8 * l + 2) = σ 0 (9 * l + 3) := by
  have e := h.g (dL3 hl) (by omega)
  rw [tL3] at e
  exact e
theorem Rel.gL4 {δ : Nat → Int32} {T : Int} {σ : Sg} {s : Nat → Int32} (h : Rel δ T σ s) {l : Nat} (hl : l < 5) : s (12 + 8 * l + 3) = σ 0 (9 * l + 4) := by
  have e := h.g (dL4 hl) (by omega)
  rw [tL4] at e
  exact e
theorem Rel.gL5 {δ : Nat → Int32} {T : Int} {σ : Sg} {s : Nat → Int32} (h : Rel δ T σ s) {l : Nat} (hl : l < 5) : s (12 + 8 * l + 4) = σ 0 (9 * l + 5) := by
  have e := h.g (dL5 hl) (by omega)
  rw [tL5] at e
  exact e
theorem Rel.gL6 {δ : Nat → Int32} {T : Int} {σ : Sg} {s : Nat → Int32} (h : Rel δ T σ s) {l : Nat} (hl : l < 5) : s (12 + 8 * l + 5) = σ 0 (9 * l + 6) := by
  have e := h.g (dL6 hl) (by omega)
  rw [tL6] at e
  exact e
theorem Rel.gL7 {δ : Nat → Int32} {T : Int} {σ : Sg} {s : Nat → Int32} (h : Rel δ T σ s) {l : Nat} (hl : l < 5) : s (12 + 8 * l + 6) = σ 0 (9 * l + 7) := by
  have e := h.g (dL7 hl) (by omega)
  rw [tL7] at e
  exact e
theorem Rel.gL8 {δ : Nat → Int32} {T : Int} {σ : Sg} {s : Nat → Int32} (h : Rel δ T σ s) {l : Nat} (hl : l < 5) : s (12 + 8 * l + 7) = σ 0 (9 * l + 8) := by
  have e := h.g (dL8 hl) (by omega)
  rw [tL8] at e
  exact e
theorem Rel.gM0 {δ : Nat → Int32} {T : Int} {σ : Sg} {s : Nat → Int32} (h : Rel δ T σ s) {m : Nat} (hl : m < 24) : s (52 + 8 * m) = σ 1 (8 * m) := by
  have e := h.g (dM0 hl) (by omega)
  rw [tM0] at e
  exact e
theorem Rel.gM1 {δ : Nat → Int32} {T : Int} {σ : Sg} {s : Nat → Int32} (h : Rel δ T σ s) {m : Nat} (hl : m < 24) : s (52 + 8 * m + 1) = σ 1 (8 * m + 1) := by
  have e := h.g (dM1 hl) (by omega)
  rw [tM1] at e
  exact e
theorem Rel.gM2 {δ : Nat → Int32} {T : Int} {σ : Sg} {s : Nat → Int32} (h : Rel δ T σ s) {m : Nat} (hl : m < 24) : s (52 + 8 * m + 2) = σ 1 (8 * m + 2) := by
  have e := h.g (dM2 hl) (by omega)
  rw [tM2] at e
  exact e
theorem Rel.gM3 {δ : Nat → Int32} {T : Int} {σ : Sg} {s : Nat → Int32} (h : Rel δ T σ s) {m : Nat} (hl : m < 24) : s (52 + 8 * m + 3) = σ 1 (8 * m + 3) := by
  have e := h.g (dM3 hl) (by omega)
  rw [tM3] at e
  exact e
theorem Rel.gM4 {δ : Nat → Int32} {T : Int} {σ : Sg} {s : Nat → Int32} (h : Rel δ T σ s) {m : Nat} (hl : m < 24) : s (52 + 8 * m + 4) = σ 1 (8 * m + 4) := by
  have e := h.g (dM4 hl) (by omega)
  rw [tM4] at e
  exact e
theorem Rel.gM6 {δ : Nat → Int32} {T : Int} {σ : Sg} {s : Nat → Int32} (h : Rel δ T σ s) {m : Nat} (hl : m < 24) : s (52 + 8 * m + 7) = σ 1 (8 * m + 6) := by
  have e := h.g (dM6 hl) (by omega)
  rw [tM6] at e
  exact e
theorem Rel.gM7 {δ : Nat → Int32} {T : Int} {σ : Sg} {s : Nat → Int32} (h : Rel δ T σ s) {m : Nat} (hl : m < 24) : s (52 + 8 * m + 6) = σ 1 (8 * m + 7) := by
  have e := h.g (dM7 hl) (by omega)
  rw [tM7] at e
  exact e
theorem Rel.gP0 {δ : Nat → Int32} {T : Int} {σ : Sg} {s : Nat → Int32} (h : Rel δ T σ s) {p : Nat} (hl : p < 8) : s (244 + 5 * p) = σ 2 (6 * p) := by
  have e := h.g (dP0 hl) (by omega)
  rw [tP0] at e
  exact e
theorem Rel.gP1 {δ : Nat → Int32} {T : Int} {σ : Sg} {s : Nat → Int32} (h : Rel δ T σ s) {p : Nat} (hl : p < 8) : s (244 + 5 * p + 1) = σ 2 (6 * p + 1) := by
  have e := h.g (dP1 hl) (by omega)
  rw [tP1] at e
  exact e
theorem Rel.gP2 {δ : Nat → Int32} {T : Int} {σ : Sg} {s : Nat → Int32} (h : Rel δ T σ s) {p : Nat} (hl : p < 8) : s (244 + 5 * p + 2) = σ 2 (6 * p + 2) := by
  have e := h.g (dP2 hl) (by omega)
  rw [tP2] at e
  exact e
theorem Rel.gP4 {δ : Nat → Int32} {T : Int} {σ : Sg} {s : Nat → Int32} (h : Rel δ T σ s) {p : Nat} (hl : p < 8) : s (244 + 5 * p + 3) = σ 2 (6 * p + 4) := by
  have e := h.g (dP4 hl) (by omega)
  rw [tP4] at e
  exact e
theorem Rel.gP5 {δ : Nat → Int32} {T : Int} {σ : Sg} {s : Nat → Int32} (h : Rel δ T σ s) {p : Nat} (hl : p < 8) : s (244 + 5 * p + 4) = σ 2 (6 * p + 5) := by
  have e := h.g (dP5 hl) (by omega)
  rw [tP5] at e
  exact e
theorem Rel.gV0 {δ : Nat → Int32} {T : Int} {σ : Sg} {s : Nat → Int32} (h : Rel δ T σ s) {v : Nat} (hl : v < 3) : s (284 + 5 * v) = σ 3 (5 * v) := by
  have e := h.g (dV0 hl) (by omega)
  rw [tV0] at e
  exact e
theorem Rel.gV1 {δ : Nat → Int32} {T : Int} {σ : Sg} {s : Nat → Int32} (h : Rel δ T σ s) {v : Nat} (hl : v < 3) : s (284 + 5 * v + 1) = σ 3 (5 * v + 1) := by
  have e := h.g (dV1 hl) (by omega)
  rw [tV1] at e
  exact e
theorem Rel.gV3 {δ : Nat → Int32} {T : Int} {σ : Sg} {s : Nat → Int32} (h : Rel δ T σ s) {v : Nat} (hl : v < 3) : s (284 + 5 * v + 2) = σ 3 (5 * v + 3) := by
  have e := h.g (dV3 hl) (by omega)
  rw [tV3] at e
  exact e
theorem Rel.gV4 {T : Int} {σ : Sg} {s : Nat → Int32} (h : Rel (fun _ => 0) T σ s) {v : Nat} (hl : v < 3) : s (284 + 5 * v + 3) = σ 3 (5 * v + 4) := by
  have e := h.R 3 (5 * v + 4) (dV4 hl)
  rw [tV4] at e
  rw [e]
  unfold adj
  split <;> exact Int32.add_zero _
theorem Rel.gS {δ : Nat → Int32} {T : Int} {σ : Sg} {s : Nat → Int32} (h : Rel δ T σ s) {j : Nat} (hj : j < 4) : s (5 + j) = σ 4 j := h.g (k := 4) (i := j) (dS hj) (by omega)
theorem Rel.gF {δ : Nat → Int32} {T : Int} {σ : Sg} {s : Nat → Int32} (h : Rel δ T σ s) {j : Nat} (hj : j < 4) : s j = σ 5 j := by
  have e := h.g (k := 5) (i := j) (dF hj) (by omega)
  rw [tF hj] at e
  exact e
theorem Rel.gT {δ : Nat → Int32} {T : Int} {σ : Sg} {s : Nat → Int32} (h : Rel δ T σ s) : s 4 = σ 5 5 := h.g (k := 5) (i := 5) (by decide) (by omega)
theorem Rel.r0 {δ : Nat → Int32} {T : Int} {σ : Sg} {s : Nat → Int32} (h : Rel δ T σ s) : rg (σ 5 0) 6 := (h.gF (j := 0) (by decide)) ▸ h.I.1
theorem Rel.r1 {δ : Nat → Int32} {T : Int} {σ : Sg} {s : Nat → Int32} (h : Rel δ T σ s) : rg (σ 5 1) 25 := (h.gF (j := 1) (by decide)) ▸ h.I.2.1
theorem Rel.r2 {δ : Nat → Int32} {T : Int} {σ : Sg} {s : Nat → Int32} (h : Rel δ T σ s) : rg (σ 5 2) 9 := (h.gF (j := 2) (by decide)) ▸ h.I.2.2.1
theorem Rel.r3 {δ : Nat → Int32} {T : Int} {σ : Sg} {s : Nat → Int32} (h : Rel δ T σ s) : rg (σ 5 3) 4 := (h.gF (j := 3) (by decide)) ▸ h.I.2.2.2.1
theorem Rel.n {δ : Nat → Int32} {T : Int} {σ : Sg} {s : Nat → Int32} (h : Rel δ T σ s) : nM σ ≤ 24 := by
  have a := h.r1
  have b := (rg_nI a).2
  have c := a.2
  unfold nM
  omega
theorem Rel.ns {δ : Nat → Int32} {T : Int} {σ : Sg} {s : Nat → Int32} (h : Rel δ T σ s) : (s 1).toNatClampNeg = nM σ := congrArg Int32.toNatClampNeg (h.gF (j := 1) (by decide))
theorem Rel.wh {δ : Nat → Int32} {T : Int} {σ : Sg} {s : Nat → Int32} (h : Rel δ T σ s) {m : Nat} (hm : m < 24) : rg (σ 1 (8 * m + 1)) 5 := (h.gM1 hm) ▸ h.I.2.2.2.2.1 m hm
theorem Rel.who {δ : Nat → Int32} {T : Int} {σ : Sg} {s : Nat → Int32} (h : Rel δ T σ s) {m : Nat} (hm : m < 24) (h1 : σ 1 (8 * m) = 1) : rg (σ 1 (8 * m + 5)) 8 := (h.W m hm (Or.inl h1)) ▸ h.I.2.2.2.2.2.1 m hm ((h.gM0 hm).trans h1)
theorem Rel.at_ {δ : Nat → Int32} {T : Int} {σ : Sg} {s : Nat → Int32} (h : Rel δ T σ s) {v : Nat} (hv : v < 3) : rg (σ 3 (5 * v + 1)) 5 := (h.gV1 hv) ▸ h.I.2.2.2.2.2.2 v hv
theorem Rel.fr {δ δ2 : Nat → Int32} {T T2 : Int} {σ σ2 : Sg} {s s2 : Nat → Int32} (h : Rel δ T σ s) (hR : RR δ2 σ2 s2) (hI : InvM (fun _ => s2)) (hB : bnd T2 σ2) (h1 : ∀ m, m < 24 → σ2 1 (8 * m) = σ 1 (8 * m) ∧ σ2 1 (8 * m + 1) = σ 1 (8 * m + 1) ∧ σ2 1 (8 * m + 5) = σ 1 (8 * m + 5) ∧ s2 (52 + 8 * m + 5) = s (52 + 8 * m + 5)) (h0 : ∀ l, l < 5 → σ2 0 (9 * l) = σ 0 (9 * l)) (h5 : σ2 5 0 = σ 5 0 ∧ σ2 5 1 = σ 5 1) (hc : s2 9 = s 9 ∧ s2 10 = s 10 ∧ s2 11 = s 11) : Rel δ2 T2 σ2 s2 := by
  have hn : nM σ2 = nM σ := congrArg Int32.toNatClampNeg h5.2
  have hle := h.n
  refine ⟨hR, hI, hB, ?_, ?_, ⟨?_, ?_⟩, ?_, ?_⟩
  · intro m hm hx
    obtain ⟨a, b, c, d⟩ := h1 m hm
    rw [a] at hx
    rw [c, d]
    exact h.W m hm hx
  · intro m h2 hm
    rw [(h1 m hm).1]
    exact h.S m (by rw [← hn]; exact h2) hm
  · intro l hl
    rw [h0 l hl, hn, cnt_congr (q := inL σ l) (fun i hi => by unfold inL; rw [(h1 i (by omega)).1, (h1 i (by omega)).2.1])]
    exact h.F.1 l hl
  · intro l h2 hl
    rw [h0 l hl]
    rw [h5.1] at h2
    exact h.F.2 l h2 hl
  · intro a b ha hb
    rw [hn] at ha hb
    obtain ⟨a1, -, a3, -⟩ := h1 a (by omega)
    obtain ⟨b1, -, b3, -⟩ := h1 b (by omega)
    rw [a1, b1, a3, b3]
    exact h.U a b ha hb
  · have e : ∀ c, cnt (stq σ2 c) (nM σ2) = cnt (stq σ c) (nM σ) := fun c => by
      rw [hn]
      exact cnt_congr (fun i hi => by unfold stq; rw [(h1 i (by omega)).1])
    unfold Cq
    rw [e, e, e, hc.1, hc.2.1, hc.2.2]
    exact h.C
def nk (k i : Nat) : Prop := (k = 0 → i % 9 ≠ 0) ∧ (k = 1 → i % 8 ≠ 0 ∧ i % 8 ≠ 1) ∧ (k = 5 → i = 5) ∧ ¬ (k = 3 ∧ i % 5 = 4)
theorem Rel.put {δ : Nat → Int32} {T T2 : Int} {σ : Sg} {s : Nat → Int32} (h : Rel δ T σ s) {k i : Nat} {v : Int32} (hd : dm k i = true) (hk : nk k i) (hI : InvM (fun _ => upd s (tr k i) v)) (hB : bnd T2 (sgU σ k i v)) : Rel δ T2 (sgU σ k i v) (upd s (tr k i) v) := by
  obtain ⟨k0, k1, k5, k3⟩ := hk
  have e5 : ∀ m, m < 24 → dm 1 (8 * m + 5) = false := fun m hm => by
    show (decide (8 * m + 5 < 192) && !decide ((8 * m + 5) % 8 = 5)) = false
    rw [decide_eq_true (p := (8 * m + 5) % 8 = 5) (by omega), Bool.not_true, Bool.and_false]
  refine h.fr (h.R.put hd k3) hI hB (fun m hm => ⟨sgU_ne ?_, sgU_ne ?_, sgU_ne ?_, pk_un (fun z => fr_w hm k i hd z.symm)⟩) (fun l hl => sgU_ne ?_) ⟨sgU_ne ?_, sgU_ne ?_⟩ ⟨pk_un (fun z => fr_c (Or.inl rfl) k i hd z.symm), pk_un (fun z => fr_c (Or.inr (Or.inl rfl)) k i hd z.symm), pk_un (fun z => fr_c (Or.inr (Or.inr rfl)) k i hd z.symm)⟩
  · by_cases e : k = 1
    · have := k1 e; omega
    · omega
  · by_cases e : k = 1
    · have := k1 e; omega
    · omega
  · by_cases e : k = 1
    · subst e
      right
      intro e2
      rw [← e2, e5 m hm] at hd
      exact absurd hd (by decide)
    · omega
  · by_cases e : k = 0
    · have := k0 e; omega
    · omega
  · by_cases e : k = 5
    · have := k5 e; omega
    · omega
  · by_cases e : k = 5
    · have := k5 e; omega
    · omega
/-- plain cells: no count, no stage, no place, no bound -/
def plc (k i : Nat) : Bool := match k with
  | 0 => decide (i < 45) && !decide (i % 9 = 0) && !decide (i % 9 = 2)
  | 1 => decide (i < 192) && !decide (i % 8 = 0) && !decide (i % 8 = 1) && !decide (i % 8 = 5)
  | 2 => decide (i < 48) && !decide (i % 6 = 2) && !decide (i % 6 = 3)
  | 3 => decide (i < 15) && decide (i % 5 = 0)
  | _ => false
theorem plc_fB : ∀ k, k < 6 → ∀ i, i < 192 → (!plc k i || (dm k i && decide (12 ≤ tr k i) && (decide (tr k i < 52) || decide (244 ≤ tr k i) || (!decide ((tr k i - 52) % 8 = 0) && !decide ((tr k i - 52) % 8 = 1) && !decide ((tr k i - 52) % 8 = 5))) && (decide (tr k i < 284) || !decide ((tr k i - 284) % 5 = 1)))) = true := by decide +kernel
theorem plc_f (k : Nat) (hk : k < 6) (i : Nat) (hi : i < 192) (h : plc k i = true) : dm k i = true ∧ 12 ≤ tr k i ∧ (52 ≤ tr k i → tr k i < 244 → (tr k i - 52) % 8 ≠ 0 ∧ (tr k i - 52) % 8 ≠ 1 ∧ (tr k i - 52) % 8 ≠ 5) ∧ (284 ≤ tr k i → (tr k i - 284) % 5 ≠ 1) := by
  have e := plc_fB k hk i hi
  rw [h] at e
  simp at e
  refine ⟨e.1.1.1, e.1.1.2, fun a b => ?_, fun a => ?_⟩
  · have := e.1.2
    omega
  · have := e.2
    omega
theorem plc_lt {k i : Nat} (h : plc k i = true) : k < 4 ∧ i < 192 ∧ (k = 0 → i % 9 ≠ 0) ∧ (k = 1 → i % 8 ≠ 0 ∧ i % 8 ≠ 1) ∧ (k = 2 → i % 6 ≠ 2) ∧ (k = 3 → i % 5 = 0) := by
  match k, h with
  | 0, h => simp [plc] at h; omega
  | 1, h => simp [plc] at h; omega
  | 2, h => simp [plc] at h; omega
  | 3, h => simp [plc] at h; omega
  | k + 4, h => simp [plc] at h
theorem Rel.pl {δ : Nat → Int32} {T : Int} {σ : Sg} {s : Nat → Int32} (h : Rel δ T σ s) {k i : Nat} (hp : plc k i = true) (v : Int32) : Rel δ T (sgU σ k i v) (upd s (tr k i) v) := by
  obtain ⟨q1, q2, q3, q4, q5, q6⟩ := plc_lt hp
  obtain ⟨a, b, c, d⟩ := plc_f k (by omega) i q2 hp
  refine h.put a ⟨q3, q4, fun e => by omega, fun e => by have := q6 e.1; omega⟩ (inv_s h.I (by omega) (fun m hm e => ?_) (fun m hm e => ?_) (fun m hm e => ?_) (fun m hm e => ?_)) ⟨?_, fun p hp => ?_, fun v hv => ?_, fun j hj => ?_⟩
  · have := c (by omega) (by omega); omega
  · have := c (by omega) (by omega); omega
  · have := c (by omega) (by omega); omega
  · have := d (by omega); omega
  · rw [sgU_ne (by omega)]; exact h.B.1
  · rw [sgU_ne (by
      by_cases e : k = 2
      · have := q5 e; omega
      · omega)]
    exact h.B.2.1 p hp
  · rw [sgU_ne (by
      by_cases e : k = 3
      · have := q6 e; omega
      · omega)]
    exact h.B.2.2.1 v hv
  · rw [sgU_ne (by omega)]; exact h.B.2.2.2 j hj
theorem Rel.pL1 {δ : Nat → Int32} {T : Int} {σ : Sg} {s : Nat → Int32} (h : Rel δ T σ s) {l : Nat} (hl : l < 5) (z : Int32) : Rel δ T (sgU σ 0 (9 * l + 1) z) (upd s (12 + 8 * l + 1) z) := by
  have e := h.pl (k := 0) (i := 9 * l + 1) (by show (decide (9 * l + 1 < 45) && !decide ((9 * l + 1) % 9 = 0) && !decide ((9 * l + 1) % 9 = 2)) = true; simp; omega) z
  rw [tL1] at e
  exact e
theorem Rel.pL3 {δ : Nat → Int32} {T : Int} {σ : Sg} {s : Nat → Int32} (h : Rel δ T σ s) {l : Nat} (hl : l < 5) (z : Int32) : Rel δ T (sgU σ 0 (9 * l + 3) z) (upd s (12 + 8 * l + 2) z) := by
  have e := h.pl (k := 0) (i := 9 * l + 3) (by show (decide (9 * l + 3 < 45) && !decide ((9 * l + 3) % 9 = 0) && !decide ((9 * l + 3) % 9 = 2)) = true; simp; omega) z
  rw [tL3] at e
  exact e
theorem Rel.pL4 {δ : Nat → Int32} {T : Int} {σ : Sg} {s : Nat → Int32} (h : Rel δ T σ s) {l : Nat} (hl : l < 5) (z : Int32) : Rel δ T (sgU σ 0 (9 * l + 4) z) (upd s (12 + 8 * l + 3) z) := by
  have e := h.pl (k := 0) (i := 9 * l + 4) (by show (decide (9 * l + 4 < 45) && !decide ((9 * l + 4) % 9 = 0) && !decide ((9 * l + 4) % 9 = 2)) = true; simp; omega) z
  rw [tL4] at e
  exact e
theorem Rel.pL5 {δ : Nat → Int32} {T : Int} {σ : Sg} {s : Nat → Int32} (h : Rel δ T σ s) {l : Nat} (hl : l < 5) (z : Int32) : Rel δ T (sgU σ 0 (9 * l + 5) z) (upd s (12 + 8 * l + 4) z) := by
  have e := h.pl (k := 0) (i := 9 * l + 5) (by show (decide (9 * l + 5 < 45) && !decide ((9 * l + 5) % 9 = 0) && !decide ((9 * l + 5) % 9 = 2)) = true; simp; omega) z
  rw [tL5] at e
  exact e
theorem Rel.pL6 {δ : Nat → Int32} {T : Int} {σ : Sg} {s : Nat → Int32} (h : Rel δ T σ s) {l : Nat} (hl : l < 5) (z : Int32) : Rel δ T (sgU σ 0 (9 * l + 6) z) (upd s (12 + 8 * l + 5) z) := by
  have e := h.pl (k := 0) (i := 9 * l + 6) (by show (decide (9 * l + 6 < 45) && !decide ((9 * l + 6) % 9 = 0) && !decide ((9 * l + 6) % 9 = 2)) = true; simp; omega) z
  rw [tL6] at e
  exact e
theorem Rel.pL7 {δ : Nat → Int32} {T : Int} {σ : Sg} {s : Nat → Int32} (h : Rel δ T σ s) {l : Nat} (hl : l < 5) (z : Int32) : Rel δ T (sgU σ 0 (9 * l + 7) z) (upd s (12 + 8 * l + 6) z) := by
  have e := h.pl (k := 0) (i := 9 * l + 7) (by show (decide (9 * l + 7 < 45) && !decide ((9 * l + 7) % 9 = 0) && !decide ((9 * l + 7) % 9 = 2)) = true; simp; omega) z
  rw [tL7] at e
  exact e
theorem Rel.pL8 {δ : Nat → Int32} {T : Int} {σ : Sg} {s : Nat → Int32} (h : Rel δ T σ s) {l : Nat} (hl : l < 5) (z : Int32) : Rel δ T (sgU σ 0 (9 * l + 8) z) (upd s (12 + 8 * l + 7) z) := by
  have e := h.pl (k := 0) (i := 9 * l + 8) (by show (decide (9 * l + 8 < 45) && !decide ((9 * l + 8) % 9 = 0) && !decide ((9 * l + 8) % 9 = 2)) = true; simp; omega) z
  rw [tL8] at e
  exact e
theorem Rel.pM2 {δ : Nat → Int32} {T : Int} {σ : Sg} {s : Nat → Int32} (h : Rel δ T σ s) {m : Nat} (hl : m < 24) (z : Int32) : Rel δ T (sgU σ 1 (8 * m + 2) z) (upd s (52 + 8 * m + 2) z) := by
  have e := h.pl (k := 1) (i := 8 * m + 2) (by show (decide (8 * m + 2 < 192) && !decide ((8 * m + 2) % 8 = 0) && !decide ((8 * m + 2) % 8 = 1) && !decide ((8 * m + 2) % 8 = 5)) = true; simp; omega) z
  rw [tM2] at e
  exact e
theorem Rel.pM3 {δ : Nat → Int32} {T : Int} {σ : Sg} {s : Nat → Int32} (h : Rel δ T σ s) {m : Nat} (hl : m < 24) (z : Int32) : Rel δ T (sgU σ 1 (8 * m + 3) z) (upd s (52 + 8 * m + 3) z) := by
  have e := h.pl (k := 1) (i := 8 * m + 3) (by show (decide (8 * m + 3 < 192) && !decide ((8 * m + 3) % 8 = 0) && !decide ((8 * m + 3) % 8 = 1) && !decide ((8 * m + 3) % 8 = 5)) = true; simp; omega) z
  rw [tM3] at e
  exact e
theorem Rel.pM4 {δ : Nat → Int32} {T : Int} {σ : Sg} {s : Nat → Int32} (h : Rel δ T σ s) {m : Nat} (hl : m < 24) (z : Int32) : Rel δ T (sgU σ 1 (8 * m + 4) z) (upd s (52 + 8 * m + 4) z) := by
  have e := h.pl (k := 1) (i := 8 * m + 4) (by show (decide (8 * m + 4 < 192) && !decide ((8 * m + 4) % 8 = 0) && !decide ((8 * m + 4) % 8 = 1) && !decide ((8 * m + 4) % 8 = 5)) = true; simp; omega) z
  rw [tM4] at e
  exact e
theorem Rel.pM6 {δ : Nat → Int32} {T : Int} {σ : Sg} {s : Nat → Int32} (h : Rel δ T σ s) {m : Nat} (hl : m < 24) (z : Int32) : Rel δ T (sgU σ 1 (8 * m + 6) z) (upd s (52 + 8 * m + 7) z) := by
  have e := h.pl (k := 1) (i := 8 * m + 6) (by show (decide (8 * m + 6 < 192) && !decide ((8 * m + 6) % 8 = 0) && !decide ((8 * m + 6) % 8 = 1) && !decide ((8 * m + 6) % 8 = 5)) = true; simp; omega) z
  rw [tM6] at e
  exact e
theorem Rel.pM7 {δ : Nat → Int32} {T : Int} {σ : Sg} {s : Nat → Int32} (h : Rel δ T σ s) {m : Nat} (hl : m < 24) (z : Int32) : Rel δ T (sgU σ 1 (8 * m + 7) z) (upd s (52 + 8 * m + 6) z) := by
  have e := h.pl (k := 1) (i := 8 * m + 7) (by show (decide (8 * m + 7 < 192) && !decide ((8 * m + 7) % 8 = 0) && !decide ((8 * m + 7) % 8 = 1) && !decide ((8 * m + 7) % 8 = 5)) = true; simp; omega) z
  rw [tM7] at e
  exact e
theorem Rel.pP0 {δ : Nat → Int32} {T : Int} {σ : Sg} {s : Nat → Int32} (h : Rel δ T σ s) {p : Nat} (hl : p < 8) (z : Int32) : Rel δ T (sgU σ 2 (6 * p) z) (upd s (244 + 5 * p) z) := by
  have e := h.pl (k := 2) (i := 6 * p) (by show (decide (6 * p < 48) && !decide ((6 * p) % 6 = 2) && !decide ((6 * p) % 6 = 3)) = true; simp; omega) z
  rw [tP0] at e
  exact e
theorem Rel.pP1 {δ : Nat → Int32} {T : Int} {σ : Sg} {s : Nat → Int32} (h : Rel δ T σ s) {p : Nat} (hl : p < 8) (z : Int32) : Rel δ T (sgU σ 2 (6 * p + 1) z) (upd s (244 + 5 * p + 1) z) := by
  have e := h.pl (k := 2) (i := 6 * p + 1) (by show (decide (6 * p + 1 < 48) && !decide ((6 * p + 1) % 6 = 2) && !decide ((6 * p + 1) % 6 = 3)) = true; simp; omega) z
  rw [tP1] at e
  exact e
theorem Rel.pP4 {δ : Nat → Int32} {T : Int} {σ : Sg} {s : Nat → Int32} (h : Rel δ T σ s) {p : Nat} (hl : p < 8) (z : Int32) : Rel δ T (sgU σ 2 (6 * p + 4) z) (upd s (244 + 5 * p + 3) z) := by
  have e := h.pl (k := 2) (i := 6 * p + 4) (by show (decide (6 * p + 4 < 48) && !decide ((6 * p + 4) % 6 = 2) && !decide ((6 * p + 4) % 6 = 3)) = true; simp; omega) z
  rw [tP4] at e
  exact e
theorem Rel.pP5 {δ : Nat → Int32} {T : Int} {σ : Sg} {s : Nat → Int32} (h : Rel δ T σ s) {p : Nat} (hl : p < 8) (z : Int32) : Rel δ T (sgU σ 2 (6 * p + 5) z) (upd s (244 + 5 * p + 4) z) := by
  have e := h.pl (k := 2) (i := 6 * p + 5) (by show (decide (6 * p + 5 < 48) && !decide ((6 * p + 5) % 6 = 2) && !decide ((6 * p + 5) % 6 = 3)) = true; simp; omega) z
  rw [tP5] at e
  exact e
theorem Rel.pV0 {δ : Nat → Int32} {T : Int} {σ : Sg} {s : Nat → Int32} (h : Rel δ T σ s) {v : Nat} (hl : v < 3) (z : Int32) : Rel δ T (sgU σ 3 (5 * v) z) (upd s (284 + 5 * v) z) := by
  have e := h.pl (k := 3) (i := 5 * v) (by show (decide (5 * v < 15) && decide ((5 * v) % 5 = 0)) = true; simp; omega) z
  rw [tV0] at e
  exact e
theorem Rel.pP2 {δ : Nat → Int32} {T : Int} {σ : Sg} {s : Nat → Int32} (h : Rel δ T σ s) {p : Nat} (hl : p < 8) {z : Int32} (hz : rg z 10000) : Rel δ T (sgU σ 2 (6 * p + 2) z) (upd s (244 + 5 * p + 2) z) := by
  have e := h.put (T2 := T) (v := z) (dP2 hl) ⟨fun e => by omega, fun e => by omega, fun e => by omega, by omega⟩ (by rw [tP2]; exact inv_s h.I (by omega) (fun m hm e => by omega) (fun m hm e => by omega) (fun m hm e => by omega) (fun m hm e => by omega)) ⟨by rw [sgU_ne (by omega)]; exact h.B.1, fun q hq => by
    by_cases e : q = p
    · subst e; rw [sgU_eq]; exact hz
    · rw [sgU_ne (by omega)]; exact h.B.2.1 q hq, fun v hv => by rw [sgU_ne (by omega)]; exact h.B.2.2.1 v hv, fun j hj => by rw [sgU_ne (by omega)]; exact h.B.2.2.2 j hj⟩
  rw [tP2] at e
  exact e
theorem Rel.pV3 {δ : Nat → Int32} {T : Int} {σ : Sg} {s : Nat → Int32} (h : Rel δ T σ s) {v : Nat} (hl : v < 3) {z : Int32} (hz : rg z 10000) : Rel δ T (sgU σ 3 (5 * v + 3) z) (upd s (284 + 5 * v + 2) z) := by
  have e := h.put (T2 := T) (v := z) (dV3 hl) ⟨fun e => by omega, fun e => by omega, fun e => by omega, by omega⟩ (by rw [tV3]; exact inv_s h.I (by omega) (fun m hm e => by omega) (fun m hm e => by omega) (fun m hm e => by omega) (fun m hm e => by omega)) ⟨by rw [sgU_ne (by omega)]; exact h.B.1, fun q hq => by rw [sgU_ne (by omega)]; exact h.B.2.1 q hq, fun q hq => by
    by_cases e : q = v
    · subst e; rw [sgU_eq]; exact hz
    · rw [sgU_ne (by omega)]; exact h.B.2.2.1 q hq, fun j hj => by rw [sgU_ne (by omega)]; exact h.B.2.2.2 j hj⟩
  rw [tV3] at e
  exact e
theorem Rel.pV1 {δ : Nat → Int32} {T : Int} {σ : Sg} {s : Nat → Int32} (h : Rel δ T σ s) {v : Nat} (hl : v < 3) {z : Int32} (hz : rg z 5) : Rel δ T (sgU σ 3 (5 * v + 1) z) (upd s (284 + 5 * v + 1) z) := by
  have e := h.put (T2 := T) (v := z) (dV1 hl) ⟨fun e => by omega, fun e => by omega, fun e => by omega, by omega⟩ (by rw [tV1]; exact inv_s h.I (by omega) (fun m hm e => by omega) (fun m hm e => by omega) (fun m hm e => by omega) (fun m hm e => hz)) ⟨by rw [sgU_ne (by omega)]; exact h.B.1, fun q hq => by rw [sgU_ne (by omega)]; exact h.B.2.1 q hq, fun q hq => by rw [sgU_ne (by omega)]; exact h.B.2.2.1 q hq, fun j hj => by rw [sgU_ne (by omega)]; exact h.B.2.2.2 j hj⟩
  rw [tV1] at e
  exact e
theorem Rel.pS {δ : Nat → Int32} {T : Int} {σ : Sg} {s : Nat → Int32} (h : Rel δ T σ s) {j : Nat} (hl : j < 4) {z : Int32} (hz : rg z 100) : Rel δ T (sgU σ 4 j z) (upd s (5 + j) z) := by
  exact h.put (T2 := T) (k := 4) (i := j) (v := z) (dS hl) ⟨fun e => by omega, fun e => by omega, fun e => by omega, by omega⟩ (inv_s (i := 5 + j) h.I (by omega) (fun m hm e => by omega) (fun m hm e => by omega) (fun m hm e => by omega) (fun m hm e => by omega)) ⟨by rw [sgU_ne (by omega)]; exact h.B.1, fun q hq => by rw [sgU_ne (by omega)]; exact h.B.2.1 q hq, fun q hq => by rw [sgU_ne (by omega)]; exact h.B.2.2.1 q hq, fun q hq => by
    by_cases e : q = j
    · subst e; rw [sgU_eq]; exact hz
    · rw [sgU_ne (by omega)]; exact h.B.2.2.2 q hq⟩
theorem Rel.pT {δ : Nat → Int32} {T T2 : Int} {σ : Sg} {s : Nat → Int32} (h : Rel δ T σ s) {z : Int32} (hz : rg z T2) : Rel δ T2 (sgU σ 5 5 z) (upd s 4 z) := by
  exact h.put (T2 := T2) (k := 5) (i := 5) (v := z) (by decide) ⟨fun e => by omega, fun e => by omega, fun e => rfl, by omega⟩ (inv_s (i := 4) h.I (by omega) (fun m hm e => by omega) (fun m hm e => by omega) (fun m hm e => by omega) (fun m hm e => by omega)) ⟨by rw [sgU_eq]; exact hz, fun q hq => by rw [sgU_ne (by omega)]; exact h.B.2.1 q hq, fun q hq => by rw [sgU_ne (by omega)]; exact h.B.2.2.1 q hq, fun q hq => by rw [sgU_ne (by omega)]; exact h.B.2.2.2 q hq⟩
/-- the reference counts an hour of the way (d), or the system (d = the old one taken off) -/
theorem Rel.ow {δ : Nat → Int32} {T : Int} {σ : Sg} {s : Nat → Int32} (h : Rel δ T σ s) {v : Nat} (hl : v < 3) {a b d : Int32} (hb : b = a + d) : Rel (upd δ v d) T (sgU σ 3 (5 * v + 4) a) (upd s (284 + 5 * v + 3) b) := by
  have hd := dV4 hl
  refine h.fr ?_ (inv_s h.I (by omega) (fun m hm e => by omega) (fun m hm e => by omega) (fun m hm e => by omega) (fun m hm e => by omega)) ⟨by rw [sgU_ne (by omega)]; exact h.B.1, fun q hq => by rw [sgU_ne (by omega)]; exact h.B.2.1 q hq, fun q hq => by rw [sgU_ne (by omega)]; exact h.B.2.2.1 q hq, fun q hq => by rw [sgU_ne (by omega)]; exact h.B.2.2.2 q hq⟩ (fun m hm => ⟨sgU_ne (by omega), sgU_ne (by omega), sgU_ne (by omega), pk_un (by omega)⟩) (fun l hl => sgU_ne (by omega)) ⟨sgU_ne (by omega), sgU_ne (by omega)⟩ ⟨pk_un (by omega), pk_un (by omega), pk_un (by omega)⟩
  intro k i hki
  by_cases e : k = 3 ∧ i = 5 * v + 4
  · obtain ⟨rfl, rfl⟩ := e
    rw [tV4, pk_us, sgU_eq, hb]
    unfold adj
    rw [if_pos ⟨rfl, by omega⟩, show (5 * v + 4) / 5 = v by omega, pk_us]
  · have hne := tr_ne hd hki (by omega)
    rw [tV4] at hne
    rw [pk_un hne, sgU_ne (by omega), h.R k i hki]
    unfold adj
    by_cases e2 : k = 3 ∧ i % 5 = 4
    · rw [if_pos e2, if_pos e2, pk_un (by omega)]
    · rw [if_neg e2, if_neg e2]
