/-! WHAT HOLDS OF A STATE -/
def RowQ (r : Nat → Int32) (nl nm np nv t : Nat) : Prop := r 0 = nI nl ∧ r 1 = nI nm ∧ r 2 = nI np ∧ r 3 = nI nv ∧ r 5 = nI t ∧ nl ≤ 5 ∧ nm ≤ 24 ∧ np ≤ 8 ∧ nv ≤ 3 ∧ t ≤ 5000
def MealC (f g : Nat → Int32) (nl np m : Nat) : Prop := (∃ s : Nat, s ≤ 5 ∧ ce 8 f m 0 = nI s) ∧ (ce 8 f m 0 = 0 ∨ ce 8 f m 0 = 1 → ∃ l : Nat, l < nl ∧ ce 8 f m 1 = nI l) ∧ (ce 8 f m 0 = 1 → (∃ c : Nat, 1000 ≤ c ∧ c ≤ 9999 ∧ ce 8 f m 4 = nI c) ∧ ∃ p : Nat, p < np ∧ ce 8 f m 5 = nI p ∧ ce 8 f m 3 &&& ce 6 g p 0 = 0)
def MealQ (f g : Nat → Int32) (nl nm np : Nat) : Prop := ∀ m, m < nm → MealC f g nl np m
def UniqQ (f : Nat → Int32) (nm : Nat) : Prop := ∀ a b, a < nm → b < nm → ce 8 f a 0 = 1 → ce 8 f b 0 = 1 → ce 8 f a 5 = ce 8 f b 5 → a = b
def PeopC (g : Nat → Int32) (t B p : Nat) : Prop := ∃ a b u : Nat, ce 6 g p 1 = nI a ∧ ce 6 g p 5 = nI b ∧ ce 6 g p 2 = nI u ∧ a ≤ 8 ∧ a ≤ b ∧ b ≤ B ∧ u ≤ t + 99
def PeopQ (g : Nat → Int32) (t B : Nat) : Prop := ∀ p, p < 8 → PeopC g t B p
def carr (f : Nat → Int32) (v m : Nat) : Bool := decide (ce 8 f m 0 = 2) && decide (ce 8 f m 6 = nI v)
def VolC (h f : Nat → Int32) (nl nm nv t w0 v : Nat) : Prop := ∃ r a w : Nat, ce 5 h v 0 = nI r ∧ ce 5 h v 3 = nI a ∧ ce 5 h v 4 = nI w ∧ r ≤ 4 ∧ a ≤ t + 36 ∧ w ≤ w0 ∧ cnt (carr f v) nm ≤ r ∧ (nv ≤ v → r = 0) ∧ (v < nv → ∃ l : Nat, l < nl ∧ ce 5 h v 1 = nI l)
def VolQ (h f : Nat → Int32) (nl nm nv t : Nat) (W : Nat → Nat) : Prop := ∀ v, v < 3 → VolC h f nl nm nv t (W v) v
def SetQ (s : Nat → Int32) : Prop := (∃ a : Nat, 1 ≤ a ∧ a ≤ 48 ∧ s 0 = nI a) ∧ (∃ a : Nat, 1 ≤ a ∧ a ≤ 9 ∧ s 1 = nI a) ∧ (∃ a : Nat, 1 ≤ a ∧ a ≤ 99 ∧ s 2 = nI a) ∧ ∃ a : Nat, 1 ≤ a ∧ a ≤ 9 ∧ s 3 = nI a
def stg (f : Nat → Int32) (c : Int32) (m : Nat) : Bool := decide (ce 8 f m 0 = c)
def LockQ (k f : Nat → Int32) (nl nm : Nat) : Prop := (∀ l, nl ≤ l → l < 5 → ce 9 k l 3 = 0 ∧ ce 9 k l 5 = 0) ∧ sumI (fun l => ce 9 k l 3) 5 = nI nm ∧ sumI (fun l => ce 9 k l 5) 5 = nI (cnt (stg f 3) nm)
def InvN (σ : Sg) (nl nm np nv t B : Nat) (W : Nat → Nat) : Prop := RowQ (σ 5) nl nm np nv t ∧ MealQ (σ 1) (σ 2) nl nm np ∧ UniqQ (σ 1) nm ∧ PeopQ (σ 2) t B ∧ VolQ (σ 3) (σ 1) nl nm nv t W ∧ SetQ (σ 4) ∧ LockQ (σ 0) (σ 1) nl nm
def InvS (σ : Sg) : Prop := ∃ nl nm np nv t : Nat, InvN σ nl nm np nv t (24 * t) (fun _ => t)
/-! one meal changed -/
def D1 (f f2 : Nat → Int32) (i : Nat) : Prop := ∀ m, m ≠ i → ∀ c, c < 8 → ce 8 f2 m c = ce 8 f m c
theorem D1.rf {f : Nat → Int32} {i : Nat} : D1 f f i := fun _ _ _ _ => rfl
theorem D1.u {f f2 : Nat → Int32} {i c : Nat} {z : Int32} (h : D1 f f2 i) (hc : c < 8) : D1 f (cu 8 f2 i c z) i := fun m hm d hd => by
  rw [ce_cu hc hd, if_neg (fun e => hm e.1)]
  exact h m hm d hd
theorem MealC.cg {f f2 g : Nat → Int32} {nl np m : Nat} (h : MealC f g nl np m) (e : ∀ c, c < 8 → ce 8 f2 m c = ce 8 f m c) : MealC f2 g nl np m := by
  unfold MealC
  rw [e 0 (by decide), e 1 (by decide), e 3 (by decide), e 4 (by decide), e 5 (by decide)]
  exact h
theorem MealQ.d1 {f f2 g : Nat → Int32} {nl nm np i : Nat} (h : MealQ f g nl nm np) (hd : D1 f f2 i) (hi : i < nm → MealC f2 g nl np i) : MealQ f2 g nl nm np := fun m hm => by
  by_cases e : m = i
  · subst e; exact hi hm
  · exact (h m hm).cg (hd m e)
theorem UniqQ.d1 {f f2 : Nat → Int32} {nm i : Nat} (h : UniqQ f nm) (hd : D1 f f2 i) (hi : ¬ ce 8 f2 i 0 = 1) : UniqQ f2 nm := fun a b ha hb a1 b1 e => by
  have na : a ≠ i := fun z => hi (z ▸ a1)
  have nb : b ≠ i := fun z => hi (z ▸ b1)
  rw [hd a na 0 (by decide)] at a1
  rw [hd b nb 0 (by decide)] at b1
  rw [hd a na 5 (by decide), hd b nb 5 (by decide)] at e
  exact h a b ha hb a1 b1 e
theorem UniqQ.add {f f2 : Nat → Int32} {nm i : Nat} (h : UniqQ f nm) (hd : D1 f f2 i) (hi : ∀ b, b < nm → b ≠ i → ce 8 f b 0 = 1 → ¬ ce 8 f b 5 = ce 8 f2 i 5) : UniqQ f2 nm := fun a b ha hb a1 b1 e => by
  by_cases ea : a = i
  · by_cases eb : b = i
    · rw [ea, eb]
    · subst ea
      rw [hd b eb 0 (by decide)] at b1
      rw [hd b eb 5 (by decide)] at e
      exact absurd e.symm (hi b hb eb b1)
  · by_cases eb : b = i
    · subst eb
      rw [hd a ea 0 (by decide)] at a1
      rw [hd a ea 5 (by decide)] at e
      exact absurd e (hi a ha ea a1)
    · rw [hd a ea 0 (by decide)] at a1
      rw [hd b eb 0 (by decide)] at b1
      rw [hd a ea 5 (by decide), hd b eb 5 (by decide)] at e
      exact h a b ha hb a1 b1 e
theorem carr_d1 {f f2 : Nat → Int32} {i : Nat} (hd : D1 f f2 i) (v m : Nat) (hm : m ≠ i) : carr f2 v m = carr f v m := by
  unfold carr
  rw [hd m hm 0 (by decide), hd m hm 6 (by decide)]
theorem stg_d1 {f f2 : Nat → Int32} {i : Nat} (hd : D1 f f2 i) (c : Int32) (m : Nat) (hm : m ≠ i) : stg f2 c m = stg f c m := by
  unfold stg
  rw [hd m hm 0 (by decide)]
theorem cnt_same {p q : Nat → Bool} {i : Nat} (h : ∀ m, m ≠ i → q m = p m) (hi : q i = p i) (n : Nat) : cnt q n = cnt p n := cnt_congr (fun m _ => by
  by_cases e : m = i
  · rw [e, hi]
  · exact h m e)
theorem VolC.cnt {h f f2 : Nat → Int32} {nl nm nm2 nv t w0 v : Nat} (k : VolC h f nl nm nv t w0 v) (hc : cnt (carr f2 v) nm2 ≤ cnt (carr f v) nm) : VolC h f2 nl nm2 nv t w0 v := by
  obtain ⟨r, a, w, h1, h2, h3, h4, h5, h6, h7, h8, h9⟩ := k
  exact ⟨r, a, w, h1, h2, h3, h4, h5, h6, Nat.le_trans hc h7, h8, h9⟩
/-- a meal that nobody carries behind it -/
theorem VolQ.d1 {h f f2 : Nat → Int32} {nl nm nv t i : Nat} {W : Nat → Nat} (k : VolQ h f nl nm nv t W) (hd : D1 f f2 i) (hi : ¬ ce 8 f2 i 0 = 2) : VolQ h f2 nl nm nv t W := fun v hv =>
  (k v hv).cnt (cnt_drop (carr_d1 hd v) (by unfold carr; rw [decide_eq_false hi, Bool.false_and]) nm)
theorem LockQ.d1 {k f f2 : Nat → Int32} {nl nm i : Nat} (h : LockQ k f nl nm) (hd : D1 f f2 i) (hi : (ce 8 f2 i 0 = 3) ↔ (ce 8 f i 0 = 3)) : LockQ k f2 nl nm := by
  refine ⟨h.1, h.2.1, ?_⟩
  rw [h.2.2, cnt_same (p := stg f 3) (q := stg f2 3) (stg_d1 hd 3) (decide_eq_decide.mpr hi)]
/-- a column that says nothing -/
theorem LockQ.u {k f : Nat → Int32} {nl nm l c : Nat} {z : Int32} (h : LockQ k f nl nm) (hc : c < 9) (h3 : c ≠ 3) (h5 : c ≠ 5) : LockQ (cu 9 k l c z) f nl nm := by
  have e : ∀ d, d < 9 → d ≠ c → ∀ m, ce 9 (cu 9 k l c z) m d = ce 9 k m d := fun d hd hn m => by rw [ce_cu hc hd, if_neg (fun q => hn q.2)]
  refine ⟨fun m h1 h2 => ?_, ?_, ?_⟩
  · rw [e 3 (by decide) (fun q => h3 q.symm), e 5 (by decide) (fun q => h5 q.symm)]
    exact h.1 m h1 h2
  · rw [← h.2.1]
    exact sumI_cg 5 (fun m _ => e 3 (by decide) (fun q => h3 q.symm) m)
  · rw [← h.2.2]
    exact sumI_cg 5 (fun m _ => e 5 (by decide) (fun q => h5 q.symm) m)
theorem PeopQ.u {g : Nat → Int32} {t B p c : Nat} {z : Int32} (h : PeopQ g t B) (hc : c < 6) (h1 : c ≠ 1) (h2 : c ≠ 2) (h5 : c ≠ 5) : PeopQ (cu 6 g p c z) t B := fun q hq => by
  have e : ∀ d, d < 6 → d ≠ c → ce 6 (cu 6 g p c z) q d = ce 6 g q d := fun d hd hn => by rw [ce_cu hc hd, if_neg (fun q => hn q.2)]
  unfold PeopC
  rw [e 1 (by decide) (fun q => h1 q.symm), e 2 (by decide) (fun q => h2 q.symm), e 5 (by decide) (fun q => h5 q.symm)]
  exact h q hq
theorem MealQ.pu {f g : Nat → Int32} {nl nm np np2 p c : Nat} {z : Int32} (h : MealQ f g nl nm np) (hc : c < 6) (hn : np ≤ np2) (h0 : c ≠ 0 ∨ np ≤ p) : MealQ f (cu 6 g p c z) nl nm np2 := fun m hm => by
  obtain ⟨a1, a2, a3⟩ := h m hm
  refine ⟨a1, a2, fun e => ?_⟩
  obtain ⟨b1, q, b2, b3, b4⟩ := a3 e
  refine ⟨b1, q, by omega, b3, ?_⟩
  rw [ce_cu hc (by decide), if_neg (by omega)]
  exact b4
theorem MealQ.nl {f g : Nat → Int32} {nl nl2 nm np : Nat} (h : MealQ f g nl nm np) (hn : nl ≤ nl2) : MealQ f g nl2 nm np := fun m hm => by
  obtain ⟨a1, a2, a3⟩ := h m hm
  refine ⟨a1, fun e => ?_, a3⟩
  obtain ⟨l, b1, b2⟩ := a2 e
  exact ⟨l, by omega, b2⟩
theorem VolQ.nl {h f : Nat → Int32} {nl nl2 nm nv t : Nat} {W : Nat → Nat} (k : VolQ h f nl nm nv t W) (hn : nl ≤ nl2) : VolQ h f nl2 nm nv t W := fun v hv => by
  obtain ⟨r, a, w, h1, h2, h3, h4, h5, h6, h7, h8, h9⟩ := k v hv
  exact ⟨r, a, w, h1, h2, h3, h4, h5, h6, h7, h8, fun e => by obtain ⟨l, b1, b2⟩ := h9 e; exact ⟨l, by omega, b2⟩⟩
section
variable {σ : Sg} {nl nm np nv t B : Nat} {W : Nat → Nat}
theorem full_f {k lim n : Nat} (hl : lim < 1000) (ek : limK k = nI lim) (en : σ 5 k = nI n) (hn : n ≤ lim) : zX5_isFull (limK k) (σ 5 k) = (if n < lim then 0 else 1) ∧ zadR σ k = nI n ∧ zadS σ k = sgR σ k (nI (n + 1)) := by
  refine ⟨by rw [ek, en, full_of hl (by omega)], ?_, ?_⟩
  · unfold zadR zX5_addRow
    rw [en, nI_1, nI_pred]
  · unfold zadS zX5_addRow
    rw [en, nI_1]
theorem op_locker (h : InvN σ nl nm np nv t B W) (x1 x2 : Int32) :
    ((zX7_isWithin x1 1 8 = 0 ∨ zX7_isWithin x2 0 1 = 0) ∧ zX0_addLocker σ x1 x2 = (-1, σ)) ∨
    (¬ zX7_isWithin x1 1 8 = 0 ∧ ¬ zX7_isWithin x2 0 1 = 0 ∧ nl = 5 ∧ zX0_addLocker σ x1 x2 = (-3, σ)) ∨
    (¬ zX7_isWithin x1 1 8 = 0 ∧ ¬ zX7_isWithin x2 0 1 = 0 ∧ nl < 5 ∧ (zX0_addLocker σ x1 x2).1 = nI nl ∧ InvN (zX0_addLocker σ x1 x2).2 (nl + 1) nm np nv t B W) := by
  obtain ⟨hR, hM, hU, hP, hV, hS, hL⟩ := h
  obtain ⟨r0, r1, r2, r3, r5, q0, q1, q2, q3, q5⟩ := hR
  obtain ⟨f1, f2, f3⟩ := full_f (k := 0) (lim := 5) (by decide) rfl r0 q0
  unfold zX0_addLocker
  by_cases c1 : zX7_isWithin x1 1 8 = 0
  · left; rw [if_pos c1]; exact ⟨Or.inl c1, rfl⟩
  rw [if_neg c1]
  by_cases c2 : zX7_isWithin x2 0 1 = 0
  · left; rw [if_pos c2]; exact ⟨Or.inr c2, rfl⟩
  rw [if_neg c2, f1]
  right
  by_cases c3 : nl < 5
  · right
    rw [if_pos c3, if_pos rfl, f2, f3, sL0 c3, sL1 c3]
    refine ⟨c1, c2, c3, rfl, ⟨rfl, r1, r2, r3, r5, by omega, q1, q2, q3, q5⟩, hM.nl (by omega), hU, hP, hV.nl (by omega), hS, ?_⟩
    have k1 : LockQ (cu 9 (cu 9 (σ 0) nl 0 x1) nl 1 x2) (σ 1) nl nm := (hL.u (by decide) (by decide) (by decide)).u (by decide) (by decide) (by decide)
    exact ⟨fun l a b => k1.1 l (by omega) b, k1.2⟩
  · left
    rw [if_neg c3, if_neg (by decide)]
    exact ⟨c1, c2, by omega, rfl⟩
theorem op_person (h : InvN σ nl nm np nv t B W) (x1 : Int32) :
    (zX7_isWithin x1 0 31 = 0 ∧ zX0_addPerson σ x1 = (-1, σ)) ∨
    (¬ zX7_isWithin x1 0 31 = 0 ∧ np = 8 ∧ zX0_addPerson σ x1 = (-3, σ)) ∨
    (¬ zX7_isWithin x1 0 31 = 0 ∧ np < 8 ∧ (zX0_addPerson σ x1).1 = nI np ∧ InvN (zX0_addPerson σ x1).2 nl nm (np + 1) nv t B W) := by
  obtain ⟨hR, hM, hU, hP, hV, hS, hL⟩ := h
  obtain ⟨r0, r1, r2, r3, r5, q0, q1, q2, q3, q5⟩ := hR
  obtain ⟨f1, f2, f3⟩ := full_f (k := 2) (lim := 8) (by decide) rfl r2 q2
  unfold zX0_addPerson
  by_cases c1 : zX7_isWithin x1 0 31 = 0
  · left; rw [if_pos c1]; exact ⟨c1, rfl⟩
  rw [if_neg c1, f1]
  right
  by_cases c3 : np < 8
  · right
    rw [if_pos c3, if_pos rfl, f2, f3, sP0 c3]
    exact ⟨c1, c3, rfl, ⟨r0, r1, rfl, r3, r5, q0, q1, by omega, q3, q5⟩, hM.pu (by decide) (by omega) (Or.inr (Nat.le_refl _)), hU, hP.u (by decide) (by decide) (by decide) (by decide), hV, hS, hL⟩
  · left
    rw [if_neg c3, if_neg (by decide)]
    exact ⟨c1, by omega, rfl⟩
theorem op_volunteer (h : InvN σ nl nm np nv t B W) (x1 x2 : Int32) :
    ((zX5_has (σ 5 0) x1 = 0 ∨ zX7_isWithin x2 1 4 = 0) ∧ zX0_addVolunteer σ x1 x2 = (-1, σ)) ∨
    (¬ zX5_has (σ 5 0) x1 = 0 ∧ ¬ zX7_isWithin x2 1 4 = 0 ∧ nv = 3 ∧ zX0_addVolunteer σ x1 x2 = (-3, σ)) ∨
    (¬ zX5_has (σ 5 0) x1 = 0 ∧ ¬ zX7_isWithin x2 1 4 = 0 ∧ nv < 3 ∧ (zX0_addVolunteer σ x1 x2).1 = nI nv ∧ InvN (zX0_addVolunteer σ x1 x2).2 nl nm np (nv + 1) t B W) := by
  obtain ⟨hR, hM, hU, hP, hV, hS, hL⟩ := h
  obtain ⟨r0, r1, r2, r3, r5, q0, q1, q2, q3, q5⟩ := hR
  obtain ⟨f1, f2, f3⟩ := full_f (k := 3) (lim := 3) (by decide) rfl r3 q3
  unfold zX0_addVolunteer
  by_cases c1 : zX5_has (σ 5 0) x1 = 0
  · left; rw [if_pos c1]; exact ⟨Or.inl c1, rfl⟩
  rw [if_neg c1]
  by_cases c2 : zX7_isWithin x2 1 4 = 0
  · left; rw [if_pos c2]; exact ⟨Or.inr c2, rfl⟩
  rw [if_neg c2, f1]
  right
  by_cases c3 : nv < 3
  · right
    rw [if_pos c3, if_pos rfl, f2, f3, sV0 c3, sV1 c3]
    obtain ⟨l, hl, el⟩ := has_n (r := nl) (by omega) (by rw [← r0]; exact c1)
    obtain ⟨k, k1, k2, ek⟩ := wi_n (a := 1) (b := 4) (by decide) (by decide) c2
    subst el; subst ek
    refine ⟨c1, c2, c3, rfl, ⟨r0, r1, r2, rfl, r5, q0, q1, q2, by omega, q5⟩, hM, hU, hP, fun v hv => ?_, hS, hL⟩
    show VolC (cu 5 (cu 5 (σ 3) nv 0 (nI k)) nv 1 (nI l)) (σ 1) nl nm (nv + 1) t (W v) v
    obtain ⟨r, a, w, h1, h2, h3, h4, h5, h6, h7, h8, h9⟩ := hV v hv
    have e : ∀ d, d < 5 → d ≠ 0 → d ≠ 1 → ce 5 (cu 5 (cu 5 (σ 3) nv 0 (nI k)) nv 1 (nI l)) v d = ce 5 (σ 3) v d := fun d hd d0 d1 => by
      rw [ce_cu (by decide) hd, if_neg (fun q => d1 q.2), ce_cu (by decide) hd, if_neg (fun q => d0 q.2)]
    by_cases ev : v = nv
    · subst ev
      refine ⟨k, a, w, ?_, ?_, ?_, k2, h5, h6, ?_, fun q => by omega, fun _ => ⟨l, hl, ?_⟩⟩
      · rw [ce_cu (by decide) (by decide), if_neg (fun q => absurd q.2 (by decide)), ce_cu (by decide) (by decide), if_pos ⟨rfl, rfl⟩]
      · rw [e 3 (by decide) (by decide) (by decide)]; exact h2
      · rw [e 4 (by decide) (by decide) (by decide)]; exact h3
      · have := h8 (Nat.le_refl _); omega
      · rw [ce_cu (by decide) (by decide), if_pos ⟨rfl, rfl⟩]
    · have e2 : ∀ d, d < 5 → ce 5 (cu 5 (cu 5 (σ 3) nv 0 (nI k)) nv 1 (nI l)) v d = ce 5 (σ 3) v d := fun d hd => by
        rw [ce_cu (by decide) hd, if_neg (fun q => ev q.1), ce_cu (by decide) hd, if_neg (fun q => ev q.1)]
      refine ⟨r, a, w, ?_, ?_, ?_, h4, h5, h6, h7, fun q => h8 (by omega), fun q => ?_⟩
      · rw [e2 0 (by decide)]; exact h1
      · rw [e2 3 (by decide)]; exact h2
      · rw [e2 4 (by decide)]; exact h3
      · obtain ⟨l2, b1, b2⟩ := h9 (by omega)
        exact ⟨l2, b1, by rw [e2 1 (by decide)]; exact b2⟩
  · left
    rw [if_neg c3, if_neg (by decide)]
    exact ⟨c1, c2, by omega, rfl⟩
theorem op_meal (h : InvN σ nl nm np nv t B W) (x1 x2 x3 : Int32) :
    ((zX5_has (σ 5 0) x1 = 0 ∨ zX7_isWithin x2 1 99 = 0 ∨ zX7_isWithin x3 0 31 = 0) ∧ zX0_addMeal σ x1 x2 x3 = (-1, σ)) ∨
    (¬ zX5_has (σ 5 0) x1 = 0 ∧ ¬ zX7_isWithin x2 1 99 = 0 ∧ ¬ zX7_isWithin x3 0 31 = 0 ∧ (zX0_addMeal σ x1 x2 x3 = (-2, σ) ∨ (nm = 24 ∧ zX0_addMeal σ x1 x2 x3 = (-3, σ)) ∨ (nm < 24 ∧ (zX0_addMeal σ x1 x2 x3).1 = nI nm ∧ InvN (zX0_addMeal σ x1 x2 x3).2 nl (nm + 1) np nv t B W))) := by
  obtain ⟨hR, hM, hU, hP, hV, hS, hL⟩ := h
  obtain ⟨r0, r1, r2, r3, r5, q0, q1, q2, q3, q5⟩ := hR
  obtain ⟨f1, f2, f3⟩ := full_f (k := 1) (lim := 24) (by decide) rfl r1 q1
  unfold zX0_addMeal
  by_cases c1 : zX5_has (σ 5 0) x1 = 0
  · left; rw [if_pos c1]; exact ⟨Or.inl c1, rfl⟩
  rw [if_neg c1]
  by_cases c2 : zX7_isWithin x2 1 99 = 0
  · left; rw [if_pos c2]; exact ⟨Or.inr (Or.inl c2), rfl⟩
  rw [if_neg c2]
  by_cases c3 : zX7_isWithin x3 0 31 = 0
  · left; rw [if_pos c3]; exact ⟨Or.inr (Or.inr c3), rfl⟩
  rw [if_neg c3, f1]
  right
  refine ⟨c1, c2, c3, ?_⟩
  by_cases c4 : 0 < zX4_freeCells σ x1
  rotate_left
  · left; rw [if_neg c4]
  right
  rw [if_pos c4]
  by_cases c5 : nm < 24
  · right
    obtain ⟨l, hl, el⟩ := has_n (r := nl) (by omega) (by rw [← r0]; exact c1)
    subst el
    rw [if_pos c5, if_pos rfl, f2, f3, sM0 c5, sM1 c5, sM2 c5, sM3 c5, rL3 (by omega)]
    refine ⟨c5, rfl, ⟨r0, rfl, r2, r3, r5, q0, by omega, q2, q3, q5⟩, ?_⟩
    show MealQ (cu 8 (cu 8 (cu 8 (cu 8 (σ 1) nm 0 0) nm 1 (nI l)) nm 2 x2) nm 3 x3) (σ 2) nl (nm + 1) np ∧ UniqQ (cu 8 (cu 8 (cu 8 (cu 8 (σ 1) nm 0 0) nm 1 (nI l)) nm 2 x2) nm 3 x3) (nm + 1) ∧ PeopQ (σ 2) t B ∧ VolQ (σ 3) (cu 8 (cu 8 (cu 8 (cu 8 (σ 1) nm 0 0) nm 1 (nI l)) nm 2 x2) nm 3 x3) nl (nm + 1) nv t W ∧ SetQ (σ 4) ∧ LockQ (cu 9 (σ 0) l 3 (ce 9 (σ 0) l 3 + 1)) (cu 8 (cu 8 (cu 8 (cu 8 (σ 1) nm 0 0) nm 1 (nI l)) nm 2 x2) nm 3 x3) nl (nm + 1)
    have d : D1 (σ 1) (cu 8 (cu 8 (cu 8 (cu 8 (σ 1) nm 0 0) nm 1 (nI l)) nm 2 x2) nm 3 x3) nm := (((D1.rf.u (by decide)).u (by decide)).u (by decide)).u (by decide)
    have e0 : ce 8 (cu 8 (cu 8 (cu 8 (cu 8 (σ 1) nm 0 0) nm 1 (nI l)) nm 2 x2) nm 3 x3) nm 0 = 0 := by
      rw [ce_cu (by decide) (by decide), if_neg (fun q => absurd q.2 (by decide)), ce_cu (by decide) (by decide), if_neg (fun q => absurd q.2 (by decide)), ce_cu (by decide) (by decide), if_neg (fun q => absurd q.2 (by decide)), ce_cu (by decide) (by decide), if_pos ⟨rfl, rfl⟩]
    have e1 : ce 8 (cu 8 (cu 8 (cu 8 (cu 8 (σ 1) nm 0 0) nm 1 (nI l)) nm 2 x2) nm 3 x3) nm 1 = nI l := by
      rw [ce_cu (by decide) (by decide), if_neg (fun q => absurd q.2 (by decide)), ce_cu (by decide) (by decide), if_neg (fun q => absurd q.2 (by decide)), ce_cu (by decide) (by decide), if_pos ⟨rfl, rfl⟩]
    generalize cu 8 (cu 8 (cu 8 (cu 8 (σ 1) nm 0 0) nm 1 (nI l)) nm 2 x2) nm 3 x3 = f2 at d e0 e1 ⊢
    refine ⟨fun m hm => ?_, fun a b ha hb a1 b1 e => ?_, hP, fun v hv => ?_, hS, fun m hm1 hm2 => ?_, ?_, ?_⟩
    · by_cases em : m = nm
      · subst em
        refine ⟨⟨0, by decide, e0⟩, fun _ => ⟨l, hl, e1⟩, fun z => ?_⟩
        rw [e0] at z
        exact absurd z (by decide)
      · exact (hM m (by omega)).cg (d m em)
    · have na : a ≠ nm := fun z => by rw [z, e0] at a1; exact absurd a1 (by decide)
      have nb : b ≠ nm := fun z => by rw [z, e0] at b1; exact absurd b1 (by decide)
      rw [d a na 0 (by decide)] at a1
      rw [d b nb 0 (by decide)] at b1
      rw [d a na 5 (by decide), d b nb 5 (by decide)] at e
      exact hU a b (by omega) (by omega) a1 b1 e
    · refine (hV v hv).cnt ?_
      show cnt (carr f2 v) nm + (if carr f2 v nm = true then 1 else 0) ≤ _
      have ec : carr f2 v nm = false := by unfold carr; rw [e0, decide_eq_false (by decide), Bool.false_and]
      rw [ec, if_neg (by decide), cnt_congr (q := carr (σ 1) v) (fun m hm => carr_d1 d v m (by omega))]
      omega
    · have k := hL.1 m hm1 hm2
      rw [ce_cu (by decide) (by decide), if_neg (by omega), ce_cu (by decide) (by decide), if_neg (by omega)]
      exact k
    · rw [sumI_up (f := fun l => ce 9 (σ 0) l 3) (a := l) 5 (by omega) (by show ce 9 _ l 3 = _; rw [ce_cu (by decide) (by decide), if_pos ⟨rfl, rfl⟩]) (fun i hi => by show ce 9 _ i 3 = _; rw [ce_cu (by decide) (by decide), if_neg (fun q => hi q.1)]), hL.2.1, nI_succ]
    · have e3 : cnt (stg f2 3) (nm + 1) = cnt (stg (σ 1) 3) nm := by
        show cnt (stg f2 3) nm + (if stg f2 3 nm = true then 1 else 0) = _
        have ec : stg f2 3 nm = false := by unfold stg; rw [e0]; decide
        rw [ec, if_neg (by decide), cnt_congr (q := stg (σ 1) 3) (fun m hm => stg_d1 d 3 m (by omega))]
        omega
      rw [e3, ← hL.2.2]
      exact sumI_cg 5 (fun i _ => by show ce 9 _ i 5 = _; rw [ce_cu (by decide) (by decide), if_neg (fun q => absurd q.2 (by decide))])
  · left
    rw [if_neg c5, if_neg (by decide)]
    exact ⟨by omega, rfl⟩
end
