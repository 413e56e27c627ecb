theorem iwX8_does_X8 : ∀ w ∈ wsX80, w ∈ wsX8_does := fun _ h => List.mem_cons_of_mem _ (List.mem_append_right _ h)
/-- a command of the text that has been read: 0 it is done, 1 it is at fault -/
def zde (μ : Sg) (x2 x3 x4 : Int32) : Int32 × Sg := if ((zX8_takesSign μ 59) 4 5) = 0 then (1, mT (zX8_takesSign μ 59) 4 1)
  else (if (zX8_called (zX8_takesSign μ 59) x2 x3 x4).1 = (-1) then (1, mT ((zX8_called (zX8_takesSign μ 59) x2 x3 x4).2) 4 2)
    else (if 0 ≤ (zX8_called (zX8_takesSign μ 59) x2 x3 x4).1 then (0, mT (mT ((zX8_called (zX8_takesSign μ 59) x2 x3 x4).2) 4 3) 3 (((mT ((zX8_called (zX8_takesSign μ 59) x2 x3 x4).2) 4 3) 4 3) + 1))
      else (1, mT ((zX8_called (zX8_takesSign μ 59) x2 x3 x4).2) 4 3)))
/-- a command of the text behind its sign x2 -/
def zdt (μ : Sg) (x2 : Int32) : Int32 × Sg := if (((zX8_number μ).2) 4 5) = 0 then zde ((zX8_number μ).2) x2 ((zX8_number μ).1) 0
  else (if (zX8_hasTwo x2) = 0 then zde ((zX8_number μ).2) x2 ((zX8_number μ).1) 0
    else zde ((zX8_number (zX8_takesSign ((zX8_number μ).2) 44)).2) x2 ((zX8_number μ).1) ((zX8_number (zX8_takesSign ((zX8_number μ).2) 44)).1))
/-- a command of the text up to its sign -/
def zdp (μ : Sg) : Sg := if (zX8_hasTwo (zX8_here μ)) = 0 then (if (zX8_here μ) = 112 then mT (mT μ 5 1) 2 (((mT μ 5 1) 4 2) + 1)
    else (if (zX8_here μ) = 104 then mT (mT μ 5 1) 2 (((mT μ 5 1) 4 2) + 1)
      else mT (mT μ 5 0) 2 (((mT μ 5 0) 4 2) + 0)))
  else mT (mT μ 5 1) 2 (((mT μ 5 1) 4 2) + 1)
theorem at_inc {x n : Int32} (h : rg n 61) (h0 : rg x 61) (hc : ¬ n ≤ x) : x.toNatClampNeg + 1 ≤ (x + 1).toNatClampNeg ∧ True := by
  have r := rg_inc h h0 hc
  have e1 := (rg_nI r).2
  have e2 := (rg_nI h0).2
  have h1 := h0.1
  have h2 := h0.2
  have e : (x + 1).toInt = x.toInt + 1 := by
    rw [Int32.toInt_add, show (1 : Int32).toInt = 1 from rfl]
    exact Int.bmod_eq_of_le (by omega) (by omega)
  exact ⟨by omega, trivial⟩
def wdo : Nat → Sg → Int32 × Sg
  | 0, μ => (-1, μ)
  | n + 1, μ => if (μ 4 1) ≤ (μ 4 2) then (-1, μ) else if (zdt (zdp μ) (zX8_here μ)).1 = 0 then wdo n (zdt (zdp μ) (zX8_here μ)).2 else ((μ 4 2), (zdt (zdp μ) (zX8_here μ)).2)
theorem wdo_go {n : Nat} {μ ν : Sg} (h : ¬ (μ 4 1) ≤ (μ 4 2)) (he : (0, ν) = zdt (zdp μ) (zX8_here μ)) : wdo (n + 1) μ = wdo n ν := by
  rw [wdo, if_neg h, ← he]
  exact if_pos rfl
theorem wdo_stop {n : Nat} {μ ν : Sg} (h : ¬ (μ 4 1) ≤ (μ 4 2)) (he : (1, ν) = zdt (zdp μ) (zX8_here μ)) : wdo (n + 1) μ = (μ 4 2, ν) := by
  rw [wdo, if_neg h, ← he]
  exact if_neg (show ¬ (1 : Int32) = 0 by decide)
/-- where the place read stands: it never goes back -/
theorem at_number : ∀ (n : Nat) (v : Int32) (μ : Sg), InvT μ → (μ 4 2).toNatClampNeg ≤ ((wX8_number n v μ).2 4 2).toNatClampNeg := by
  intro n
  induction n with
  | zero => exact fun _ _ _ => Nat.le_refl _
  | succ n ih =>
    intro v μ h
    rw [wX8_number]
    split
    · exact Nat.le_refl _
    · split
      · exact Nat.le_refl _
      · rename_i c
        have r := rg_inc h.1 h.2 (dig_lt c)
        have a := ih (((10 * v) + (zX8_here μ)) - 48) (mT μ 2 ((μ 4 2) + 1)) (t_at h r)
        have e : mT μ 2 ((μ 4 2) + 1) 4 2 = μ 4 2 + 1 := rfl
        rw [e] at a
        exact Nat.le_trans (by have := (at_inc h.1 h.2 (dig_lt c)).1; omega) a
/-- what reading and doing a text keeps -/
def Kt (μ ν : Sg) : Prop := InvM ν ∧ InvT ν ∧ ν 4 0 = μ 4 0 ∧ ν 4 1 = μ 4 1 ∧ ν 1 = μ 1 ∧ ν 2 = μ 2 ∧ ν 3 = μ 3
theorem Kt.rf {μ : Sg} (h : InvM μ) (t : InvT μ) : Kt μ μ := ⟨h, t, rfl, rfl, rfl, rfl, rfl⟩
theorem Kt.tr {a b c : Sg} (h : Kt a b) (k : Kt b c) : Kt a c := ⟨k.1, k.2.1, k.2.2.1.trans h.2.2.1, k.2.2.2.1.trans h.2.2.2.1, k.2.2.2.2.1.trans h.2.2.2.2.1, k.2.2.2.2.2.1.trans h.2.2.2.2.2.1, k.2.2.2.2.2.2.trans h.2.2.2.2.2.2⟩
theorem Kt.put {a μ : Sg} (g : Kt a μ) {k : Nat} {v : Int32} (h0 : k ≠ 0) (h1 : k ≠ 1) (h2 : k ≠ 2) : Kt a (mT μ k v) :=
  ⟨g.1, t_mT h1 h2 g.2.1, (if_neg (fun e => h0 e.symm)).trans g.2.2.1, (if_neg (fun e => h1 e.symm)).trans g.2.2.2.1, g.2.2.2.2.1, g.2.2.2.2.2.1, g.2.2.2.2.2.2⟩
theorem Kt.rd {a μ : Sg} (g : Kt a μ) {v : Int32} (hv : rg v 61) : Kt a (mT μ 2 v) :=
  ⟨g.1, t_at g.2.1 hv, g.2.2.1, g.2.2.2.1, g.2.2.2.2.1, g.2.2.2.2.2.1, g.2.2.2.2.2.2⟩
theorem Kt.rd0 {a μ : Sg} (g : Kt a μ) : Kt a (mT μ 2 (μ 4 2 + 0)) := g.rd (by rw [Int32.add_zero]; exact g.2.1.2)
theorem Kt.gd {a μ ν : Sg} (g : Kt a μ) (d : Gd μ ν) : Kt a ν := by
  have e := d.2.2 4 (by decide)
  exact ⟨d.1, t_eq e g.2.1, (congrFun e 0).trans g.2.2.1, (congrFun e 1).trans g.2.2.2.1, (d.2.2 1 (by decide)).trans g.2.2.2.2.1, (d.2.2 2 (by decide)).trans g.2.2.2.2.2.1, (d.2.2 3 (by decide)).trans g.2.2.2.2.2.2⟩
theorem Kt.takesSign {a μ : Sg} (g : Kt a μ) {x1 : Int32} (hs : ¬ x1 = -1) : Kt a (zX8_takesSign μ x1) := by
  have h := g.2.1
  unfold zX8_takesSign
  split
  · exact (g.put (k := 5) (by decide) (by decide) (by decide)).rd0
  · split
    · rename_i c
      exact (g.put (k := 5) (by decide) (by decide) (by decide)).rd (rg_inc h.1 h.2 (here_lt (by rw [c]; exact hs)))
    · exact (g.put (k := 5) (by decide) (by decide) (by decide)).rd0
theorem Kt.wnum : ∀ (n : Nat) (v : Int32) {a μ : Sg}, Kt a μ → Kt a (wX8_number n v μ).2 := by
  intro n
  induction n with
  | zero => exact fun v a μ g => g
  | succ n ih =>
    intro v a μ g
    rw [wX8_number]
    split
    · exact g
    · split
      · exact g
      · rename_i c
        exact ih _ (g.rd (rg_inc g.2.1.1 g.2.1.2 (dig_lt c)))
theorem Kt.number {a μ : Sg} (g : Kt a μ) : Kt a (zX8_number μ).2 := by
  unfold zX8_number
  (repeat' split) <;> exact Kt.wnum _ _ (g.put (k := 5) (by decide) (by decide) (by decide))
theorem Kt.de {a μ : Sg} (g : Kt a μ) (x2 x3 x4 : Int32) : Kt a (zde μ x2 x3 x4).2 := by
  have g1 : Kt a (zX8_takesSign μ 59) := g.takesSign (by decide)
  have g2 := g1.gd (gd_X8_called g1.1 x2 x3 x4)
  have p : ∀ {ν : Sg} {v : Int32}, Kt a ν → Kt a (mT ν 4 v) := fun q => q.put (by decide) (by decide) (by decide)
  have p3 : ∀ {ν : Sg} {v : Int32}, Kt a ν → Kt a (mT ν 3 v) := fun q => q.put (by decide) (by decide) (by decide)
  unfold zde
  split
  · exact p g1
  · split
    · exact p g2
    · split
      · exact p3 (p g2)
      · exact p g2
theorem Kt.dt {a μ : Sg} (g : Kt a μ) (x2 : Int32) : Kt a (zdt μ x2).2 := by
  have g1 := g.number
  unfold zdt
  split
  · exact g1.de _ _ _
  · split
    · exact g1.de _ _ _
    · exact (g1.takesSign (by decide)).number.de _ _ _
theorem Kt.dp {a μ : Sg} (g : Kt a μ) (c : ¬ (μ 4 1) ≤ (μ 4 2)) : Kt a (zdp μ) := by
  have h := g.2.1
  have p : ∀ {v : Int32}, Kt a (mT μ 5 v) := g.put (by decide) (by decide) (by decide)
  unfold zdp
  (repeat' split) <;> first | exact p.rd (rg_inc h.1 h.2 c) | exact p.rd0
theorem kt_wdo : ∀ (n : Nat) {a μ : Sg}, Kt a μ → Kt a (wdo n μ).2 := by
  intro n
  induction n with
  | zero => exact fun g => g
  | succ n ih =>
    intro a μ g
    rw [wdo]
    split
    · exact g
    · rename_i c
      have g2 := (g.dp c).dt (zX8_here μ)
      split
      · exact ih g2
      · exact g2
theorem at_take {μ : Sg} {x1 : Int32} (h : InvT μ) (hs : ¬ x1 = -1) : (μ 4 2).toNatClampNeg ≤ ((zX8_takesSign μ x1) 4 2).toNatClampNeg ∧ (¬ (zX8_takesSign μ x1) 4 5 = 0 → (μ 4 2).toNatClampNeg + 1 ≤ ((zX8_takesSign μ x1) 4 2).toNatClampNeg) := by
  have z0 : ∀ v : Int32, mT (mT μ 5 v) 2 ((mT μ 5 v) 4 2 + 0) 4 2 = μ 4 2 := fun v => by
    show μ 4 2 + 0 = μ 4 2
    rw [Int32.add_zero]
  unfold zX8_takesSign
  split
  · exact ⟨by rw [z0]; exact Nat.le_refl _, fun c => absurd rfl c⟩
  · split
    · rename_i c
      have a := (at_inc h.1 h.2 (here_lt (by rw [c]; exact hs))).1
      have e : mT (mT μ 5 1) 2 ((mT μ 5 1) 4 2 + 1) 4 2 = μ 4 2 + 1 := rfl
      rw [e]
      exact ⟨by omega, fun _ => a⟩
    · exact ⟨by rw [z0]; exact Nat.le_refl _, fun c => absurd rfl c⟩
theorem at_num {μ : Sg} (h : InvT μ) : (μ 4 2).toNatClampNeg ≤ ((zX8_number μ).2 4 2).toNatClampNeg := by
  have a : ∀ v, (μ 4 2).toNatClampNeg ≤ ((wX8_number 4 0 (mT μ 5 v)).2 4 2).toNatClampNeg := fun v => at_number 4 0 (mT μ 5 v) (t_mT (by decide) (by decide) h)
  unfold zX8_number
  (repeat' split) <;> with_reducible exact a _
theorem at_de {a μ ν : Sg} (g : Kt a μ) {x2 x3 x4 : Int32} (he : (0, ν) = zde μ x2 x3 x4) : (μ 4 2).toNatClampNeg + 1 ≤ (ν 4 2).toNatClampNeg := by
  have g1 : Kt a (zX8_takesSign μ 59) := g.takesSign (by decide)
  have e := (gd_X8_called g1.1 x2 x3 x4).2.2 4 (by decide)
  have no : ∀ {s t : Sg}, ((0 : Int32), s) = (1, t) → False := fun q => absurd (show (0 : Int32) = 1 from congrArg Prod.fst q) (by decide)
  unfold zde at he
  split at he
  · exact (no he).elim
  · rename_i c
    have b := (at_take g.2.1 (x1 := 59) (by decide)).2 c
    split at he
    · exact (no he).elim
    · split at he
      · have q : ν 4 2 = zX8_takesSign μ 59 4 2 := by
          rw [show ν = _ from congrArg Prod.snd he]
          exact congrFun e 2
        rw [q]; exact b
      · exact (no he).elim
theorem at_dt {a μ ν : Sg} (g : Kt a μ) {x2 : Int32} (he : (0, ν) = zdt μ x2) : (μ 4 2).toNatClampNeg + 1 ≤ (ν 4 2).toNatClampNeg := by
  have g1 := g.number
  have n1 := at_num g.2.1
  unfold zdt at he
  split at he
  · have := at_de g1 he; omega
  · split at he
    · have := at_de g1 he; omega
    · have g2 := g1.takesSign (x1 := 44) (by decide)
      have n2 := (at_take g1.2.1 (x1 := 44) (by decide)).1
      have n3 := at_num g2.2.1
      have := at_de g2.number he
      omega
theorem at_dp {μ : Sg} (h : InvT μ) (c : ¬ (μ 4 1) ≤ (μ 4 2)) : (μ 4 2).toNatClampNeg ≤ ((zdp μ) 4 2).toNatClampNeg := by
  have a := (at_inc h.1 h.2 c).1
  have z0 : ∀ v : Int32, mT (mT μ 5 v) 2 ((mT μ 5 v) 4 2 + 0) 4 2 = μ 4 2 := fun v => by
    show μ 4 2 + 0 = μ 4 2
    rw [Int32.add_zero]
  have e : mT (mT μ 5 1) 2 ((mT μ 5 1) 4 2 + 1) 4 2 = μ 4 2 + 1 := rfl
  unfold zdp
  (repeat' split) <;> first | (rw [e]; omega) | (rw [z0]; exact Nat.le_refl _)
theorem dt_go {μ ν : Sg} (hI : InvM μ) (hT : InvT μ) (c : ¬ (μ 4 1) ≤ (μ 4 2)) (he : (0, ν) = zdt (zdp μ) (zX8_here μ)) : InvM ν ∧ InvT ν ∧ (μ 4 2).toNatClampNeg + 1 ≤ (ν 4 2).toNatClampNeg := by
  have g := (Kt.rf hI hT).dp c
  have g2 := g.dt (zX8_here μ)
  have e2 : ν = (zdt (zdp μ) (zX8_here μ)).2 := congrArg Prod.snd he
  rw [← e2] at g2
  have n1 := at_dp hT c
  have n2 := at_dt g he
  exact ⟨g2.1, g2.2.1, by omega⟩
