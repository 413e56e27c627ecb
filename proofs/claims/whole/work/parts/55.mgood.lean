theorem gd_X8_lapses {μ : Sg} (h : InvM μ) {x1 : Int32} (hx : rg x1 24) (hs1 : zX8_ofMeal μ x1 0 = 1) : Gd μ (zX8_lapses μ x1) := by
  have hp := inv_who h hx hs1
  unfold zX8_lapses
  generalize zX8_ofMeal μ x1 5 = q at hp ⊢
  have a1 : Gd μ (zX8_setMeal (zX8_setMeal μ x1 0 0) x1 5 (-1)) := ((Gd.rf h).setMeal hx (by decide) (fun _ => Or.inl (by decide)) (fun e => absurd e (by decide)) (fun e => absurd e (by decide))).setMeal hx (by decide) (fun e => absurd e (by decide)) (fun e => absurd e (by decide)) (fun _ => Or.inr (by rw [ofMeal_set0 hx]; decide))
  split
  · exact (a1.setPerson hp (by decide)).setPerson hp (by decide)
  · exact (((a1.setPerson hp (by decide)).setPerson hp (by decide)).setPerson hp (by decide)).setPerson hp (by decide)
theorem gd_upTo {f : Nat → Sg → Sg} {μ : Sg} (h : InvM μ) {N : Nat} (hs : ∀ i v, i < N → Gd μ v → Gd v (f i v)) : ∀ i : Nat, i ≤ N → Gd μ (upTo f μ i) := by
  intro i
  induction i with
  | zero => exact fun _ => Gd.rf h
  | succ n ih =>
    intro hn
    have a := ih (by omega)
    exact a.tr (hs n _ (by omega) a)
theorem gd_upTo2 {f : Nat → Int32 × Sg → Int32 × Sg} {x : Int32} {μ : Sg} (h : InvM μ) {N : Nat} (hs : ∀ i (v : Int32 × Sg), i < N → Gd μ v.2 → Gd v.2 (f i v).2) : ∀ i : Nat, i ≤ N → Gd μ (upTo f (x, μ) i).2 := by
  intro i
  induction i with
  | zero => exact fun _ => Gd.rf h
  | succ n ih =>
    intro hn
    have a := ih (by omega)
    exact a.tr (hs n _ (by omega) a)
theorem gd_m {μ v : Sg} (g : Gd μ v) {i : Nat} (hi : i < (μ 0 1).toNatClampNeg) : rg (nI i) 24 := inv_m g.1 (by rw [g.2.1 1 (by decide)]; exact hi)
theorem gd_h {μ v : Sg} (g : Gd μ v) {i : Nat} (hi : i < (μ 0 3).toNatClampNeg) : rg (nI i) 3 := inv_h g.1 (by rw [g.2.1 3 (by decide)]; exact hi)
