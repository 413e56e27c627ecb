/-! THE START: the cells made, as the two sides see them -/
theorem arrV_cg {cA : ClassId} {N : Nat} {f g : Nat → Value} (h : ∀ j, j < N → f j = g j) : arrV cA N f = arrV cA N g := by
  have e : (fun j : Fin N => f j.val) = fun j : Fin N => g j.val := funext (fun j => h j.val j.isLt)
  unfold arrV
  rw [e]
theorem all_ob {y : Y3} {ob : Nat → Nat} {AD : Nat → Nat → Nat} : ∀ i, i < 8 → ∃ e, (bigW y ob AD)[i]? = some (ob i, e) := by
  intro i hi
  rcases (show i = 0 ∨ i = 1 ∨ i = 2 ∨ i = 3 ∨ i = 4 ∨ i = 5 ∨ i = 6 ∨ i = 7 by omega) with rfl | rfl | rfl | rfl | rfl | rfl | rfl | rfl
  all_goals exact ⟨_, rfl⟩
theorem all_st0 {y : Y3} {ob : Nat → Nat} {AD : Nat → Nat → Nat} : ∀ i, i < 11 → ∃ e, (bigW y ob AD)[8 + i]? = some (AD 0 i, e) := by
  intro i hi
  rcases (show i = 0 ∨ i = 1 ∨ i = 2 ∨ i = 3 ∨ i = 4 ∨ i = 5 ∨ i = 6 ∨ i = 7 ∨ i = 8 ∨ i = 9 ∨ i = 10 by omega) with rfl | rfl | rfl | rfl | rfl | rfl | rfl | rfl | rfl | rfl | rfl
  all_goals exact ⟨_, rfl⟩
theorem all_st1 {y : Y3} {ob : Nat → Nat} {AD : Nat → Nat → Nat} : ∀ i, i < 11 → ∃ e, (bigW y ob AD)[19 + i]? = some (AD 1 i, e) := by
  intro i hi
  rcases (show i = 0 ∨ i = 1 ∨ i = 2 ∨ i = 3 ∨ i = 4 ∨ i = 5 ∨ i = 6 ∨ i = 7 ∨ i = 8 ∨ i = 9 ∨ i = 10 by omega) with rfl | rfl | rfl | rfl | rfl | rfl | rfl | rfl | rfl | rfl | rfl
  all_goals exact ⟨_, rfl⟩
theorem all_st2 {y : Y3} {ob : Nat → Nat} {AD : Nat → Nat → Nat} : ∀ i, i < 11 → ∃ e, (bigW y ob AD)[30 + i]? = some (AD 2 i, e) := by
  intro i hi
  rcases (show i = 0 ∨ i = 1 ∨ i = 2 ∨ i = 3 ∨ i = 4 ∨ i = 5 ∨ i = 6 ∨ i = 7 ∨ i = 8 ∨ i = 9 ∨ i = 10 by omega) with rfl | rfl | rfl | rfl | rfl | rfl | rfl | rfl | rfl | rfl | rfl
  all_goals exact ⟨_, rfl⟩
theorem all_st3 {y : Y3} {ob : Nat → Nat} {AD : Nat → Nat → Nat} : ∀ i, i < 11 → ∃ e, (bigW y ob AD)[41 + i]? = some (AD 3 i, e) := by
  intro i hi
  rcases (show i = 0 ∨ i = 1 ∨ i = 2 ∨ i = 3 ∨ i = 4 ∨ i = 5 ∨ i = 6 ∨ i = 7 ∨ i = 8 ∨ i = 9 ∨ i = 10 by omega) with rfl | rfl | rfl | rfl | rfl | rfl | rfl | rfl | rfl | rfl | rfl
  all_goals exact ⟨_, rfl⟩
theorem all_st4 {y : Y3} {ob : Nat → Nat} {AD : Nat → Nat → Nat} : ∀ i, i < 11 → ∃ e, (bigW y ob AD)[52 + i]? = some (AD 4 i, e) := by
  intro i hi
  rcases (show i = 0 ∨ i = 1 ∨ i = 2 ∨ i = 3 ∨ i = 4 ∨ i = 5 ∨ i = 6 ∨ i = 7 ∨ i = 8 ∨ i = 9 ∨ i = 10 by omega) with rfl | rfl | rfl | rfl | rfl | rfl | rfl | rfl | rfl | rfl | rfl
  all_goals exact ⟨_, rfl⟩
theorem all_st5 {y : Y3} {ob : Nat → Nat} {AD : Nat → Nat → Nat} : ∀ i, i < 11 → ∃ e, (bigW y ob AD)[63 + i]? = some (AD 5 i, e) := by
  intro i hi
  rcases (show i = 0 ∨ i = 1 ∨ i = 2 ∨ i = 3 ∨ i = 4 ∨ i = 5 ∨ i = 6 ∨ i = 7 ∨ i = 8 ∨ i = 9 ∨ i = 10 by omega) with rfl | rfl | rfl | rfl | rfl | rfl | rfl | rfl | rfl | rfl | rfl
  all_goals exact ⟨_, rfl⟩
theorem all_st {y : Y3} {ob : Nat → Nat} {AD : Nat → Nat → Nat} : ∀ k, k < 6 → ∀ i, i < 11 → ∃ e, (bigW y ob AD)[8 + 11 * k + i]? = some (AD k i, e) := by
  intro k hk
  rcases (show k = 0 ∨ k = 1 ∨ k = 2 ∨ k = 3 ∨ k = 4 ∨ k = 5 by omega) with rfl | rfl | rfl | rfl | rfl | rfl
  · exact all_st0
  · exact all_st1
  · exact all_st2
  · exact all_st3
  · exact all_st4
  · exact all_st5
set_option maxHeartbeats 4000000 in
theorem all_sys {D : va_G} {y : Y3} {ob : Nat → Nat} {AD : Nat → Nat → Nat} {H : Heap} (hP : va_P D vwCl (bigW y ob AD) H) : SysH D y ob AD og00 H := by
  refine ⟨fun k q hk => ?_, fun k q hk => ?_, fun k q hk => ?_, fun k q hk => ?_, fun k q hk => ?_, fun k q hk => ?_, fun j hj => ?_⟩
  · match k, hk with
    | 0, hk => cases hk; exact hP 0 _ rfl
    | k + 1, hk => simp at hk
  · match k, hk with
    | 0, hk => cases hk; exact hP 1 _ rfl
    | k + 1, hk => simp at hk
  · match k, hk with
    | 0, hk => cases hk; exact hP 2 _ rfl
    | k + 1, hk => simp at hk
  · match k, hk with
    | 0, hk => cases hk; exact hP 3 _ rfl
    | 1, hk =>
      cases hk
      have h := hP 4 _ rfl
      have h : H[ob 4]? = some (arrV y.2.2 4 (fun j => va_rf (arr4 (fun k => AD (k + 2)) j))) := h
      show H[ob 4]? = some (arrV y.2.2 4 (fun j => va_rf (some (AD (j + 2) 0))))
      rw [h]
      refine congrArg some (arrV_cg (fun j hj => ?_))
      rcases (show j = 0 ∨ j = 1 ∨ j = 2 ∨ j = 3 by omega) with rfl | rfl | rfl | rfl <;> rfl
    | k + 2, hk => simp [hiW] at hk
  · match k, hk with
    | 0, hk => cases hk; exact hP 5 _ rfl
    | 1, hk => cases hk; exact hP 6 _ rfl
    | k + 2, hk => simp [txW] at hk
  · match k, hk with
    | 0, hk => cases hk; exact hP 7 _ rfl
    | k + 1, hk => simp at hk
  · have h0 : og00 j = sg00 := if_pos hj
    rw [h0]
    have h8 : ∀ (X Y Z : va_W), va_P D vwCl (X ++ (Y ++ Z)) H → va_P D vwCl Y H := fun X Y Z h k q hk => h (X.length + k) q (by
      have hl : k < Y.length := (List.getElem?_eq_some_iff.mp hk).1
      rw [List.getElem?_append_right (by omega), Nat.add_sub_cancel_left, List.getElem?_append_left hl]
      exact hk)
    rcases (show j = 0 ∨ j = 1 ∨ j = 2 ∨ j = 3 ∨ j = 4 ∨ j = 5 by omega) with rfl | rfl | rfl | rfl | rfl | rfl
    · exact h8 ((bigW y ob AD).take 8) _ ((bigW y ob AD).drop 19) hP
    · exact h8 ((bigW y ob AD).take 19) _ ((bigW y ob AD).drop 30) hP
    · exact h8 ((bigW y ob AD).take 30) _ ((bigW y ob AD).drop 41) hP
    · exact h8 ((bigW y ob AD).take 41) _ ((bigW y ob AD).drop 52) hP
    · exact h8 ((bigW y ob AD).take 52) _ ((bigW y ob AD).drop 63) hP
    · exact h8 ((bigW y ob AD).take 63) _ ((bigW y ob AD).drop 74) hP
set_option maxHeartbeats 4000000 in
theorem all_apart {y : Y3} {ob : Nat → Nat} {AD : Nat → Nat → Nat} {A : Nat → Prop} (hD : va_D A (bigW y ob AD)) : sysJ ob AD ∧ (∀ q, sysA ob AD q → A q) := by
  refine ⟨⟨fun k i k2 i2 hk hi hk2 hi2 e => ?_, fun i j hi hj e => ?_, fun k i j hk hi hj e => ?_⟩, fun q hq => ?_⟩
  · obtain ⟨e1, h1⟩ := all_st (y := y) (ob := ob) (AD := AD) k hk i hi
    obtain ⟨e2, h2⟩ := all_st (y := y) (ob := ob) (AD := AD) k2 hk2 i2 hi2
    have := hD.1 _ _ _ _ h1 h2 e
    omega
  · obtain ⟨e1, h1⟩ := all_ob (y := y) (ob := ob) (AD := AD) i hi
    obtain ⟨e2, h2⟩ := all_ob (y := y) (ob := ob) (AD := AD) j hj
    exact hD.1 _ _ _ _ h1 h2 e
  · obtain ⟨e1, h1⟩ := all_st (y := y) (ob := ob) (AD := AD) k hk i hi
    obtain ⟨e2, h2⟩ := all_ob (y := y) (ob := ob) (AD := AD) j hj
    have := hD.1 _ _ _ _ h1 h2 e
    omega
  · rcases hq with ⟨j, hj, rfl⟩ | ⟨k, hk, j, hj, rfl⟩
    · obtain ⟨e2, h2⟩ := all_ob (y := y) (ob := ob) (AD := AD) j hj
      exact hD.2 _ _ h2
    · obtain ⟨e2, h2⟩ := all_st (y := y) (ob := ob) (AD := AD) k hk j hj
      exact hD.2 _ _ h2
