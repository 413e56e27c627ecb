theorem zK_int {D : va_G} {y : Y3} {s : State} {c9 : ClassId} (h : CK D y s) (h9 : va_K D vwCl ([(y.1, .int), (y.2.1, .char), (y.2.2, .object "MealLockers$State")] ++ [(c9, .int)]) s) : c9 = y.1 := by
  have a := va_nm_int (h9.2 3 _ rfl).2
  have b := va_nm_int (h.1.2 0 _ rfl).2
  rw [b] at a
  exact (Option.some.inj a).symm
theorem zK_char {D : va_G} {y : Y3} {s : State} {c9 : ClassId} (h : CK D y s) (h9 : va_K D vwCl ([(y.1, .int), (y.2.1, .char), (y.2.2, .object "MealLockers$State")] ++ [(c9, .char)]) s) : c9 = y.2.1 := by
  have a := va_nm_char (h9.2 3 _ rfl).2
  have b := va_nm_char (h.1.2 1 _ rfl).2
  rw [b] at a
  exact (Option.some.inj a).symm
theorem zK_obj {D : va_G} {y : Y3} {s : State} {c9 : ClassId} (h : CK D y s) (h9 : va_K D vwCl ([(y.1, .int), (y.2.1, .char), (y.2.2, .object "MealLockers$State")] ++ [(c9, .object "MealLockers$State")]) s) : c9 = y.2.2 := by
  have a := va_nmO (nm := "[LMealLockers$State;") (h9.2 3 _ rfl).2 rfl
  have b := va_nmO (nm := "[LMealLockers$State;") (h.1.2 2 _ rfl).2 rfl
  rw [b] at a
  exact (Option.some.inj a).symm
theorem zne {A : Nat → Prop} {ws : va_W} (hD : va_D A ws) (i j : Nat) {p q : Nat × va_E} (hi : ws[i]? = some p) (hj : ws[j]? = some q) (h : i ≠ j) : p.1 ≠ q.1 := fun e => h (hD.1 i j p q hi hj e)
theorem zkeep9 {D : va_G} {A : Nat → Prop} {ws wr : va_W} {H H1 : Heap} (hD : va_D A ws) (hPr : va_P D vwCl wr H) (is : List Nat) (hs : is.map (fun i => ws[i]?) = wr.map some) {q1 q2 : Nat} {a b : Nat × va_E} (ha : ws[q1]? = some a) (hb : ws[q2]? = some b) (hd : q1 ∉ is ∧ q2 ∉ is) (hk : ∀ q : Nat, q < H.size → ¬ tbA a.1 b.1 q → H1[q]? = H[q]?) : va_P D vwCl wr H1 := by
  refine va_P.kept hPr (fun k q hq => hk _ (hPr k q hq).lt (fun z => ?_))
  have h1 : (is.map (fun i => ws[i]?))[k]? = some (some q) := by rw [hs, List.getElem?_map, hq]; rfl
  rw [List.getElem?_map] at h1
  cases hi : is[k]? with
  | none => rw [hi] at h1; cases h1
  | some i =>
    rw [hi] at h1
    have h2 : ws[i]? = some q := Option.some.inj h1
    have hm : i ∈ is := List.mem_of_getElem? hi
    rcases z with e | e
    · exact hd.1 ((hD.1 i q1 q a h2 ha e) ▸ hm)
    · exact hd.2 ((hD.1 i q2 q b h2 hb e) ▸ hm)
theorem zapp9 {D : va_G} {A : Nat → Prop} {ws wr w1 : va_W} {H1 : Heap} (hD : va_D A ws) (hPr : va_P D vwCl wr H1) (hP1 : va_P D vwCl w1 H1) (isR isC : List Nat) (hR : isR.map (fun i => (ws[i]?).map Prod.fst) = wr.map (fun q => some q.1)) (hC : isC.map (fun i => (ws[i]?).map Prod.fst) = w1.map (fun q => some q.1)) (hn : va_nd (isR ++ isC) = true) : va_P D vwCl (wr ++ w1) H1 ∧ va_D A (wr ++ w1) := by
  refine ⟨hPr.app hP1, ?_⟩
  have hs : (isR ++ isC).map (fun i => (ws[i]?).map Prod.fst) = (wr ++ w1).map (fun q => some q.1) := by rw [List.map_append, List.map_append, hR, hC]
  have key : ∀ (k : Nat) (q : Nat × va_E), (wr ++ w1)[k]? = some q → ∃ i p, (isR ++ isC)[k]? = some i ∧ ws[i]? = some p ∧ p.1 = q.1 := by
    intro k q hq
    have h1 : ((isR ++ isC).map (fun i => (ws[i]?).map Prod.fst))[k]? = some (some q.1) := by rw [hs, List.getElem?_map, hq]; rfl
    rw [List.getElem?_map] at h1
    cases hi : (isR ++ isC)[k]? with
    | none => rw [hi] at h1; cases h1
    | some i =>
      rw [hi] at h1
      have h2 : (ws[i]?).map Prod.fst = some q.1 := Option.some.inj h1
      cases hw : ws[i]? with
      | none => rw [hw] at h2; cases h2
      | some p => rw [hw] at h2; exact ⟨i, p, rfl, hw, Option.some.inj h2⟩
  refine ⟨fun i j p q hi hj e => ?_, fun k q hk => ?_⟩
  · obtain ⟨i1, p1, a1, a2, a3⟩ := key i p hi
    obtain ⟨j1, q1, b1, b2, b3⟩ := key j q hj
    have e2 : i1 = j1 := hD.1 i1 j1 p1 q1 a2 b2 (by rw [a3, b3, e])
    subst e2
    exact va_nd_inj _ hn i j i1 a1 b1
  · obtain ⟨i, p, a1, a2, a3⟩ := key k q hk
    rw [← a3]
    exact hD.2 i p a2
theorem zA1 {h sz q : Nat} {e : va_E} (z : va_A [(h, e)] sz q) : q = h ∨ sz ≤ q := by
  rcases z with ⟨k, e1, hk⟩ | z
  · match k, hk with
    | 0, hk => cases hk; exact Or.inl rfl
    | k + 1, hk => simp at hk
  · exact Or.inr z
theorem nI_nn {n : Nat} (h : n ≤ 192) : ¬ nI n < 0 := by
  rw [Int32.lt_iff_toInt_lt, nI_toInt (by omega), Int32.toInt_zero]
  omega
theorem iwX5_init_X5 : ∀ w ∈ wsX50, w ∈ wsX5_init := fun _ h => List.mem_cons_of_mem _ (List.mem_append_right _ h)
set_option maxHeartbeats 4000000 in
set_option maxRecDepth 100000 in
theorem mX5_init (l : Launch) (D : va_G) (y : Y3) (h : Nat) (x1 x2 : Int32) (n : Nat) (sz : Nat) : Met l yX5_init wsX5_init ({ frames := 1, cells := 1, slots := n, locals := 21 } : Room) (va_Pc [.ref h, .int x1, .int x2] (fun U => CK D y U ∧ U.heap.size = sz ∧ va_P D vwCl [(h, .inr (5, [.int 0, .int 0, .null, .int 0]))] U.heap ∧ va_D (fun _ => True) [(h, .inr (5, [.int 0, .int 0, .null, .int 0]))] ∧ zmax 0 (x1 * x2) = nI n ∧ n ≤ 192)) (va_Qv (fun u : Nat => True) (fun (u : Nat) (t : State) => va_P D vwCl [(h, .inr (5, [.int x1, .int x2, .ref u, .int 0])), (u, .inl (y.1, n, .inl (fun _ => 0)))] t.heap ∧ va_D (va_A [(h, .inr (5, [.int 0, .int 0, .null, .int 0]))] sz) [(h, .inr (5, [.int x1, .int x2, .ref u, .int 0])), (u, .inl (y.1, n, .inl (fun _ => 0)))]) (va_A [(h, .inr (5, [.int 0, .int 0, .null, .int 0]))] sz)) 1 n (va_A [(h, .inr (5, [.int 0, .int 0, .null, .int 0]))] sz) := by
  refine Met.ofW (cc := cX5_init) (maxL := 3) (ret := none) (by decide) rfl ?_
  intro p e s m args below meth c s₁ B hml hv
  obtain ⟨rfl, hC, hsz, hP, hD0, hq, hn⟩ := hv
  have hx := B.exec
  have hb := B.bytes
  have hr := B.returns
  have hts := atoms_spec (ws := wsX5_init) B.pre
  have hown : s.vm.findClass RX5 = some m.cls := findClass_of_methodNamed B.named
  have hlocks := B.notSynchronized
  have hin : meth.name = "<init>" := (name_of_methodNamed B.named B.method).1
  have hF := (⟨hx, hb, hml, hown, hts⟩ : CallFix p m c cX5_init 3 s _ wsX5_init RX5)
  subst hsz
  have hD := hD0.self (sz := s.heap.size)
  generalize hAe : va_A [(h, .inr (5, [.int 0, .int 0, .null, .int 0]))] s.heap.size = A at hD ⊢
  have hA : ∀ q : Nat, s.heap.size ≤ q → A q := fun q h => by rw [← hAe]; exact Or.inr h
  have hl := lv_entry ([.ref h, .int x1, .int x2]) (n := 3) (Nat.le_of_ble_eq_true rfl)
  rw [lg_entry_eq]
  generalize (lg_sl ([.ref h, .int x1, .int x2]) ++ List.replicate (3 - (lg_sl ([.ref h, .int x1, .int x2])).length) Slot.unset).toArray = ls at hl ⊢
  have hl : lv_has ls 3 [(0, .ref h), (1, .int x1), (2, .int x2)] := hl
  obtain ⟨H, hH9⟩ : ∃ H, H = s.heap := ⟨_, rfl⟩
  have hS : va_S A s.heap H [] := by rw [hH9]; exact va_S.rf
  rw [← hH9] at hP
  rw [← hH9]
  refine lv_aload_n hx hb dX5_init_0 rfl (lv_at hl 0 rfl) ?_
  refine W.objInit hx hb hown (hts (.methodLink RX5 1 objectInit) (List.mem_of_getElem? (i := 1) rfl)) (hts (.instanceMethod objectInit) (List.mem_of_getElem? (i := 2) rfl)) (hts (.code objectInit ⟨#[0xb1]⟩ 1 none) (List.mem_of_getElem? (i := 3) rfl)) rfl (by rw [hml]; exact hl.1) rfl dX5_init_1 (Nat.le_of_ble_eq_true rfl) (Nat.le_of_ble_eq_true rfl) ?_
  refine W.eq (g2 := F0 m 4 ls []) rfl ?_
  refine lv_aload_n hx hb dX5_init_4 rfl (lv_at hl 0 rfl) ?_
  refine lv_iload_n hx hb dX5_init_5 rfl (lv_at hl 1 rfl) ?_
  refine va_putF (D := D) (ci := 5) (v := .int x1) (ty := .int) (C := RX5) (T := TX5) (N := 4) hx hb hts iwX5_init_X5 tyX5 tyX5_ok nmX5 hown hC.1 hP hD hS 0 rfl rfl 0 (by decide) (hts (.fieldLink RX5 7 "MealLockers$Table" "limit" "I") (List.mem_of_getElem? (i := 4) rfl)) (fun _ h9 => h9) rfl hin rfl (by decide +kernel) rfl rfl (Nat.le_of_ble_eq_true rfl) dX5_init_6 (fun H locs hP hD hS => ?_)
  have hP : va_P D vwCl [(h, .inr (5, [.int x1, .int 0, .null, .int 0]))] H := hP
  have hD : va_D A [(h, .inr (5, [.int x1, .int 0, .null, .int 0]))] := hD
  refine lv_aload_n hx hb dX5_init_9 rfl (lv_at hl 0 rfl) ?_
  refine lv_iload_n hx hb dX5_init_10 rfl (lv_at hl 2 rfl) ?_
  refine va_putF (D := D) (ci := 5) (v := .int x2) (ty := .int) (C := RX5) (T := TX5) (N := 4) hx hb hts iwX5_init_X5 tyX5 tyX5_ok nmX5 hown hC.1 hP hD hS 0 rfl rfl 1 (by decide) (hts (.fieldLink RX5 13 "MealLockers$Table" "columns" "I") (List.mem_of_getElem? (i := 5) rfl)) (fun _ h9 => h9) rfl hin rfl (by decide +kernel) rfl rfl (Nat.le_of_ble_eq_true rfl) dX5_init_11 (fun H locs hP hD hS => ?_)
  have hP : va_P D vwCl [(h, .inr (5, [.int x1, .int x2, .null, .int 0]))] H := hP
  have hD : va_D A [(h, .inr (5, [.int x1, .int x2, .null, .int 0]))] := hD
  refine lv_aload_n hx hb dX5_init_14 rfl (lv_at hl 0 rfl) ?_
  refine lv_iconst (v := 0) hx hb dX5_init_15 (by decide) ?_
  refine lv_iload_n hx hb dX5_init_16 rfl (lv_at hl 1 rfl) ?_
  refine lv_iload_n hx hb dX5_init_17 rfl (lv_at hl 2 rfl) ?_
  refine lv_imul hx hb dX5_init_18 ?_
  refine va_mmax hx hb (hml.trans hl.1.symm) hown (hts (.methodLink RX5 16 Lib.Math.max.name) (List.mem_of_getElem? (i := 6) rfl)) (hts (.static Lib.Math.max.name) (List.mem_of_getElem? (i := 7) rfl)) (hts (.initialized "java/lang/Math") (List.mem_of_getElem? (i := 8) rfl)) (hts (.code Lib.Math.max.name Lib.Math.max.code 2 (some .int)) (List.mem_of_getElem? (i := 9) rfl)) (Nat.le_of_ble_eq_true rfl) (Nat.le_of_ble_eq_true rfl) (Nat.zero_le _) (Nat.zero_le _) dX5_init_19 ?_
  refine va_newa (atype := .int) hx hb (hts (.arrayClass .int) (List.mem_of_getElem? (i := 10) rfl)) (ty := .int) rfl hC.1 hP hD hS hA (N' := n) (a0 := (n, .inl (fun _ => 0))) (fun _ => rfl) (by show ¬ zmax 0 (x1 * x2) < 0; rw [hq]; exact nI_nn hn) (by show (zmax 0 (x1 * x2)).toNatClampNeg = n; rw [hq]; exact nI_clamp (by omega)) (by show n * 4 ≤ _; omega) (Nat.le_of_ble_eq_true rfl) (Nat.le_of_eq (Nat.zero_add n)) dX5_init_22 (fun q_1 c9 H hK9 hP hD hS => ?_)
  obtain rfl := zK_int hC hK9
  have hP : va_P D vwCl [(h, .inr (5, [.int x1, .int x2, .null, .int 0])), (q_1, .inl (y.1, n, .inl (fun _ => 0)))] H := hP
  have hD : va_D A [(h, .inr (5, [.int x1, .int x2, .null, .int 0])), (q_1, .inl (y.1, n, .inl (fun _ => 0)))] := hD
  refine va_putF (D := D) (ci := 5) (v := .ref q_1) (ty := (.array .int)) (C := RX5) (T := TX5) (N := 4) hx hb hts iwX5_init_X5 tyX5 tyX5_ok nmX5 hown hC.1 hP hD hS 0 rfl rfl 2 (by decide) (hts (.fieldLink RX5 22 "MealLockers$Table" "cells" "[I") (List.mem_of_getElem? (i := 11) rfl)) (fun _ h9 => h9) rfl hin rfl (by decide +kernel) rfl rfl (Nat.le_of_ble_eq_true rfl) dX5_init_24 (fun H locs hP hD hS => ?_)
  have hP : va_P D vwCl [(h, .inr (5, [.int x1, .int x2, .ref q_1, .int 0])), (q_1, .inl (y.1, n, .inl (fun _ => 0)))] H := hP
  have hD : va_D A [(h, .inr (5, [.int x1, .int x2, .ref q_1, .int 0])), (q_1, .inl (y.1, n, .inl (fun _ => 0)))] := hD
  rw [Nat.zero_add n]
  have hP9 := hP.sub (ws' := [(h, .inr (5, [.int x1, .int x2, .ref q_1, .int 0])), (q_1, .inl (y.1, n, .inl (fun _ => 0)))]) [0, 1] rfl
  have hD9 := hD.sub (ws' := [(h, .inr (5, [.int x1, .int x2, .ref q_1, .int 0])), (q_1, .inl (y.1, n, .inl (fun _ => 0)))]) [0, 1] (by decide) rfl
  exact W.vret hx hb hr (fun t ht hW => ⟨⟨q_1, rfl, trivial, by rw [ht]; exact hP9, hD9⟩, hS.F ht⟩) hS.2.2 dX5_init_27
/-- a new State -/
def sg00 : Sg := fun k => match k with
  | 4 => (zX5_store 1 4 (zX5_store 1 4 (zX5_store 1 4 (zX5_store 1 4 (fun _ => 0) ((zX5_addRow 4 0).1) 0 4) ((zX5_addRow 4 ((zX5_addRow 4 0).2)).1) 0 3) ((zX5_addRow 4 ((zX5_addRow 4 ((zX5_addRow 4 0).2)).2)).1) 0 24) ((zX5_addRow 4 ((zX5_addRow 4 ((zX5_addRow 4 ((zX5_addRow 4 0).2)).2)).2)).1) 0 1)
  | 5 => (fun j => match j with
    | 4 => ((zX5_addRow 4 ((zX5_addRow 4 ((zX5_addRow 4 ((zX5_addRow 4 0).2)).2)).2)).2)
    | _ => 0)
  | _ => (fun _ => 0)
theorem iwX4_init_X5 : ∀ w ∈ wsX50, w ∈ wsX4_init := fun _ h => List.mem_cons_of_mem _ (List.mem_append_left _ (List.mem_append_right _ h))
theorem iwX4_init_X4 : ∀ w ∈ wsX40, w ∈ wsX4_init := fun _ h => List.mem_cons_of_mem _ (List.mem_append_right _ h)
set_option maxHeartbeats 4000000 in
set_option maxRecDepth 100000 in
theorem mX4_init (l : Launch) (D : va_G) (y : Y3) (h n0 tM tF : Nat) (sz : Nat) : Met l yX4_init wsX4_init ({ frames := 2, cells := 10, slots := 324, locals := 43 } : Room) (va_Pc [.ref h] (fun U => CK D y U ∧ U.heap.size = sz ∧ va_P D vwCl [(h, .inr (4, [.null, .null, .null, .null, .null, .int 0]))] U.heap ∧ va_D (fun _ => True) [(h, .inr (4, [.null, .null, .null, .null, .null, .int 0]))] ∧ STM n0 tM tF U U.heap ∧ n0 ≤ h ∧ n0 ≤ sz)) (va_Qv (fun u : Nat → Nat => u 0 = h) (fun (u : Nat → Nat) (t : State) => va_P D vwCl (stW y.1 u sg00) t.heap ∧ va_D (va_A [(h, .inr (4, [.null, .null, .null, .null, .null, .int 0]))] sz) (stW y.1 u sg00)) (va_A [(h, .inr (4, [.null, .null, .null, .null, .null, .int 0]))] sz)) 10 324 (va_A [(h, .inr (4, [.null, .null, .null, .null, .null, .int 0]))] sz) := by
  refine Met.ofW (cc := cX4_init) (maxL := 2) (ret := none) (by decide) rfl ?_
  intro p e s m args below meth c s₁ B hml hv
  obtain ⟨rfl, hC, hsz, hP, hD0, hZ, hn9⟩ := hv
  have hx := B.exec
  have hb := B.bytes
  have hr := B.returns
  have hts := atoms_spec (ws := wsX4_init) B.pre
  have hown : s.vm.findClass RX4 = some m.cls := findClass_of_methodNamed B.named
  have hlocks := B.notSynchronized
  have hin : meth.name = "<init>" := (name_of_methodNamed B.named B.method).1
  have hF := (⟨hx, hb, hml, hown, hts⟩ : CallFix p m c cX4_init 2 s _ wsX4_init RX4)
  subst hsz
  have hD := hD0.self (sz := s.heap.size)
  generalize hAe : va_A [(h, .inr (4, [.null, .null, .null, .null, .null, .int 0]))] s.heap.size = A at hD ⊢
  have hA : ∀ q : Nat, s.heap.size ≤ q → A q := fun q h => by rw [← hAe]; exact Or.inr h
  have hn0 : ∀ q, A q → n0 ≤ q := fun q z => by rw [← hAe] at z; rcases zA1 z with e | e <;> omega
  have hl := lv_entry ([.ref h]) (n := 2) (Nat.le_of_ble_eq_true rfl)
  rw [lg_entry_eq]
  generalize (lg_sl ([.ref h]) ++ List.replicate (2 - (lg_sl ([.ref h])).length) Slot.unset).toArray = ls at hl ⊢
  have hl : lv_has ls 2 [(0, .ref h)] := hl
  obtain ⟨H, hH9⟩ : ∃ H, H = s.heap := ⟨_, rfl⟩
  have hS : va_S A s.heap H [] := by rw [hH9]; exact va_S.rf
  rw [← hH9] at hP
  rw [← hH9]
  refine lv_aload_n hx hb dX4_init_0 rfl (lv_at hl 0 rfl) ?_
  refine W.objInit hx hb hown (hts (.methodLink RX4 3 objectInit) (List.mem_of_getElem? (i := 1) rfl)) (hts (.instanceMethod objectInit) (List.mem_of_getElem? (i := 2) rfl)) (hts (.code objectInit ⟨#[0xb1]⟩ 1 none) (List.mem_of_getElem? (i := 3) rfl)) rfl (by rw [hml]; exact hl.1) rfl dX4_init_1 (Nat.le_of_ble_eq_true rfl) (Nat.le_of_ble_eq_true rfl) ?_
  refine W.eq (g2 := F0 m 4 ls []) rfl ?_
  refine lv_aload_n hx hb dX4_init_4 rfl (lv_at hl 0 rfl) ?_
  refine va_new (ci := 5) (fs := [.int 0, .int 0, .null, .int 0]) (C := RX5) (T := TX5) (N := 4) hx hb hts iwX4_init_X5 tyX5 tyX5_ok hown (hts (.classLink RX4 9 RX5) (List.mem_of_getElem? (i := 4) rfl)) (hts (.instantiable RX5 4) (List.mem_of_getElem? (i := 5) rfl)) (hts (.initialized RX5) (List.mem_of_getElem? (i := 6) rfl)) hC.1 hP hD hS hA rfl (fun j hj => by rcases (show j = 0 ∨ j = 1 ∨ j = 2 ∨ j = 3 by omega) with rfl | rfl | rfl | rfl <;> rfl) (Nat.le_of_ble_eq_true rfl) (Nat.le_of_ble_eq_true rfl) dX4_init_5 (fun q_1 H hP hD hS => ?_)
  have hP : va_P D vwCl [(h, .inr (4, [.null, .null, .null, .null, .null, .int 0])), (q_1, .inr (5, [.int 0, .int 0, .null, .int 0]))] H := hP
  have hD : va_D A [(h, .inr (4, [.null, .null, .null, .null, .null, .int 0])), (q_1, .inr (5, [.int 0, .int 0, .null, .int 0]))] := hD
  refine lv_dup hx hb dX4_init_8 rfl ?_
  refine lv_iconst (v := 5) hx hb dX4_init_9 (by decide) ?_
  refine lv_bipush (v := 9) hx hb dX4_init_10 (by decide) ?_
  have hPc := hP.sub (ws' := [(q_1, .inr (5, [.int 0, .int 0, .null, .int 0]))]) [1] rfl
  have hDc := hD.sub (ws' := [(q_1, .inr (5, [.int 0, .int 0, .null, .int 0]))]) [1] (by decide) rfl
  have hFc := va_free (wc := [(q_1, .inr (5, [.int 0, .int 0, .null, .int 0]))]) hD hS hA [1] rfl
  refine va_callv (va_runI (As := [.int 5, .int 9]) (rest := [.ref q_1, .ref h]) hF (mX5_init l D y q_1 5 9 45 H.size) (cwI 2 hts gX4_init_X5_init rfl rfl rfl (hts (.initialized RX5) (List.mem_of_getElem? (i := 6) rfl)) (hts (.methodLink RX4 11 yX5_init) (List.mem_of_getElem? (i := 12) rfl)) (hts (.instanceMethod yX5_init) (List.mem_of_getElem? (i := 13) rfl)) rfl (by decide +kernel) ⟨Nat.le_of_ble_eq_true rfl, Nat.le_of_ble_eq_true rfl⟩) ⟨fun a U g mk q => by obtain ⟨q0, q1, q2, q3, q9, q4, q5⟩ := q; exact ⟨q0, q1.call g mk a, q2, q3, q9, q4, q5⟩, fun U hU hW => ⟨rfl, hC.warm hW, by rw [hU], by rw [hU]; exact hPc, hDc.weaken (fun _ _ _ _ => trivial), (by decide), (by decide)⟩⟩ rfl rfl hl.1 rfl (lv_room (Nat.le_of_ble_eq_true rfl)) dX4_init_12 ⟨Nat.le_of_ble_eq_true rfl, Nat.le_of_ble_eq_true rfl⟩) hS (fun q _ h => hFc q h) hFc (fun b_2 t H1 locs ht hvm hu9 hB hz1 hk1 hS => ?_)
  obtain ⟨hP1, hD1⟩ := hB
  rw [ht] at hP1
  obtain ⟨hP, hD⟩ := va_join (wr := [(h, .inr (4, [.null, .null, .null, .null, .null, .int 0]))]) (w1 := [(q_1, .inr (5, [.int 5, .int 9, .ref b_2, .int 0])), (b_2, .inl (y.1, 45, .inl (fun _ => 0)))]) hP hD [1] [0] rfl rfl (by decide) (by decide) hk1 hFc hP1 hD1
  generalize H1 = H at hP hS ⊢
  have hP : va_P D vwCl [(h, .inr (4, [.null, .null, .null, .null, .null, .int 0])), (q_1, .inr (5, [.int 5, .int 9, .ref b_2, .int 0])), (b_2, .inl (y.1, 45, .inl (fun _ => 0)))] H := hP
  have hD : va_D A [(h, .inr (4, [.null, .null, .null, .null, .null, .int 0])), (q_1, .inr (5, [.int 5, .int 9, .ref b_2, .int 0])), (b_2, .inl (y.1, 45, .inl (fun _ => 0)))] := hD
  refine va_putF (D := D) (ci := 4) (v := .ref q_1) (ty := (.object "MealLockers$Table")) (C := RX4) (T := TX4) (N := 6) hx hb hts iwX4_init_X4 tyX4 tyX4_ok nmX4 hown hC.1 hP hD hS 0 rfl rfl 0 (by decide) (hts (.fieldLink RX4 14 "MealLockers$State" "lockers" "LMealLockers$Table;") (List.mem_of_getElem? (i := 7) rfl)) (fun _ h9 => h9) rfl hin rfl (by decide +kernel) rfl rfl (Nat.le_of_ble_eq_true rfl) dX4_init_15 (fun H locs hP hD hS => ?_)
  have hP : va_P D vwCl [(h, .inr (4, [.ref q_1, .null, .null, .null, .null, .int 0])), (q_1, .inr (5, [.int 5, .int 9, .ref b_2, .int 0])), (b_2, .inl (y.1, 45, .inl (fun _ => 0)))] H := hP
  have hD : va_D A [(h, .inr (4, [.ref q_1, .null, .null, .null, .null, .int 0])), (q_1, .inr (5, [.int 5, .int 9, .ref b_2, .int 0])), (b_2, .inl (y.1, 45, .inl (fun _ => 0)))] := hD
  refine lv_aload_n hx hb dX4_init_18 rfl (lv_at hl 0 rfl) ?_
  refine va_new (ci := 5) (fs := [.int 0, .int 0, .null, .int 0]) (C := RX5) (T := TX5) (N := 4) hx hb hts iwX4_init_X5 tyX5 tyX5_ok hown (hts (.classLink RX4 9 RX5) (List.mem_of_getElem? (i := 4) rfl)) (hts (.instantiable RX5 4) (List.mem_of_getElem? (i := 5) rfl)) (hts (.initialized RX5) (List.mem_of_getElem? (i := 6) rfl)) hC.1 hP hD hS hA rfl (fun j hj => by rcases (show j = 0 ∨ j = 1 ∨ j = 2 ∨ j = 3 by omega) with rfl | rfl | rfl | rfl <;> rfl) (Nat.le_of_ble_eq_true rfl) (Nat.le_of_ble_eq_true rfl) dX4_init_19 (fun q_3 H hP hD hS => ?_)
  have hP : va_P D vwCl [(h, .inr (4, [.ref q_1, .null, .null, .null, .null, .int 0])), (q_1, .inr (5, [.int 5, .int 9, .ref b_2, .int 0])), (b_2, .inl (y.1, 45, .inl (fun _ => 0))), (q_3, .inr (5, [.int 0, .int 0, .null, .int 0]))] H := hP
  have hD : va_D A [(h, .inr (4, [.ref q_1, .null, .null, .null, .null, .int 0])), (q_1, .inr (5, [.int 5, .int 9, .ref b_2, .int 0])), (b_2, .inl (y.1, 45, .inl (fun _ => 0))), (q_3, .inr (5, [.int 0, .int 0, .null, .int 0]))] := hD
  refine lv_dup hx hb dX4_init_22 rfl ?_
  refine lv_bipush (v := 24) hx hb dX4_init_23 (by decide) ?_
  refine lv_bipush (v := 8) hx hb dX4_init_25 (by decide) ?_
  have hPc := hP.sub (ws' := [(q_3, .inr (5, [.int 0, .int 0, .null, .int 0]))]) [3] rfl
  have hDc := hD.sub (ws' := [(q_3, .inr (5, [.int 0, .int 0, .null, .int 0]))]) [3] (by decide) rfl
  have hFc := va_free (wc := [(q_3, .inr (5, [.int 0, .int 0, .null, .int 0]))]) hD hS hA [3] rfl
  refine va_callv (va_runI (As := [.int 24, .int 8]) (rest := [.ref q_3, .ref h]) hF (mX5_init l D y q_3 24 8 192 H.size) (cwI 2 hts gX4_init_X5_init rfl rfl rfl (hts (.initialized RX5) (List.mem_of_getElem? (i := 6) rfl)) (hts (.methodLink RX4 11 yX5_init) (List.mem_of_getElem? (i := 12) rfl)) (hts (.instanceMethod yX5_init) (List.mem_of_getElem? (i := 13) rfl)) rfl (by decide +kernel) ⟨Nat.le_of_ble_eq_true rfl, Nat.le_of_ble_eq_true rfl⟩) ⟨fun a U g mk q => by obtain ⟨q0, q1, q2, q3, q9, q4, q5⟩ := q; exact ⟨q0, q1.call g mk a, q2, q3, q9, q4, q5⟩, fun U hU hW => ⟨rfl, hC.warm hW, by rw [hU], by rw [hU]; exact hPc, hDc.weaken (fun _ _ _ _ => trivial), (by decide), (by decide)⟩⟩ rfl rfl hl.1 rfl (lv_room (Nat.le_of_ble_eq_true rfl)) dX4_init_27 ⟨Nat.le_of_ble_eq_true rfl, Nat.le_of_ble_eq_true rfl⟩) hS (fun q _ h => hFc q h) hFc (fun b_4 t H1 locs ht hvm hu9 hB hz1 hk1 hS => ?_)
  obtain ⟨hP1, hD1⟩ := hB
  rw [ht] at hP1
  obtain ⟨hP, hD⟩ := va_join (wr := [(h, .inr (4, [.ref q_1, .null, .null, .null, .null, .int 0])), (q_1, .inr (5, [.int 5, .int 9, .ref b_2, .int 0])), (b_2, .inl (y.1, 45, .inl (fun _ => 0)))]) (w1 := [(q_3, .inr (5, [.int 24, .int 8, .ref b_4, .int 0])), (b_4, .inl (y.1, 192, .inl (fun _ => 0)))]) hP hD [3] [0, 1, 2] rfl rfl (by decide) (by decide) hk1 hFc hP1 hD1
  generalize H1 = H at hP hS ⊢
  have hP : va_P D vwCl [(h, .inr (4, [.ref q_1, .null, .null, .null, .null, .int 0])), (q_1, .inr (5, [.int 5, .int 9, .ref b_2, .int 0])), (b_2, .inl (y.1, 45, .inl (fun _ => 0))), (q_3, .inr (5, [.int 24, .int 8, .ref b_4, .int 0])), (b_4, .inl (y.1, 192, .inl (fun _ => 0)))] H := hP
  have hD : va_D A [(h, .inr (4, [.ref q_1, .null, .null, .null, .null, .int 0])), (q_1, .inr (5, [.int 5, .int 9, .ref b_2, .int 0])), (b_2, .inl (y.1, 45, .inl (fun _ => 0))), (q_3, .inr (5, [.int 24, .int 8, .ref b_4, .int 0])), (b_4, .inl (y.1, 192, .inl (fun _ => 0)))] := hD
  refine va_putF (D := D) (ci := 4) (v := .ref q_3) (ty := (.object "MealLockers$Table")) (C := RX4) (T := TX4) (N := 6) hx hb hts iwX4_init_X4 tyX4 tyX4_ok nmX4 hown hC.1 hP hD hS 0 rfl rfl 1 (by decide) (hts (.fieldLink RX4 20 "MealLockers$State" "meals" "LMealLockers$Table;") (List.mem_of_getElem? (i := 8) rfl)) (fun _ h9 => h9) rfl hin rfl (by decide +kernel) rfl rfl (Nat.le_of_ble_eq_true rfl) dX4_init_30 (fun H locs hP hD hS => ?_)
  have hP : va_P D vwCl [(h, .inr (4, [.ref q_1, .ref q_3, .null, .null, .null, .int 0])), (q_1, .inr (5, [.int 5, .int 9, .ref b_2, .int 0])), (b_2, .inl (y.1, 45, .inl (fun _ => 0))), (q_3, .inr (5, [.int 24, .int 8, .ref b_4, .int 0])), (b_4, .inl (y.1, 192, .inl (fun _ => 0)))] H := hP
  have hD : va_D A [(h, .inr (4, [.ref q_1, .ref q_3, .null, .null, .null, .int 0])), (q_1, .inr (5, [.int 5, .int 9, .ref b_2, .int 0])), (b_2, .inl (y.1, 45, .inl (fun _ => 0))), (q_3, .inr (5, [.int 24, .int 8, .ref b_4, .int 0])), (b_4, .inl (y.1, 192, .inl (fun _ => 0)))] := hD
  refine lv_aload_n hx hb dX4_init_33 rfl (lv_at hl 0 rfl) ?_
  refine va_new (ci := 5) (fs := [.int 0, .int 0, .null, .int 0]) (C := RX5) (T := TX5) (N := 4) hx hb hts iwX4_init_X5 tyX5 tyX5_ok hown (hts (.classLink RX4 9 RX5) (List.mem_of_getElem? (i := 4) rfl)) (hts (.instantiable RX5 4) (List.mem_of_getElem? (i := 5) rfl)) (hts (.initialized RX5) (List.mem_of_getElem? (i := 6) rfl)) hC.1 hP hD hS hA rfl (fun j hj => by rcases (show j = 0 ∨ j = 1 ∨ j = 2 ∨ j = 3 by omega) with rfl | rfl | rfl | rfl <;> rfl) (Nat.le_of_ble_eq_true rfl) (Nat.le_of_ble_eq_true rfl) dX4_init_34 (fun q_5 H hP hD hS => ?_)
  have hP : va_P D vwCl [(h, .inr (4, [.ref q_1, .ref q_3, .null, .null, .null, .int 0])), (q_1, .inr (5, [.int 5, .int 9, .ref b_2, .int 0])), (b_2, .inl (y.1, 45, .inl (fun _ => 0))), (q_3, .inr (5, [.int 24, .int 8, .ref b_4, .int 0])), (b_4, .inl (y.1, 192, .inl (fun _ => 0))), (q_5, .inr (5, [.int 0, .int 0, .null, .int 0]))] H := hP
  have hD : va_D A [(h, .inr (4, [.ref q_1, .ref q_3, .null, .null, .null, .int 0])), (q_1, .inr (5, [.int 5, .int 9, .ref b_2, .int 0])), (b_2, .inl (y.1, 45, .inl (fun _ => 0))), (q_3, .inr (5, [.int 24, .int 8, .ref b_4, .int 0])), (b_4, .inl (y.1, 192, .inl (fun _ => 0))), (q_5, .inr (5, [.int 0, .int 0, .null, .int 0]))] := hD
  refine lv_dup hx hb dX4_init_37 rfl ?_
  refine lv_bipush (v := 8) hx hb dX4_init_38 (by decide) ?_
  refine lv_bipush (v := 6) hx hb dX4_init_40 (by decide) ?_
  have hPc := hP.sub (ws' := [(q_5, .inr (5, [.int 0, .int 0, .null, .int 0]))]) [5] rfl
  have hDc := hD.sub (ws' := [(q_5, .inr (5, [.int 0, .int 0, .null, .int 0]))]) [5] (by decide) rfl
  have hFc := va_free (wc := [(q_5, .inr (5, [.int 0, .int 0, .null, .int 0]))]) hD hS hA [5] rfl
  refine va_callv (va_runI (As := [.int 8, .int 6]) (rest := [.ref q_5, .ref h]) hF (mX5_init l D y q_5 8 6 48 H.size) (cwI 2 hts gX4_init_X5_init rfl rfl rfl (hts (.initialized RX5) (List.mem_of_getElem? (i := 6) rfl)) (hts (.methodLink RX4 11 yX5_init) (List.mem_of_getElem? (i := 12) rfl)) (hts (.instanceMethod yX5_init) (List.mem_of_getElem? (i := 13) rfl)) rfl (by decide +kernel) ⟨Nat.le_of_ble_eq_true rfl, Nat.le_of_ble_eq_true rfl⟩) ⟨fun a U g mk q => by obtain ⟨q0, q1, q2, q3, q9, q4, q5⟩ := q; exact ⟨q0, q1.call g mk a, q2, q3, q9, q4, q5⟩, fun U hU hW => ⟨rfl, hC.warm hW, by rw [hU], by rw [hU]; exact hPc, hDc.weaken (fun _ _ _ _ => trivial), (by decide), (by decide)⟩⟩ rfl rfl hl.1 rfl (lv_room (Nat.le_of_ble_eq_true rfl)) dX4_init_42 ⟨Nat.le_of_ble_eq_true rfl, Nat.le_of_ble_eq_true rfl⟩) hS (fun q _ h => hFc q h) hFc (fun b_6 t H1 locs ht hvm hu9 hB hz1 hk1 hS => ?_)
  obtain ⟨hP1, hD1⟩ := hB
  rw [ht] at hP1
  obtain ⟨hP, hD⟩ := va_join (wr := [(h, .inr (4, [.ref q_1, .ref q_3, .null, .null, .null, .int 0])), (q_1, .inr (5, [.int 5, .int 9, .ref b_2, .int 0])), (b_2, .inl (y.1, 45, .inl (fun _ => 0))), (q_3, .inr (5, [.int 24, .int 8, .ref b_4, .int 0])), (b_4, .inl (y.1, 192, .inl (fun _ => 0)))]) (w1 := [(q_5, .inr (5, [.int 8, .int 6, .ref b_6, .int 0])), (b_6, .inl (y.1, 48, .inl (fun _ => 0)))]) hP hD [5] [0, 1, 2, 3, 4] rfl rfl (by decide) (by decide) hk1 hFc hP1 hD1
  generalize H1 = H at hP hS ⊢
  have hP : va_P D vwCl [(h, .inr (4, [.ref q_1, .ref q_3, .null, .null, .null, .int 0])), (q_1, .inr (5, [.int 5, .int 9, .ref b_2, .int 0])), (b_2, .inl (y.1, 45, .inl (fun _ => 0))), (q_3, .inr (5, [.int 24, .int 8, .ref b_4, .int 0])), (b_4, .inl (y.1, 192, .inl (fun _ => 0))), (q_5, .inr (5, [.int 8, .int 6, .ref b_6, .int 0])), (b_6, .inl (y.1, 48, .inl (fun _ => 0)))] H := hP
  have hD : va_D A [(h, .inr (4, [.ref q_1, .ref q_3, .null, .null, .null, .int 0])), (q_1, .inr (5, [.int 5, .int 9, .ref b_2, .int 0])), (b_2, .inl (y.1, 45, .inl (fun _ => 0))), (q_3, .inr (5, [.int 24, .int 8, .ref b_4, .int 0])), (b_4, .inl (y.1, 192, .inl (fun _ => 0))), (q_5, .inr (5, [.int 8, .int 6, .ref b_6, .int 0])), (b_6, .inl (y.1, 48, .inl (fun _ => 0)))] := hD
  refine va_putF (D := D) (ci := 4) (v := .ref q_5) (ty := (.object "MealLockers$Table")) (C := RX4) (T := TX4) (N := 6) hx hb hts iwX4_init_X4 tyX4 tyX4_ok nmX4 hown hC.1 hP hD hS 0 rfl rfl 2 (by decide) (hts (.fieldLink RX4 23 "MealLockers$State" "people" "LMealLockers$Table;") (List.mem_of_getElem? (i := 9) rfl)) (fun _ h9 => h9) rfl hin rfl (by decide +kernel) rfl rfl (Nat.le_of_ble_eq_true rfl) dX4_init_45 (fun H locs hP hD hS => ?_)
  have hP : va_P D vwCl [(h, .inr (4, [.ref q_1, .ref q_3, .ref q_5, .null, .null, .int 0])), (q_1, .inr (5, [.int 5, .int 9, .ref b_2, .int 0])), (b_2, .inl (y.1, 45, .inl (fun _ => 0))), (q_3, .inr (5, [.int 24, .int 8, .ref b_4, .int 0])), (b_4, .inl (y.1, 192, .inl (fun _ => 0))), (q_5, .inr (5, [.int 8, .int 6, .ref b_6, .int 0])), (b_6, .inl (y.1, 48, .inl (fun _ => 0)))] H := hP
  have hD : va_D A [(h, .inr (4, [.ref q_1, .ref q_3, .ref q_5, .null, .null, .int 0])), (q_1, .inr (5, [.int 5, .int 9, .ref b_2, .int 0])), (b_2, .inl (y.1, 45, .inl (fun _ => 0))), (q_3, .inr (5, [.int 24, .int 8, .ref b_4, .int 0])), (b_4, .inl (y.1, 192, .inl (fun _ => 0))), (q_5, .inr (5, [.int 8, .int 6, .ref b_6, .int 0])), (b_6, .inl (y.1, 48, .inl (fun _ => 0)))] := hD
  refine lv_aload_n hx hb dX4_init_48 rfl (lv_at hl 0 rfl) ?_
  refine va_new (ci := 5) (fs := [.int 0, .int 0, .null, .int 0]) (C := RX5) (T := TX5) (N := 4) hx hb hts iwX4_init_X5 tyX5 tyX5_ok hown (hts (.classLink RX4 9 RX5) (List.mem_of_getElem? (i := 4) rfl)) (hts (.instantiable RX5 4) (List.mem_of_getElem? (i := 5) rfl)) (hts (.initialized RX5) (List.mem_of_getElem? (i := 6) rfl)) hC.1 hP hD hS hA rfl (fun j hj => by rcases (show j = 0 ∨ j = 1 ∨ j = 2 ∨ j = 3 by omega) with rfl | rfl | rfl | rfl <;> rfl) (Nat.le_of_ble_eq_true rfl) (Nat.le_of_ble_eq_true rfl) dX4_init_49 (fun q_7 H hP hD hS => ?_)
  have hP : va_P D vwCl [(h, .inr (4, [.ref q_1, .ref q_3, .ref q_5, .null, .null, .int 0])), (q_1, .inr (5, [.int 5, .int 9, .ref b_2, .int 0])), (b_2, .inl (y.1, 45, .inl (fun _ => 0))), (q_3, .inr (5, [.int 24, .int 8, .ref b_4, .int 0])), (b_4, .inl (y.1, 192, .inl (fun _ => 0))), (q_5, .inr (5, [.int 8, .int 6, .ref b_6, .int 0])), (b_6, .inl (y.1, 48, .inl (fun _ => 0))), (q_7, .inr (5, [.int 0, .int 0, .null, .int 0]))] H := hP
  have hD : va_D A [(h, .inr (4, [.ref q_1, .ref q_3, .ref q_5, .null, .null, .int 0])), (q_1, .inr (5, [.int 5, .int 9, .ref b_2, .int 0])), (b_2, .inl (y.1, 45, .inl (fun _ => 0))), (q_3, .inr (5, [.int 24, .int 8, .ref b_4, .int 0])), (b_4, .inl (y.1, 192, .inl (fun _ => 0))), (q_5, .inr (5, [.int 8, .int 6, .ref b_6, .int 0])), (b_6, .inl (y.1, 48, .inl (fun _ => 0))), (q_7, .inr (5, [.int 0, .int 0, .null, .int 0]))] := hD
  refine lv_dup hx hb dX4_init_52 rfl ?_
  refine lv_iconst (v := 3) hx hb dX4_init_53 (by decide) ?_
  refine lv_iconst (v := 5) hx hb dX4_init_54 (by decide) ?_
  have hPc := hP.sub (ws' := [(q_7, .inr (5, [.int 0, .int 0, .null, .int 0]))]) [7] rfl
  have hDc := hD.sub (ws' := [(q_7, .inr (5, [.int 0, .int 0, .null, .int 0]))]) [7] (by decide) rfl
  have hFc := va_free (wc := [(q_7, .inr (5, [.int 0, .int 0, .null, .int 0]))]) hD hS hA [7] rfl
  refine va_callv (va_runI (As := [.int 3, .int 5]) (rest := [.ref q_7, .ref h]) hF (mX5_init l D y q_7 3 5 15 H.size) (cwI 2 hts gX4_init_X5_init rfl rfl rfl (hts (.initialized RX5) (List.mem_of_getElem? (i := 6) rfl)) (hts (.methodLink RX4 11 yX5_init) (List.mem_of_getElem? (i := 12) rfl)) (hts (.instanceMethod yX5_init) (List.mem_of_getElem? (i := 13) rfl)) rfl (by decide +kernel) ⟨Nat.le_of_ble_eq_true rfl, Nat.le_of_ble_eq_true rfl⟩) ⟨fun a U g mk q => by obtain ⟨q0, q1, q2, q3, q9, q4, q5⟩ := q; exact ⟨q0, q1.call g mk a, q2, q3, q9, q4, q5⟩, fun U hU hW => ⟨rfl, hC.warm hW, by rw [hU], by rw [hU]; exact hPc, hDc.weaken (fun _ _ _ _ => trivial), (by decide), (by decide)⟩⟩ rfl rfl hl.1 rfl (lv_room (Nat.le_of_ble_eq_true rfl)) dX4_init_55 ⟨Nat.le_of_ble_eq_true rfl, Nat.le_of_ble_eq_true rfl⟩) hS (fun q _ h => hFc q h) hFc (fun b_8 t H1 locs ht hvm hu9 hB hz1 hk1 hS => ?_)
  obtain ⟨hP1, hD1⟩ := hB
  rw [ht] at hP1
  obtain ⟨hP, hD⟩ := va_join (wr := [(h, .inr (4, [.ref q_1, .ref q_3, .ref q_5, .null, .null, .int 0])), (q_1, .inr (5, [.int 5, .int 9, .ref b_2, .int 0])), (b_2, .inl (y.1, 45, .inl (fun _ => 0))), (q_3, .inr (5, [.int 24, .int 8, .ref b_4, .int 0])), (b_4, .inl (y.1, 192, .inl (fun _ => 0))), (q_5, .inr (5, [.int 8, .int 6, .ref b_6, .int 0])), (b_6, .inl (y.1, 48, .inl (fun _ => 0)))]) (w1 := [(q_7, .inr (5, [.int 3, .int 5, .ref b_8, .int 0])), (b_8, .inl (y.1, 15, .inl (fun _ => 0)))]) hP hD [7] [0, 1, 2, 3, 4, 5, 6] rfl rfl (by decide) (by decide) hk1 hFc hP1 hD1
  generalize H1 = H at hP hS ⊢
  have hP : va_P D vwCl [(h, .inr (4, [.ref q_1, .ref q_3, .ref q_5, .null, .null, .int 0])), (q_1, .inr (5, [.int 5, .int 9, .ref b_2, .int 0])), (b_2, .inl (y.1, 45, .inl (fun _ => 0))), (q_3, .inr (5, [.int 24, .int 8, .ref b_4, .int 0])), (b_4, .inl (y.1, 192, .inl (fun _ => 0))), (q_5, .inr (5, [.int 8, .int 6, .ref b_6, .int 0])), (b_6, .inl (y.1, 48, .inl (fun _ => 0))), (q_7, .inr (5, [.int 3, .int 5, .ref b_8, .int 0])), (b_8, .inl (y.1, 15, .inl (fun _ => 0)))] H := hP
  have hD : va_D A [(h, .inr (4, [.ref q_1, .ref q_3, .ref q_5, .null, .null, .int 0])), (q_1, .inr (5, [.int 5, .int 9, .ref b_2, .int 0])), (b_2, .inl (y.1, 45, .inl (fun _ => 0))), (q_3, .inr (5, [.int 24, .int 8, .ref b_4, .int 0])), (b_4, .inl (y.1, 192, .inl (fun _ => 0))), (q_5, .inr (5, [.int 8, .int 6, .ref b_6, .int 0])), (b_6, .inl (y.1, 48, .inl (fun _ => 0))), (q_7, .inr (5, [.int 3, .int 5, .ref b_8, .int 0])), (b_8, .inl (y.1, 15, .inl (fun _ => 0)))] := hD
  refine va_putF (D := D) (ci := 4) (v := .ref q_7) (ty := (.object "MealLockers$Table")) (C := RX4) (T := TX4) (N := 6) hx hb hts iwX4_init_X4 tyX4 tyX4_ok nmX4 hown hC.1 hP hD hS 0 rfl rfl 3 (by decide) (hts (.fieldLink RX4 26 "MealLockers$State" "volunteers" "LMealLockers$Table;") (List.mem_of_getElem? (i := 10) rfl)) (fun _ h9 => h9) rfl hin rfl (by decide +kernel) rfl rfl (Nat.le_of_ble_eq_true rfl) dX4_init_58 (fun H locs hP hD hS => ?_)
  have hP : va_P D vwCl [(h, .inr (4, [.ref q_1, .ref q_3, .ref q_5, .ref q_7, .null, .int 0])), (q_1, .inr (5, [.int 5, .int 9, .ref b_2, .int 0])), (b_2, .inl (y.1, 45, .inl (fun _ => 0))), (q_3, .inr (5, [.int 24, .int 8, .ref b_4, .int 0])), (b_4, .inl (y.1, 192, .inl (fun _ => 0))), (q_5, .inr (5, [.int 8, .int 6, .ref b_6, .int 0])), (b_6, .inl (y.1, 48, .inl (fun _ => 0))), (q_7, .inr (5, [.int 3, .int 5, .ref b_8, .int 0])), (b_8, .inl (y.1, 15, .inl (fun _ => 0)))] H := hP
  have hD : va_D A [(h, .inr (4, [.ref q_1, .ref q_3, .ref q_5, .ref q_7, .null, .int 0])), (q_1, .inr (5, [.int 5, .int 9, .ref b_2, .int 0])), (b_2, .inl (y.1, 45, .inl (fun _ => 0))), (q_3, .inr (5, [.int 24, .int 8, .ref b_4, .int 0])), (b_4, .inl (y.1, 192, .inl (fun _ => 0))), (q_5, .inr (5, [.int 8, .int 6, .ref b_6, .int 0])), (b_6, .inl (y.1, 48, .inl (fun _ => 0))), (q_7, .inr (5, [.int 3, .int 5, .ref b_8, .int 0])), (b_8, .inl (y.1, 15, .inl (fun _ => 0)))] := hD
  refine lv_aload_n hx hb dX4_init_61 rfl (lv_at hl 0 rfl) ?_
  refine va_new (ci := 5) (fs := [.int 0, .int 0, .null, .int 0]) (C := RX5) (T := TX5) (N := 4) hx hb hts iwX4_init_X5 tyX5 tyX5_ok hown (hts (.classLink RX4 9 RX5) (List.mem_of_getElem? (i := 4) rfl)) (hts (.instantiable RX5 4) (List.mem_of_getElem? (i := 5) rfl)) (hts (.initialized RX5) (List.mem_of_getElem? (i := 6) rfl)) hC.1 hP hD hS hA rfl (fun j hj => by rcases (show j = 0 ∨ j = 1 ∨ j = 2 ∨ j = 3 by omega) with rfl | rfl | rfl | rfl <;> rfl) (Nat.le_of_ble_eq_true rfl) (Nat.le_of_ble_eq_true rfl) dX4_init_62 (fun q_9 H hP hD hS => ?_)
  have hP : va_P D vwCl [(h, .inr (4, [.ref q_1, .ref q_3, .ref q_5, .ref q_7, .null, .int 0])), (q_1, .inr (5, [.int 5, .int 9, .ref b_2, .int 0])), (b_2, .inl (y.1, 45, .inl (fun _ => 0))), (q_3, .inr (5, [.int 24, .int 8, .ref b_4, .int 0])), (b_4, .inl (y.1, 192, .inl (fun _ => 0))), (q_5, .inr (5, [.int 8, .int 6, .ref b_6, .int 0])), (b_6, .inl (y.1, 48, .inl (fun _ => 0))), (q_7, .inr (5, [.int 3, .int 5, .ref b_8, .int 0])), (b_8, .inl (y.1, 15, .inl (fun _ => 0))), (q_9, .inr (5, [.int 0, .int 0, .null, .int 0]))] H := hP
  have hD : va_D A [(h, .inr (4, [.ref q_1, .ref q_3, .ref q_5, .ref q_7, .null, .int 0])), (q_1, .inr (5, [.int 5, .int 9, .ref b_2, .int 0])), (b_2, .inl (y.1, 45, .inl (fun _ => 0))), (q_3, .inr (5, [.int 24, .int 8, .ref b_4, .int 0])), (b_4, .inl (y.1, 192, .inl (fun _ => 0))), (q_5, .inr (5, [.int 8, .int 6, .ref b_6, .int 0])), (b_6, .inl (y.1, 48, .inl (fun _ => 0))), (q_7, .inr (5, [.int 3, .int 5, .ref b_8, .int 0])), (b_8, .inl (y.1, 15, .inl (fun _ => 0))), (q_9, .inr (5, [.int 0, .int 0, .null, .int 0]))] := hD
  refine lv_dup hx hb dX4_init_65 rfl ?_
  refine lv_iconst (v := 4) hx hb dX4_init_66 (by decide) ?_
  refine lv_iconst (v := 1) hx hb dX4_init_67 (by decide) ?_
  have hPc := hP.sub (ws' := [(q_9, .inr (5, [.int 0, .int 0, .null, .int 0]))]) [9] rfl
  have hDc := hD.sub (ws' := [(q_9, .inr (5, [.int 0, .int 0, .null, .int 0]))]) [9] (by decide) rfl
  have hFc := va_free (wc := [(q_9, .inr (5, [.int 0, .int 0, .null, .int 0]))]) hD hS hA [9] rfl
  refine va_callv (va_runI (As := [.int 4, .int 1]) (rest := [.ref q_9, .ref h]) hF (mX5_init l D y q_9 4 1 4 H.size) (cwI 2 hts gX4_init_X5_init rfl rfl rfl (hts (.initialized RX5) (List.mem_of_getElem? (i := 6) rfl)) (hts (.methodLink RX4 11 yX5_init) (List.mem_of_getElem? (i := 12) rfl)) (hts (.instanceMethod yX5_init) (List.mem_of_getElem? (i := 13) rfl)) rfl (by decide +kernel) ⟨Nat.le_of_ble_eq_true rfl, Nat.le_of_ble_eq_true rfl⟩) ⟨fun a U g mk q => by obtain ⟨q0, q1, q2, q3, q9, q4, q5⟩ := q; exact ⟨q0, q1.call g mk a, q2, q3, q9, q4, q5⟩, fun U hU hW => ⟨rfl, hC.warm hW, by rw [hU], by rw [hU]; exact hPc, hDc.weaken (fun _ _ _ _ => trivial), (by decide), (by decide)⟩⟩ rfl rfl hl.1 rfl (lv_room (Nat.le_of_ble_eq_true rfl)) dX4_init_68 ⟨Nat.le_of_ble_eq_true rfl, Nat.le_of_ble_eq_true rfl⟩) hS (fun q _ h => hFc q h) hFc (fun b_10 t H1 locs ht hvm hu9 hB hz1 hk1 hS => ?_)
  obtain ⟨hP1, hD1⟩ := hB
  rw [ht] at hP1
  obtain ⟨hP, hD⟩ := va_join (wr := [(h, .inr (4, [.ref q_1, .ref q_3, .ref q_5, .ref q_7, .null, .int 0])), (q_1, .inr (5, [.int 5, .int 9, .ref b_2, .int 0])), (b_2, .inl (y.1, 45, .inl (fun _ => 0))), (q_3, .inr (5, [.int 24, .int 8, .ref b_4, .int 0])), (b_4, .inl (y.1, 192, .inl (fun _ => 0))), (q_5, .inr (5, [.int 8, .int 6, .ref b_6, .int 0])), (b_6, .inl (y.1, 48, .inl (fun _ => 0))), (q_7, .inr (5, [.int 3, .int 5, .ref b_8, .int 0])), (b_8, .inl (y.1, 15, .inl (fun _ => 0)))]) (w1 := [(q_9, .inr (5, [.int 4, .int 1, .ref b_10, .int 0])), (b_10, .inl (y.1, 4, .inl (fun _ => 0)))]) hP hD [9] [0, 1, 2, 3, 4, 5, 6, 7, 8] rfl rfl (by decide) (by decide) hk1 hFc hP1 hD1
  generalize H1 = H at hP hS ⊢
  have hP : va_P D vwCl [(h, .inr (4, [.ref q_1, .ref q_3, .ref q_5, .ref q_7, .null, .int 0])), (q_1, .inr (5, [.int 5, .int 9, .ref b_2, .int 0])), (b_2, .inl (y.1, 45, .inl (fun _ => 0))), (q_3, .inr (5, [.int 24, .int 8, .ref b_4, .int 0])), (b_4, .inl (y.1, 192, .inl (fun _ => 0))), (q_5, .inr (5, [.int 8, .int 6, .ref b_6, .int 0])), (b_6, .inl (y.1, 48, .inl (fun _ => 0))), (q_7, .inr (5, [.int 3, .int 5, .ref b_8, .int 0])), (b_8, .inl (y.1, 15, .inl (fun _ => 0))), (q_9, .inr (5, [.int 4, .int 1, .ref b_10, .int 0])), (b_10, .inl (y.1, 4, .inl (fun _ => 0)))] H := hP
  have hD : va_D A [(h, .inr (4, [.ref q_1, .ref q_3, .ref q_5, .ref q_7, .null, .int 0])), (q_1, .inr (5, [.int 5, .int 9, .ref b_2, .int 0])), (b_2, .inl (y.1, 45, .inl (fun _ => 0))), (q_3, .inr (5, [.int 24, .int 8, .ref b_4, .int 0])), (b_4, .inl (y.1, 192, .inl (fun _ => 0))), (q_5, .inr (5, [.int 8, .int 6, .ref b_6, .int 0])), (b_6, .inl (y.1, 48, .inl (fun _ => 0))), (q_7, .inr (5, [.int 3, .int 5, .ref b_8, .int 0])), (b_8, .inl (y.1, 15, .inl (fun _ => 0))), (q_9, .inr (5, [.int 4, .int 1, .ref b_10, .int 0])), (b_10, .inl (y.1, 4, .inl (fun _ => 0)))] := hD
  refine va_putF (D := D) (ci := 4) (v := .ref q_9) (ty := (.object "MealLockers$Table")) (C := RX4) (T := TX4) (N := 6) hx hb hts iwX4_init_X4 tyX4 tyX4_ok nmX4 hown hC.1 hP hD hS 0 rfl rfl 4 (by decide) (hts (.fieldLink RX4 29 "MealLockers$State" "settings" "LMealLockers$Table;") (List.mem_of_getElem? (i := 11) rfl)) (fun _ h9 => h9) rfl hin rfl (by decide +kernel) rfl rfl (Nat.le_of_ble_eq_true rfl) dX4_init_71 (fun H locs hP hD hS => ?_)
  have hP : va_P D vwCl [(h, .inr (4, [.ref q_1, .ref q_3, .ref q_5, .ref q_7, .ref q_9, .int 0])), (q_1, .inr (5, [.int 5, .int 9, .ref b_2, .int 0])), (b_2, .inl (y.1, 45, .inl (fun _ => 0))), (q_3, .inr (5, [.int 24, .int 8, .ref b_4, .int 0])), (b_4, .inl (y.1, 192, .inl (fun _ => 0))), (q_5, .inr (5, [.int 8, .int 6, .ref b_6, .int 0])), (b_6, .inl (y.1, 48, .inl (fun _ => 0))), (q_7, .inr (5, [.int 3, .int 5, .ref b_8, .int 0])), (b_8, .inl (y.1, 15, .inl (fun _ => 0))), (q_9, .inr (5, [.int 4, .int 1, .ref b_10, .int 0])), (b_10, .inl (y.1, 4, .inl (fun _ => 0)))] H := hP
  have hD : va_D A [(h, .inr (4, [.ref q_1, .ref q_3, .ref q_5, .ref q_7, .ref q_9, .int 0])), (q_1, .inr (5, [.int 5, .int 9, .ref b_2, .int 0])), (b_2, .inl (y.1, 45, .inl (fun _ => 0))), (q_3, .inr (5, [.int 24, .int 8, .ref b_4, .int 0])), (b_4, .inl (y.1, 192, .inl (fun _ => 0))), (q_5, .inr (5, [.int 8, .int 6, .ref b_6, .int 0])), (b_6, .inl (y.1, 48, .inl (fun _ => 0))), (q_7, .inr (5, [.int 3, .int 5, .ref b_8, .int 0])), (b_8, .inl (y.1, 15, .inl (fun _ => 0))), (q_9, .inr (5, [.int 4, .int 1, .ref b_10, .int 0])), (b_10, .inl (y.1, 4, .inl (fun _ => 0)))] := hD
  refine lv_iconst (v := 0) hx hb dX4_init_74 (by decide) ?_
  refine lv_istore_n (lv' := [(1, .int 0), (0, .ref h)]) hx hb dX4_init_75 rfl hl (by decide) rfl (fun ls hl => ?_)
  refine lv_iload_n hx hb dX4_init_76 rfl (lv_at hl 0 rfl) ?_
  refine va_getsN hx hb (hZ.2.1.narrow hn0) hS hown (nw_f0 hC) (fun _ h9 => h9) dX4_init_77 ?_
  refine va_tlen (v := 4) hx hb (hZ.2.2.narrow hn0) hS rfl dX4_init_80 ?_
  refine lv_icmp_ge (tgt := 110) hx hb dX4_init_81 (by decide) (fun c_11 => absurd c_11 (by decide)) (fun _ => ?_)
  refine lv_aload_n hx hb dX4_init_84 rfl (lv_at hl 1 rfl) ?_
  refine va_get (D := D) (ci := 4) (v := .ref q_9) (C := RX4) (T := TX4) (N := 6) hx hb hts iwX4_init_X4 hown hC.1 hP 0 rfl rfl 4 (by decide) (hts (.fieldLink RX4 29 "MealLockers$State" "settings" "LMealLockers$Table;") (List.mem_of_getElem? (i := 11) rfl)) (fun _ h9 => h9) rfl dX4_init_85 ?_
  refine lv_aload_n hx hb dX4_init_88 rfl (lv_at hl 1 rfl) ?_
  refine va_get (D := D) (ci := 4) (v := .ref q_9) (C := RX4) (T := TX4) (N := 6) hx hb hts iwX4_init_X4 hown hC.1 hP 0 rfl rfl 4 (by decide) (hts (.fieldLink RX4 29 "MealLockers$State" "settings" "LMealLockers$Table;") (List.mem_of_getElem? (i := 11) rfl)) (fun _ h9 => h9) rfl dX4_init_89 ?_
  have hPc := hP.sub (ws' := [(q_9, .inr (5, [.int 4, .int 1, .ref b_10, .int 0])), (b_10, .inl (y.1, 4, .inl (fun _ => 0)))]) [9, 10] rfl
  have hDp := hD
  have hne9 : q_9 ≠ b_10 := zne hD 9 10 rfl rfl (by decide)
  have hA9 : ∀ q, tbA q_9 b_10 q → A q := fun q z => z.elim (fun e => by rw [e]; exact hD.2 9 _ rfl) (fun e => by rw [e]; exact hD.2 10 _ rfl)
  refine kX5_addRow (a := q_9) (b := b_10) (lim := 4) (col := 1) (n := 4) (rows := 0) (f := (fun _ => 0)) (hn := by decide) hF (cwV 0 hts gX4_init_X5_addRow rfl rfl rfl hdX5_addRow ⟨Nat.le_of_ble_eq_true rfl, Nat.le_of_ble_eq_true rfl⟩) hC hPc hne9 hS hA9 hl.1 (Nat.le_of_ble_eq_true rfl) dX4_init_92 ⟨Nat.le_of_ble_eq_true rfl, Nat.le_of_ble_eq_true rfl⟩ (fun H1 locs hP1 hz1 hk1 hS => ?_)
  have hPr := hP.sub (ws' := [(h, .inr (4, [.ref q_1, .ref q_3, .ref q_5, .ref q_7, .ref q_9, .int 0])), (q_1, .inr (5, [.int 5, .int 9, .ref b_2, .int 0])), (b_2, .inl (y.1, 45, .inl (fun _ => 0))), (q_3, .inr (5, [.int 24, .int 8, .ref b_4, .int 0])), (b_4, .inl (y.1, 192, .inl (fun _ => 0))), (q_5, .inr (5, [.int 8, .int 6, .ref b_6, .int 0])), (b_6, .inl (y.1, 48, .inl (fun _ => 0))), (q_7, .inr (5, [.int 3, .int 5, .ref b_8, .int 0])), (b_8, .inl (y.1, 15, .inl (fun _ => 0)))]) [0, 1, 2, 3, 4, 5, 6, 7, 8] rfl
  have hPr := zkeep9 hD hPr [0, 1, 2, 3, 4, 5, 6, 7, 8] rfl (q1 := 9) (q2 := 10) rfl rfl (by decide) hk1
  obtain ⟨hP, hD⟩ := zapp9 (w1 := [(q_9, .inr (5, [.int 4, .int 1, .ref b_10, .int ((zX5_addRow 4 0).2)])), (b_10, .inl (y.1, 4, .inl (fun _ => 0)))]) hD hPr hP1 [0, 1, 2, 3, 4, 5, 6, 7, 8] [9, 10] rfl rfl (by decide)
  generalize H1 = H at hP hS ⊢
  have hP : va_P D vwCl [(h, .inr (4, [.ref q_1, .ref q_3, .ref q_5, .ref q_7, .ref q_9, .int 0])), (q_1, .inr (5, [.int 5, .int 9, .ref b_2, .int 0])), (b_2, .inl (y.1, 45, .inl (fun _ => 0))), (q_3, .inr (5, [.int 24, .int 8, .ref b_4, .int 0])), (b_4, .inl (y.1, 192, .inl (fun _ => 0))), (q_5, .inr (5, [.int 8, .int 6, .ref b_6, .int 0])), (b_6, .inl (y.1, 48, .inl (fun _ => 0))), (q_7, .inr (5, [.int 3, .int 5, .ref b_8, .int 0])), (b_8, .inl (y.1, 15, .inl (fun _ => 0))), (q_9, .inr (5, [.int 4, .int 1, .ref b_10, .int ((zX5_addRow 4 0).2)])), (b_10, .inl (y.1, 4, .inl (fun _ => 0)))] H := hP
  have hD : va_D A [(h, .inr (4, [.ref q_1, .ref q_3, .ref q_5, .ref q_7, .ref q_9, .int 0])), (q_1, .inr (5, [.int 5, .int 9, .ref b_2, .int 0])), (b_2, .inl (y.1, 45, .inl (fun _ => 0))), (q_3, .inr (5, [.int 24, .int 8, .ref b_4, .int 0])), (b_4, .inl (y.1, 192, .inl (fun _ => 0))), (q_5, .inr (5, [.int 8, .int 6, .ref b_6, .int 0])), (b_6, .inl (y.1, 48, .inl (fun _ => 0))), (q_7, .inr (5, [.int 3, .int 5, .ref b_8, .int 0])), (b_8, .inl (y.1, 15, .inl (fun _ => 0))), (q_9, .inr (5, [.int 4, .int 1, .ref b_10, .int ((zX5_addRow 4 0).2)])), (b_10, .inl (y.1, 4, .inl (fun _ => 0)))] := hD
  refine lv_iconst (v := 0) hx hb dX4_init_95 (by decide) ?_
  refine va_getsN hx hb (hZ.2.1.narrow hn0) hS hown (nw_f0 hC) (fun _ h9 => h9) dX4_init_96 ?_
  refine lv_iload_n hx hb dX4_init_99 rfl (lv_at hl 0 rfl) ?_
  refine va_ti hx hb (hZ.2.2.narrow hn0) hS (i := 0) (fun z => z.elim (fun z => absurd z (by decide)) (fun z => absurd z (by decide))) (v := .int 4) rfl dX4_init_100 ?_
  have hPc := hP.sub (ws' := [(q_9, .inr (5, [.int 4, .int 1, .ref b_10, .int ((zX5_addRow 4 0).2)])), (b_10, .inl (y.1, 4, .inl (fun _ => 0)))]) [9, 10] rfl
  have hDp := hD
  have hne9 : q_9 ≠ b_10 := zne hD 9 10 rfl rfl (by decide)
  have hA9 : ∀ q, tbA q_9 b_10 q → A q := fun q z => z.elim (fun e => by rw [e]; exact hD.2 9 _ rfl) (fun e => by rw [e]; exact hD.2 10 _ rfl)
  refine kX5_store (a := q_9) (b := b_10) (lim := 4) (col := 1) (n := 4) (rows := ((zX5_addRow 4 0).2)) (f := (fun _ => 0)) (hn := by decide) hF (cwV 3 hts gX4_init_X5_store rfl rfl rfl hdX5_store ⟨Nat.le_of_ble_eq_true rfl, Nat.le_of_ble_eq_true rfl⟩) hC hPc hne9 hS hA9 hl.1 (Nat.le_of_ble_eq_true rfl) dX4_init_101 ⟨Nat.le_of_ble_eq_true rfl, Nat.le_of_ble_eq_true rfl⟩ (fun H1 locs hP1 hz1 hk1 hS => ?_)
  have hPr := hP.sub (ws' := [(h, .inr (4, [.ref q_1, .ref q_3, .ref q_5, .ref q_7, .ref q_9, .int 0])), (q_1, .inr (5, [.int 5, .int 9, .ref b_2, .int 0])), (b_2, .inl (y.1, 45, .inl (fun _ => 0))), (q_3, .inr (5, [.int 24, .int 8, .ref b_4, .int 0])), (b_4, .inl (y.1, 192, .inl (fun _ => 0))), (q_5, .inr (5, [.int 8, .int 6, .ref b_6, .int 0])), (b_6, .inl (y.1, 48, .inl (fun _ => 0))), (q_7, .inr (5, [.int 3, .int 5, .ref b_8, .int 0])), (b_8, .inl (y.1, 15, .inl (fun _ => 0)))]) [0, 1, 2, 3, 4, 5, 6, 7, 8] rfl
  have hPr := zkeep9 hD hPr [0, 1, 2, 3, 4, 5, 6, 7, 8] rfl (q1 := 9) (q2 := 10) rfl rfl (by decide) hk1
  obtain ⟨hP, hD⟩ := zapp9 (w1 := [(q_9, .inr (5, [.int 4, .int 1, .ref b_10, .int ((zX5_addRow 4 0).2)])), (b_10, .inl (y.1, 4, .inl (zX5_store 1 4 (fun _ => 0) ((zX5_addRow 4 0).1) 0 4)))]) hD hPr hP1 [0, 1, 2, 3, 4, 5, 6, 7, 8] [9, 10] rfl rfl (by decide)
  generalize H1 = H at hP hS ⊢
  have hP : va_P D vwCl [(h, .inr (4, [.ref q_1, .ref q_3, .ref q_5, .ref q_7, .ref q_9, .int 0])), (q_1, .inr (5, [.int 5, .int 9, .ref b_2, .int 0])), (b_2, .inl (y.1, 45, .inl (fun _ => 0))), (q_3, .inr (5, [.int 24, .int 8, .ref b_4, .int 0])), (b_4, .inl (y.1, 192, .inl (fun _ => 0))), (q_5, .inr (5, [.int 8, .int 6, .ref b_6, .int 0])), (b_6, .inl (y.1, 48, .inl (fun _ => 0))), (q_7, .inr (5, [.int 3, .int 5, .ref b_8, .int 0])), (b_8, .inl (y.1, 15, .inl (fun _ => 0))), (q_9, .inr (5, [.int 4, .int 1, .ref b_10, .int ((zX5_addRow 4 0).2)])), (b_10, .inl (y.1, 4, .inl (zX5_store 1 4 (fun _ => 0) ((zX5_addRow 4 0).1) 0 4)))] H := hP
  have hD : va_D A [(h, .inr (4, [.ref q_1, .ref q_3, .ref q_5, .ref q_7, .ref q_9, .int 0])), (q_1, .inr (5, [.int 5, .int 9, .ref b_2, .int 0])), (b_2, .inl (y.1, 45, .inl (fun _ => 0))), (q_3, .inr (5, [.int 24, .int 8, .ref b_4, .int 0])), (b_4, .inl (y.1, 192, .inl (fun _ => 0))), (q_5, .inr (5, [.int 8, .int 6, .ref b_6, .int 0])), (b_6, .inl (y.1, 48, .inl (fun _ => 0))), (q_7, .inr (5, [.int 3, .int 5, .ref b_8, .int 0])), (b_8, .inl (y.1, 15, .inl (fun _ => 0))), (q_9, .inr (5, [.int 4, .int 1, .ref b_10, .int ((zX5_addRow 4 0).2)])), (b_10, .inl (y.1, 4, .inl (zX5_store 1 4 (fun _ => 0) ((zX5_addRow 4 0).1) 0 4)))] := hD
  refine lv_iinc (v := 1) (lv' := [(1, .int 1), (0, .ref h)]) hx hb dX4_init_104 hl (k := 0) rfl (by decide) (by decide) rfl (fun ls hl => ?_)
  refine lv_goto (tgt := 76) hx hb dX4_init_107 (by decide) ?_
  refine lv_iload_n hx hb dX4_init_76 rfl (lv_at hl 0 rfl) ?_
  refine va_getsN hx hb (hZ.2.1.narrow hn0) hS hown (nw_f0 hC) (fun _ h9 => h9) dX4_init_77 ?_
  refine va_tlen (v := 4) hx hb (hZ.2.2.narrow hn0) hS rfl dX4_init_80 ?_
  refine lv_icmp_ge (tgt := 110) hx hb dX4_init_81 (by decide) (fun c_12 => absurd c_12 (by decide)) (fun _ => ?_)
  refine lv_aload_n hx hb dX4_init_84 rfl (lv_at hl 1 rfl) ?_
  refine va_get (D := D) (ci := 4) (v := .ref q_9) (C := RX4) (T := TX4) (N := 6) hx hb hts iwX4_init_X4 hown hC.1 hP 0 rfl rfl 4 (by decide) (hts (.fieldLink RX4 29 "MealLockers$State" "settings" "LMealLockers$Table;") (List.mem_of_getElem? (i := 11) rfl)) (fun _ h9 => h9) rfl dX4_init_85 ?_
  refine lv_aload_n hx hb dX4_init_88 rfl (lv_at hl 1 rfl) ?_
  refine va_get (D := D) (ci := 4) (v := .ref q_9) (C := RX4) (T := TX4) (N := 6) hx hb hts iwX4_init_X4 hown hC.1 hP 0 rfl rfl 4 (by decide) (hts (.fieldLink RX4 29 "MealLockers$State" "settings" "LMealLockers$Table;") (List.mem_of_getElem? (i := 11) rfl)) (fun _ h9 => h9) rfl dX4_init_89 ?_
  have hPc := hP.sub (ws' := [(q_9, .inr (5, [.int 4, .int 1, .ref b_10, .int ((zX5_addRow 4 0).2)])), (b_10, .inl (y.1, 4, .inl (zX5_store 1 4 (fun _ => 0) ((zX5_addRow 4 0).1) 0 4)))]) [9, 10] rfl
  have hDp := hD
  have hne9 : q_9 ≠ b_10 := zne hD 9 10 rfl rfl (by decide)
  have hA9 : ∀ q, tbA q_9 b_10 q → A q := fun q z => z.elim (fun e => by rw [e]; exact hD.2 9 _ rfl) (fun e => by rw [e]; exact hD.2 10 _ rfl)
  refine kX5_addRow (a := q_9) (b := b_10) (lim := 4) (col := 1) (n := 4) (rows := ((zX5_addRow 4 0).2)) (f := (zX5_store 1 4 (fun _ => 0) ((zX5_addRow 4 0).1) 0 4)) (hn := by decide) hF (cwV 0 hts gX4_init_X5_addRow rfl rfl rfl hdX5_addRow ⟨Nat.le_of_ble_eq_true rfl, Nat.le_of_ble_eq_true rfl⟩) hC hPc hne9 hS hA9 hl.1 (Nat.le_of_ble_eq_true rfl) dX4_init_92 ⟨Nat.le_of_ble_eq_true rfl, Nat.le_of_ble_eq_true rfl⟩ (fun H1 locs hP1 hz1 hk1 hS => ?_)
  have hPr := hP.sub (ws' := [(h, .inr (4, [.ref q_1, .ref q_3, .ref q_5, .ref q_7, .ref q_9, .int 0])), (q_1, .inr (5, [.int 5, .int 9, .ref b_2, .int 0])), (b_2, .inl (y.1, 45, .inl (fun _ => 0))), (q_3, .inr (5, [.int 24, .int 8, .ref b_4, .int 0])), (b_4, .inl (y.1, 192, .inl (fun _ => 0))), (q_5, .inr (5, [.int 8, .int 6, .ref b_6, .int 0])), (b_6, .inl (y.1, 48, .inl (fun _ => 0))), (q_7, .inr (5, [.int 3, .int 5, .ref b_8, .int 0])), (b_8, .inl (y.1, 15, .inl (fun _ => 0)))]) [0, 1, 2, 3, 4, 5, 6, 7, 8] rfl
  have hPr := zkeep9 hD hPr [0, 1, 2, 3, 4, 5, 6, 7, 8] rfl (q1 := 9) (q2 := 10) rfl rfl (by decide) hk1
  obtain ⟨hP, hD⟩ := zapp9 (w1 := [(q_9, .inr (5, [.int 4, .int 1, .ref b_10, .int ((zX5_addRow 4 ((zX5_addRow 4 0).2)).2)])), (b_10, .inl (y.1, 4, .inl (zX5_store 1 4 (fun _ => 0) ((zX5_addRow 4 0).1) 0 4)))]) hD hPr hP1 [0, 1, 2, 3, 4, 5, 6, 7, 8] [9, 10] rfl rfl (by decide)
  generalize H1 = H at hP hS ⊢
  have hP : va_P D vwCl [(h, .inr (4, [.ref q_1, .ref q_3, .ref q_5, .ref q_7, .ref q_9, .int 0])), (q_1, .inr (5, [.int 5, .int 9, .ref b_2, .int 0])), (b_2, .inl (y.1, 45, .inl (fun _ => 0))), (q_3, .inr (5, [.int 24, .int 8, .ref b_4, .int 0])), (b_4, .inl (y.1, 192, .inl (fun _ => 0))), (q_5, .inr (5, [.int 8, .int 6, .ref b_6, .int 0])), (b_6, .inl (y.1, 48, .inl (fun _ => 0))), (q_7, .inr (5, [.int 3, .int 5, .ref b_8, .int 0])), (b_8, .inl (y.1, 15, .inl (fun _ => 0))), (q_9, .inr (5, [.int 4, .int 1, .ref b_10, .int ((zX5_addRow 4 ((zX5_addRow 4 0).2)).2)])), (b_10, .inl (y.1, 4, .inl (zX5_store 1 4 (fun _ => 0) ((zX5_addRow 4 0).1) 0 4)))] H := hP
  have hD : va_D A [(h, .inr (4, [.ref q_1, .ref q_3, .ref q_5, .ref q_7, .ref q_9, .int 0])), (q_1, .inr (5, [.int 5, .int 9, .ref b_2, .int 0])), (b_2, .inl (y.1, 45, .inl (fun _ => 0))), (q_3, .inr (5, [.int 24, .int 8, .ref b_4, .int 0])), (b_4, .inl (y.1, 192, .inl (fun _ => 0))), (q_5, .inr (5, [.int 8, .int 6, .ref b_6, .int 0])), (b_6, .inl (y.1, 48, .inl (fun _ => 0))), (q_7, .inr (5, [.int 3, .int 5, .ref b_8, .int 0])), (b_8, .inl (y.1, 15, .inl (fun _ => 0))), (q_9, .inr (5, [.int 4, .int 1, .ref b_10, .int ((zX5_addRow 4 ((zX5_addRow 4 0).2)).2)])), (b_10, .inl (y.1, 4, .inl (zX5_store 1 4 (fun _ => 0) ((zX5_addRow 4 0).1) 0 4)))] := hD
  refine lv_iconst (v := 0) hx hb dX4_init_95 (by decide) ?_
  refine va_getsN hx hb (hZ.2.1.narrow hn0) hS hown (nw_f0 hC) (fun _ h9 => h9) dX4_init_96 ?_
  refine lv_iload_n hx hb dX4_init_99 rfl (lv_at hl 0 rfl) ?_
  refine va_ti hx hb (hZ.2.2.narrow hn0) hS (i := 1) (fun z => z.elim (fun z => absurd z (by decide)) (fun z => absurd z (by decide))) (v := .int 3) rfl dX4_init_100 ?_
  have hPc := hP.sub (ws' := [(q_9, .inr (5, [.int 4, .int 1, .ref b_10, .int ((zX5_addRow 4 ((zX5_addRow 4 0).2)).2)])), (b_10, .inl (y.1, 4, .inl (zX5_store 1 4 (fun _ => 0) ((zX5_addRow 4 0).1) 0 4)))]) [9, 10] rfl
  have hDp := hD
  have hne9 : q_9 ≠ b_10 := zne hD 9 10 rfl rfl (by decide)
  have hA9 : ∀ q, tbA q_9 b_10 q → A q := fun q z => z.elim (fun e => by rw [e]; exact hD.2 9 _ rfl) (fun e => by rw [e]; exact hD.2 10 _ rfl)
  refine kX5_store (a := q_9) (b := b_10) (lim := 4) (col := 1) (n := 4) (rows := ((zX5_addRow 4 ((zX5_addRow 4 0).2)).2)) (f := (zX5_store 1 4 (fun _ => 0) ((zX5_addRow 4 0).1) 0 4)) (hn := by decide) hF (cwV 3 hts gX4_init_X5_store rfl rfl rfl hdX5_store ⟨Nat.le_of_ble_eq_true rfl, Nat.le_of_ble_eq_true rfl⟩) hC hPc hne9 hS hA9 hl.1 (Nat.le_of_ble_eq_true rfl) dX4_init_101 ⟨Nat.le_of_ble_eq_true rfl, Nat.le_of_ble_eq_true rfl⟩ (fun H1 locs hP1 hz1 hk1 hS => ?_)
  have hPr := hP.sub (ws' := [(h, .inr (4, [.ref q_1, .ref q_3, .ref q_5, .ref q_7, .ref q_9, .int 0])), (q_1, .inr (5, [.int 5, .int 9, .ref b_2, .int 0])), (b_2, .inl (y.1, 45, .inl (fun _ => 0))), (q_3, .inr (5, [.int 24, .int 8, .ref b_4, .int 0])), (b_4, .inl (y.1, 192, .inl (fun _ => 0))), (q_5, .inr (5, [.int 8, .int 6, .ref b_6, .int 0])), (b_6, .inl (y.1, 48, .inl (fun _ => 0))), (q_7, .inr (5, [.int 3, .int 5, .ref b_8, .int 0])), (b_8, .inl (y.1, 15, .inl (fun _ => 0)))]) [0, 1, 2, 3, 4, 5, 6, 7, 8] rfl
  have hPr := zkeep9 hD hPr [0, 1, 2, 3, 4, 5, 6, 7, 8] rfl (q1 := 9) (q2 := 10) rfl rfl (by decide) hk1
  obtain ⟨hP, hD⟩ := zapp9 (w1 := [(q_9, .inr (5, [.int 4, .int 1, .ref b_10, .int ((zX5_addRow 4 ((zX5_addRow 4 0).2)).2)])), (b_10, .inl (y.1, 4, .inl (zX5_store 1 4 (zX5_store 1 4 (fun _ => 0) ((zX5_addRow 4 0).1) 0 4) ((zX5_addRow 4 ((zX5_addRow 4 0).2)).1) 0 3)))]) hD hPr hP1 [0, 1, 2, 3, 4, 5, 6, 7, 8] [9, 10] rfl rfl (by decide)
  generalize H1 = H at hP hS ⊢
  have hP : va_P D vwCl [(h, .inr (4, [.ref q_1, .ref q_3, .ref q_5, .ref q_7, .ref q_9, .int 0])), (q_1, .inr (5, [.int 5, .int 9, .ref b_2, .int 0])), (b_2, .inl (y.1, 45, .inl (fun _ => 0))), (q_3, .inr (5, [.int 24, .int 8, .ref b_4, .int 0])), (b_4, .inl (y.1, 192, .inl (fun _ => 0))), (q_5, .inr (5, [.int 8, .int 6, .ref b_6, .int 0])), (b_6, .inl (y.1, 48, .inl (fun _ => 0))), (q_7, .inr (5, [.int 3, .int 5, .ref b_8, .int 0])), (b_8, .inl (y.1, 15, .inl (fun _ => 0))), (q_9, .inr (5, [.int 4, .int 1, .ref b_10, .int ((zX5_addRow 4 ((zX5_addRow 4 0).2)).2)])), (b_10, .inl (y.1, 4, .inl (zX5_store 1 4 (zX5_store 1 4 (fun _ => 0) ((zX5_addRow 4 0).1) 0 4) ((zX5_addRow 4 ((zX5_addRow 4 0).2)).1) 0 3)))] H := hP
  have hD : va_D A [(h, .inr (4, [.ref q_1, .ref q_3, .ref q_5, .ref q_7, .ref q_9, .int 0])), (q_1, .inr (5, [.int 5, .int 9, .ref b_2, .int 0])), (b_2, .inl (y.1, 45, .inl (fun _ => 0))), (q_3, .inr (5, [.int 24, .int 8, .ref b_4, .int 0])), (b_4, .inl (y.1, 192, .inl (fun _ => 0))), (q_5, .inr (5, [.int 8, .int 6, .ref b_6, .int 0])), (b_6, .inl (y.1, 48, .inl (fun _ => 0))), (q_7, .inr (5, [.int 3, .int 5, .ref b_8, .int 0])), (b_8, .inl (y.1, 15, .inl (fun _ => 0))), (q_9, .inr (5, [.int 4, .int 1, .ref b_10, .int ((zX5_addRow 4 ((zX5_addRow 4 0).2)).2)])), (b_10, .inl (y.1, 4, .inl (zX5_store 1 4 (zX5_store 1 4 (fun _ => 0) ((zX5_addRow 4 0).1) 0 4) ((zX5_addRow 4 ((zX5_addRow 4 0).2)).1) 0 3)))] := hD
  refine lv_iinc (v := 2) (lv' := [(1, .int 2), (0, .ref h)]) hx hb dX4_init_104 hl (k := 0) rfl (by decide) (by decide) rfl (fun ls hl => ?_)
  refine lv_goto (tgt := 76) hx hb dX4_init_107 (by decide) ?_
  refine lv_iload_n hx hb dX4_init_76 rfl (lv_at hl 0 rfl) ?_
  refine va_getsN hx hb (hZ.2.1.narrow hn0) hS hown (nw_f0 hC) (fun _ h9 => h9) dX4_init_77 ?_
  refine va_tlen (v := 4) hx hb (hZ.2.2.narrow hn0) hS rfl dX4_init_80 ?_
  refine lv_icmp_ge (tgt := 110) hx hb dX4_init_81 (by decide) (fun c_13 => absurd c_13 (by decide)) (fun _ => ?_)
  refine lv_aload_n hx hb dX4_init_84 rfl (lv_at hl 1 rfl) ?_
  refine va_get (D := D) (ci := 4) (v := .ref q_9) (C := RX4) (T := TX4) (N := 6) hx hb hts iwX4_init_X4 hown hC.1 hP 0 rfl rfl 4 (by decide) (hts (.fieldLink RX4 29 "MealLockers$State" "settings" "LMealLockers$Table;") (List.mem_of_getElem? (i := 11) rfl)) (fun _ h9 => h9) rfl dX4_init_85 ?_
  refine lv_aload_n hx hb dX4_init_88 rfl (lv_at hl 1 rfl) ?_
  refine va_get (D := D) (ci := 4) (v := .ref q_9) (C := RX4) (T := TX4) (N := 6) hx hb hts iwX4_init_X4 hown hC.1 hP 0 rfl rfl 4 (by decide) (hts (.fieldLink RX4 29 "MealLockers$State" "settings" "LMealLockers$Table;") (List.mem_of_getElem? (i := 11) rfl)) (fun _ h9 => h9) rfl dX4_init_89 ?_
  have hPc := hP.sub (ws' := [(q_9, .inr (5, [.int 4, .int 1, .ref b_10, .int ((zX5_addRow 4 ((zX5_addRow 4 0).2)).2)])), (b_10, .inl (y.1, 4, .inl (zX5_store 1 4 (zX5_store 1 4 (fun _ => 0) ((zX5_addRow 4 0).1) 0 4) ((zX5_addRow 4 ((zX5_addRow 4 0).2)).1) 0 3)))]) [9, 10] rfl
  have hDp := hD
  have hne9 : q_9 ≠ b_10 := zne hD 9 10 rfl rfl (by decide)
  have hA9 : ∀ q, tbA q_9 b_10 q → A q := fun q z => z.elim (fun e => by rw [e]; exact hD.2 9 _ rfl) (fun e => by rw [e]; exact hD.2 10 _ rfl)
  refine kX5_addRow (a := q_9) (b := b_10) (lim := 4) (col := 1) (n := 4) (rows := ((zX5_addRow 4 ((zX5_addRow 4 0).2)).2)) (f := (zX5_store 1 4 (zX5_store 1 4 (fun _ => 0) ((zX5_addRow 4 0).1) 0 4) ((zX5_addRow 4 ((zX5_addRow 4 0).2)).1) 0 3)) (hn := by decide) hF (cwV 0 hts gX4_init_X5_addRow rfl rfl rfl hdX5_addRow ⟨Nat.le_of_ble_eq_true rfl, Nat.le_of_ble_eq_true rfl⟩) hC hPc hne9 hS hA9 hl.1 (Nat.le_of_ble_eq_true rfl) dX4_init_92 ⟨Nat.le_of_ble_eq_true rfl, Nat.le_of_ble_eq_true rfl⟩ (fun H1 locs hP1 hz1 hk1 hS => ?_)
  have hPr := hP.sub (ws' := [(h, .inr (4, [.ref q_1, .ref q_3, .ref q_5, .ref q_7, .ref q_9, .int 0])), (q_1, .inr (5, [.int 5, .int 9, .ref b_2, .int 0])), (b_2, .inl (y.1, 45, .inl (fun _ => 0))), (q_3, .inr (5, [.int 24, .int 8, .ref b_4, .int 0])), (b_4, .inl (y.1, 192, .inl (fun _ => 0))), (q_5, .inr (5, [.int 8, .int 6, .ref b_6, .int 0])), (b_6, .inl (y.1, 48, .inl (fun _ => 0))), (q_7, .inr (5, [.int 3, .int 5, .ref b_8, .int 0])), (b_8, .inl (y.1, 15, .inl (fun _ => 0)))]) [0, 1, 2, 3, 4, 5, 6, 7, 8] rfl
  have hPr := zkeep9 hD hPr [0, 1, 2, 3, 4, 5, 6, 7, 8] rfl (q1 := 9) (q2 := 10) rfl rfl (by decide) hk1
  obtain ⟨hP, hD⟩ := zapp9 (w1 := [(q_9, .inr (5, [.int 4, .int 1, .ref b_10, .int ((zX5_addRow 4 ((zX5_addRow 4 ((zX5_addRow 4 0).2)).2)).2)])), (b_10, .inl (y.1, 4, .inl (zX5_store 1 4 (zX5_store 1 4 (fun _ => 0) ((zX5_addRow 4 0).1) 0 4) ((zX5_addRow 4 ((zX5_addRow 4 0).2)).1) 0 3)))]) hD hPr hP1 [0, 1, 2, 3, 4, 5, 6, 7, 8] [9, 10] rfl rfl (by decide)
  generalize H1 = H at hP hS ⊢
  have hP : va_P D vwCl [(h, .inr (4, [.ref q_1, .ref q_3, .ref q_5, .ref q_7, .ref q_9, .int 0])), (q_1, .inr (5, [.int 5, .int 9, .ref b_2, .int 0])), (b_2, .inl (y.1, 45, .inl (fun _ => 0))), (q_3, .inr (5, [.int 24, .int 8, .ref b_4, .int 0])), (b_4, .inl (y.1, 192, .inl (fun _ => 0))), (q_5, .inr (5, [.int 8, .int 6, .ref b_6, .int 0])), (b_6, .inl (y.1, 48, .inl (fun _ => 0))), (q_7, .inr (5, [.int 3, .int 5, .ref b_8, .int 0])), (b_8, .inl (y.1, 15, .inl (fun _ => 0))), (q_9, .inr (5, [.int 4, .int 1, .ref b_10, .int ((zX5_addRow 4 ((zX5_addRow 4 ((zX5_addRow 4 0).2)).2)).2)])), (b_10, .inl (y.1, 4, .inl (zX5_store 1 4 (zX5_store 1 4 (fun _ => 0) ((zX5_addRow 4 0).1) 0 4) ((zX5_addRow 4 ((zX5_addRow 4 0).2)).1) 0 3)))] H := hP
  have hD : va_D A [(h, .inr (4, [.ref q_1, .ref q_3, .ref q_5, .ref q_7, .ref q_9, .int 0])), (q_1, .inr (5, [.int 5, .int 9, .ref b_2, .int 0])), (b_2, .inl (y.1, 45, .inl (fun _ => 0))), (q_3, .inr (5, [.int 24, .int 8, .ref b_4, .int 0])), (b_4, .inl (y.1, 192, .inl (fun _ => 0))), (q_5, .inr (5, [.int 8, .int 6, .ref b_6, .int 0])), (b_6, .inl (y.1, 48, .inl (fun _ => 0))), (q_7, .inr (5, [.int 3, .int 5, .ref b_8, .int 0])), (b_8, .inl (y.1, 15, .inl (fun _ => 0))), (q_9, .inr (5, [.int 4, .int 1, .ref b_10, .int ((zX5_addRow 4 ((zX5_addRow 4 ((zX5_addRow 4 0).2)).2)).2)])), (b_10, .inl (y.1, 4, .inl (zX5_store 1 4 (zX5_store 1 4 (fun _ => 0) ((zX5_addRow 4 0).1) 0 4) ((zX5_addRow 4 ((zX5_addRow 4 0).2)).1) 0 3)))] := hD
  refine lv_iconst (v := 0) hx hb dX4_init_95 (by decide) ?_
  refine va_getsN hx hb (hZ.2.1.narrow hn0) hS hown (nw_f0 hC) (fun _ h9 => h9) dX4_init_96 ?_
  refine lv_iload_n hx hb dX4_init_99 rfl (lv_at hl 0 rfl) ?_
  refine va_ti hx hb (hZ.2.2.narrow hn0) hS (i := 2) (fun z => z.elim (fun z => absurd z (by decide)) (fun z => absurd z (by decide))) (v := .int 24) rfl dX4_init_100 ?_
  have hPc := hP.sub (ws' := [(q_9, .inr (5, [.int 4, .int 1, .ref b_10, .int ((zX5_addRow 4 ((zX5_addRow 4 ((zX5_addRow 4 0).2)).2)).2)])), (b_10, .inl (y.1, 4, .inl (zX5_store 1 4 (zX5_store 1 4 (fun _ => 0) ((zX5_addRow 4 0).1) 0 4) ((zX5_addRow 4 ((zX5_addRow 4 0).2)).1) 0 3)))]) [9, 10] rfl
  have hDp := hD
  have hne9 : q_9 ≠ b_10 := zne hD 9 10 rfl rfl (by decide)
  have hA9 : ∀ q, tbA q_9 b_10 q → A q := fun q z => z.elim (fun e => by rw [e]; exact hD.2 9 _ rfl) (fun e => by rw [e]; exact hD.2 10 _ rfl)
  refine kX5_store (a := q_9) (b := b_10) (lim := 4) (col := 1) (n := 4) (rows := ((zX5_addRow 4 ((zX5_addRow 4 ((zX5_addRow 4 0).2)).2)).2)) (f := (zX5_store 1 4 (zX5_store 1 4 (fun _ => 0) ((zX5_addRow 4 0).1) 0 4) ((zX5_addRow 4 ((zX5_addRow 4 0).2)).1) 0 3)) (hn := by decide) hF (cwV 3 hts gX4_init_X5_store rfl rfl rfl hdX5_store ⟨Nat.le_of_ble_eq_true rfl, Nat.le_of_ble_eq_true rfl⟩) hC hPc hne9 hS hA9 hl.1 (Nat.le_of_ble_eq_true rfl) dX4_init_101 ⟨Nat.le_of_ble_eq_true rfl, Nat.le_of_ble_eq_true rfl⟩ (fun H1 locs hP1 hz1 hk1 hS => ?_)
  have hPr := hP.sub (ws' := [(h, .inr (4, [.ref q_1, .ref q_3, .ref q_5, .ref q_7, .ref q_9, .int 0])), (q_1, .inr (5, [.int 5, .int 9, .ref b_2, .int 0])), (b_2, .inl (y.1, 45, .inl (fun _ => 0))), (q_3, .inr (5, [.int 24, .int 8, .ref b_4, .int 0])), (b_4, .inl (y.1, 192, .inl (fun _ => 0))), (q_5, .inr (5, [.int 8, .int 6, .ref b_6, .int 0])), (b_6, .inl (y.1, 48, .inl (fun _ => 0))), (q_7, .inr (5, [.int 3, .int 5, .ref b_8, .int 0])), (b_8, .inl (y.1, 15, .inl (fun _ => 0)))]) [0, 1, 2, 3, 4, 5, 6, 7, 8] rfl
  have hPr := zkeep9 hD hPr [0, 1, 2, 3, 4, 5, 6, 7, 8] rfl (q1 := 9) (q2 := 10) rfl rfl (by decide) hk1
  obtain ⟨hP, hD⟩ := zapp9 (w1 := [(q_9, .inr (5, [.int 4, .int 1, .ref b_10, .int ((zX5_addRow 4 ((zX5_addRow 4 ((zX5_addRow 4 0).2)).2)).2)])), (b_10, .inl (y.1, 4, .inl (zX5_store 1 4 (zX5_store 1 4 (zX5_store 1 4 (fun _ => 0) ((zX5_addRow 4 0).1) 0 4) ((zX5_addRow 4 ((zX5_addRow 4 0).2)).1) 0 3) ((zX5_addRow 4 ((zX5_addRow 4 ((zX5_addRow 4 0).2)).2)).1) 0 24)))]) hD hPr hP1 [0, 1, 2, 3, 4, 5, 6, 7, 8] [9, 10] rfl rfl (by decide)
  generalize H1 = H at hP hS ⊢
  have hP : va_P D vwCl [(h, .inr (4, [.ref q_1, .ref q_3, .ref q_5, .ref q_7, .ref q_9, .int 0])), (q_1, .inr (5, [.int 5, .int 9, .ref b_2, .int 0])), (b_2, .inl (y.1, 45, .inl (fun _ => 0))), (q_3, .inr (5, [.int 24, .int 8, .ref b_4, .int 0])), (b_4, .inl (y.1, 192, .inl (fun _ => 0))), (q_5, .inr (5, [.int 8, .int 6, .ref b_6, .int 0])), (b_6, .inl (y.1, 48, .inl (fun _ => 0))), (q_7, .inr (5, [.int 3, .int 5, .ref b_8, .int 0])), (b_8, .inl (y.1, 15, .inl (fun _ => 0))), (q_9, .inr (5, [.int 4, .int 1, .ref b_10, .int ((zX5_addRow 4 ((zX5_addRow 4 ((zX5_addRow 4 0).2)).2)).2)])), (b_10, .inl (y.1, 4, .inl (zX5_store 1 4 (zX5_store 1 4 (zX5_store 1 4 (fun _ => 0) ((zX5_addRow 4 0).1) 0 4) ((zX5_addRow 4 ((zX5_addRow 4 0).2)).1) 0 3) ((zX5_addRow 4 ((zX5_addRow 4 ((zX5_addRow 4 0).2)).2)).1) 0 24)))] H := hP
  have hD : va_D A [(h, .inr (4, [.ref q_1, .ref q_3, .ref q_5, .ref q_7, .ref q_9, .int 0])), (q_1, .inr (5, [.int 5, .int 9, .ref b_2, .int 0])), (b_2, .inl (y.1, 45, .inl (fun _ => 0))), (q_3, .inr (5, [.int 24, .int 8, .ref b_4, .int 0])), (b_4, .inl (y.1, 192, .inl (fun _ => 0))), (q_5, .inr (5, [.int 8, .int 6, .ref b_6, .int 0])), (b_6, .inl (y.1, 48, .inl (fun _ => 0))), (q_7, .inr (5, [.int 3, .int 5, .ref b_8, .int 0])), (b_8, .inl (y.1, 15, .inl (fun _ => 0))), (q_9, .inr (5, [.int 4, .int 1, .ref b_10, .int ((zX5_addRow 4 ((zX5_addRow 4 ((zX5_addRow 4 0).2)).2)).2)])), (b_10, .inl (y.1, 4, .inl (zX5_store 1 4 (zX5_store 1 4 (zX5_store 1 4 (fun _ => 0) ((zX5_addRow 4 0).1) 0 4) ((zX5_addRow 4 ((zX5_addRow 4 0).2)).1) 0 3) ((zX5_addRow 4 ((zX5_addRow 4 ((zX5_addRow 4 0).2)).2)).1) 0 24)))] := hD
  refine lv_iinc (v := 3) (lv' := [(1, .int 3), (0, .ref h)]) hx hb dX4_init_104 hl (k := 0) rfl (by decide) (by decide) rfl (fun ls hl => ?_)
  refine lv_goto (tgt := 76) hx hb dX4_init_107 (by decide) ?_
  refine lv_iload_n hx hb dX4_init_76 rfl (lv_at hl 0 rfl) ?_
  refine va_getsN hx hb (hZ.2.1.narrow hn0) hS hown (nw_f0 hC) (fun _ h9 => h9) dX4_init_77 ?_
  refine va_tlen (v := 4) hx hb (hZ.2.2.narrow hn0) hS rfl dX4_init_80 ?_
  refine lv_icmp_ge (tgt := 110) hx hb dX4_init_81 (by decide) (fun c_14 => absurd c_14 (by decide)) (fun _ => ?_)
  refine lv_aload_n hx hb dX4_init_84 rfl (lv_at hl 1 rfl) ?_
  refine va_get (D := D) (ci := 4) (v := .ref q_9) (C := RX4) (T := TX4) (N := 6) hx hb hts iwX4_init_X4 hown hC.1 hP 0 rfl rfl 4 (by decide) (hts (.fieldLink RX4 29 "MealLockers$State" "settings" "LMealLockers$Table;") (List.mem_of_getElem? (i := 11) rfl)) (fun _ h9 => h9) rfl dX4_init_85 ?_
  refine lv_aload_n hx hb dX4_init_88 rfl (lv_at hl 1 rfl) ?_
  refine va_get (D := D) (ci := 4) (v := .ref q_9) (C := RX4) (T := TX4) (N := 6) hx hb hts iwX4_init_X4 hown hC.1 hP 0 rfl rfl 4 (by decide) (hts (.fieldLink RX4 29 "MealLockers$State" "settings" "LMealLockers$Table;") (List.mem_of_getElem? (i := 11) rfl)) (fun _ h9 => h9) rfl dX4_init_89 ?_
  have hPc := hP.sub (ws' := [(q_9, .inr (5, [.int 4, .int 1, .ref b_10, .int ((zX5_addRow 4 ((zX5_addRow 4 ((zX5_addRow 4 0).2)).2)).2)])), (b_10, .inl (y.1, 4, .inl (zX5_store 1 4 (zX5_store 1 4 (zX5_store 1 4 (fun _ => 0) ((zX5_addRow 4 0).1) 0 4) ((zX5_addRow 4 ((zX5_addRow 4 0).2)).1) 0 3) ((zX5_addRow 4 ((zX5_addRow 4 ((zX5_addRow 4 0).2)).2)).1) 0 24)))]) [9, 10] rfl
  have hDp := hD
  have hne9 : q_9 ≠ b_10 := zne hD 9 10 rfl rfl (by decide)
  have hA9 : ∀ q, tbA q_9 b_10 q → A q := fun q z => z.elim (fun e => by rw [e]; exact hD.2 9 _ rfl) (fun e => by rw [e]; exact hD.2 10 _ rfl)
  refine kX5_addRow (a := q_9) (b := b_10) (lim := 4) (col := 1) (n := 4) (rows := ((zX5_addRow 4 ((zX5_addRow 4 ((zX5_addRow 4 0).2)).2)).2)) (f := (zX5_store 1 4 (zX5_store 1 4 (zX5_store 1 4 (fun _ => 0) ((zX5_addRow 4 0).1) 0 4) ((zX5_addRow 4 ((zX5_addRow 4 0).2)).1) 0 3) ((zX5_addRow 4 ((zX5_addRow 4 ((zX5_addRow 4 0).2)).2)).1) 0 24)) (hn := by decide) hF (cwV 0 hts gX4_init_X5_addRow rfl rfl rfl hdX5_addRow ⟨Nat.le_of_ble_eq_true rfl, Nat.le_of_ble_eq_true rfl⟩) hC hPc hne9 hS hA9 hl.1 (Nat.le_of_ble_eq_true rfl) dX4_init_92 ⟨Nat.le_of_ble_eq_true rfl, Nat.le_of_ble_eq_true rfl⟩ (fun H1 locs hP1 hz1 hk1 hS => ?_)
  have hPr := hP.sub (ws' := [(h, .inr (4, [.ref q_1, .ref q_3, .ref q_5, .ref q_7, .ref q_9, .int 0])), (q_1, .inr (5, [.int 5, .int 9, .ref b_2, .int 0])), (b_2, .inl (y.1, 45, .inl (fun _ => 0))), (q_3, .inr (5, [.int 24, .int 8, .ref b_4, .int 0])), (b_4, .inl (y.1, 192, .inl (fun _ => 0))), (q_5, .inr (5, [.int 8, .int 6, .ref b_6, .int 0])), (b_6, .inl (y.1, 48, .inl (fun _ => 0))), (q_7, .inr (5, [.int 3, .int 5, .ref b_8, .int 0])), (b_8, .inl (y.1, 15, .inl (fun _ => 0)))]) [0, 1, 2, 3, 4, 5, 6, 7, 8] rfl
  have hPr := zkeep9 hD hPr [0, 1, 2, 3, 4, 5, 6, 7, 8] rfl (q1 := 9) (q2 := 10) rfl rfl (by decide) hk1
  obtain ⟨hP, hD⟩ := zapp9 (w1 := [(q_9, .inr (5, [.int 4, .int 1, .ref b_10, .int ((zX5_addRow 4 ((zX5_addRow 4 ((zX5_addRow 4 ((zX5_addRow 4 0).2)).2)).2)).2)])), (b_10, .inl (y.1, 4, .inl (zX5_store 1 4 (zX5_store 1 4 (zX5_store 1 4 (fun _ => 0) ((zX5_addRow 4 0).1) 0 4) ((zX5_addRow 4 ((zX5_addRow 4 0).2)).1) 0 3) ((zX5_addRow 4 ((zX5_addRow 4 ((zX5_addRow 4 0).2)).2)).1) 0 24)))]) hD hPr hP1 [0, 1, 2, 3, 4, 5, 6, 7, 8] [9, 10] rfl rfl (by decide)
  generalize H1 = H at hP hS ⊢
  have hP : va_P D vwCl [(h, .inr (4, [.ref q_1, .ref q_3, .ref q_5, .ref q_7, .ref q_9, .int 0])), (q_1, .inr (5, [.int 5, .int 9, .ref b_2, .int 0])), (b_2, .inl (y.1, 45, .inl (fun _ => 0))), (q_3, .inr (5, [.int 24, .int 8, .ref b_4, .int 0])), (b_4, .inl (y.1, 192, .inl (fun _ => 0))), (q_5, .inr (5, [.int 8, .int 6, .ref b_6, .int 0])), (b_6, .inl (y.1, 48, .inl (fun _ => 0))), (q_7, .inr (5, [.int 3, .int 5, .ref b_8, .int 0])), (b_8, .inl (y.1, 15, .inl (fun _ => 0))), (q_9, .inr (5, [.int 4, .int 1, .ref b_10, .int ((zX5_addRow 4 ((zX5_addRow 4 ((zX5_addRow 4 ((zX5_addRow 4 0).2)).2)).2)).2)])), (b_10, .inl (y.1, 4, .inl (zX5_store 1 4 (zX5_store 1 4 (zX5_store 1 4 (fun _ => 0) ((zX5_addRow 4 0).1) 0 4) ((zX5_addRow 4 ((zX5_addRow 4 0).2)).1) 0 3) ((zX5_addRow 4 ((zX5_addRow 4 ((zX5_addRow 4 0).2)).2)).1) 0 24)))] H := hP
  have hD : va_D A [(h, .inr (4, [.ref q_1, .ref q_3, .ref q_5, .ref q_7, .ref q_9, .int 0])), (q_1, .inr (5, [.int 5, .int 9, .ref b_2, .int 0])), (b_2, .inl (y.1, 45, .inl (fun _ => 0))), (q_3, .inr (5, [.int 24, .int 8, .ref b_4, .int 0])), (b_4, .inl (y.1, 192, .inl (fun _ => 0))), (q_5, .inr (5, [.int 8, .int 6, .ref b_6, .int 0])), (b_6, .inl (y.1, 48, .inl (fun _ => 0))), (q_7, .inr (5, [.int 3, .int 5, .ref b_8, .int 0])), (b_8, .inl (y.1, 15, .inl (fun _ => 0))), (q_9, .inr (5, [.int 4, .int 1, .ref b_10, .int ((zX5_addRow 4 ((zX5_addRow 4 ((zX5_addRow 4 ((zX5_addRow 4 0).2)).2)).2)).2)])), (b_10, .inl (y.1, 4, .inl (zX5_store 1 4 (zX5_store 1 4 (zX5_store 1 4 (fun _ => 0) ((zX5_addRow 4 0).1) 0 4) ((zX5_addRow 4 ((zX5_addRow 4 0).2)).1) 0 3) ((zX5_addRow 4 ((zX5_addRow 4 ((zX5_addRow 4 0).2)).2)).1) 0 24)))] := hD
  refine lv_iconst (v := 0) hx hb dX4_init_95 (by decide) ?_
  refine va_getsN hx hb (hZ.2.1.narrow hn0) hS hown (nw_f0 hC) (fun _ h9 => h9) dX4_init_96 ?_
  refine lv_iload_n hx hb dX4_init_99 rfl (lv_at hl 0 rfl) ?_
  refine va_ti hx hb (hZ.2.2.narrow hn0) hS (i := 3) (fun z => z.elim (fun z => absurd z (by decide)) (fun z => absurd z (by decide))) (v := .int 1) rfl dX4_init_100 ?_
  have hPc := hP.sub (ws' := [(q_9, .inr (5, [.int 4, .int 1, .ref b_10, .int ((zX5_addRow 4 ((zX5_addRow 4 ((zX5_addRow 4 ((zX5_addRow 4 0).2)).2)).2)).2)])), (b_10, .inl (y.1, 4, .inl (zX5_store 1 4 (zX5_store 1 4 (zX5_store 1 4 (fun _ => 0) ((zX5_addRow 4 0).1) 0 4) ((zX5_addRow 4 ((zX5_addRow 4 0).2)).1) 0 3) ((zX5_addRow 4 ((zX5_addRow 4 ((zX5_addRow 4 0).2)).2)).1) 0 24)))]) [9, 10] rfl
  have hDp := hD
  have hne9 : q_9 ≠ b_10 := zne hD 9 10 rfl rfl (by decide)
  have hA9 : ∀ q, tbA q_9 b_10 q → A q := fun q z => z.elim (fun e => by rw [e]; exact hD.2 9 _ rfl) (fun e => by rw [e]; exact hD.2 10 _ rfl)
  refine kX5_store (a := q_9) (b := b_10) (lim := 4) (col := 1) (n := 4) (rows := ((zX5_addRow 4 ((zX5_addRow 4 ((zX5_addRow 4 ((zX5_addRow 4 0).2)).2)).2)).2)) (f := (zX5_store 1 4 (zX5_store 1 4 (zX5_store 1 4 (fun _ => 0) ((zX5_addRow 4 0).1) 0 4) ((zX5_addRow 4 ((zX5_addRow 4 0).2)).1) 0 3) ((zX5_addRow 4 ((zX5_addRow 4 ((zX5_addRow 4 0).2)).2)).1) 0 24)) (hn := by decide) hF (cwV 3 hts gX4_init_X5_store rfl rfl rfl hdX5_store ⟨Nat.le_of_ble_eq_true rfl, Nat.le_of_ble_eq_true rfl⟩) hC hPc hne9 hS hA9 hl.1 (Nat.le_of_ble_eq_true rfl) dX4_init_101 ⟨Nat.le_of_ble_eq_true rfl, Nat.le_of_ble_eq_true rfl⟩ (fun H1 locs hP1 hz1 hk1 hS => ?_)
  have hPr := hP.sub (ws' := [(h, .inr (4, [.ref q_1, .ref q_3, .ref q_5, .ref q_7, .ref q_9, .int 0])), (q_1, .inr (5, [.int 5, .int 9, .ref b_2, .int 0])), (b_2, .inl (y.1, 45, .inl (fun _ => 0))), (q_3, .inr (5, [.int 24, .int 8, .ref b_4, .int 0])), (b_4, .inl (y.1, 192, .inl (fun _ => 0))), (q_5, .inr (5, [.int 8, .int 6, .ref b_6, .int 0])), (b_6, .inl (y.1, 48, .inl (fun _ => 0))), (q_7, .inr (5, [.int 3, .int 5, .ref b_8, .int 0])), (b_8, .inl (y.1, 15, .inl (fun _ => 0)))]) [0, 1, 2, 3, 4, 5, 6, 7, 8] rfl
  have hPr := zkeep9 hD hPr [0, 1, 2, 3, 4, 5, 6, 7, 8] rfl (q1 := 9) (q2 := 10) rfl rfl (by decide) hk1
  obtain ⟨hP, hD⟩ := zapp9 (w1 := [(q_9, .inr (5, [.int 4, .int 1, .ref b_10, .int ((zX5_addRow 4 ((zX5_addRow 4 ((zX5_addRow 4 ((zX5_addRow 4 0).2)).2)).2)).2)])), (b_10, .inl (y.1, 4, .inl (zX5_store 1 4 (zX5_store 1 4 (zX5_store 1 4 (zX5_store 1 4 (fun _ => 0) ((zX5_addRow 4 0).1) 0 4) ((zX5_addRow 4 ((zX5_addRow 4 0).2)).1) 0 3) ((zX5_addRow 4 ((zX5_addRow 4 ((zX5_addRow 4 0).2)).2)).1) 0 24) ((zX5_addRow 4 ((zX5_addRow 4 ((zX5_addRow 4 ((zX5_addRow 4 0).2)).2)).2)).1) 0 1)))]) hD hPr hP1 [0, 1, 2, 3, 4, 5, 6, 7, 8] [9, 10] rfl rfl (by decide)
  generalize H1 = H at hP hS ⊢
  have hP : va_P D vwCl [(h, .inr (4, [.ref q_1, .ref q_3, .ref q_5, .ref q_7, .ref q_9, .int 0])), (q_1, .inr (5, [.int 5, .int 9, .ref b_2, .int 0])), (b_2, .inl (y.1, 45, .inl (fun _ => 0))), (q_3, .inr (5, [.int 24, .int 8, .ref b_4, .int 0])), (b_4, .inl (y.1, 192, .inl (fun _ => 0))), (q_5, .inr (5, [.int 8, .int 6, .ref b_6, .int 0])), (b_6, .inl (y.1, 48, .inl (fun _ => 0))), (q_7, .inr (5, [.int 3, .int 5, .ref b_8, .int 0])), (b_8, .inl (y.1, 15, .inl (fun _ => 0))), (q_9, .inr (5, [.int 4, .int 1, .ref b_10, .int ((zX5_addRow 4 ((zX5_addRow 4 ((zX5_addRow 4 ((zX5_addRow 4 0).2)).2)).2)).2)])), (b_10, .inl (y.1, 4, .inl (zX5_store 1 4 (zX5_store 1 4 (zX5_store 1 4 (zX5_store 1 4 (fun _ => 0) ((zX5_addRow 4 0).1) 0 4) ((zX5_addRow 4 ((zX5_addRow 4 0).2)).1) 0 3) ((zX5_addRow 4 ((zX5_addRow 4 ((zX5_addRow 4 0).2)).2)).1) 0 24) ((zX5_addRow 4 ((zX5_addRow 4 ((zX5_addRow 4 ((zX5_addRow 4 0).2)).2)).2)).1) 0 1)))] H := hP
  have hD : va_D A [(h, .inr (4, [.ref q_1, .ref q_3, .ref q_5, .ref q_7, .ref q_9, .int 0])), (q_1, .inr (5, [.int 5, .int 9, .ref b_2, .int 0])), (b_2, .inl (y.1, 45, .inl (fun _ => 0))), (q_3, .inr (5, [.int 24, .int 8, .ref b_4, .int 0])), (b_4, .inl (y.1, 192, .inl (fun _ => 0))), (q_5, .inr (5, [.int 8, .int 6, .ref b_6, .int 0])), (b_6, .inl (y.1, 48, .inl (fun _ => 0))), (q_7, .inr (5, [.int 3, .int 5, .ref b_8, .int 0])), (b_8, .inl (y.1, 15, .inl (fun _ => 0))), (q_9, .inr (5, [.int 4, .int 1, .ref b_10, .int ((zX5_addRow 4 ((zX5_addRow 4 ((zX5_addRow 4 ((zX5_addRow 4 0).2)).2)).2)).2)])), (b_10, .inl (y.1, 4, .inl (zX5_store 1 4 (zX5_store 1 4 (zX5_store 1 4 (zX5_store 1 4 (fun _ => 0) ((zX5_addRow 4 0).1) 0 4) ((zX5_addRow 4 ((zX5_addRow 4 0).2)).1) 0 3) ((zX5_addRow 4 ((zX5_addRow 4 ((zX5_addRow 4 0).2)).2)).1) 0 24) ((zX5_addRow 4 ((zX5_addRow 4 ((zX5_addRow 4 ((zX5_addRow 4 0).2)).2)).2)).1) 0 1)))] := hD
  refine lv_iinc (v := 4) (lv' := [(1, .int 4), (0, .ref h)]) hx hb dX4_init_104 hl (k := 0) rfl (by decide) (by decide) rfl (fun ls hl => ?_)
  refine lv_goto (tgt := 76) hx hb dX4_init_107 (by decide) ?_
  refine lv_iload_n hx hb dX4_init_76 rfl (lv_at hl 0 rfl) ?_
  refine va_getsN hx hb (hZ.2.1.narrow hn0) hS hown (nw_f0 hC) (fun _ h9 => h9) dX4_init_77 ?_
  refine va_tlen (v := 4) hx hb (hZ.2.2.narrow hn0) hS rfl dX4_init_80 ?_
  refine lv_icmp_ge (tgt := 110) hx hb dX4_init_81 (by decide) (fun _ => ?_) (fun c_15 => absurd (by decide) c_15)
  have hP9 := hP.sub (ws' := [(h, .inr (4, [.ref q_1, .ref q_3, .ref q_5, .ref q_7, .ref q_9, .int 0])), (q_1, .inr (5, [.int 5, .int 9, .ref b_2, .int 0])), (b_2, .inl (y.1, 45, .inl (fun _ => 0))), (q_3, .inr (5, [.int 24, .int 8, .ref b_4, .int 0])), (b_4, .inl (y.1, 192, .inl (fun _ => 0))), (q_5, .inr (5, [.int 8, .int 6, .ref b_6, .int 0])), (b_6, .inl (y.1, 48, .inl (fun _ => 0))), (q_7, .inr (5, [.int 3, .int 5, .ref b_8, .int 0])), (b_8, .inl (y.1, 15, .inl (fun _ => 0))), (q_9, .inr (5, [.int 4, .int 1, .ref b_10, .int ((zX5_addRow 4 ((zX5_addRow 4 ((zX5_addRow 4 ((zX5_addRow 4 0).2)).2)).2)).2)])), (b_10, .inl (y.1, 4, .inl (zX5_store 1 4 (zX5_store 1 4 (zX5_store 1 4 (zX5_store 1 4 (fun _ => 0) ((zX5_addRow 4 0).1) 0 4) ((zX5_addRow 4 ((zX5_addRow 4 0).2)).1) 0 3) ((zX5_addRow 4 ((zX5_addRow 4 ((zX5_addRow 4 0).2)).2)).1) 0 24) ((zX5_addRow 4 ((zX5_addRow 4 ((zX5_addRow 4 ((zX5_addRow 4 0).2)).2)).2)).1) 0 1)))]) [0, 1, 2, 3, 4, 5, 6, 7, 8, 9, 10] rfl
  have hD9 := hD.sub (ws' := [(h, .inr (4, [.ref q_1, .ref q_3, .ref q_5, .ref q_7, .ref q_9, .int 0])), (q_1, .inr (5, [.int 5, .int 9, .ref b_2, .int 0])), (b_2, .inl (y.1, 45, .inl (fun _ => 0))), (q_3, .inr (5, [.int 24, .int 8, .ref b_4, .int 0])), (b_4, .inl (y.1, 192, .inl (fun _ => 0))), (q_5, .inr (5, [.int 8, .int 6, .ref b_6, .int 0])), (b_6, .inl (y.1, 48, .inl (fun _ => 0))), (q_7, .inr (5, [.int 3, .int 5, .ref b_8, .int 0])), (b_8, .inl (y.1, 15, .inl (fun _ => 0))), (q_9, .inr (5, [.int 4, .int 1, .ref b_10, .int ((zX5_addRow 4 ((zX5_addRow 4 ((zX5_addRow 4 ((zX5_addRow 4 0).2)).2)).2)).2)])), (b_10, .inl (y.1, 4, .inl (zX5_store 1 4 (zX5_store 1 4 (zX5_store 1 4 (zX5_store 1 4 (fun _ => 0) ((zX5_addRow 4 0).1) 0 4) ((zX5_addRow 4 ((zX5_addRow 4 0).2)).1) 0 3) ((zX5_addRow 4 ((zX5_addRow 4 ((zX5_addRow 4 0).2)).2)).1) 0 24) ((zX5_addRow 4 ((zX5_addRow 4 ((zX5_addRow 4 ((zX5_addRow 4 0).2)).2)).2)).1) 0 1)))]) [0, 1, 2, 3, 4, 5, 6, 7, 8, 9, 10] (by decide) rfl
  exact W.vret hx hb hr (fun t ht hW => ⟨⟨(fun i => ([h, q_1, b_2, q_3, b_4, q_5, b_6, q_7, b_8, q_9, b_10] : List Nat).getD i 0), rfl, rfl, by rw [ht]; exact hP9, hD9⟩, hS.F ht⟩) hS.2.2 dX4_init_110
