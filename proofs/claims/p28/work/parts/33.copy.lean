set_option maxHeartbeats 4000000 in
set_option maxRecDepth 100000 in
theorem sX5_copyFrom {p : Program} {l : Launch} {e : Env} {R : Room} {s : State} {m : MethodId} {args : Array Value} {below : List Frame} {meth : Method} {c : Code} {H : Heap} {locs : List Loc} {cells slots : Nat} {Q : State → Prop} {cc : ByteArray} {nL : Nat} {Ts : List Cond} {own : String} {index pc : Nat} {ls : Array Slot} {rest : List Value} {D : va_G} {y : Y3} {ad ad2 : Nat → Nat} {σ σ2 : Sg} {k : Nat} {A0 : Nat → Prop} {H0 : Heap} (hF : CallFix p m c cc nL s args Ts own) (cw : CallW R s args own RX5 index yX5_copyFrom cX5_copyFrom 3 none wsX5_copyFrom ({ frames := 0, cells := 0, slots := 0, locals := 0 } : Room) 0 0 1) (hC : CK D y s) (hSt : StH D y ad σ H) (hSt2 : StH D y ad2 σ2 H) (hi : adI ad) (hd2 : ∀ i j, i < 11 → j < 11 → ad2 i ≠ ad j) (hk : k < 5) (hS : va_S A0 H0 H locs) (hA : ∀ q, stA ad q → A0 q) (hsz : ls.size = nL) (hW : (rest.map fun v => v.category).sum ≤ 8) (hdg : decode cc pc = .ok (.invokevirtual index, 3)) (hf : cells ≤ R.cells ∧ slots ≤ R.slots)
    (kk : ∀ (H1 : Heap) (locs1 : List Loc), StH D y ad (sgT σ k (σ2 k) (σ2 5 k)) H1 → StH D y ad2 σ2 H1 → va_S A0 H0 H1 locs1 → W p l e R s m args below meth c H1 locs1 cells slots Q (F0 m (pc + 3) ls rest)) : W p l e R s m args below meth c H locs cells slots Q (F0 m pc ls (.ref (ad2 (2 * k + 1)) :: .ref (ad (2 * k + 1)) :: rest)) := by
  refine kX5_copyFrom (hn := lenK_lt k) hF cw hC (st_tab hSt hk) (st_tab hSt2 hk) (fun z => absurd (hi _ _ (by omega) (by omega) z) (by omega)) ⟨hd2 _ _ (by omega) (by omega), hd2 _ _ (by omega) (by omega), hd2 _ _ (by omega) (by omega), hd2 _ _ (by omega) (by omega)⟩ hS (fun q h => hA q (tbA_st hk q h)) hsz hW hdg hf (fun H1 locs1 h1 h2 h3 h4 => ?_)
  have h5 := st_set hSt hi hk h1 h3
  have h6 : StH D y ad2 σ2 H1 := st_kept hSt2 (fun i hi1 => h3 _ (st_lt hSt2 hi1) (fun z => by
    obtain ⟨j, hj, e⟩ := tbA_st hk _ z
    exact hd2 i j hi1 hj e))
  exact kk H1 locs1 h5 h6 h4
theorem iwX4_copyFrom_X4 : ∀ w ∈ wsX40, w ∈ wsX4_copyFrom := fun _ h => List.mem_cons_of_mem _ (List.mem_append_left _ (List.mem_append_right _ h))
theorem hdX4_copyFrom : yX4_copyFrom.cls = RX4 ∧ yX4_copyFrom.cls ≠ "java/lang/invoke/MethodHandle" ∧ yX4_copyFrom.cls ≠ "java/lang/invoke/VarHandle" ∧ (parseMethodDescriptor yX4_copyFrom.desc).map (fun d => d.parameters.length) = some 1 := by decide +kernel
set_option maxHeartbeats 4000000 in
set_option maxRecDepth 100000 in
theorem mX4_copyFrom (l : Launch) (D : va_G) (y : Y3) (ad ad2 : Nat → Nat) (σ σ2 : Sg) : Met l yX4_copyFrom wsX4_copyFrom ({ frames := 1, cells := 0, slots := 0, locals := 22 } : Room) (va_Pc [.ref (ad 0), .ref (ad2 0)] (fun U => CK D y U ∧ StH D y ad σ U.heap ∧ StH D y ad2 σ2 U.heap ∧ adI ad ∧ (∀ i j, i < 11 → j < 11 → ad2 i ≠ ad j))) (va_Qv (fun u : Sg => u = σ2) (fun u t => StH D y ad u t.heap) (stA ad)) 0 0 (stA ad) := by
  refine Met.ofW (cc := cX4_copyFrom) (maxL := 2) (ret := none) (by decide) rfl ?_
  intro p e s m args below meth c s₁ B hml hv
  obtain ⟨rfl, hC, hSt, hSt2, hi, hd2⟩ := hv
  have hx := B.exec
  have hb := B.bytes
  have hr := B.returns
  have hts := atoms_spec (ws := wsX4_copyFrom) B.pre
  have hown : s.vm.findClass RX4 = some m.cls := findClass_of_methodNamed B.named
  have hlocks := B.notSynchronized
  have hF := (⟨hx, hb, hml, hown, hts⟩ : CallFix p m c cX4_copyFrom 2 s _ wsX4_copyFrom RX4)
  have hS : va_S (stA ad) s.heap s.heap [] := va_S.rf
  have hl := lv_entry ([.ref (ad 0), .ref (ad2 0)]) (n := 2) (Nat.le_of_ble_eq_true rfl)
  rw [lg_entry_eq]
  generalize (lg_sl ([.ref (ad 0), .ref (ad2 0)]) ++ List.replicate (2 - (lg_sl ([.ref (ad 0), .ref (ad2 0)])).length) Slot.unset).toArray = ls at hl ⊢
  have hl : lv_has ls 2 [(0, .ref (ad 0)), (1, .ref (ad2 0))] := hl
  refine lv_aload_n hx hb dX4_copyFrom_0 rfl (lv_at hl 0 rfl) ?_
  refine va_get (D := D) (ci := 4) (v := .ref (ad 1)) (C := RX4) (T := TX4) (N := 6) hx hb hts iwX4_copyFrom_X4 hown hC.1 hSt 0 rfl rfl 0 (by decide) (hts (.fieldLink RX4 14 "MealLockers$State" "lockers" "LMealLockers$Table;") (List.mem_of_getElem? (i := 1) rfl)) (fun _ h9 => h9) rfl dX4_copyFrom_1 ?_
  refine lv_aload_n hx hb dX4_copyFrom_4 rfl (lv_at hl 1 rfl) ?_
  refine va_get (D := D) (ci := 4) (v := .ref (ad2 1)) (C := RX4) (T := TX4) (N := 6) hx hb hts iwX4_copyFrom_X4 hown hC.1 hSt2 0 rfl rfl 0 (by decide) (hts (.fieldLink RX4 14 "MealLockers$State" "lockers" "LMealLockers$Table;") (List.mem_of_getElem? (i := 1) rfl)) (fun _ h9 => h9) rfl dX4_copyFrom_5 ?_
  refine sX5_copyFrom (k := 0) (σ2 := σ2) hF (cwV 1 hts gX4_copyFrom_X5_copyFrom rfl rfl rfl hdX5_copyFrom ⟨Nat.le_of_ble_eq_true rfl, Nat.le_of_ble_eq_true rfl⟩) hC hSt hSt2 hi hd2 (by decide) hS (fun _ h => h) hl.1 (Nat.le_of_ble_eq_true rfl) dX4_copyFrom_8 ⟨Nat.zero_le _, Nat.zero_le _⟩ (fun H locs hSt hSt2 hS => ?_)
  refine lv_aload_n hx hb dX4_copyFrom_11 rfl (lv_at hl 0 rfl) ?_
  refine va_get (D := D) (ci := 4) (v := .ref (ad 3)) (C := RX4) (T := TX4) (N := 6) hx hb hts iwX4_copyFrom_X4 hown hC.1 hSt 0 rfl rfl 1 (by decide) (hts (.fieldLink RX4 20 "MealLockers$State" "meals" "LMealLockers$Table;") (List.mem_of_getElem? (i := 2) rfl)) (fun _ h9 => h9) rfl dX4_copyFrom_12 ?_
  refine lv_aload_n hx hb dX4_copyFrom_15 rfl (lv_at hl 1 rfl) ?_
  refine va_get (D := D) (ci := 4) (v := .ref (ad2 3)) (C := RX4) (T := TX4) (N := 6) hx hb hts iwX4_copyFrom_X4 hown hC.1 hSt2 0 rfl rfl 1 (by decide) (hts (.fieldLink RX4 20 "MealLockers$State" "meals" "LMealLockers$Table;") (List.mem_of_getElem? (i := 2) rfl)) (fun _ h9 => h9) rfl dX4_copyFrom_16 ?_
  refine sX5_copyFrom (k := 1) (σ2 := σ2) hF (cwV 1 hts gX4_copyFrom_X5_copyFrom rfl rfl rfl hdX5_copyFrom ⟨Nat.le_of_ble_eq_true rfl, Nat.le_of_ble_eq_true rfl⟩) hC hSt hSt2 hi hd2 (by decide) hS (fun _ h => h) hl.1 (Nat.le_of_ble_eq_true rfl) dX4_copyFrom_19 ⟨Nat.zero_le _, Nat.zero_le _⟩ (fun H locs hSt hSt2 hS => ?_)
  refine lv_aload_n hx hb dX4_copyFrom_22 rfl (lv_at hl 0 rfl) ?_
  refine va_get (D := D) (ci := 4) (v := .ref (ad 5)) (C := RX4) (T := TX4) (N := 6) hx hb hts iwX4_copyFrom_X4 hown hC.1 hSt 0 rfl rfl 2 (by decide) (hts (.fieldLink RX4 23 "MealLockers$State" "people" "LMealLockers$Table;") (List.mem_of_getElem? (i := 3) rfl)) (fun _ h9 => h9) rfl dX4_copyFrom_23 ?_
  refine lv_aload_n hx hb dX4_copyFrom_26 rfl (lv_at hl 1 rfl) ?_
  refine va_get (D := D) (ci := 4) (v := .ref (ad2 5)) (C := RX4) (T := TX4) (N := 6) hx hb hts iwX4_copyFrom_X4 hown hC.1 hSt2 0 rfl rfl 2 (by decide) (hts (.fieldLink RX4 23 "MealLockers$State" "people" "LMealLockers$Table;") (List.mem_of_getElem? (i := 3) rfl)) (fun _ h9 => h9) rfl dX4_copyFrom_27 ?_
  refine sX5_copyFrom (k := 2) (σ2 := σ2) hF (cwV 1 hts gX4_copyFrom_X5_copyFrom rfl rfl rfl hdX5_copyFrom ⟨Nat.le_of_ble_eq_true rfl, Nat.le_of_ble_eq_true rfl⟩) hC hSt hSt2 hi hd2 (by decide) hS (fun _ h => h) hl.1 (Nat.le_of_ble_eq_true rfl) dX4_copyFrom_30 ⟨Nat.zero_le _, Nat.zero_le _⟩ (fun H locs hSt hSt2 hS => ?_)
  refine lv_aload_n hx hb dX4_copyFrom_33 rfl (lv_at hl 0 rfl) ?_
  refine va_get (D := D) (ci := 4) (v := .ref (ad 7)) (C := RX4) (T := TX4) (N := 6) hx hb hts iwX4_copyFrom_X4 hown hC.1 hSt 0 rfl rfl 3 (by decide) (hts (.fieldLink RX4 26 "MealLockers$State" "volunteers" "LMealLockers$Table;") (List.mem_of_getElem? (i := 4) rfl)) (fun _ h9 => h9) rfl dX4_copyFrom_34 ?_
  refine lv_aload_n hx hb dX4_copyFrom_37 rfl (lv_at hl 1 rfl) ?_
  refine va_get (D := D) (ci := 4) (v := .ref (ad2 7)) (C := RX4) (T := TX4) (N := 6) hx hb hts iwX4_copyFrom_X4 hown hC.1 hSt2 0 rfl rfl 3 (by decide) (hts (.fieldLink RX4 26 "MealLockers$State" "volunteers" "LMealLockers$Table;") (List.mem_of_getElem? (i := 4) rfl)) (fun _ h9 => h9) rfl dX4_copyFrom_38 ?_
  refine sX5_copyFrom (k := 3) (σ2 := σ2) hF (cwV 1 hts gX4_copyFrom_X5_copyFrom rfl rfl rfl hdX5_copyFrom ⟨Nat.le_of_ble_eq_true rfl, Nat.le_of_ble_eq_true rfl⟩) hC hSt hSt2 hi hd2 (by decide) hS (fun _ h => h) hl.1 (Nat.le_of_ble_eq_true rfl) dX4_copyFrom_41 ⟨Nat.zero_le _, Nat.zero_le _⟩ (fun H locs hSt hSt2 hS => ?_)
  refine lv_aload_n hx hb dX4_copyFrom_44 rfl (lv_at hl 0 rfl) ?_
  refine va_get (D := D) (ci := 4) (v := .ref (ad 9)) (C := RX4) (T := TX4) (N := 6) hx hb hts iwX4_copyFrom_X4 hown hC.1 hSt 0 rfl rfl 4 (by decide) (hts (.fieldLink RX4 29 "MealLockers$State" "settings" "LMealLockers$Table;") (List.mem_of_getElem? (i := 5) rfl)) (fun _ h9 => h9) rfl dX4_copyFrom_45 ?_
  refine lv_aload_n hx hb dX4_copyFrom_48 rfl (lv_at hl 1 rfl) ?_
  refine va_get (D := D) (ci := 4) (v := .ref (ad2 9)) (C := RX4) (T := TX4) (N := 6) hx hb hts iwX4_copyFrom_X4 hown hC.1 hSt2 0 rfl rfl 4 (by decide) (hts (.fieldLink RX4 29 "MealLockers$State" "settings" "LMealLockers$Table;") (List.mem_of_getElem? (i := 5) rfl)) (fun _ h9 => h9) rfl dX4_copyFrom_49 ?_
  refine sX5_copyFrom (k := 4) (σ2 := σ2) hF (cwV 1 hts gX4_copyFrom_X5_copyFrom rfl rfl rfl hdX5_copyFrom ⟨Nat.le_of_ble_eq_true rfl, Nat.le_of_ble_eq_true rfl⟩) hC hSt hSt2 hi hd2 (by decide) hS (fun _ h => h) hl.1 (Nat.le_of_ble_eq_true rfl) dX4_copyFrom_52 ⟨Nat.zero_le _, Nat.zero_le _⟩ (fun H locs hSt hSt2 hS => ?_)
  refine lv_aload_n hx hb dX4_copyFrom_55 rfl (lv_at hl 0 rfl) ?_
  refine lv_aload_n hx hb dX4_copyFrom_56 rfl (lv_at hl 1 rfl) ?_
  refine va_get (D := D) (ci := 4) (v := .int (σ2 5 5)) (C := RX4) (T := TX4) (N := 6) hx hb hts iwX4_copyFrom_X4 hown hC.1 hSt2 0 rfl rfl 5 (by decide) (hts (.fieldLink RX4 48 "MealLockers$State" "time" "I") (List.mem_of_getElem? (i := 6) rfl)) (fun _ h9 => h9) rfl dX4_copyFrom_57 ?_
  refine va_put (D := D) (ci := 4) (v := .int (σ2 5 5)) (ty := .int) (C := RX4) (T := TX4) (N := 6) hx hb hts iwX4_copyFrom_X4 tyX4 tyX4_ok nmX4 hown hC.1 hSt (st_D hi) hS 0 rfl rfl 5 (by decide) (hts (.fieldLink RX4 48 "MealLockers$State" "time" "I") (List.mem_of_getElem? (i := 6) rfl)) (fun _ h9 => h9) rfl (by decide +kernel) rfl rfl (Nat.le_of_ble_eq_true rfl) dX4_copyFrom_60 (fun H locs hP1 _ hS => ?_)
  have hSt : StH D y ad (sgR (sgT (sgT (sgT (sgT (sgT σ 0 (σ2 0) (σ2 5 0)) 1 (σ2 1) (σ2 5 1)) 2 (σ2 2) (σ2 5 2)) 3 (σ2 3) (σ2 5 3)) 4 (σ2 4) (σ2 5 4)) 5 (σ2 5 5)) H := st_time hP1
  have hSt : StH D y ad σ2 H := hSt
  exact W.vret hx hb hr (fun t ht hW => ⟨⟨σ2, rfl, rfl, by dsimp only; rw [ht]; exact hSt⟩, hS.F ht⟩) hS.2.2 dX4_copyFrom_63
set_option maxHeartbeats 4000000 in
set_option maxRecDepth 100000 in
theorem kX4_copyFrom {p : Program} {l : Launch} {e : Env} {R : Room} {s : State} {m : MethodId} {args : Array Value} {below : List Frame} {meth : Method} {c : Code} {H : Heap} {locs : List Loc} {cells slots : Nat} {Q : State → Prop} {cc : ByteArray} {nL : Nat} {Ts : List Cond} {own : String} {index pc : Nat} {ls : Array Slot} {rest : List Value} {D : va_G} {y : Y3} {ad ad2 : Nat → Nat} {σ σ2 : Sg} {A0 : Nat → Prop} {H0 : Heap} (hF : CallFix p m c cc nL s args Ts own) (cw : CallW R s args own RX4 index yX4_copyFrom cX4_copyFrom 2 none wsX4_copyFrom ({ frames := 1, cells := 0, slots := 0, locals := 22 } : Room) 0 0 1) (hC : CK D y s) (hSt : StH D y ad σ H) (hSt2 : StH D y ad2 σ2 H) (hi : adI ad) (hd2 : (∀ i j, i < 11 → j < 11 → ad2 i ≠ ad j)) (hS : va_S A0 H0 H locs) (hA : ∀ q, (stA ad) q → A0 q) (hsz : ls.size = nL) (hW : (rest.map fun v => v.category).sum ≤ 8) (hdg : decode cc pc = .ok (.invokevirtual index, 3)) (hf : cells ≤ R.cells ∧ slots ≤ R.slots)
    (k : ∀ (H1 : Heap) (locs1 : List Loc), StH D y ad σ2 H1 → H.size ≤ H1.size → (∀ q : Nat, q < H.size → ¬ (stA ad) q → H1[q]? = H[q]?) → va_S A0 H0 H1 locs1 → W p l e R s m args below meth c H1 locs1 cells slots Q (F0 m (pc + 3) ls (rest))) : W p l e R s m args below meth c H locs cells slots Q (F0 m pc ls (.ref (ad2 0) :: .ref (ad 0) :: rest)) := by
  refine va_callv (va_runV (As := [.ref (ad2 0)]) (rest := rest) hF (mX4_copyFrom l D y ad ad2 σ σ2) cw ⟨fun a U g mk q => by obtain ⟨q0, q1, q2, q3, q4, q5⟩ := q; exact ⟨q0, q1.call g mk a, q2, q3, q4, q5⟩, va_recv hC.1 hSt (ci := 4) (q0 := 0) rfl rfl, fun U hU hW => ⟨rfl, hC.warm hW, by rw [hU]; exact hSt, by rw [hU]; exact hSt2, hi, hd2⟩⟩ rfl rfl hsz rfl (lv_room hW) hdg ⟨hf.1, hf.2⟩) hS (fun q _ h => hA q h) hA (fun u t H1 locs1 ht hvm hp hB hz1 hk1 hS1 => ?_)
  subst hp
  rw [ht] at hB
  exact k H1 locs1 hB hz1 hk1 hS1
