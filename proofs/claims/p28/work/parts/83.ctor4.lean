/-- the reference, new -/
def mu00 : Sg := fun k => match k with
  | 0 => (upd (upd (upd (upd (fun _ => 0) 5 4) 6 3) 7 24) 8 1)
  | _ => (fun _ => 0)
theorem iwX8_init_X8 : ∀ w ∈ wsX80, w ∈ wsX8_init := fun _ h => List.mem_cons_of_mem _ (List.mem_append_right _ h)
set_option maxHeartbeats 4000000 in
set_option maxRecDepth 100000 in
theorem mX8_init (l : Launch) (D : va_G) (y : Y3) (h : Nat) (sz : Nat) : Met l yX8_init wsX8_init ({ frames := 1, cells := 4, slots := 1854, locals := 20 } : Room) (va_Pc [.ref h] (fun U => CK D y U ∧ U.heap.size = sz ∧ va_P D vwCl [(h, .inr (8, [.null, .null, .null, .int 0, .null, .int 0, .int 0, .int 0, .int 0, .int 0]))] U.heap ∧ va_D (fun _ => True) [(h, .inr (8, [.null, .null, .null, .int 0, .null, .int 0, .int 0, .int 0, .int 0, .int 0]))])) (va_Qv (fun u : Nat → Nat => u 0 = h) (fun (u : Nat → Nat) (t : State) => va_P D vwCl (moW y.1 u mu00) t.heap ∧ va_D (va_A [(h, .inr (8, [.null, .null, .null, .int 0, .null, .int 0, .int 0, .int 0, .int 0, .int 0]))] sz) (moW y.1 u mu00)) (va_A [(h, .inr (8, [.null, .null, .null, .int 0, .null, .int 0, .int 0, .int 0, .int 0, .int 0]))] sz)) 4 1854 (va_A [(h, .inr (8, [.null, .null, .null, .int 0, .null, .int 0, .int 0, .int 0, .int 0, .int 0]))] sz) := by
  refine Met.ofW (cc := cX8_init) (maxL := 1) (ret := none) (by decide) rfl ?_
  intro p e s m args below meth c s₁ B hml hv
  obtain ⟨rfl, hC, hsz, hP, hD0⟩ := hv
  have hx := B.exec
  have hb := B.bytes
  have hr := B.returns
  have hts := atoms_spec (ws := wsX8_init) B.pre
  have hown : s.vm.findClass RX8 = some m.cls := findClass_of_methodNamed B.named
  have hlocks := B.notSynchronized
  have hin : meth.name = "<init>" := (name_of_methodNamed B.named B.method).1
  have hF := (⟨hx, hb, hml, hown, hts⟩ : CallFix p m c cX8_init 1 s _ wsX8_init RX8)
  subst hsz
  have hD := hD0.self (sz := s.heap.size)
  generalize hAe : va_A [(h, .inr (8, [.null, .null, .null, .int 0, .null, .int 0, .int 0, .int 0, .int 0, .int 0]))] s.heap.size = A at hD ⊢
  have hA : ∀ q : Nat, s.heap.size ≤ q → A q := fun q h => by rw [← hAe]; exact Or.inr h
  have hl := lv_entry ([.ref h]) (n := 1) (Nat.le_of_ble_eq_true rfl)
  rw [lg_entry_eq]
  generalize (lg_sl ([.ref h]) ++ List.replicate (1 - (lg_sl ([.ref h])).length) Slot.unset).toArray = ls at hl ⊢
  have hl : lv_has ls 1 [(0, .ref h)] := hl
  obtain ⟨H, hH9⟩ : ∃ H, H = s.heap := ⟨_, rfl⟩
  have hS : va_S A s.heap H [] := by rw [hH9]; exact va_S.rf
  rw [← hH9] at hP
  rw [← hH9]
  refine lv_aload_n hx hb dX8_init_0 rfl (lv_at hl 0 rfl) ?_
  refine W.objInit hx hb hown (hts (.methodLink RX8 1 objectInit) (List.mem_of_getElem? (i := 1) rfl)) (hts (.instanceMethod objectInit) (List.mem_of_getElem? (i := 2) rfl)) (hts (.code objectInit ⟨#[0xb1]⟩ 1 none) (List.mem_of_getElem? (i := 3) rfl)) rfl (by rw [hml]; exact hl.1) rfl dX8_init_1 (Nat.le_of_ble_eq_true rfl) (Nat.le_of_ble_eq_true rfl) ?_
  refine W.eq (g2 := F0 m 4 ls []) rfl ?_
  refine lv_aload_n hx hb dX8_init_4 rfl (lv_at hl 0 rfl) ?_
  refine lv_sipush (v := 299) hx hb dX8_init_5 (by decide) ?_
  refine va_newa (atype := .int) hx hb (hts (.arrayClass .int) (List.mem_of_getElem? (i := 4) rfl)) (ty := .int) rfl hC.1 hP hD hS hA (N' := 299) (a0 := (299, .inl (fun _ => 0))) (fun _ => rfl) (by decide) (by decide) (by decide) (Nat.le_of_ble_eq_true rfl) (Nat.le_of_ble_eq_true rfl) dX8_init_8 (fun q_1 c9 H hK9 hP hD hS => ?_)
  obtain rfl := zK_int hC hK9
  have hP : va_P D vwCl [(h, .inr (8, [.null, .null, .null, .int 0, .null, .int 0, .int 0, .int 0, .int 0, .int 0])), (q_1, .inl (y.1, 299, .inl (fun _ => 0)))] H := hP
  have hD : va_D A [(h, .inr (8, [.null, .null, .null, .int 0, .null, .int 0, .int 0, .int 0, .int 0, .int 0])), (q_1, .inl (y.1, 299, .inl (fun _ => 0)))] := hD
  refine va_putF (D := D) (ci := 8) (v := .ref q_1) (ty := (.array .int)) (C := RX8) (T := TX8) (N := 10) hx hb hts iwX8_init_X8 tyX8 tyX8_ok nmX8 hown hC.1 hP hD hS 0 rfl rfl 0 (by decide) (hts (.fieldLink RX8 7 "MealLockersModel" "s" "[I") (List.mem_of_getElem? (i := 5) rfl)) (fun _ h9 => h9) rfl hin rfl (by decide +kernel) rfl rfl (Nat.le_of_ble_eq_true rfl) dX8_init_10 (fun H locs hP hD hS => ?_)
  have hP : va_P D vwCl [(h, .inr (8, [.ref q_1, .null, .null, .int 0, .null, .int 0, .int 0, .int 0, .int 0, .int 0])), (q_1, .inl (y.1, 299, .inl (fun _ => 0)))] H := hP
  have hD : va_D A [(h, .inr (8, [.ref q_1, .null, .null, .int 0, .null, .int 0, .int 0, .int 0, .int 0, .int 0])), (q_1, .inl (y.1, 299, .inl (fun _ => 0)))] := hD
  refine lv_aload_n hx hb dX8_init_13 rfl (lv_at hl 0 rfl) ?_
  refine lv_sipush (v := 299) hx hb dX8_init_14 (by decide) ?_
  refine va_newa (atype := .int) hx hb (hts (.arrayClass .int) (List.mem_of_getElem? (i := 4) rfl)) (ty := .int) rfl hC.1 hP hD hS hA (N' := 299) (a0 := (299, .inl (fun _ => 0))) (fun _ => rfl) (by decide) (by decide) (by decide) (Nat.le_of_ble_eq_true rfl) (Nat.le_of_ble_eq_true rfl) dX8_init_17 (fun q_2 c9 H hK9 hP hD hS => ?_)
  obtain rfl := zK_int hC hK9
  have hP : va_P D vwCl [(h, .inr (8, [.ref q_1, .null, .null, .int 0, .null, .int 0, .int 0, .int 0, .int 0, .int 0])), (q_1, .inl (y.1, 299, .inl (fun _ => 0))), (q_2, .inl (y.1, 299, .inl (fun _ => 0)))] H := hP
  have hD : va_D A [(h, .inr (8, [.ref q_1, .null, .null, .int 0, .null, .int 0, .int 0, .int 0, .int 0, .int 0])), (q_1, .inl (y.1, 299, .inl (fun _ => 0))), (q_2, .inl (y.1, 299, .inl (fun _ => 0)))] := hD
  refine va_putF (D := D) (ci := 8) (v := .ref q_2) (ty := (.array .int)) (C := RX8) (T := TX8) (N := 10) hx hb hts iwX8_init_X8 tyX8 tyX8_ok nmX8 hown hC.1 hP hD hS 0 rfl rfl 1 (by decide) (hts (.fieldLink RX8 13 "MealLockersModel" "begun" "[I") (List.mem_of_getElem? (i := 6) rfl)) (fun _ h9 => h9) rfl hin rfl (by decide +kernel) rfl rfl (Nat.le_of_ble_eq_true rfl) dX8_init_19 (fun H locs hP hD hS => ?_)
  have hP : va_P D vwCl [(h, .inr (8, [.ref q_1, .ref q_2, .null, .int 0, .null, .int 0, .int 0, .int 0, .int 0, .int 0])), (q_1, .inl (y.1, 299, .inl (fun _ => 0))), (q_2, .inl (y.1, 299, .inl (fun _ => 0)))] H := hP
  have hD : va_D A [(h, .inr (8, [.ref q_1, .ref q_2, .null, .int 0, .null, .int 0, .int 0, .int 0, .int 0, .int 0])), (q_1, .inl (y.1, 299, .inl (fun _ => 0))), (q_2, .inl (y.1, 299, .inl (fun _ => 0)))] := hD
  refine lv_aload_n hx hb dX8_init_22 rfl (lv_at hl 0 rfl) ?_
  refine lv_sipush (v := 1196) hx hb dX8_init_23 (by decide) ?_
  refine va_newa (atype := .int) hx hb (hts (.arrayClass .int) (List.mem_of_getElem? (i := 4) rfl)) (ty := .int) rfl hC.1 hP hD hS hA (N' := 1196) (a0 := (1196, .inl (fun _ => 0))) (fun _ => rfl) (by decide) (by decide) (by decide) (Nat.le_of_ble_eq_true rfl) (Nat.le_of_ble_eq_true rfl) dX8_init_26 (fun q_3 c9 H hK9 hP hD hS => ?_)
  obtain rfl := zK_int hC hK9
  have hP : va_P D vwCl [(h, .inr (8, [.ref q_1, .ref q_2, .null, .int 0, .null, .int 0, .int 0, .int 0, .int 0, .int 0])), (q_1, .inl (y.1, 299, .inl (fun _ => 0))), (q_2, .inl (y.1, 299, .inl (fun _ => 0))), (q_3, .inl (y.1, 1196, .inl (fun _ => 0)))] H := hP
  have hD : va_D A [(h, .inr (8, [.ref q_1, .ref q_2, .null, .int 0, .null, .int 0, .int 0, .int 0, .int 0, .int 0])), (q_1, .inl (y.1, 299, .inl (fun _ => 0))), (q_2, .inl (y.1, 299, .inl (fun _ => 0))), (q_3, .inl (y.1, 1196, .inl (fun _ => 0)))] := hD
  refine va_putF (D := D) (ci := 8) (v := .ref q_3) (ty := (.array .int)) (C := RX8) (T := TX8) (N := 10) hx hb hts iwX8_init_X8 tyX8 tyX8_ok nmX8 hown hC.1 hP hD hS 0 rfl rfl 2 (by decide) (hts (.fieldLink RX8 16 "MealLockersModel" "past" "[I") (List.mem_of_getElem? (i := 7) rfl)) (fun _ h9 => h9) rfl hin rfl (by decide +kernel) rfl rfl (Nat.le_of_ble_eq_true rfl) dX8_init_28 (fun H locs hP hD hS => ?_)
  have hP : va_P D vwCl [(h, .inr (8, [.ref q_1, .ref q_2, .ref q_3, .int 0, .null, .int 0, .int 0, .int 0, .int 0, .int 0])), (q_1, .inl (y.1, 299, .inl (fun _ => 0))), (q_2, .inl (y.1, 299, .inl (fun _ => 0))), (q_3, .inl (y.1, 1196, .inl (fun _ => 0)))] H := hP
  have hD : va_D A [(h, .inr (8, [.ref q_1, .ref q_2, .ref q_3, .int 0, .null, .int 0, .int 0, .int 0, .int 0, .int 0])), (q_1, .inl (y.1, 299, .inl (fun _ => 0))), (q_2, .inl (y.1, 299, .inl (fun _ => 0))), (q_3, .inl (y.1, 1196, .inl (fun _ => 0)))] := hD
  refine lv_aload_n hx hb dX8_init_31 rfl (lv_at hl 0 rfl) ?_
  refine lv_bipush (v := 60) hx hb dX8_init_32 (by decide) ?_
  refine va_newa (atype := .int) hx hb (hts (.arrayClass .int) (List.mem_of_getElem? (i := 4) rfl)) (ty := .int) rfl hC.1 hP hD hS hA (N' := 60) (a0 := (60, .inl (fun _ => 0))) (fun _ => rfl) (by decide) (by decide) (by decide) (Nat.le_of_ble_eq_true rfl) (Nat.le_of_ble_eq_true rfl) dX8_init_34 (fun q_4 c9 H hK9 hP hD hS => ?_)
  obtain rfl := zK_int hC hK9
  have hP : va_P D vwCl [(h, .inr (8, [.ref q_1, .ref q_2, .ref q_3, .int 0, .null, .int 0, .int 0, .int 0, .int 0, .int 0])), (q_1, .inl (y.1, 299, .inl (fun _ => 0))), (q_2, .inl (y.1, 299, .inl (fun _ => 0))), (q_3, .inl (y.1, 1196, .inl (fun _ => 0))), (q_4, .inl (y.1, 60, .inl (fun _ => 0)))] H := hP
  have hD : va_D A [(h, .inr (8, [.ref q_1, .ref q_2, .ref q_3, .int 0, .null, .int 0, .int 0, .int 0, .int 0, .int 0])), (q_1, .inl (y.1, 299, .inl (fun _ => 0))), (q_2, .inl (y.1, 299, .inl (fun _ => 0))), (q_3, .inl (y.1, 1196, .inl (fun _ => 0))), (q_4, .inl (y.1, 60, .inl (fun _ => 0)))] := hD
  refine va_putF (D := D) (ci := 8) (v := .ref q_4) (ty := (.array .int)) (C := RX8) (T := TX8) (N := 10) hx hb hts iwX8_init_X8 tyX8 tyX8_ok nmX8 hown hC.1 hP hD hS 0 rfl rfl 4 (by decide) (hts (.fieldLink RX8 19 "MealLockersModel" "text" "[I") (List.mem_of_getElem? (i := 8) rfl)) (fun _ h9 => h9) rfl hin rfl (by decide +kernel) rfl rfl (Nat.le_of_ble_eq_true rfl) dX8_init_36 (fun H locs hP hD hS => ?_)
  have hP : va_P D vwCl [(h, .inr (8, [.ref q_1, .ref q_2, .ref q_3, .int 0, .ref q_4, .int 0, .int 0, .int 0, .int 0, .int 0])), (q_1, .inl (y.1, 299, .inl (fun _ => 0))), (q_2, .inl (y.1, 299, .inl (fun _ => 0))), (q_3, .inl (y.1, 1196, .inl (fun _ => 0))), (q_4, .inl (y.1, 60, .inl (fun _ => 0)))] H := hP
  have hD : va_D A [(h, .inr (8, [.ref q_1, .ref q_2, .ref q_3, .int 0, .ref q_4, .int 0, .int 0, .int 0, .int 0, .int 0])), (q_1, .inl (y.1, 299, .inl (fun _ => 0))), (q_2, .inl (y.1, 299, .inl (fun _ => 0))), (q_3, .inl (y.1, 1196, .inl (fun _ => 0))), (q_4, .inl (y.1, 60, .inl (fun _ => 0)))] := hD
  refine lv_aload_n hx hb dX8_init_39 rfl (lv_at hl 0 rfl) ?_
  refine va_get (D := D) (ci := 8) (v := .ref q_1) (C := RX8) (T := TX8) (N := 10) hx hb hts iwX8_init_X8 hown hC.1 hP 0 rfl rfl 0 (by decide) (hts (.fieldLink RX8 7 "MealLockersModel" "s" "[I") (List.mem_of_getElem? (i := 5) rfl)) (fun _ h9 => h9) rfl dX8_init_40 ?_
  refine lv_iconst (v := 5) hx hb dX8_init_43 (by decide) ?_
  refine lv_iconst (v := 4) hx hb dX8_init_44 (by decide) ?_
  refine va_iast hx hb hC.1 hP hD hS 1 0 rfl rfl (i := 5) (fun z => z.elim (fun z => absurd z (by decide)) (fun z => absurd z (by decide))) dX8_init_45 (fun H locs hP hD hS => ?_)
  rw [cl_5] at hP hD
  have hP : va_P D vwCl [(h, .inr (8, [.ref q_1, .ref q_2, .ref q_3, .int 0, .ref q_4, .int 0, .int 0, .int 0, .int 0, .int 0])), (q_1, .inl (y.1, 299, .inl (upd (fun _ => 0) 5 4))), (q_2, .inl (y.1, 299, .inl (fun _ => 0))), (q_3, .inl (y.1, 1196, .inl (fun _ => 0))), (q_4, .inl (y.1, 60, .inl (fun _ => 0)))] H := hP
  have hD : va_D A [(h, .inr (8, [.ref q_1, .ref q_2, .ref q_3, .int 0, .ref q_4, .int 0, .int 0, .int 0, .int 0, .int 0])), (q_1, .inl (y.1, 299, .inl (upd (fun _ => 0) 5 4))), (q_2, .inl (y.1, 299, .inl (fun _ => 0))), (q_3, .inl (y.1, 1196, .inl (fun _ => 0))), (q_4, .inl (y.1, 60, .inl (fun _ => 0)))] := hD
  refine lv_aload_n hx hb dX8_init_46 rfl (lv_at hl 0 rfl) ?_
  refine va_get (D := D) (ci := 8) (v := .ref q_1) (C := RX8) (T := TX8) (N := 10) hx hb hts iwX8_init_X8 hown hC.1 hP 0 rfl rfl 0 (by decide) (hts (.fieldLink RX8 7 "MealLockersModel" "s" "[I") (List.mem_of_getElem? (i := 5) rfl)) (fun _ h9 => h9) rfl dX8_init_47 ?_
  refine lv_bipush (v := 6) hx hb dX8_init_50 (by decide) ?_
  refine lv_iconst (v := 3) hx hb dX8_init_52 (by decide) ?_
  refine va_iast hx hb hC.1 hP hD hS 1 0 rfl rfl (i := 6) (fun z => z.elim (fun z => absurd z (by decide)) (fun z => absurd z (by decide))) dX8_init_53 (fun H locs hP hD hS => ?_)
  rw [cl_6] at hP hD
  have hP : va_P D vwCl [(h, .inr (8, [.ref q_1, .ref q_2, .ref q_3, .int 0, .ref q_4, .int 0, .int 0, .int 0, .int 0, .int 0])), (q_1, .inl (y.1, 299, .inl (upd (upd (fun _ => 0) 5 4) 6 3))), (q_2, .inl (y.1, 299, .inl (fun _ => 0))), (q_3, .inl (y.1, 1196, .inl (fun _ => 0))), (q_4, .inl (y.1, 60, .inl (fun _ => 0)))] H := hP
  have hD : va_D A [(h, .inr (8, [.ref q_1, .ref q_2, .ref q_3, .int 0, .ref q_4, .int 0, .int 0, .int 0, .int 0, .int 0])), (q_1, .inl (y.1, 299, .inl (upd (upd (fun _ => 0) 5 4) 6 3))), (q_2, .inl (y.1, 299, .inl (fun _ => 0))), (q_3, .inl (y.1, 1196, .inl (fun _ => 0))), (q_4, .inl (y.1, 60, .inl (fun _ => 0)))] := hD
  refine lv_aload_n hx hb dX8_init_54 rfl (lv_at hl 0 rfl) ?_
  refine va_get (D := D) (ci := 8) (v := .ref q_1) (C := RX8) (T := TX8) (N := 10) hx hb hts iwX8_init_X8 hown hC.1 hP 0 rfl rfl 0 (by decide) (hts (.fieldLink RX8 7 "MealLockersModel" "s" "[I") (List.mem_of_getElem? (i := 5) rfl)) (fun _ h9 => h9) rfl dX8_init_55 ?_
  refine lv_bipush (v := 7) hx hb dX8_init_58 (by decide) ?_
  refine lv_bipush (v := 24) hx hb dX8_init_60 (by decide) ?_
  refine va_iast hx hb hC.1 hP hD hS 1 0 rfl rfl (i := 7) (fun z => z.elim (fun z => absurd z (by decide)) (fun z => absurd z (by decide))) dX8_init_62 (fun H locs hP hD hS => ?_)
  rw [cl_7] at hP hD
  have hP : va_P D vwCl [(h, .inr (8, [.ref q_1, .ref q_2, .ref q_3, .int 0, .ref q_4, .int 0, .int 0, .int 0, .int 0, .int 0])), (q_1, .inl (y.1, 299, .inl (upd (upd (upd (fun _ => 0) 5 4) 6 3) 7 24))), (q_2, .inl (y.1, 299, .inl (fun _ => 0))), (q_3, .inl (y.1, 1196, .inl (fun _ => 0))), (q_4, .inl (y.1, 60, .inl (fun _ => 0)))] H := hP
  have hD : va_D A [(h, .inr (8, [.ref q_1, .ref q_2, .ref q_3, .int 0, .ref q_4, .int 0, .int 0, .int 0, .int 0, .int 0])), (q_1, .inl (y.1, 299, .inl (upd (upd (upd (fun _ => 0) 5 4) 6 3) 7 24))), (q_2, .inl (y.1, 299, .inl (fun _ => 0))), (q_3, .inl (y.1, 1196, .inl (fun _ => 0))), (q_4, .inl (y.1, 60, .inl (fun _ => 0)))] := hD
  refine lv_aload_n hx hb dX8_init_63 rfl (lv_at hl 0 rfl) ?_
  refine va_get (D := D) (ci := 8) (v := .ref q_1) (C := RX8) (T := TX8) (N := 10) hx hb hts iwX8_init_X8 hown hC.1 hP 0 rfl rfl 0 (by decide) (hts (.fieldLink RX8 7 "MealLockersModel" "s" "[I") (List.mem_of_getElem? (i := 5) rfl)) (fun _ h9 => h9) rfl dX8_init_64 ?_
  refine lv_bipush (v := 8) hx hb dX8_init_67 (by decide) ?_
  refine lv_iconst (v := 1) hx hb dX8_init_69 (by decide) ?_
  refine va_iast hx hb hC.1 hP hD hS 1 0 rfl rfl (i := 8) (fun z => z.elim (fun z => absurd z (by decide)) (fun z => absurd z (by decide))) dX8_init_70 (fun H locs hP hD hS => ?_)
  rw [cl_8] at hP hD
  have hP : va_P D vwCl [(h, .inr (8, [.ref q_1, .ref q_2, .ref q_3, .int 0, .ref q_4, .int 0, .int 0, .int 0, .int 0, .int 0])), (q_1, .inl (y.1, 299, .inl (upd (upd (upd (upd (fun _ => 0) 5 4) 6 3) 7 24) 8 1))), (q_2, .inl (y.1, 299, .inl (fun _ => 0))), (q_3, .inl (y.1, 1196, .inl (fun _ => 0))), (q_4, .inl (y.1, 60, .inl (fun _ => 0)))] H := hP
  have hD : va_D A [(h, .inr (8, [.ref q_1, .ref q_2, .ref q_3, .int 0, .ref q_4, .int 0, .int 0, .int 0, .int 0, .int 0])), (q_1, .inl (y.1, 299, .inl (upd (upd (upd (upd (fun _ => 0) 5 4) 6 3) 7 24) 8 1))), (q_2, .inl (y.1, 299, .inl (fun _ => 0))), (q_3, .inl (y.1, 1196, .inl (fun _ => 0))), (q_4, .inl (y.1, 60, .inl (fun _ => 0)))] := hD
  have hP9 := hP.sub (ws' := [(h, .inr (8, [.ref q_1, .ref q_2, .ref q_3, .int 0, .ref q_4, .int 0, .int 0, .int 0, .int 0, .int 0])), (q_1, .inl (y.1, 299, .inl (upd (upd (upd (upd (fun _ => 0) 5 4) 6 3) 7 24) 8 1))), (q_2, .inl (y.1, 299, .inl (fun _ => 0))), (q_3, .inl (y.1, 1196, .inl (fun _ => 0))), (q_4, .inl (y.1, 60, .inl (fun _ => 0)))]) [0, 1, 2, 3, 4] rfl
  have hD9 := hD.sub (ws' := [(h, .inr (8, [.ref q_1, .ref q_2, .ref q_3, .int 0, .ref q_4, .int 0, .int 0, .int 0, .int 0, .int 0])), (q_1, .inl (y.1, 299, .inl (upd (upd (upd (upd (fun _ => 0) 5 4) 6 3) 7 24) 8 1))), (q_2, .inl (y.1, 299, .inl (fun _ => 0))), (q_3, .inl (y.1, 1196, .inl (fun _ => 0))), (q_4, .inl (y.1, 60, .inl (fun _ => 0)))]) [0, 1, 2, 3, 4] (by decide) rfl
  exact W.vret hx hb hr (fun t ht hW => ⟨⟨(fun i => ([h, q_1, q_2, q_3, q_4] : List Nat).getD i 0), rfl, rfl, by rw [ht]; exact hP9, hD9⟩, hS.F ht⟩) hS.2.2 dX8_init_71
