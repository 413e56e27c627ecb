def zX0_takeMeal (σ : Sg) (x1 : Int32) (x2 : Int32) : Int32 × Sg := if (zX5_has (σ 5 3) x1) = 0 then ((-1), σ)
  else (if (zX5_has (σ 5 1) x2) = 0 then ((-1), σ)
    else (if 0 < (zX4_wayHoursLeft σ x1) then ((-2), σ)
      else (if (zatt σ 3 x1 0) ≤ (zbc (zX4_mealsWith σ x1)) then ((-2), σ)
        else (if (zatt σ 1 x2 0) = 0 then (if (zatt σ 1 x2 1) = (zatt σ 3 x1 1) then (((zbc (zX4_mealsWith σ x1)) + 1), zrai (zsto (zsto σ 1 x2 0 2) 1 x2 6 x1) 0 (zatt σ 3 x1 1) 7)
            else ((-2), σ))
          else ((-2), σ)))))
theorem iwX0_takeMeal_X0 : ∀ w ∈ wsX00, w ∈ wsX0_takeMeal := fun _ h => List.mem_cons_of_mem _ (List.mem_append_left _ (List.mem_append_left _ (List.mem_append_right _ h)))
theorem hdX0_takeMeal : yX0_takeMeal.cls = RX0 ∧ yX0_takeMeal.cls ≠ "java/lang/invoke/MethodHandle" ∧ yX0_takeMeal.cls ≠ "java/lang/invoke/VarHandle" ∧ (parseMethodDescriptor yX0_takeMeal.desc).map (fun d => d.parameters.length) = some 2 := by decide +kernel
set_option maxHeartbeats 4000000 in
set_option maxRecDepth 100000 in
theorem mX0_takeMeal (l : Launch) (D : va_G) (y : Y3) (h : Nat) (ad : Nat → Nat) (σ : Sg) (x1 : Int32) (x2 : Int32) : Met l yX0_takeMeal wsX0_takeMeal ({ frames := 2, cells := 0, slots := 0, locals := 46 } : Room) (va_Pc [.ref h, .int x1, .int x2] (fun U => CK D y U ∧ qoH D 0 h ad U.heap ∧ StH D y ad σ U.heap ∧ adI ad ∧ (∀ k, k < 11 → ad k ≠ h))) (va_Qi (fun (r : Int32) (u : Sg) => r = (zX0_takeMeal σ x1 x2).1 ∧ u = (zX0_takeMeal σ x1 x2).2) (fun u t => StH D y ad u t.heap) (stA ad)) 0 0 (stA ad) := by
  refine Met.ofW (cc := cX0_takeMeal) (maxL := 5) (ret := (some .int)) (by decide) rfl ?_
  intro p e s m args below meth c s₁ B hml hv
  obtain ⟨rfl, hC, hCh, hSt, hi, hdj⟩ := hv
  have hx := B.exec
  have hb := B.bytes
  have hr := B.returns
  have hts := atoms_spec (ws := wsX0_takeMeal) B.pre
  have hown : s.vm.findClass RX0 = some m.cls := findClass_of_methodNamed B.named
  have hlocks := B.notSynchronized
  have hF := (⟨hx, hb, hml, hown, hts⟩ : CallFix p m c cX0_takeMeal 5 s _ wsX0_takeMeal RX0)
  have hS : va_S (stA ad) s.heap s.heap [] := va_S.rf
  have hl := lv_entry ([.ref h, .int x1, .int x2]) (n := 5) (Nat.le_of_ble_eq_true rfl)
  rw [lg_entry_eq]
  generalize (lg_sl ([.ref h, .int x1, .int x2]) ++ List.replicate (5 - (lg_sl ([.ref h, .int x1, .int x2])).length) Slot.unset).toArray = ls at hl ⊢
  have hl : lv_has ls 5 [(0, .ref h), (1, .int x1), (2, .int x2)] := hl
  have hCh0 := hCh
  refine lv_aload_n hx hb dX0_takeMeal_0 rfl (lv_at hl 0 rfl) ?_
  refine va_get (D := D) (ci := 0) (v := .ref (ad 7)) (C := RX0) (T := TX0) (N := 5) hx hb hts iwX0_takeMeal_X0 hown hC.1 hCh 0 rfl rfl 4 (by decide) (hts (.fieldLink RX0 33 "MealLockers$Changes" "volunteers" "LMealLockers$Table;") (List.mem_of_getElem? (i := 1) rfl)) (fun _ h9 => h9) rfl dX0_takeMeal_1 ?_
  refine lv_iload_n hx hb dX0_takeMeal_4 rfl (lv_at hl 1 rfl) ?_
  refine sX5_has (k := 3) hF (cwV 1 hts gX0_takeMeal_X5_has rfl rfl rfl hdX5_has ⟨Nat.le_of_ble_eq_true rfl, Nat.le_of_ble_eq_true rfl⟩) hC hSt (by decide) hl.1 (Nat.le_of_ble_eq_true rfl) dX0_takeMeal_5 ⟨Nat.zero_le _, Nat.zero_le _⟩ ?_
  refine lv_if_eq (tgt := 22) hx hb dX0_takeMeal_8 (by decide) (fun c_1 => ?_) (fun c_1 => ?_)
  · refine lv_iconst (v := (-1)) hx hb dX0_takeMeal_22 (by decide) ?_
    exact W.iret (v := (-1)) hx hb hr (fun t ht hW => ⟨⟨(-1), σ, rfl, ⟨(by unfold zX0_takeMeal; rw [if_pos c_1]), (by unfold zX0_takeMeal; rw [if_pos c_1])⟩, by dsimp only; rw [ht]; exact hSt⟩, hS.F ht⟩) hS.2.2 dX0_takeMeal_23
  · refine lv_aload_n hx hb dX0_takeMeal_11 rfl (lv_at hl 0 rfl) ?_
    refine va_get (D := D) (ci := 0) (v := .ref (ad 3)) (C := RX0) (T := TX0) (N := 5) hx hb hts iwX0_takeMeal_X0 hown hC.1 hCh 0 rfl rfl 2 (by decide) (hts (.fieldLink RX0 25 "MealLockers$Changes" "meals" "LMealLockers$Table;") (List.mem_of_getElem? (i := 2) rfl)) (fun _ h9 => h9) rfl dX0_takeMeal_12 ?_
    refine lv_iload_n hx hb dX0_takeMeal_15 rfl (lv_at hl 2 rfl) ?_
    refine sX5_has (k := 1) hF (cwV 1 hts gX0_takeMeal_X5_has rfl rfl rfl hdX5_has ⟨Nat.le_of_ble_eq_true rfl, Nat.le_of_ble_eq_true rfl⟩) hC hSt (by decide) hl.1 (Nat.le_of_ble_eq_true rfl) dX0_takeMeal_16 ⟨Nat.zero_le _, Nat.zero_le _⟩ ?_
    refine lv_if_ne (tgt := 24) hx hb dX0_takeMeal_19 (by decide) (fun c_2 => ?_) (fun c_2 => ?_)
    · refine lv_aload_n hx hb dX0_takeMeal_24 rfl (lv_at hl 0 rfl) ?_
      refine va_get (D := D) (ci := 0) (v := .ref (ad 7)) (C := RX0) (T := TX0) (N := 5) hx hb hts iwX0_takeMeal_X0 hown hC.1 hCh 0 rfl rfl 4 (by decide) (hts (.fieldLink RX0 33 "MealLockers$Changes" "volunteers" "LMealLockers$Table;") (List.mem_of_getElem? (i := 1) rfl)) (fun _ h9 => h9) rfl dX0_takeMeal_25 ?_
      refine lv_iload_n hx hb dX0_takeMeal_28 rfl (lv_at hl 1 rfl) ?_
      refine lv_iconst (v := 1) hx hb dX0_takeMeal_29 (by decide) ?_
      refine sX5_at (k := 3) hF (cwV 2 hts gX0_takeMeal_X5_at rfl rfl rfl hdX5_at ⟨Nat.le_of_ble_eq_true rfl, Nat.le_of_ble_eq_true rfl⟩) hC hSt (by decide) hl.1 (Nat.le_of_ble_eq_true rfl) dX0_takeMeal_30 ⟨Nat.zero_le _, Nat.zero_le _⟩ ?_
      refine lv_istore_n (lv' := [(3, .int (zatt σ 3 x1 1)), (0, .ref h), (1, .int x1), (2, .int x2)]) hx hb dX0_takeMeal_33 rfl hl (by decide) rfl (fun ls hl => ?_)
      refine lv_aload_n hx hb dX0_takeMeal_34 rfl (lv_at hl 1 rfl) ?_
      refine va_get (D := D) (ci := 0) (v := .ref (ad 0)) (C := RX0) (T := TX0) (N := 5) hx hb hts iwX0_takeMeal_X0 hown hC.1 hCh 0 rfl rfl 0 (by decide) (hts (.fieldLink RX0 9 "MealLockers$Changes" "state" "LMealLockers$State;") (List.mem_of_getElem? (i := 3) rfl)) (fun _ h9 => h9) rfl dX0_takeMeal_35 ?_
      refine lv_iload_n hx hb dX0_takeMeal_38 rfl (lv_at hl 2 rfl) ?_
      refine kX4_mealsWith hF (cwV 1 hts gX0_takeMeal_X4_mealsWith rfl rfl rfl hdX4_mealsWith ⟨Nat.le_of_ble_eq_true rfl, Nat.le_of_ble_eq_true rfl⟩) hC hSt hl.1 (Nat.le_of_ble_eq_true rfl) dX0_takeMeal_39 ⟨Nat.zero_le _, Nat.zero_le _⟩ ?_
      refine kJ6_bitCount_0f7a4 hF (va_cwS 1 hts gX0_takeMeal_J6_bitCount_0f7a4 rfl rfl rfl hdJ6_bitCount_0f7a4 ⟨Nat.le_of_ble_eq_true rfl, Nat.le_of_ble_eq_true rfl⟩) hC hl.1 (Nat.le_of_ble_eq_true rfl) dX0_takeMeal_42 ⟨Nat.zero_le _, Nat.zero_le _⟩ ?_
      refine lv_istore (lv' := [(4, .int (zbc (zX4_mealsWith σ x1))), (3, .int (zatt σ 3 x1 1)), (0, .ref h), (1, .int x1), (2, .int x2)]) hx hb dX0_takeMeal_45 hl (by decide) rfl (fun ls hl => ?_)
      refine lv_aload_n hx hb dX0_takeMeal_47 rfl (lv_at hl 2 rfl) ?_
      refine va_get (D := D) (ci := 0) (v := .ref (ad 0)) (C := RX0) (T := TX0) (N := 5) hx hb hts iwX0_takeMeal_X0 hown hC.1 hCh 0 rfl rfl 0 (by decide) (hts (.fieldLink RX0 9 "MealLockers$Changes" "state" "LMealLockers$State;") (List.mem_of_getElem? (i := 3) rfl)) (fun _ h9 => h9) rfl dX0_takeMeal_48 ?_
      refine lv_iload_n hx hb dX0_takeMeal_51 rfl (lv_at hl 3 rfl) ?_
      refine kX4_wayHoursLeft hF (cwV 1 hts gX0_takeMeal_X4_wayHoursLeft rfl rfl rfl hdX4_wayHoursLeft ⟨Nat.le_of_ble_eq_true rfl, Nat.le_of_ble_eq_true rfl⟩) hC hSt hl.1 (Nat.le_of_ble_eq_true rfl) dX0_takeMeal_52 ⟨Nat.zero_le _, Nat.zero_le _⟩ ?_
      refine lv_if_gt (tgt := 97) hx hb dX0_takeMeal_55 (by decide) (fun c_3 => ?_) (fun c_3 => ?_)
      · refine lv_bipush (v := (-2)) hx hb dX0_takeMeal_97 (by decide) ?_
        exact W.iret (v := (-2)) hx hb hr (fun t ht hW => ⟨⟨(-2), σ, rfl, ⟨(by unfold zX0_takeMeal; rw [if_neg c_1, if_neg c_2, if_pos c_3]), (by unfold zX0_takeMeal; rw [if_neg c_1, if_neg c_2, if_pos c_3])⟩, by dsimp only; rw [ht]; exact hSt⟩, hS.F ht⟩) hS.2.2 dX0_takeMeal_99
      · refine lv_iload hx hb dX0_takeMeal_58 (lv_at hl 0 rfl) ?_
        refine lv_aload_n hx hb dX0_takeMeal_60 rfl (lv_at hl 2 rfl) ?_
        refine va_get (D := D) (ci := 0) (v := .ref (ad 7)) (C := RX0) (T := TX0) (N := 5) hx hb hts iwX0_takeMeal_X0 hown hC.1 hCh 0 rfl rfl 4 (by decide) (hts (.fieldLink RX0 33 "MealLockers$Changes" "volunteers" "LMealLockers$Table;") (List.mem_of_getElem? (i := 1) rfl)) (fun _ h9 => h9) rfl dX0_takeMeal_61 ?_
        refine lv_iload_n hx hb dX0_takeMeal_64 rfl (lv_at hl 3 rfl) ?_
        refine lv_iconst (v := 0) hx hb dX0_takeMeal_65 (by decide) ?_
        refine sX5_at (k := 3) hF (cwV 2 hts gX0_takeMeal_X5_at rfl rfl rfl hdX5_at ⟨Nat.le_of_ble_eq_true rfl, Nat.le_of_ble_eq_true rfl⟩) hC hSt (by decide) hl.1 (Nat.le_of_ble_eq_true rfl) dX0_takeMeal_66 ⟨Nat.zero_le _, Nat.zero_le _⟩ ?_
        refine lv_icmp_ge (tgt := 97) hx hb dX0_takeMeal_69 (by decide) (fun c_4 => ?_) (fun c_4 => ?_)
        · refine lv_bipush (v := (-2)) hx hb dX0_takeMeal_97 (by decide) ?_
          exact W.iret (v := (-2)) hx hb hr (fun t ht hW => ⟨⟨(-2), σ, rfl, ⟨(by unfold zX0_takeMeal; rw [if_neg c_1, if_neg c_2, if_neg c_3, if_pos c_4]), (by unfold zX0_takeMeal; rw [if_neg c_1, if_neg c_2, if_neg c_3, if_pos c_4])⟩, by dsimp only; rw [ht]; exact hSt⟩, hS.F ht⟩) hS.2.2 dX0_takeMeal_99
        · refine lv_aload_n hx hb dX0_takeMeal_72 rfl (lv_at hl 2 rfl) ?_
          refine va_get (D := D) (ci := 0) (v := .ref (ad 3)) (C := RX0) (T := TX0) (N := 5) hx hb hts iwX0_takeMeal_X0 hown hC.1 hCh 0 rfl rfl 2 (by decide) (hts (.fieldLink RX0 25 "MealLockers$Changes" "meals" "LMealLockers$Table;") (List.mem_of_getElem? (i := 2) rfl)) (fun _ h9 => h9) rfl dX0_takeMeal_73 ?_
          refine lv_iload_n hx hb dX0_takeMeal_76 rfl (lv_at hl 4 rfl) ?_
          refine lv_iconst (v := 0) hx hb dX0_takeMeal_77 (by decide) ?_
          refine sX5_at (k := 1) hF (cwV 2 hts gX0_takeMeal_X5_at rfl rfl rfl hdX5_at ⟨Nat.le_of_ble_eq_true rfl, Nat.le_of_ble_eq_true rfl⟩) hC hSt (by decide) hl.1 (Nat.le_of_ble_eq_true rfl) dX0_takeMeal_78 ⟨Nat.zero_le _, Nat.zero_le _⟩ ?_
          refine lv_if_ne (tgt := 97) hx hb dX0_takeMeal_81 (by decide) (fun c_5 => ?_) (fun c_5 => ?_)
          · refine lv_bipush (v := (-2)) hx hb dX0_takeMeal_97 (by decide) ?_
            exact W.iret (v := (-2)) hx hb hr (fun t ht hW => ⟨⟨(-2), σ, rfl, ⟨(by unfold zX0_takeMeal; rw [if_neg c_1, if_neg c_2, if_neg c_3, if_neg c_4, if_neg c_5]), (by unfold zX0_takeMeal; rw [if_neg c_1, if_neg c_2, if_neg c_3, if_neg c_4, if_neg c_5])⟩, by dsimp only; rw [ht]; exact hSt⟩, hS.F ht⟩) hS.2.2 dX0_takeMeal_99
          · refine lv_aload_n hx hb dX0_takeMeal_84 rfl (lv_at hl 2 rfl) ?_
            refine va_get (D := D) (ci := 0) (v := .ref (ad 3)) (C := RX0) (T := TX0) (N := 5) hx hb hts iwX0_takeMeal_X0 hown hC.1 hCh 0 rfl rfl 2 (by decide) (hts (.fieldLink RX0 25 "MealLockers$Changes" "meals" "LMealLockers$Table;") (List.mem_of_getElem? (i := 2) rfl)) (fun _ h9 => h9) rfl dX0_takeMeal_85 ?_
            refine lv_iload_n hx hb dX0_takeMeal_88 rfl (lv_at hl 4 rfl) ?_
            refine lv_iconst (v := 1) hx hb dX0_takeMeal_89 (by decide) ?_
            refine sX5_at (k := 1) hF (cwV 2 hts gX0_takeMeal_X5_at rfl rfl rfl hdX5_at ⟨Nat.le_of_ble_eq_true rfl, Nat.le_of_ble_eq_true rfl⟩) hC hSt (by decide) hl.1 (Nat.le_of_ble_eq_true rfl) dX0_takeMeal_90 ⟨Nat.zero_le _, Nat.zero_le _⟩ ?_
            refine lv_iload_n hx hb dX0_takeMeal_93 rfl (lv_at hl 1 rfl) ?_
            refine lv_icmp_eq (tgt := 100) hx hb dX0_takeMeal_94 (by decide) (fun c_6 => ?_) (fun c_6 => ?_)
            · refine lv_aload_n hx hb dX0_takeMeal_100 rfl (lv_at hl 2 rfl) ?_
              refine va_get (D := D) (ci := 0) (v := .ref (ad 3)) (C := RX0) (T := TX0) (N := 5) hx hb hts iwX0_takeMeal_X0 hown hC.1 hCh 0 rfl rfl 2 (by decide) (hts (.fieldLink RX0 25 "MealLockers$Changes" "meals" "LMealLockers$Table;") (List.mem_of_getElem? (i := 2) rfl)) (fun _ h9 => h9) rfl dX0_takeMeal_101 ?_
              refine lv_iload_n hx hb dX0_takeMeal_104 rfl (lv_at hl 4 rfl) ?_
              refine lv_iconst (v := 0) hx hb dX0_takeMeal_105 (by decide) ?_
              refine lv_iconst (v := 2) hx hb dX0_takeMeal_106 (by decide) ?_
              refine sX5_store (k := 1) hF (cwV 3 hts gX0_takeMeal_X5_store rfl rfl rfl hdX5_store ⟨Nat.le_of_ble_eq_true rfl, Nat.le_of_ble_eq_true rfl⟩) hC hSt hi (by decide) hS (fun _ h => h) hl.1 (Nat.le_of_ble_eq_true rfl) dX0_takeMeal_107 ⟨Nat.zero_le _, Nat.zero_le _⟩ (fun H locs hSt _ _ hS => ?_)
              have hCh := qo_at hS hCh0 hdj
              refine lv_aload_n hx hb dX0_takeMeal_110 rfl (lv_at hl 2 rfl) ?_
              refine va_get (D := D) (ci := 0) (v := .ref (ad 3)) (C := RX0) (T := TX0) (N := 5) hx hb hts iwX0_takeMeal_X0 hown hC.1 hCh 0 rfl rfl 2 (by decide) (hts (.fieldLink RX0 25 "MealLockers$Changes" "meals" "LMealLockers$Table;") (List.mem_of_getElem? (i := 2) rfl)) (fun _ h9 => h9) rfl dX0_takeMeal_111 ?_
              refine lv_iload_n hx hb dX0_takeMeal_114 rfl (lv_at hl 4 rfl) ?_
              refine lv_bipush (v := 6) hx hb dX0_takeMeal_115 (by decide) ?_
              refine lv_iload_n hx hb dX0_takeMeal_117 rfl (lv_at hl 3 rfl) ?_
              refine sX5_store (k := 1) hF (cwV 3 hts gX0_takeMeal_X5_store rfl rfl rfl hdX5_store ⟨Nat.le_of_ble_eq_true rfl, Nat.le_of_ble_eq_true rfl⟩) hC hSt hi (by decide) hS (fun _ h => h) hl.1 (Nat.le_of_ble_eq_true rfl) dX0_takeMeal_118 ⟨Nat.zero_le _, Nat.zero_le _⟩ (fun H locs hSt _ _ hS => ?_)
              have hCh := qo_at hS hCh0 hdj
              refine lv_aload_n hx hb dX0_takeMeal_121 rfl (lv_at hl 2 rfl) ?_
              refine va_get (D := D) (ci := 0) (v := .ref (ad 1)) (C := RX0) (T := TX0) (N := 5) hx hb hts iwX0_takeMeal_X0 hown hC.1 hCh 0 rfl rfl 1 (by decide) (hts (.fieldLink RX0 21 "MealLockers$Changes" "lockers" "LMealLockers$Table;") (List.mem_of_getElem? (i := 4) rfl)) (fun _ h9 => h9) rfl dX0_takeMeal_122 ?_
              refine lv_iload_n hx hb dX0_takeMeal_125 rfl (lv_at hl 1 rfl) ?_
              refine lv_bipush (v := 7) hx hb dX0_takeMeal_126 (by decide) ?_
              refine sX5_raise (k := 0) hF (cwV 2 hts gX0_takeMeal_X5_raise rfl rfl rfl hdX5_raise ⟨Nat.le_of_ble_eq_true rfl, Nat.le_of_ble_eq_true rfl⟩) hC hSt hi (by decide) hS (fun _ h => h) hl.1 (Nat.le_of_ble_eq_true rfl) dX0_takeMeal_128 ⟨Nat.zero_le _, Nat.zero_le _⟩ (fun H locs hSt _ _ hS => ?_)
              have hCh := qo_at hS hCh0 hdj
              refine lv_iload hx hb dX0_takeMeal_131 (lv_at hl 0 rfl) ?_
              refine lv_iconst (v := 1) hx hb dX0_takeMeal_133 (by decide) ?_
              refine lv_iadd hx hb dX0_takeMeal_134 ?_
              exact W.iret (v := ((zbc (zX4_mealsWith σ x1)) + 1)) hx hb hr (fun t ht hW => ⟨⟨((zbc (zX4_mealsWith σ x1)) + 1), zrai (zsto (zsto σ 1 x2 0 2) 1 x2 6 x1) 0 (zatt σ 3 x1 1) 7, rfl, ⟨(by unfold zX0_takeMeal; rw [if_neg c_1, if_neg c_2, if_neg c_3, if_neg c_4, if_pos c_5, if_pos c_6]), (by unfold zX0_takeMeal; rw [if_neg c_1, if_neg c_2, if_neg c_3, if_neg c_4, if_pos c_5, if_pos c_6])⟩, by dsimp only; rw [ht]; exact hSt⟩, hS.F ht⟩) hS.2.2 dX0_takeMeal_135
            · refine lv_bipush (v := (-2)) hx hb dX0_takeMeal_97 (by decide) ?_
              exact W.iret (v := (-2)) hx hb hr (fun t ht hW => ⟨⟨(-2), σ, rfl, ⟨(by unfold zX0_takeMeal; rw [if_neg c_1, if_neg c_2, if_neg c_3, if_neg c_4, if_pos c_5, if_neg c_6]), (by unfold zX0_takeMeal; rw [if_neg c_1, if_neg c_2, if_neg c_3, if_neg c_4, if_pos c_5, if_neg c_6])⟩, by dsimp only; rw [ht]; exact hSt⟩, hS.F ht⟩) hS.2.2 dX0_takeMeal_99
    · refine lv_iconst (v := (-1)) hx hb dX0_takeMeal_22 (by decide) ?_
      exact W.iret (v := (-1)) hx hb hr (fun t ht hW => ⟨⟨(-1), σ, rfl, ⟨(by unfold zX0_takeMeal; rw [if_neg c_1, if_pos c_2]), (by unfold zX0_takeMeal; rw [if_neg c_1, if_pos c_2])⟩, by dsimp only; rw [ht]; exact hSt⟩, hS.F ht⟩) hS.2.2 dX0_takeMeal_23
set_option maxHeartbeats 4000000 in
set_option maxRecDepth 100000 in
theorem kX0_takeMeal {p : Program} {l : Launch} {e : Env} {R : Room} {s : State} {m : MethodId} {args : Array Value} {below : List Frame} {meth : Method} {c : Code} {H : Heap} {locs : List Loc} {cells slots : Nat} {Q : State → Prop} {cc : ByteArray} {nL : Nat} {Ts : List Cond} {own : String} {index pc : Nat} {ls : Array Slot} {rest : List Value} {D : va_G} {y : Y3} {h : Nat} {ad : Nat → Nat} {σ : Sg} {x1 : Int32} {x2 : Int32} {A0 : Nat → Prop} {H0 : Heap} (hF : CallFix p m c cc nL s args Ts own) (cw : CallW R s args own RX0 index yX0_takeMeal cX0_takeMeal 5 (some .int) wsX0_takeMeal ({ frames := 2, cells := 0, slots := 0, locals := 46 } : Room) 0 0 2) (hC : CK D y s) (hCh : qoH D 0 h ad H) (hSt : StH D y ad σ H) (hi : adI ad) (hdj : (∀ k, k < 11 → ad k ≠ h)) (hS : va_S A0 H0 H locs) (hA : ∀ q, (stA ad) q → A0 q) (hsz : ls.size = nL) (hW : (rest.map fun v => v.category).sum ≤ 8) (hdg : decode cc pc = .ok (.invokevirtual index, 3)) (hf : cells ≤ R.cells ∧ slots ≤ R.slots)
    (k : ∀ (H1 : Heap) (locs1 : List Loc), StH D y ad (zX0_takeMeal σ x1 x2).2 H1 → H.size ≤ H1.size → (∀ q : Nat, q < H.size → ¬ (stA ad) q → H1[q]? = H[q]?) → va_S A0 H0 H1 locs1 → W p l e R s m args below meth c H1 locs1 cells slots Q (F0 m (pc + 3) ls (.int ((zX0_takeMeal σ x1 x2).1) :: rest))) : W p l e R s m args below meth c H locs cells slots Q (F0 m pc ls (.int x2 :: .int x1 :: .ref h :: rest)) := by
  refine va_calli (va_runV (As := [.int x1, .int x2]) (rest := rest) hF (mX0_takeMeal l D y h ad σ x1 x2) cw ⟨fun a U g mk q => by obtain ⟨q0, q1, q2, q3, q4, q5⟩ := q; exact ⟨q0, q1.call g mk a, q2, q3, q4, q5⟩, va_recv hC.1 hCh (ci := 0) (q0 := 0) rfl rfl, fun U hU hW => ⟨rfl, hC.warm hW, by rw [hU]; exact hCh, by rw [hU]; exact hSt, hi, hdj⟩⟩ rfl rfl hsz rfl (lv_room hW) hdg ⟨hf.1, hf.2⟩) hS (fun q _ h => hA q h) hA (fun r u t H1 locs1 ht hvm hp hB hz1 hk1 hS1 => ?_)
  obtain ⟨hp1, hp2⟩ := hp
  subst hp1; subst hp2
  rw [ht] at hB
  exact k H1 locs1 hB hz1 hk1 hS1
def zX0_sendVolunteer (σ : Sg) (x1 : Int32) (x2 : Int32) : Int32 × Sg := if (zX5_has (σ 5 3) x1) = 0 then ((-1), σ)
  else (if (zX5_has (σ 5 0) x2) = 0 then ((-1), σ)
    else (if 0 < (zX4_wayHoursLeft σ x1) then ((-2), σ)
      else (if (zatt σ 3 x1 1) = x2 then ((-2), σ)
        else (((σ 5 5) + (zX4_wayHours σ (zatt σ 3 x1 1) x2)), zsto (zsto σ 3 x1 1 x2) 3 x1 3 ((σ 5 5) + (zX4_wayHours σ (zatt σ 3 x1 1) x2))))))
theorem iwX0_sendVolunteer_X0 : ∀ w ∈ wsX00, w ∈ wsX0_sendVolunteer := fun _ h => List.mem_cons_of_mem _ (List.mem_append_left _ (List.mem_append_left _ (List.mem_append_right _ h)))
theorem iwX0_sendVolunteer_X4 : ∀ w ∈ wsX40, w ∈ wsX0_sendVolunteer := fun _ h => List.mem_cons_of_mem _ (List.mem_append_left _ (List.mem_append_right _ h))
theorem hdX0_sendVolunteer : yX0_sendVolunteer.cls = RX0 ∧ yX0_sendVolunteer.cls ≠ "java/lang/invoke/MethodHandle" ∧ yX0_sendVolunteer.cls ≠ "java/lang/invoke/VarHandle" ∧ (parseMethodDescriptor yX0_sendVolunteer.desc).map (fun d => d.parameters.length) = some 2 := by decide +kernel
set_option maxHeartbeats 4000000 in
set_option maxRecDepth 100000 in
theorem mX0_sendVolunteer (l : Launch) (D : va_G) (y : Y3) (h : Nat) (ad : Nat → Nat) (σ : Sg) (x1 : Int32) (x2 : Int32) : Met l yX0_sendVolunteer wsX0_sendVolunteer ({ frames := 3, cells := 0, slots := 0, locals := 66 } : Room) (va_Pc [.ref h, .int x1, .int x2] (fun U => CK D y U ∧ qoH D 0 h ad U.heap ∧ StH D y ad σ U.heap ∧ adI ad ∧ (∀ k, k < 11 → ad k ≠ h))) (va_Qi (fun (r : Int32) (u : Sg) => r = (zX0_sendVolunteer σ x1 x2).1 ∧ u = (zX0_sendVolunteer σ x1 x2).2) (fun u t => StH D y ad u t.heap) (stA ad)) 0 0 (stA ad) := by
  refine Met.ofW (cc := cX0_sendVolunteer) (maxL := 5) (ret := (some .int)) (by decide) rfl ?_
  intro p e s m args below meth c s₁ B hml hv
  obtain ⟨rfl, hC, hCh, hSt, hi, hdj⟩ := hv
  have hx := B.exec
  have hb := B.bytes
  have hr := B.returns
  have hts := atoms_spec (ws := wsX0_sendVolunteer) B.pre
  have hown : s.vm.findClass RX0 = some m.cls := findClass_of_methodNamed B.named
  have hlocks := B.notSynchronized
  have hF := (⟨hx, hb, hml, hown, hts⟩ : CallFix p m c cX0_sendVolunteer 5 s _ wsX0_sendVolunteer RX0)
  have hS : va_S (stA ad) s.heap s.heap [] := va_S.rf
  have hl := lv_entry ([.ref h, .int x1, .int x2]) (n := 5) (Nat.le_of_ble_eq_true rfl)
  rw [lg_entry_eq]
  generalize (lg_sl ([.ref h, .int x1, .int x2]) ++ List.replicate (5 - (lg_sl ([.ref h, .int x1, .int x2])).length) Slot.unset).toArray = ls at hl ⊢
  have hl : lv_has ls 5 [(0, .ref h), (1, .int x1), (2, .int x2)] := hl
  have hCh0 := hCh
  refine lv_aload_n hx hb dX0_sendVolunteer_0 rfl (lv_at hl 0 rfl) ?_
  refine va_get (D := D) (ci := 0) (v := .ref (ad 7)) (C := RX0) (T := TX0) (N := 5) hx hb hts iwX0_sendVolunteer_X0 hown hC.1 hCh 0 rfl rfl 4 (by decide) (hts (.fieldLink RX0 33 "MealLockers$Changes" "volunteers" "LMealLockers$Table;") (List.mem_of_getElem? (i := 1) rfl)) (fun _ h9 => h9) rfl dX0_sendVolunteer_1 ?_
  refine lv_iload_n hx hb dX0_sendVolunteer_4 rfl (lv_at hl 1 rfl) ?_
  refine sX5_has (k := 3) hF (cwV 1 hts gX0_sendVolunteer_X5_has rfl rfl rfl hdX5_has ⟨Nat.le_of_ble_eq_true rfl, Nat.le_of_ble_eq_true rfl⟩) hC hSt (by decide) hl.1 (Nat.le_of_ble_eq_true rfl) dX0_sendVolunteer_5 ⟨Nat.zero_le _, Nat.zero_le _⟩ ?_
  refine lv_if_eq (tgt := 22) hx hb dX0_sendVolunteer_8 (by decide) (fun c_1 => ?_) (fun c_1 => ?_)
  · refine lv_iconst (v := (-1)) hx hb dX0_sendVolunteer_22 (by decide) ?_
    exact W.iret (v := (-1)) hx hb hr (fun t ht hW => ⟨⟨(-1), σ, rfl, ⟨(by unfold zX0_sendVolunteer; rw [if_pos c_1]), (by unfold zX0_sendVolunteer; rw [if_pos c_1])⟩, by dsimp only; rw [ht]; exact hSt⟩, hS.F ht⟩) hS.2.2 dX0_sendVolunteer_23
  · refine lv_aload_n hx hb dX0_sendVolunteer_11 rfl (lv_at hl 0 rfl) ?_
    refine va_get (D := D) (ci := 0) (v := .ref (ad 1)) (C := RX0) (T := TX0) (N := 5) hx hb hts iwX0_sendVolunteer_X0 hown hC.1 hCh 0 rfl rfl 1 (by decide) (hts (.fieldLink RX0 21 "MealLockers$Changes" "lockers" "LMealLockers$Table;") (List.mem_of_getElem? (i := 2) rfl)) (fun _ h9 => h9) rfl dX0_sendVolunteer_12 ?_
    refine lv_iload_n hx hb dX0_sendVolunteer_15 rfl (lv_at hl 2 rfl) ?_
    refine sX5_has (k := 0) hF (cwV 1 hts gX0_sendVolunteer_X5_has rfl rfl rfl hdX5_has ⟨Nat.le_of_ble_eq_true rfl, Nat.le_of_ble_eq_true rfl⟩) hC hSt (by decide) hl.1 (Nat.le_of_ble_eq_true rfl) dX0_sendVolunteer_16 ⟨Nat.zero_le _, Nat.zero_le _⟩ ?_
    refine lv_if_ne (tgt := 24) hx hb dX0_sendVolunteer_19 (by decide) (fun c_2 => ?_) (fun c_2 => ?_)
    · refine lv_aload_n hx hb dX0_sendVolunteer_24 rfl (lv_at hl 0 rfl) ?_
      refine va_get (D := D) (ci := 0) (v := .ref (ad 7)) (C := RX0) (T := TX0) (N := 5) hx hb hts iwX0_sendVolunteer_X0 hown hC.1 hCh 0 rfl rfl 4 (by decide) (hts (.fieldLink RX0 33 "MealLockers$Changes" "volunteers" "LMealLockers$Table;") (List.mem_of_getElem? (i := 1) rfl)) (fun _ h9 => h9) rfl dX0_sendVolunteer_25 ?_
      refine lv_iload_n hx hb dX0_sendVolunteer_28 rfl (lv_at hl 1 rfl) ?_
      refine lv_iconst (v := 1) hx hb dX0_sendVolunteer_29 (by decide) ?_
      refine sX5_at (k := 3) hF (cwV 2 hts gX0_sendVolunteer_X5_at rfl rfl rfl hdX5_at ⟨Nat.le_of_ble_eq_true rfl, Nat.le_of_ble_eq_true rfl⟩) hC hSt (by decide) hl.1 (Nat.le_of_ble_eq_true rfl) dX0_sendVolunteer_30 ⟨Nat.zero_le _, Nat.zero_le _⟩ ?_
      refine lv_istore_n (lv' := [(3, .int (zatt σ 3 x1 1)), (0, .ref h), (1, .int x1), (2, .int x2)]) hx hb dX0_sendVolunteer_33 rfl hl (by decide) rfl (fun ls hl => ?_)
      refine lv_aload_n hx hb dX0_sendVolunteer_34 rfl (lv_at hl 1 rfl) ?_
      refine va_get (D := D) (ci := 0) (v := .ref (ad 0)) (C := RX0) (T := TX0) (N := 5) hx hb hts iwX0_sendVolunteer_X0 hown hC.1 hCh 0 rfl rfl 0 (by decide) (hts (.fieldLink RX0 9 "MealLockers$Changes" "state" "LMealLockers$State;") (List.mem_of_getElem? (i := 3) rfl)) (fun _ h9 => h9) rfl dX0_sendVolunteer_35 ?_
      refine lv_iload_n hx hb dX0_sendVolunteer_38 rfl (lv_at hl 2 rfl) ?_
      refine kX4_wayHoursLeft hF (cwV 1 hts gX0_sendVolunteer_X4_wayHoursLeft rfl rfl rfl hdX4_wayHoursLeft ⟨Nat.le_of_ble_eq_true rfl, Nat.le_of_ble_eq_true rfl⟩) hC hSt hl.1 (Nat.le_of_ble_eq_true rfl) dX0_sendVolunteer_39 ⟨Nat.zero_le _, Nat.zero_le _⟩ ?_
      refine lv_if_gt (tgt := 50) hx hb dX0_sendVolunteer_42 (by decide) (fun c_3 => ?_) (fun c_3 => ?_)
      · refine lv_bipush (v := (-2)) hx hb dX0_sendVolunteer_50 (by decide) ?_
        exact W.iret (v := (-2)) hx hb hr (fun t ht hW => ⟨⟨(-2), σ, rfl, ⟨(by unfold zX0_sendVolunteer; rw [if_neg c_1, if_neg c_2, if_pos c_3]), (by unfold zX0_sendVolunteer; rw [if_neg c_1, if_neg c_2, if_pos c_3])⟩, by dsimp only; rw [ht]; exact hSt⟩, hS.F ht⟩) hS.2.2 dX0_sendVolunteer_52
      · refine lv_iload_n hx hb dX0_sendVolunteer_45 rfl (lv_at hl 0 rfl) ?_
        refine lv_iload_n hx hb dX0_sendVolunteer_46 rfl (lv_at hl 3 rfl) ?_
        refine lv_icmp_ne (tgt := 53) hx hb dX0_sendVolunteer_47 (by decide) (fun c_4 => ?_) (fun c_4 => ?_)
        · refine lv_aload_n hx hb dX0_sendVolunteer_53 rfl (lv_at hl 1 rfl) ?_
          refine va_get (D := D) (ci := 0) (v := .ref (ad 0)) (C := RX0) (T := TX0) (N := 5) hx hb hts iwX0_sendVolunteer_X0 hown hC.1 hCh 0 rfl rfl 0 (by decide) (hts (.fieldLink RX0 9 "MealLockers$Changes" "state" "LMealLockers$State;") (List.mem_of_getElem? (i := 3) rfl)) (fun _ h9 => h9) rfl dX0_sendVolunteer_54 ?_
          refine va_getN (D := D) (ci := 4) (v := .int (σ 5 5)) (C := RX4) (T := TX4) (N := 6) hx hb hts iwX0_sendVolunteer_X4 hown hC.1 hSt 0 rfl rfl 5 (by decide) (nw_f10 hC) (fun _ h9 => h9) rfl dX0_sendVolunteer_57 ?_
          refine lv_aload_n hx hb dX0_sendVolunteer_60 rfl (lv_at hl 1 rfl) ?_
          refine va_get (D := D) (ci := 0) (v := .ref (ad 0)) (C := RX0) (T := TX0) (N := 5) hx hb hts iwX0_sendVolunteer_X0 hown hC.1 hCh 0 rfl rfl 0 (by decide) (hts (.fieldLink RX0 9 "MealLockers$Changes" "state" "LMealLockers$State;") (List.mem_of_getElem? (i := 3) rfl)) (fun _ h9 => h9) rfl dX0_sendVolunteer_61 ?_
          refine lv_iload_n hx hb dX0_sendVolunteer_64 rfl (lv_at hl 0 rfl) ?_
          refine lv_iload_n hx hb dX0_sendVolunteer_65 rfl (lv_at hl 3 rfl) ?_
          refine kX4_wayHours hF (cwV 2 hts gX0_sendVolunteer_X4_wayHours rfl rfl rfl hdX4_wayHours ⟨Nat.le_of_ble_eq_true rfl, Nat.le_of_ble_eq_true rfl⟩) hC hSt hl.1 (Nat.le_of_ble_eq_true rfl) dX0_sendVolunteer_66 ⟨Nat.zero_le _, Nat.zero_le _⟩ ?_
          refine lv_iadd hx hb dX0_sendVolunteer_69 ?_
          refine lv_istore (lv' := [(4, .int ((σ 5 5) + (zX4_wayHours σ (zatt σ 3 x1 1) x2))), (3, .int (zatt σ 3 x1 1)), (0, .ref h), (1, .int x1), (2, .int x2)]) hx hb dX0_sendVolunteer_70 hl (by decide) rfl (fun ls hl => ?_)
          refine lv_aload_n hx hb dX0_sendVolunteer_72 rfl (lv_at hl 2 rfl) ?_
          refine va_get (D := D) (ci := 0) (v := .ref (ad 7)) (C := RX0) (T := TX0) (N := 5) hx hb hts iwX0_sendVolunteer_X0 hown hC.1 hCh 0 rfl rfl 4 (by decide) (hts (.fieldLink RX0 33 "MealLockers$Changes" "volunteers" "LMealLockers$Table;") (List.mem_of_getElem? (i := 1) rfl)) (fun _ h9 => h9) rfl dX0_sendVolunteer_73 ?_
          refine lv_iload_n hx hb dX0_sendVolunteer_76 rfl (lv_at hl 3 rfl) ?_
          refine lv_iconst (v := 1) hx hb dX0_sendVolunteer_77 (by decide) ?_
          refine lv_iload_n hx hb dX0_sendVolunteer_78 rfl (lv_at hl 4 rfl) ?_
          refine sX5_store (k := 3) hF (cwV 3 hts gX0_sendVolunteer_X5_store rfl rfl rfl hdX5_store ⟨Nat.le_of_ble_eq_true rfl, Nat.le_of_ble_eq_true rfl⟩) hC hSt hi (by decide) hS (fun _ h => h) hl.1 (Nat.le_of_ble_eq_true rfl) dX0_sendVolunteer_79 ⟨Nat.zero_le _, Nat.zero_le _⟩ (fun H locs hSt _ _ hS => ?_)
          have hCh := qo_at hS hCh0 hdj
          refine lv_aload_n hx hb dX0_sendVolunteer_82 rfl (lv_at hl 2 rfl) ?_
          refine va_get (D := D) (ci := 0) (v := .ref (ad 7)) (C := RX0) (T := TX0) (N := 5) hx hb hts iwX0_sendVolunteer_X0 hown hC.1 hCh 0 rfl rfl 4 (by decide) (hts (.fieldLink RX0 33 "MealLockers$Changes" "volunteers" "LMealLockers$Table;") (List.mem_of_getElem? (i := 1) rfl)) (fun _ h9 => h9) rfl dX0_sendVolunteer_83 ?_
          refine lv_iload_n hx hb dX0_sendVolunteer_86 rfl (lv_at hl 3 rfl) ?_
          refine lv_iconst (v := 3) hx hb dX0_sendVolunteer_87 (by decide) ?_
          refine lv_iload hx hb dX0_sendVolunteer_88 (lv_at hl 0 rfl) ?_
          refine sX5_store (k := 3) hF (cwV 3 hts gX0_sendVolunteer_X5_store rfl rfl rfl hdX5_store ⟨Nat.le_of_ble_eq_true rfl, Nat.le_of_ble_eq_true rfl⟩) hC hSt hi (by decide) hS (fun _ h => h) hl.1 (Nat.le_of_ble_eq_true rfl) dX0_sendVolunteer_90 ⟨Nat.zero_le _, Nat.zero_le _⟩ (fun H locs hSt _ _ hS => ?_)
          have hCh := qo_at hS hCh0 hdj
          refine lv_iload hx hb dX0_sendVolunteer_93 (lv_at hl 0 rfl) ?_
          exact W.iret (v := ((σ 5 5) + (zX4_wayHours σ (zatt σ 3 x1 1) x2))) hx hb hr (fun t ht hW => ⟨⟨((σ 5 5) + (zX4_wayHours σ (zatt σ 3 x1 1) x2)), zsto (zsto σ 3 x1 1 x2) 3 x1 3 ((σ 5 5) + (zX4_wayHours σ (zatt σ 3 x1 1) x2)), rfl, ⟨(by unfold zX0_sendVolunteer; rw [if_neg c_1, if_neg c_2, if_neg c_3, if_neg c_4]), (by unfold zX0_sendVolunteer; rw [if_neg c_1, if_neg c_2, if_neg c_3, if_neg c_4])⟩, by dsimp only; rw [ht]; exact hSt⟩, hS.F ht⟩) hS.2.2 dX0_sendVolunteer_95
        · refine lv_bipush (v := (-2)) hx hb dX0_sendVolunteer_50 (by decide) ?_
          exact W.iret (v := (-2)) hx hb hr (fun t ht hW => ⟨⟨(-2), σ, rfl, ⟨(by unfold zX0_sendVolunteer; rw [if_neg c_1, if_neg c_2, if_neg c_3, if_pos c_4]), (by unfold zX0_sendVolunteer; rw [if_neg c_1, if_neg c_2, if_neg c_3, if_pos c_4])⟩, by dsimp only; rw [ht]; exact hSt⟩, hS.F ht⟩) hS.2.2 dX0_sendVolunteer_52
    · refine lv_iconst (v := (-1)) hx hb dX0_sendVolunteer_22 (by decide) ?_
      exact W.iret (v := (-1)) hx hb hr (fun t ht hW => ⟨⟨(-1), σ, rfl, ⟨(by unfold zX0_sendVolunteer; rw [if_neg c_1, if_pos c_2]), (by unfold zX0_sendVolunteer; rw [if_neg c_1, if_pos c_2])⟩, by dsimp only; rw [ht]; exact hSt⟩, hS.F ht⟩) hS.2.2 dX0_sendVolunteer_23
set_option maxHeartbeats 4000000 in
set_option maxRecDepth 100000 in
theorem kX0_sendVolunteer {p : Program} {l : Launch} {e : Env} {R : Room} {s : State} {m : MethodId} {args : Array Value} {below : List Frame} {meth : Method} {c : Code} {H : Heap} {locs : List Loc} {cells slots : Nat} {Q : State → Prop} {cc : ByteArray} {nL : Nat} {Ts : List Cond} {own : String} {index pc : Nat} {ls : Array Slot} {rest : List Value} {D : va_G} {y : Y3} {h : Nat} {ad : Nat → Nat} {σ : Sg} {x1 : Int32} {x2 : Int32} {A0 : Nat → Prop} {H0 : Heap} (hF : CallFix p m c cc nL s args Ts own) (cw : CallW R s args own RX0 index yX0_sendVolunteer cX0_sendVolunteer 5 (some .int) wsX0_sendVolunteer ({ frames := 3, cells := 0, slots := 0, locals := 66 } : Room) 0 0 2) (hC : CK D y s) (hCh : qoH D 0 h ad H) (hSt : StH D y ad σ H) (hi : adI ad) (hdj : (∀ k, k < 11 → ad k ≠ h)) (hS : va_S A0 H0 H locs) (hA : ∀ q, (stA ad) q → A0 q) (hsz : ls.size = nL) (hW : (rest.map fun v => v.category).sum ≤ 8) (hdg : decode cc pc = .ok (.invokevirtual index, 3)) (hf : cells ≤ R.cells ∧ slots ≤ R.slots)
    (k : ∀ (H1 : Heap) (locs1 : List Loc), StH D y ad (zX0_sendVolunteer σ x1 x2).2 H1 → H.size ≤ H1.size → (∀ q : Nat, q < H.size → ¬ (stA ad) q → H1[q]? = H[q]?) → va_S A0 H0 H1 locs1 → W p l e R s m args below meth c H1 locs1 cells slots Q (F0 m (pc + 3) ls (.int ((zX0_sendVolunteer σ x1 x2).1) :: rest))) : W p l e R s m args below meth c H locs cells slots Q (F0 m pc ls (.int x2 :: .int x1 :: .ref h :: rest)) := by
  refine va_calli (va_runV (As := [.int x1, .int x2]) (rest := rest) hF (mX0_sendVolunteer l D y h ad σ x1 x2) cw ⟨fun a U g mk q => by obtain ⟨q0, q1, q2, q3, q4, q5⟩ := q; exact ⟨q0, q1.call g mk a, q2, q3, q4, q5⟩, va_recv hC.1 hCh (ci := 0) (q0 := 0) rfl rfl, fun U hU hW => ⟨rfl, hC.warm hW, by rw [hU]; exact hCh, by rw [hU]; exact hSt, hi, hdj⟩⟩ rfl rfl hsz rfl (lv_room hW) hdg ⟨hf.1, hf.2⟩) hS (fun q _ h => hA q h) hA (fun r u t H1 locs1 ht hvm hp hB hz1 hk1 hS1 => ?_)
  obtain ⟨hp1, hp2⟩ := hp
  subst hp1; subst hp2
  rw [ht] at hB
  exact k H1 locs1 hB hz1 hk1 hS1
def bX0_stowMeals (x1 x2 x3 : Int32) (i : Nat) (v : Int32 × Sg) : Int32 × Sg := if (zatt v.2 1 (nI i) 0) = 2 then (if (zatt v.2 1 (nI i) 6) = x1 then ((v.1 + 1), zrai (zsto (zsto v.2 1 (nI i) 0 0) 1 (nI i) 1 x2) 0 x2 4)
    else (v.1, v.2))
  else (v.1, v.2)
def wX0_stowMeals (x1 x2 x3 : Int32) : Nat → Nat → Int32 × Sg → Int32 × Sg
  | 0, _, v => v
  | n + 1, i, v => if x3 ≤ v.1 then v else wX0_stowMeals x1 x2 x3 n (i + 1) (bX0_stowMeals x1 x2 x3 i v)
theorem wX0_stop {x1 x2 x3 : Int32} {n i : Nat} {v : Int32 × Sg} (h : x3 ≤ v.1) : wX0_stowMeals x1 x2 x3 (n + 1) i v = v := by
  show (if x3 ≤ v.1 then v else _) = v
  rw [if_pos h]
theorem wX0_go {x1 x2 x3 : Int32} {n i : Nat} {v : Int32 × Sg} (h : ¬ x3 ≤ v.1) : wX0_stowMeals x1 x2 x3 (n + 1) i v = wX0_stowMeals x1 x2 x3 n (i + 1) (bX0_stowMeals x1 x2 x3 i v) := by
  show (if x3 ≤ v.1 then v else _) = _
  rw [if_neg h]
def zX0_stowMeals (σ : Sg) (x1 : Int32) : Int32 × Sg := wX0_stowMeals x1 (zatt σ 3 x1 1) (zX4_freeCells σ (zatt σ 3 x1 1)) (σ 5 1).toNatClampNeg 0 (0, σ)
theorem iwX0_stowMeals_X0 : ∀ w ∈ wsX00, w ∈ wsX0_stowMeals := fun _ h => List.mem_cons_of_mem _ (List.mem_append_left _ (List.mem_append_left _ (List.mem_append_right _ h)))
theorem hdX0_stowMeals : yX0_stowMeals.cls = RX0 ∧ yX0_stowMeals.cls ≠ "java/lang/invoke/MethodHandle" ∧ yX0_stowMeals.cls ≠ "java/lang/invoke/VarHandle" ∧ (parseMethodDescriptor yX0_stowMeals.desc).map (fun d => d.parameters.length) = some 1 := by decide +kernel
set_option maxHeartbeats 4000000 in
set_option maxRecDepth 100000 in
theorem lpX0_stowMeals {p : Program} {l : Launch} {e : Env} {s : State} {m : MethodId} {args : Array Value} {below : List Frame} {meth : Method} {c : Code} {Q : State → Prop} {D : va_G} {y : Y3} {h : Nat} {ad : Nat → Nat} {σ : Sg} {x1 x2 x3 : Int32} {v0 : Int32 × Sg} (hx : p.tables.exec = Jvm.exec) (hb : c.code = cX0_stowMeals) (hml : c.maxLocals = 6) (hown : s.vm.findClass RX0 = some m.cls) (hts : ∀ w ∈ wsX0_stowMeals, w.before args s = true) (hC : CK D y s) (hCh0 : qoH D 0 h ad s.heap) (hi : adI ad) (hdj : ∀ k, k < 11 → ad k ≠ h)
    (K : ∀ (x5 : Int32) (v : Int32 × Sg) (H : Heap) (locs : List Loc) (ls : Array Slot), v = wX0_stowMeals x1 x2 x3 (σ 5 1).toNatClampNeg 0 v0 → StH D y ad v.2 H → va_S (stA ad) s.heap H locs → lv_has ls 6 [(5, .int x5), (4, .int v.1), (0, .ref h), (1, .int x1), (2, .int x2), (3, .int x3)] → W p l e (headSpec wsX0_stowMeals ({ frames := 3, cells := 0, slots := 0, locals := 67 } : Room)).room s m args below meth c H locs 0 0 Q (F0 m 112 ls [])) :
    ∀ (j i : Nat) (v : Int32 × Sg), i + j = (σ 5 1).toNatClampNeg → wX0_stowMeals x1 x2 x3 (σ 5 1).toNatClampNeg 0 v0 = wX0_stowMeals x1 x2 x3 j i v → v.2 5 = σ 5 → ∀ (H : Heap) (locs : List Loc), StH D y ad v.2 H → va_S (stA ad) s.heap H locs → ∀ ls : Array Slot, lv_has ls 6 [(5, .int (nI i)), (4, .int v.1), (0, .ref h), (1, .int x1), (2, .int x2), (3, .int x3)] → W p l e (headSpec wsX0_stowMeals ({ frames := 3, cells := 0, slots := 0, locals := 67 } : Room)).room s m args below meth c H locs 0 0 Q (F0 m 25 ls []) := by
  have hF := (⟨hx, hb, hml, hown, hts⟩ : CallFix p m c cX0_stowMeals 6 s args wsX0_stowMeals RX0)
  have hN := clamp_lt (σ 5 1)
  intro j
  induction j with
  | zero =>
    intro i v hin hv hw H locs hSt hS ls hl
    have hCh := qo_at hS hCh0 hdj
    obtain rfl : i = (σ 5 1).toNatClampNeg := by omega
    refine lv_iload hx hb dX0_stowMeals_25 (lv_at hl 0 rfl) ?_
    refine lv_aload_n hx hb dX0_stowMeals_27 rfl (lv_at hl 2 rfl) ?_
    refine va_get (D := D) (ci := 0) (v := .ref (ad 3)) (C := RX0) (T := TX0) (N := 5) hx hb hts iwX0_stowMeals_X0 hown hC.1 hCh 0 rfl rfl 2 (by decide) (hts (.fieldLink RX0 25 "MealLockers$Changes" "meals" "LMealLockers$Table;") (List.mem_of_getElem? (i := 3) rfl)) (fun _ h9 => h9) rfl dX0_stowMeals_28 ?_
    refine sX5_size (k := 1) hF (cwV 0 hts gX0_stowMeals_X5_size rfl rfl rfl hdX5_size ⟨Nat.le_of_ble_eq_true rfl, Nat.le_of_ble_eq_true rfl⟩) hC hSt (by decide) hl.1 (Nat.le_of_ble_eq_true rfl) dX0_stowMeals_31 ⟨Nat.zero_le _, Nat.zero_le _⟩ ?_
    refine lv_icmp_ge (tgt := 112) hx hb dX0_stowMeals_34 (by decide) (fun _ => ?_) (fun c_1 => absurd (by rw [hw]; exact up_le _) c_1)
    exact K _ v H locs ls hv.symm hSt hS (lv_sub hl [0, 1, 2, 3, 4, 5] rfl)
  | succ j ih =>
    intro i v hin hv hw H locs hSt hS ls hl
    have hCh := qo_at hS hCh0 hdj
    refine lv_iload hx hb dX0_stowMeals_25 (lv_at hl 0 rfl) ?_
    refine lv_aload_n hx hb dX0_stowMeals_27 rfl (lv_at hl 2 rfl) ?_
    refine va_get (D := D) (ci := 0) (v := .ref (ad 3)) (C := RX0) (T := TX0) (N := 5) hx hb hts iwX0_stowMeals_X0 hown hC.1 hCh 0 rfl rfl 2 (by decide) (hts (.fieldLink RX0 25 "MealLockers$Changes" "meals" "LMealLockers$Table;") (List.mem_of_getElem? (i := 3) rfl)) (fun _ h9 => h9) rfl dX0_stowMeals_28 ?_
    refine sX5_size (k := 1) hF (cwV 0 hts gX0_stowMeals_X5_size rfl rfl rfl hdX5_size ⟨Nat.le_of_ble_eq_true rfl, Nat.le_of_ble_eq_true rfl⟩) hC hSt (by decide) hl.1 (Nat.le_of_ble_eq_true rfl) dX0_stowMeals_31 ⟨Nat.zero_le _, Nat.zero_le _⟩ ?_
    refine lv_icmp_ge (tgt := 112) hx hb dX0_stowMeals_34 (by decide) (fun c_2 => absurd c_2 (by rw [hw]; exact up_gt (by omega))) (fun _ => ?_)
    refine lv_iload hx hb dX0_stowMeals_37 (lv_at hl 1 rfl) ?_
    refine lv_iload_n hx hb dX0_stowMeals_39 rfl (lv_at hl 5 rfl) ?_
    refine lv_icmp_ge (tgt := 112) hx hb dX0_stowMeals_40 (by decide) (fun c_3 => ?_) (fun c_3 => ?_)
    · exact K _ v H locs ls (hv.trans (wX0_stop c_3)).symm hSt hS (lv_sub hl [0, 1, 2, 3, 4, 5] rfl)
    · refine lv_aload_n hx hb dX0_stowMeals_43 rfl (lv_at hl 2 rfl) ?_
      refine va_get (D := D) (ci := 0) (v := .ref (ad 3)) (C := RX0) (T := TX0) (N := 5) hx hb hts iwX0_stowMeals_X0 hown hC.1 hCh 0 rfl rfl 2 (by decide) (hts (.fieldLink RX0 25 "MealLockers$Changes" "meals" "LMealLockers$Table;") (List.mem_of_getElem? (i := 3) rfl)) (fun _ h9 => h9) rfl dX0_stowMeals_44 ?_
      refine lv_iload hx hb dX0_stowMeals_47 (lv_at hl 0 rfl) ?_
      refine lv_iconst (v := 0) hx hb dX0_stowMeals_49 (by decide) ?_
      refine sX5_at (k := 1) hF (cwV 2 hts gX0_stowMeals_X5_at rfl rfl rfl hdX5_at ⟨Nat.le_of_ble_eq_true rfl, Nat.le_of_ble_eq_true rfl⟩) hC hSt (by decide) hl.1 (Nat.le_of_ble_eq_true rfl) dX0_stowMeals_50 ⟨Nat.zero_le _, Nat.zero_le _⟩ ?_
      refine lv_iconst (v := 2) hx hb dX0_stowMeals_53 (by decide) ?_
      refine lv_icmp_ne (tgt := 106) hx hb dX0_stowMeals_54 (by decide) (fun c_4 => ?_) (fun c_4 => ?_)
      · refine lv_iinc (v := (nI (i + 1))) (lv' := [(5, .int (nI (i + 1))), (4, .int v.1), (0, .ref h), (1, .int x1), (2, .int x2), (3, .int x3)]) hx hb dX0_stowMeals_106 hl (k := 0) rfl (by rw [nI_succ]; rfl) (by decide) rfl (fun ls hl => ?_)
        refine lv_goto (tgt := 25) hx hb dX0_stowMeals_109 (by decide) ?_
        have e9 : bX0_stowMeals x1 x2 x3 i v = (v.1, v.2) := by unfold bX0_stowMeals; rw [if_neg c_4]
        exact ih (i + 1) (v.1, v.2) (by omega) (by rw [hv, wX0_go c_3, e9]) hw H locs hSt hS ls (lv_sub hl [0, 1, 2, 3, 4, 5] rfl)
      · refine lv_aload_n hx hb dX0_stowMeals_57 rfl (lv_at hl 2 rfl) ?_
        refine va_get (D := D) (ci := 0) (v := .ref (ad 3)) (C := RX0) (T := TX0) (N := 5) hx hb hts iwX0_stowMeals_X0 hown hC.1 hCh 0 rfl rfl 2 (by decide) (hts (.fieldLink RX0 25 "MealLockers$Changes" "meals" "LMealLockers$Table;") (List.mem_of_getElem? (i := 3) rfl)) (fun _ h9 => h9) rfl dX0_stowMeals_58 ?_
        refine lv_iload hx hb dX0_stowMeals_61 (lv_at hl 0 rfl) ?_
        refine lv_bipush (v := 6) hx hb dX0_stowMeals_63 (by decide) ?_
        refine sX5_at (k := 1) hF (cwV 2 hts gX0_stowMeals_X5_at rfl rfl rfl hdX5_at ⟨Nat.le_of_ble_eq_true rfl, Nat.le_of_ble_eq_true rfl⟩) hC hSt (by decide) hl.1 (Nat.le_of_ble_eq_true rfl) dX0_stowMeals_65 ⟨Nat.zero_le _, Nat.zero_le _⟩ ?_
        refine lv_iload_n hx hb dX0_stowMeals_68 rfl (lv_at hl 3 rfl) ?_
        refine lv_icmp_ne (tgt := 106) hx hb dX0_stowMeals_69 (by decide) (fun c_5 => ?_) (fun c_5 => ?_)
        · refine lv_iinc (v := (nI (i + 1))) (lv' := [(5, .int (nI (i + 1))), (4, .int v.1), (0, .ref h), (1, .int x1), (2, .int x2), (3, .int x3)]) hx hb dX0_stowMeals_106 hl (k := 0) rfl (by rw [nI_succ]; rfl) (by decide) rfl (fun ls hl => ?_)
          refine lv_goto (tgt := 25) hx hb dX0_stowMeals_109 (by decide) ?_
          have e9 : bX0_stowMeals x1 x2 x3 i v = (v.1, v.2) := by unfold bX0_stowMeals; rw [if_pos c_4, if_neg c_5]
          exact ih (i + 1) (v.1, v.2) (by omega) (by rw [hv, wX0_go c_3, e9]) hw H locs hSt hS ls (lv_sub hl [0, 1, 2, 3, 4, 5] rfl)
        · refine lv_aload_n hx hb dX0_stowMeals_72 rfl (lv_at hl 2 rfl) ?_
          refine va_get (D := D) (ci := 0) (v := .ref (ad 3)) (C := RX0) (T := TX0) (N := 5) hx hb hts iwX0_stowMeals_X0 hown hC.1 hCh 0 rfl rfl 2 (by decide) (hts (.fieldLink RX0 25 "MealLockers$Changes" "meals" "LMealLockers$Table;") (List.mem_of_getElem? (i := 3) rfl)) (fun _ h9 => h9) rfl dX0_stowMeals_73 ?_
          refine lv_iload hx hb dX0_stowMeals_76 (lv_at hl 0 rfl) ?_
          refine lv_iconst (v := 0) hx hb dX0_stowMeals_78 (by decide) ?_
          refine lv_iconst (v := 0) hx hb dX0_stowMeals_79 (by decide) ?_
          refine sX5_store (k := 1) hF (cwV 3 hts gX0_stowMeals_X5_store rfl rfl rfl hdX5_store ⟨Nat.le_of_ble_eq_true rfl, Nat.le_of_ble_eq_true rfl⟩) hC hSt hi (by decide) hS (fun _ h => h) hl.1 (Nat.le_of_ble_eq_true rfl) dX0_stowMeals_80 ⟨Nat.zero_le _, Nat.zero_le _⟩ (fun H locs hSt _ _ hS => ?_)
          have hCh := qo_at hS hCh0 hdj
          refine lv_aload_n hx hb dX0_stowMeals_83 rfl (lv_at hl 2 rfl) ?_
          refine va_get (D := D) (ci := 0) (v := .ref (ad 3)) (C := RX0) (T := TX0) (N := 5) hx hb hts iwX0_stowMeals_X0 hown hC.1 hCh 0 rfl rfl 2 (by decide) (hts (.fieldLink RX0 25 "MealLockers$Changes" "meals" "LMealLockers$Table;") (List.mem_of_getElem? (i := 3) rfl)) (fun _ h9 => h9) rfl dX0_stowMeals_84 ?_
          refine lv_iload hx hb dX0_stowMeals_87 (lv_at hl 0 rfl) ?_
          refine lv_iconst (v := 1) hx hb dX0_stowMeals_89 (by decide) ?_
          refine lv_iload_n hx hb dX0_stowMeals_90 rfl (lv_at hl 4 rfl) ?_
          refine sX5_store (k := 1) hF (cwV 3 hts gX0_stowMeals_X5_store rfl rfl rfl hdX5_store ⟨Nat.le_of_ble_eq_true rfl, Nat.le_of_ble_eq_true rfl⟩) hC hSt hi (by decide) hS (fun _ h => h) hl.1 (Nat.le_of_ble_eq_true rfl) dX0_stowMeals_91 ⟨Nat.zero_le _, Nat.zero_le _⟩ (fun H locs hSt _ _ hS => ?_)
          have hCh := qo_at hS hCh0 hdj
          refine lv_aload_n hx hb dX0_stowMeals_94 rfl (lv_at hl 2 rfl) ?_
          refine va_get (D := D) (ci := 0) (v := .ref (ad 1)) (C := RX0) (T := TX0) (N := 5) hx hb hts iwX0_stowMeals_X0 hown hC.1 hCh 0 rfl rfl 1 (by decide) (hts (.fieldLink RX0 21 "MealLockers$Changes" "lockers" "LMealLockers$Table;") (List.mem_of_getElem? (i := 4) rfl)) (fun _ h9 => h9) rfl dX0_stowMeals_95 ?_
          refine lv_iload_n hx hb dX0_stowMeals_98 rfl (lv_at hl 4 rfl) ?_
          refine lv_iconst (v := 4) hx hb dX0_stowMeals_99 (by decide) ?_
          refine sX5_raise (k := 0) hF (cwV 2 hts gX0_stowMeals_X5_raise rfl rfl rfl hdX5_raise ⟨Nat.le_of_ble_eq_true rfl, Nat.le_of_ble_eq_true rfl⟩) hC hSt hi (by decide) hS (fun _ h => h) hl.1 (Nat.le_of_ble_eq_true rfl) dX0_stowMeals_100 ⟨Nat.zero_le _, Nat.zero_le _⟩ (fun H locs hSt _ _ hS => ?_)
          have hCh := qo_at hS hCh0 hdj
          refine lv_iinc (v := (v.1 + 1)) (lv' := [(4, .int (v.1 + 1)), (5, .int (nI i)), (0, .ref h), (1, .int x1), (2, .int x2), (3, .int x3)]) hx hb dX0_stowMeals_103 hl (k := 1) rfl rfl (by decide) rfl (fun ls hl => ?_)
          refine lv_iinc (v := (nI (i + 1))) (lv' := [(5, .int (nI (i + 1))), (4, .int (v.1 + 1)), (0, .ref h), (1, .int x1), (2, .int x2), (3, .int x3)]) hx hb dX0_stowMeals_106 hl (k := 1) rfl (by rw [nI_succ]; rfl) (by decide) rfl (fun ls hl => ?_)
          refine lv_goto (tgt := 25) hx hb dX0_stowMeals_109 (by decide) ?_
          have e9 : bX0_stowMeals x1 x2 x3 i v = ((v.1 + 1), zrai (zsto (zsto v.2 1 (nI i) 0 0) 1 (nI i) 1 x2) 0 x2 4) := by unfold bX0_stowMeals; rw [if_pos c_4, if_pos c_5]
          exact ih (i + 1) ((v.1 + 1), zrai (zsto (zsto v.2 1 (nI i) 0 0) 1 (nI i) 1 x2) 0 x2 4) (by omega) (by rw [hv, wX0_go c_3, e9]) hw H locs hSt hS ls (lv_sub hl [0, 1, 2, 3, 4, 5] rfl)
set_option maxHeartbeats 4000000 in
set_option maxRecDepth 100000 in
theorem mX0_stowMeals (l : Launch) (D : va_G) (y : Y3) (h : Nat) (ad : Nat → Nat) (σ : Sg) (x1 : Int32) : Met l yX0_stowMeals wsX0_stowMeals ({ frames := 3, cells := 0, slots := 0, locals := 67 } : Room) (va_Pc [.ref h, .int x1] (fun U => CK D y U ∧ qoH D 0 h ad U.heap ∧ StH D y ad σ U.heap ∧ adI ad ∧ (∀ k, k < 11 → ad k ≠ h))) (va_Qi (fun (r : Int32) (u : Sg) => r = (zX0_stowMeals σ x1).1 ∧ u = (zX0_stowMeals σ x1).2) (fun u t => StH D y ad u t.heap) (stA ad)) 0 0 (stA ad) := by
  refine Met.ofW (cc := cX0_stowMeals) (maxL := 6) (ret := (some .int)) (by decide) rfl ?_
  intro p e s m args below meth c s₁ B hml hv
  obtain ⟨rfl, hC, hCh, hSt, hi, hdj⟩ := hv
  have hx := B.exec
  have hb := B.bytes
  have hr := B.returns
  have hts := atoms_spec (ws := wsX0_stowMeals) B.pre
  have hown : s.vm.findClass RX0 = some m.cls := findClass_of_methodNamed B.named
  have hlocks := B.notSynchronized
  have hF := (⟨hx, hb, hml, hown, hts⟩ : CallFix p m c cX0_stowMeals 6 s _ wsX0_stowMeals RX0)
  have hS : va_S (stA ad) s.heap s.heap [] := va_S.rf
  have hl := lv_entry ([.ref h, .int x1]) (n := 6) (Nat.le_of_ble_eq_true rfl)
  rw [lg_entry_eq]
  generalize (lg_sl ([.ref h, .int x1]) ++ List.replicate (6 - (lg_sl ([.ref h, .int x1])).length) Slot.unset).toArray = ls at hl ⊢
  have hl : lv_has ls 6 [(0, .ref h), (1, .int x1)] := hl
  have hCh0 := hCh
  refine lv_aload_n hx hb dX0_stowMeals_0 rfl (lv_at hl 0 rfl) ?_
  refine va_get (D := D) (ci := 0) (v := .ref (ad 7)) (C := RX0) (T := TX0) (N := 5) hx hb hts iwX0_stowMeals_X0 hown hC.1 hCh 0 rfl rfl 4 (by decide) (hts (.fieldLink RX0 33 "MealLockers$Changes" "volunteers" "LMealLockers$Table;") (List.mem_of_getElem? (i := 1) rfl)) (fun _ h9 => h9) rfl dX0_stowMeals_1 ?_
  refine lv_iload_n hx hb dX0_stowMeals_4 rfl (lv_at hl 1 rfl) ?_
  refine lv_iconst (v := 1) hx hb dX0_stowMeals_5 (by decide) ?_
  refine sX5_at (k := 3) hF (cwV 2 hts gX0_stowMeals_X5_at rfl rfl rfl hdX5_at ⟨Nat.le_of_ble_eq_true rfl, Nat.le_of_ble_eq_true rfl⟩) hC hSt (by decide) hl.1 (Nat.le_of_ble_eq_true rfl) dX0_stowMeals_6 ⟨Nat.zero_le _, Nat.zero_le _⟩ ?_
  refine lv_istore_n (lv' := [(2, .int (zatt σ 3 x1 1)), (0, .ref h), (1, .int x1)]) hx hb dX0_stowMeals_9 rfl hl (by decide) rfl (fun ls hl => ?_)
  refine lv_aload_n hx hb dX0_stowMeals_10 rfl (lv_at hl 1 rfl) ?_
  refine va_get (D := D) (ci := 0) (v := .ref (ad 0)) (C := RX0) (T := TX0) (N := 5) hx hb hts iwX0_stowMeals_X0 hown hC.1 hCh 0 rfl rfl 0 (by decide) (hts (.fieldLink RX0 9 "MealLockers$Changes" "state" "LMealLockers$State;") (List.mem_of_getElem? (i := 2) rfl)) (fun _ h9 => h9) rfl dX0_stowMeals_11 ?_
  refine lv_iload_n hx hb dX0_stowMeals_14 rfl (lv_at hl 0 rfl) ?_
  refine kX4_freeCells hF (cwV 1 hts gX0_stowMeals_X4_freeCells rfl rfl rfl hdX4_freeCells ⟨Nat.le_of_ble_eq_true rfl, Nat.le_of_ble_eq_true rfl⟩) hC hSt hl.1 (Nat.le_of_ble_eq_true rfl) dX0_stowMeals_15 ⟨Nat.zero_le _, Nat.zero_le _⟩ ?_
  refine lv_istore_n (lv' := [(3, .int (zX4_freeCells σ (zatt σ 3 x1 1))), (2, .int (zatt σ 3 x1 1)), (0, .ref h), (1, .int x1)]) hx hb dX0_stowMeals_18 rfl hl (by decide) rfl (fun ls hl => ?_)
  refine lv_iconst (v := 0) hx hb dX0_stowMeals_19 (by decide) ?_
  refine lv_istore (lv' := [(4, .int 0), (3, .int (zX4_freeCells σ (zatt σ 3 x1 1))), (2, .int (zatt σ 3 x1 1)), (0, .ref h), (1, .int x1)]) hx hb dX0_stowMeals_20 hl (by decide) rfl (fun ls hl => ?_)
  refine lv_iconst (v := 0) hx hb dX0_stowMeals_22 (by decide) ?_
  refine lv_istore (lv' := [(5, .int 0), (4, .int 0), (3, .int (zX4_freeCells σ (zatt σ 3 x1 1))), (2, .int (zatt σ 3 x1 1)), (0, .ref h), (1, .int x1)]) hx hb dX0_stowMeals_23 hl (by decide) rfl (fun ls hl => ?_)
  refine lpX0_stowMeals (σ := σ) (v0 := (0, σ)) hx hb hml hown hts hC hCh0 hi hdj (fun x5 v H locs ls hv hSt hS hl => ?_) _ 0 (0, σ) (Nat.zero_add _) rfl rfl _ _ hSt hS ls (lv_sub hl [0, 1, 4, 5, 3, 2] rfl)
  refine lv_iload hx hb dX0_stowMeals_112 (lv_at hl 1 rfl) ?_
  exact W.iret (v := v.1) hx hb hr (fun t ht hW => ⟨⟨v.1, v.2, rfl, ⟨(by rw [hv]; rfl), (by rw [hv]; rfl)⟩, by dsimp only; rw [ht]; exact hSt⟩, hS.F ht⟩) hS.2.2 dX0_stowMeals_114
set_option maxHeartbeats 4000000 in
set_option maxRecDepth 100000 in
theorem kX0_stowMeals {p : Program} {l : Launch} {e : Env} {R : Room} {s : State} {m : MethodId} {args : Array Value} {below : List Frame} {meth : Method} {c : Code} {H : Heap} {locs : List Loc} {cells slots : Nat} {Q : State → Prop} {cc : ByteArray} {nL : Nat} {Ts : List Cond} {own : String} {index pc : Nat} {ls : Array Slot} {rest : List Value} {D : va_G} {y : Y3} {h : Nat} {ad : Nat → Nat} {σ : Sg} {x1 : Int32} {A0 : Nat → Prop} {H0 : Heap} (hF : CallFix p m c cc nL s args Ts own) (cw : CallW R s args own RX0 index yX0_stowMeals cX0_stowMeals 6 (some .int) wsX0_stowMeals ({ frames := 3, cells := 0, slots := 0, locals := 67 } : Room) 0 0 1) (hC : CK D y s) (hCh : qoH D 0 h ad H) (hSt : StH D y ad σ H) (hi : adI ad) (hdj : (∀ k, k < 11 → ad k ≠ h)) (hS : va_S A0 H0 H locs) (hA : ∀ q, (stA ad) q → A0 q) (hsz : ls.size = nL) (hW : (rest.map fun v => v.category).sum ≤ 8) (hdg : decode cc pc = .ok (.invokevirtual index, 3)) (hf : cells ≤ R.cells ∧ slots ≤ R.slots)
    (k : ∀ (H1 : Heap) (locs1 : List Loc), StH D y ad (zX0_stowMeals σ x1).2 H1 → H.size ≤ H1.size → (∀ q : Nat, q < H.size → ¬ (stA ad) q → H1[q]? = H[q]?) → va_S A0 H0 H1 locs1 → W p l e R s m args below meth c H1 locs1 cells slots Q (F0 m (pc + 3) ls (.int ((zX0_stowMeals σ x1).1) :: rest))) : W p l e R s m args below meth c H locs cells slots Q (F0 m pc ls (.int x1 :: .ref h :: rest)) := by
  refine va_calli (va_runV (As := [.int x1]) (rest := rest) hF (mX0_stowMeals l D y h ad σ x1) cw ⟨fun a U g mk q => by obtain ⟨q0, q1, q2, q3, q4, q5⟩ := q; exact ⟨q0, q1.call g mk a, q2, q3, q4, q5⟩, va_recv hC.1 hCh (ci := 0) (q0 := 0) rfl rfl, fun U hU hW => ⟨rfl, hC.warm hW, by rw [hU]; exact hCh, by rw [hU]; exact hSt, hi, hdj⟩⟩ rfl rfl hsz rfl (lv_room hW) hdg ⟨hf.1, hf.2⟩) hS (fun q _ h => hA q h) hA (fun r u t H1 locs1 ht hvm hp hB hz1 hk1 hS1 => ?_)
  obtain ⟨hp1, hp2⟩ := hp
  subst hp1; subst hp2
  rw [ht] at hB
  exact k H1 locs1 hB hz1 hk1 hS1
def zX0_putMealsIn (σ : Sg) (x1 : Int32) : Int32 × Sg := if (zX5_has (σ 5 3) x1) = 0 then ((-1), σ)
  else (if (zX4_wayHoursLeft σ x1) ≤ 0 then (if (zX0_stowMeals σ x1).1 ≤ 0 then ((-2), (zX0_stowMeals σ x1).2)
      else ((zX0_stowMeals σ x1).1, (zX0_stowMeals σ x1).2))
    else ((-2), σ))
theorem iwX0_putMealsIn_X0 : ∀ w ∈ wsX00, w ∈ wsX0_putMealsIn := fun _ h => List.mem_cons_of_mem _ (List.mem_append_left _ (List.mem_append_left _ (List.mem_append_right _ h)))
theorem hdX0_putMealsIn : yX0_putMealsIn.cls = RX0 ∧ yX0_putMealsIn.cls ≠ "java/lang/invoke/MethodHandle" ∧ yX0_putMealsIn.cls ≠ "java/lang/invoke/VarHandle" ∧ (parseMethodDescriptor yX0_putMealsIn.desc).map (fun d => d.parameters.length) = some 1 := by decide +kernel
set_option maxHeartbeats 4000000 in
set_option maxRecDepth 100000 in
theorem mX0_putMealsIn (l : Launch) (D : va_G) (y : Y3) (h : Nat) (ad : Nat → Nat) (σ : Sg) (x1 : Int32) : Met l yX0_putMealsIn wsX0_putMealsIn ({ frames := 4, cells := 0, slots := 0, locals := 92 } : Room) (va_Pc [.ref h, .int x1] (fun U => CK D y U ∧ qoH D 0 h ad U.heap ∧ StH D y ad σ U.heap ∧ adI ad ∧ (∀ k, k < 11 → ad k ≠ h))) (va_Qi (fun (r : Int32) (u : Sg) => r = (zX0_putMealsIn σ x1).1 ∧ u = (zX0_putMealsIn σ x1).2) (fun u t => StH D y ad u t.heap) (stA ad)) 0 0 (stA ad) := by
  refine Met.ofW (cc := cX0_putMealsIn) (maxL := 3) (ret := (some .int)) (by decide) rfl ?_
  intro p e s m args below meth c s₁ B hml hv
  obtain ⟨rfl, hC, hCh, hSt, hi, hdj⟩ := hv
  have hx := B.exec
  have hb := B.bytes
  have hr := B.returns
  have hts := atoms_spec (ws := wsX0_putMealsIn) B.pre
  have hown : s.vm.findClass RX0 = some m.cls := findClass_of_methodNamed B.named
  have hlocks := B.notSynchronized
  have hF := (⟨hx, hb, hml, hown, hts⟩ : CallFix p m c cX0_putMealsIn 3 s _ wsX0_putMealsIn RX0)
  have hS : va_S (stA ad) s.heap s.heap [] := va_S.rf
  have hl := lv_entry ([.ref h, .int x1]) (n := 3) (Nat.le_of_ble_eq_true rfl)
  rw [lg_entry_eq]
  generalize (lg_sl ([.ref h, .int x1]) ++ List.replicate (3 - (lg_sl ([.ref h, .int x1])).length) Slot.unset).toArray = ls at hl ⊢
  have hl : lv_has ls 3 [(0, .ref h), (1, .int x1)] := hl
  have hCh0 := hCh
  refine lv_aload_n hx hb dX0_putMealsIn_0 rfl (lv_at hl 0 rfl) ?_
  refine va_get (D := D) (ci := 0) (v := .ref (ad 7)) (C := RX0) (T := TX0) (N := 5) hx hb hts iwX0_putMealsIn_X0 hown hC.1 hCh 0 rfl rfl 4 (by decide) (hts (.fieldLink RX0 33 "MealLockers$Changes" "volunteers" "LMealLockers$Table;") (List.mem_of_getElem? (i := 1) rfl)) (fun _ h9 => h9) rfl dX0_putMealsIn_1 ?_
  refine lv_iload_n hx hb dX0_putMealsIn_4 rfl (lv_at hl 1 rfl) ?_
  refine sX5_has (k := 3) hF (cwV 1 hts gX0_putMealsIn_X5_has rfl rfl rfl hdX5_has ⟨Nat.le_of_ble_eq_true rfl, Nat.le_of_ble_eq_true rfl⟩) hC hSt (by decide) hl.1 (Nat.le_of_ble_eq_true rfl) dX0_putMealsIn_5 ⟨Nat.zero_le _, Nat.zero_le _⟩ ?_
  refine lv_if_ne (tgt := 13) hx hb dX0_putMealsIn_8 (by decide) (fun c_1 => ?_) (fun c_1 => ?_)
  · refine lv_aload_n hx hb dX0_putMealsIn_13 rfl (lv_at hl 0 rfl) ?_
    refine va_get (D := D) (ci := 0) (v := .ref (ad 0)) (C := RX0) (T := TX0) (N := 5) hx hb hts iwX0_putMealsIn_X0 hown hC.1 hCh 0 rfl rfl 0 (by decide) (hts (.fieldLink RX0 9 "MealLockers$Changes" "state" "LMealLockers$State;") (List.mem_of_getElem? (i := 2) rfl)) (fun _ h9 => h9) rfl dX0_putMealsIn_14 ?_
    refine lv_iload_n hx hb dX0_putMealsIn_17 rfl (lv_at hl 1 rfl) ?_
    refine kX4_wayHoursLeft hF (cwV 1 hts gX0_putMealsIn_X4_wayHoursLeft rfl rfl rfl hdX4_wayHoursLeft ⟨Nat.le_of_ble_eq_true rfl, Nat.le_of_ble_eq_true rfl⟩) hC hSt hl.1 (Nat.le_of_ble_eq_true rfl) dX0_putMealsIn_18 ⟨Nat.zero_le _, Nat.zero_le _⟩ ?_
    refine lv_if_le (tgt := 27) hx hb dX0_putMealsIn_21 (by decide) (fun c_2 => ?_) (fun c_2 => ?_)
    · refine lv_aload_n hx hb dX0_putMealsIn_27 rfl (lv_at hl 0 rfl) ?_
      refine lv_iload_n hx hb dX0_putMealsIn_28 rfl (lv_at hl 1 rfl) ?_
      refine kX0_stowMeals hF (cwV 1 hts gX0_putMealsIn_X0_stowMeals rfl rfl rfl hdX0_stowMeals ⟨Nat.le_of_ble_eq_true rfl, Nat.le_of_ble_eq_true rfl⟩) hC hCh hSt hi hdj hS (fun _ h => h) hl.1 (Nat.le_of_ble_eq_true rfl) dX0_putMealsIn_29 ⟨Nat.zero_le _, Nat.zero_le _⟩ (fun H locs hSt _ _ hS => ?_)
      have hCh := qo_at hS hCh0 hdj
      refine lv_istore_n (lv' := [(2, .int ((zX0_stowMeals σ x1).1)), (0, .ref h), (1, .int x1)]) hx hb dX0_putMealsIn_32 rfl hl (by decide) rfl (fun ls hl => ?_)
      refine lv_iload_n hx hb dX0_putMealsIn_33 rfl (lv_at hl 0 rfl) ?_
      refine lv_if_le (tgt := 41) hx hb dX0_putMealsIn_34 (by decide) (fun c_3 => ?_) (fun c_3 => ?_)
      · refine lv_bipush (v := (-2)) hx hb dX0_putMealsIn_41 (by decide) ?_
        exact W.iret (v := (-2)) hx hb hr (fun t ht hW => ⟨⟨(-2), (zX0_stowMeals σ x1).2, rfl, ⟨(by unfold zX0_putMealsIn; rw [if_neg c_1, if_pos c_2, if_pos c_3]), (by unfold zX0_putMealsIn; rw [if_neg c_1, if_pos c_2, if_pos c_3])⟩, by dsimp only; rw [ht]; exact hSt⟩, hS.F ht⟩) hS.2.2 dX0_putMealsIn_43
      · refine lv_iload_n hx hb dX0_putMealsIn_37 rfl (lv_at hl 0 rfl) ?_
        refine lv_goto (tgt := 43) hx hb dX0_putMealsIn_38 (by decide) ?_
        exact W.iret (v := (zX0_stowMeals σ x1).1) hx hb hr (fun t ht hW => ⟨⟨(zX0_stowMeals σ x1).1, (zX0_stowMeals σ x1).2, rfl, ⟨(by unfold zX0_putMealsIn; rw [if_neg c_1, if_pos c_2, if_neg c_3]), (by unfold zX0_putMealsIn; rw [if_neg c_1, if_pos c_2, if_neg c_3])⟩, by dsimp only; rw [ht]; exact hSt⟩, hS.F ht⟩) hS.2.2 dX0_putMealsIn_43
    · refine lv_bipush (v := (-2)) hx hb dX0_putMealsIn_24 (by decide) ?_
      exact W.iret (v := (-2)) hx hb hr (fun t ht hW => ⟨⟨(-2), σ, rfl, ⟨(by unfold zX0_putMealsIn; rw [if_neg c_1, if_neg c_2]), (by unfold zX0_putMealsIn; rw [if_neg c_1, if_neg c_2])⟩, by dsimp only; rw [ht]; exact hSt⟩, hS.F ht⟩) hS.2.2 dX0_putMealsIn_26
  · refine lv_iconst (v := (-1)) hx hb dX0_putMealsIn_11 (by decide) ?_
    exact W.iret (v := (-1)) hx hb hr (fun t ht hW => ⟨⟨(-1), σ, rfl, ⟨(by unfold zX0_putMealsIn; rw [if_pos c_1]), (by unfold zX0_putMealsIn; rw [if_pos c_1])⟩, by dsimp only; rw [ht]; exact hSt⟩, hS.F ht⟩) hS.2.2 dX0_putMealsIn_12
set_option maxHeartbeats 4000000 in
set_option maxRecDepth 100000 in
theorem kX0_putMealsIn {p : Program} {l : Launch} {e : Env} {R : Room} {s : State} {m : MethodId} {args : Array Value} {below : List Frame} {meth : Method} {c : Code} {H : Heap} {locs : List Loc} {cells slots : Nat} {Q : State → Prop} {cc : ByteArray} {nL : Nat} {Ts : List Cond} {own : String} {index pc : Nat} {ls : Array Slot} {rest : List Value} {D : va_G} {y : Y3} {h : Nat} {ad : Nat → Nat} {σ : Sg} {x1 : Int32} {A0 : Nat → Prop} {H0 : Heap} (hF : CallFix p m c cc nL s args Ts own) (cw : CallW R s args own RX0 index yX0_putMealsIn cX0_putMealsIn 3 (some .int) wsX0_putMealsIn ({ frames := 4, cells := 0, slots := 0, locals := 92 } : Room) 0 0 1) (hC : CK D y s) (hCh : qoH D 0 h ad H) (hSt : StH D y ad σ H) (hi : adI ad) (hdj : (∀ k, k < 11 → ad k ≠ h)) (hS : va_S A0 H0 H locs) (hA : ∀ q, (stA ad) q → A0 q) (hsz : ls.size = nL) (hW : (rest.map fun v => v.category).sum ≤ 8) (hdg : decode cc pc = .ok (.invokevirtual index, 3)) (hf : cells ≤ R.cells ∧ slots ≤ R.slots)
    (k : ∀ (H1 : Heap) (locs1 : List Loc), StH D y ad (zX0_putMealsIn σ x1).2 H1 → H.size ≤ H1.size → (∀ q : Nat, q < H.size → ¬ (stA ad) q → H1[q]? = H[q]?) → va_S A0 H0 H1 locs1 → W p l e R s m args below meth c H1 locs1 cells slots Q (F0 m (pc + 3) ls (.int ((zX0_putMealsIn σ x1).1) :: rest))) : W p l e R s m args below meth c H locs cells slots Q (F0 m pc ls (.int x1 :: .ref h :: rest)) := by
  refine va_calli (va_runV (As := [.int x1]) (rest := rest) hF (mX0_putMealsIn l D y h ad σ x1) cw ⟨fun a U g mk q => by obtain ⟨q0, q1, q2, q3, q4, q5⟩ := q; exact ⟨q0, q1.call g mk a, q2, q3, q4, q5⟩, va_recv hC.1 hCh (ci := 0) (q0 := 0) rfl rfl, fun U hU hW => ⟨rfl, hC.warm hW, by rw [hU]; exact hCh, by rw [hU]; exact hSt, hi, hdj⟩⟩ rfl rfl hsz rfl (lv_room hW) hdg ⟨hf.1, hf.2⟩) hS (fun q _ h => hA q h) hA (fun r u t H1 locs1 ht hvm hp hB hz1 hk1 hS1 => ?_)
  obtain ⟨hp1, hp2⟩ := hp
  subst hp1; subst hp2
  rw [ht] at hB
  exact k H1 locs1 hB hz1 hk1 hS1
