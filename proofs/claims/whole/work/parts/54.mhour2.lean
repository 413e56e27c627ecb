def zX8_lapses (μ : Sg) (x1 : Int32) : Sg := if (zX8_ofPerson (zX8_setPerson (zX8_setPerson (zX8_setMeal (zX8_setMeal μ x1 0 0) x1 5 (-1)) (zX8_ofMeal μ x1 5) 4 ((zX8_ofPerson (zX8_setMeal (zX8_setMeal μ x1 0 0) x1 5 (-1)) (zX8_ofMeal μ x1 5) 4) + 1)) (zX8_ofMeal μ x1 5) 1 ((zX8_ofPerson (zX8_setPerson (zX8_setMeal (zX8_setMeal μ x1 0 0) x1 5 (-1)) (zX8_ofMeal μ x1 5) 4 ((zX8_ofPerson (zX8_setMeal (zX8_setMeal μ x1 0 0) x1 5 (-1)) (zX8_ofMeal μ x1 5) 4) + 1)) (zX8_ofMeal μ x1 5) 1) + 1)) (zX8_ofMeal μ x1 5) 1) < ((zX8_setPerson (zX8_setPerson (zX8_setMeal (zX8_setMeal μ x1 0 0) x1 5 (-1)) (zX8_ofMeal μ x1 5) 4 ((zX8_ofPerson (zX8_setMeal (zX8_setMeal μ x1 0 0) x1 5 (-1)) (zX8_ofMeal μ x1 5) 4) + 1)) (zX8_ofMeal μ x1 5) 1 ((zX8_ofPerson (zX8_setPerson (zX8_setMeal (zX8_setMeal μ x1 0 0) x1 5 (-1)) (zX8_ofMeal μ x1 5) 4 ((zX8_ofPerson (zX8_setMeal (zX8_setMeal μ x1 0 0) x1 5 (-1)) (zX8_ofMeal μ x1 5) 4) + 1)) (zX8_ofMeal μ x1 5) 1) + 1)) 0 6) then (zX8_setPerson (zX8_setPerson (zX8_setMeal (zX8_setMeal μ x1 0 0) x1 5 (-1)) (zX8_ofMeal μ x1 5) 4 ((zX8_ofPerson (zX8_setMeal (zX8_setMeal μ x1 0 0) x1 5 (-1)) (zX8_ofMeal μ x1 5) 4) + 1)) (zX8_ofMeal μ x1 5) 1 ((zX8_ofPerson (zX8_setPerson (zX8_setMeal (zX8_setMeal μ x1 0 0) x1 5 (-1)) (zX8_ofMeal μ x1 5) 4 ((zX8_ofPerson (zX8_setMeal (zX8_setMeal μ x1 0 0) x1 5 (-1)) (zX8_ofMeal μ x1 5) 4) + 1)) (zX8_ofMeal μ x1 5) 1) + 1))
  else (zX8_setPerson (zX8_setPerson (zX8_setPerson (zX8_setPerson (zX8_setMeal (zX8_setMeal μ x1 0 0) x1 5 (-1)) (zX8_ofMeal μ x1 5) 4 ((zX8_ofPerson (zX8_setMeal (zX8_setMeal μ x1 0 0) x1 5 (-1)) (zX8_ofMeal μ x1 5) 4) + 1)) (zX8_ofMeal μ x1 5) 1 ((zX8_ofPerson (zX8_setPerson (zX8_setMeal (zX8_setMeal μ x1 0 0) x1 5 (-1)) (zX8_ofMeal μ x1 5) 4 ((zX8_ofPerson (zX8_setMeal (zX8_setMeal μ x1 0 0) x1 5 (-1)) (zX8_ofMeal μ x1 5) 4) + 1)) (zX8_ofMeal μ x1 5) 1) + 1)) (zX8_ofMeal μ x1 5) 1 0) (zX8_ofMeal μ x1 5) 2 (((zX8_setPerson (zX8_setPerson (zX8_setPerson (zX8_setMeal (zX8_setMeal μ x1 0 0) x1 5 (-1)) (zX8_ofMeal μ x1 5) 4 ((zX8_ofPerson (zX8_setMeal (zX8_setMeal μ x1 0 0) x1 5 (-1)) (zX8_ofMeal μ x1 5) 4) + 1)) (zX8_ofMeal μ x1 5) 1 ((zX8_ofPerson (zX8_setPerson (zX8_setMeal (zX8_setMeal μ x1 0 0) x1 5 (-1)) (zX8_ofMeal μ x1 5) 4 ((zX8_ofPerson (zX8_setMeal (zX8_setMeal μ x1 0 0) x1 5 (-1)) (zX8_ofMeal μ x1 5) 4) + 1)) (zX8_ofMeal μ x1 5) 1) + 1)) (zX8_ofMeal μ x1 5) 1 0) 0 4) + ((zX8_setPerson (zX8_setPerson (zX8_setPerson (zX8_setMeal (zX8_setMeal μ x1 0 0) x1 5 (-1)) (zX8_ofMeal μ x1 5) 4 ((zX8_ofPerson (zX8_setMeal (zX8_setMeal μ x1 0 0) x1 5 (-1)) (zX8_ofMeal μ x1 5) 4) + 1)) (zX8_ofMeal μ x1 5) 1 ((zX8_ofPerson (zX8_setPerson (zX8_setMeal (zX8_setMeal μ x1 0 0) x1 5 (-1)) (zX8_ofMeal μ x1 5) 4 ((zX8_ofPerson (zX8_setMeal (zX8_setMeal μ x1 0 0) x1 5 (-1)) (zX8_ofMeal μ x1 5) 4) + 1)) (zX8_ofMeal μ x1 5) 1) + 1)) (zX8_ofMeal μ x1 5) 1 0) 0 7)))
theorem iwX8_lapses_X8 : ∀ w ∈ wsX80, w ∈ wsX8_lapses := fun _ h => List.mem_cons_of_mem _ (List.mem_append_right _ h)
theorem hdX8_lapses : yX8_lapses.cls = RX8 ∧ yX8_lapses.cls ≠ "java/lang/invoke/MethodHandle" ∧ yX8_lapses.cls ≠ "java/lang/invoke/VarHandle" ∧ (parseMethodDescriptor yX8_lapses.desc).map (fun d => d.parameters.length) = some 1 := by decide +kernel
set_option maxHeartbeats 4000000 in
set_option maxRecDepth 100000 in
theorem mX8_lapses (l : Launch) (D : va_G) (y : Y3) (mo : Nat → Nat) (μ : Sg) (x1 : Int32) : Met l yX8_lapses wsX8_lapses ({ frames := 1, cells := 0, slots := 0, locals := 23 } : Room) (va_Pc [.ref (mo 0), .int x1] (fun U => CK D y U ∧ MoH D y mo μ U.heap ∧ moI mo ∧ InvM μ ∧ zX8_ofMeal μ x1 0 = 1 ∧ rg x1 24)) (va_Qv (fun u : Sg => u = zX8_lapses μ x1) (fun u t => MoH D y mo u t.heap) (moA mo)) 0 0 (moA mo) := by
  refine Met.ofW (cc := cX8_lapses) (maxL := 3) (ret := none) (by decide) rfl ?_
  intro p e s m args below meth c s₁ B hml hv
  obtain ⟨rfl, hC, hMo, hi, hInv, hs1, r_x1⟩ := hv
  have hx := B.exec
  have hb := B.bytes
  have hr := B.returns
  have hts := atoms_spec (ws := wsX8_lapses) B.pre
  have hown : s.vm.findClass RX8 = some m.cls := findClass_of_methodNamed B.named
  have hlocks := B.notSynchronized
  have hF := (⟨hx, hb, hml, hown, hts⟩ : CallFix p m c cX8_lapses 3 s _ wsX8_lapses RX8)
  have hS : va_S (moA mo) s.heap s.heap [] := va_S.rf
  have hl := lv_entry ([.ref (mo 0), .int x1]) (n := 3) (Nat.le_of_ble_eq_true rfl)
  rw [lg_entry_eq]
  generalize (lg_sl ([.ref (mo 0), .int x1]) ++ List.replicate (3 - (lg_sl ([.ref (mo 0), .int x1])).length) Slot.unset).toArray = ls at hl ⊢
  have hl : lv_has ls 3 [(0, .ref (mo 0)), (1, .int x1)] := hl
  refine lv_aload_n hx hb dX8_lapses_0 rfl (lv_at hl 0 rfl) ?_
  refine lv_iload_n hx hb dX8_lapses_1 rfl (lv_at hl 1 rfl) ?_
  refine lv_iconst (v := 5) hx hb dX8_lapses_2 (by decide) ?_
  refine kX8_ofMeal hF (cwV 2 hts gX8_lapses_X8_ofMeal rfl rfl rfl hdX8_ofMeal ⟨Nat.le_of_ble_eq_true rfl, Nat.le_of_ble_eq_true rfl⟩) hC hMo r_x1 (by decide) hl.1 (Nat.le_of_ble_eq_true rfl) dX8_lapses_3 ⟨Nat.zero_le _, Nat.zero_le _⟩ ?_
  have f_1 : rg (zX8_ofMeal μ x1 5) 8 := inv_who hInv r_x1 hs1
  refine lv_istore_n (lv' := [(2, .int (zX8_ofMeal μ x1 5)), (0, .ref (mo 0)), (1, .int x1)]) hx hb dX8_lapses_6 rfl hl (by decide) rfl (fun ls hl => ?_)
  refine lv_aload_n hx hb dX8_lapses_7 rfl (lv_at hl 1 rfl) ?_
  refine lv_iload_n hx hb dX8_lapses_8 rfl (lv_at hl 2 rfl) ?_
  refine lv_iconst (v := 0) hx hb dX8_lapses_9 (by decide) ?_
  refine lv_iconst (v := 0) hx hb dX8_lapses_10 (by decide) ?_
  refine kX8_setMeal hF (cwV 3 hts gX8_lapses_X8_setMeal rfl rfl rfl hdX8_setMeal ⟨Nat.le_of_ble_eq_true rfl, Nat.le_of_ble_eq_true rfl⟩) hC hMo hi r_x1 (by decide) hS (fun _ h => h) hl.1 (Nat.le_of_ble_eq_true rfl) dX8_lapses_11 ⟨Nat.zero_le _, Nat.zero_le _⟩ (fun H locs hMo _ _ hS => ?_)
  have hInv := inv_setMeal hInv r_x1 (w := 0) (v := 0) (by decide) (fun _ => Or.inl (by decide)) (fun e => absurd e (by decide)) (fun e => absurd e (by decide))
  refine lv_aload_n hx hb dX8_lapses_14 rfl (lv_at hl 1 rfl) ?_
  refine lv_iload_n hx hb dX8_lapses_15 rfl (lv_at hl 2 rfl) ?_
  refine lv_iconst (v := 5) hx hb dX8_lapses_16 (by decide) ?_
  refine lv_iconst (v := (-1)) hx hb dX8_lapses_17 (by decide) ?_
  refine kX8_setMeal hF (cwV 3 hts gX8_lapses_X8_setMeal rfl rfl rfl hdX8_setMeal ⟨Nat.le_of_ble_eq_true rfl, Nat.le_of_ble_eq_true rfl⟩) hC hMo hi r_x1 (by decide) hS (fun _ h => h) hl.1 (Nat.le_of_ble_eq_true rfl) dX8_lapses_18 ⟨Nat.zero_le _, Nat.zero_le _⟩ (fun H locs hMo _ _ hS => ?_)
  have hInv := inv_setMeal hInv r_x1 (w := 5) (v := (-1)) (by decide) (fun e => absurd e (by decide)) (fun e => absurd e (by decide)) (fun _ => Or.inr (by rw [ofMeal_set0 r_x1]; decide))
  refine lv_aload_n hx hb dX8_lapses_21 rfl (lv_at hl 1 rfl) ?_
  refine lv_iload_n hx hb dX8_lapses_22 rfl (lv_at hl 0 rfl) ?_
  refine lv_iconst (v := 4) hx hb dX8_lapses_23 (by decide) ?_
  refine lv_aload_n hx hb dX8_lapses_24 rfl (lv_at hl 1 rfl) ?_
  refine lv_iload_n hx hb dX8_lapses_25 rfl (lv_at hl 0 rfl) ?_
  refine lv_iconst (v := 4) hx hb dX8_lapses_26 (by decide) ?_
  refine kX8_ofPerson hF (cwV 2 hts gX8_lapses_X8_ofPerson rfl rfl rfl hdX8_ofPerson ⟨Nat.le_of_ble_eq_true rfl, Nat.le_of_ble_eq_true rfl⟩) hC hMo f_1 (by decide) hl.1 (Nat.le_of_ble_eq_true rfl) dX8_lapses_27 ⟨Nat.zero_le _, Nat.zero_le _⟩ ?_
  refine lv_iconst (v := 1) hx hb dX8_lapses_30 (by decide) ?_
  refine lv_iadd hx hb dX8_lapses_31 ?_
  refine kX8_setPerson hF (cwV 3 hts gX8_lapses_X8_setPerson rfl rfl rfl hdX8_setPerson ⟨Nat.le_of_ble_eq_true rfl, Nat.le_of_ble_eq_true rfl⟩) hC hMo hi f_1 (by decide) hS (fun _ h => h) hl.1 (Nat.le_of_ble_eq_true rfl) dX8_lapses_32 ⟨Nat.zero_le _, Nat.zero_le _⟩ (fun H locs hMo _ _ hS => ?_)
  have hInv := inv_setPerson (w := 4) (v := ((zX8_ofPerson (zX8_setMeal (zX8_setMeal μ x1 0 0) x1 5 (-1)) (zX8_ofMeal μ x1 5) 4) + 1)) hInv f_1 (by decide)
  refine lv_aload_n hx hb dX8_lapses_35 rfl (lv_at hl 1 rfl) ?_
  refine lv_iload_n hx hb dX8_lapses_36 rfl (lv_at hl 0 rfl) ?_
  refine lv_iconst (v := 1) hx hb dX8_lapses_37 (by decide) ?_
  refine lv_aload_n hx hb dX8_lapses_38 rfl (lv_at hl 1 rfl) ?_
  refine lv_iload_n hx hb dX8_lapses_39 rfl (lv_at hl 0 rfl) ?_
  refine lv_iconst (v := 1) hx hb dX8_lapses_40 (by decide) ?_
  refine kX8_ofPerson hF (cwV 2 hts gX8_lapses_X8_ofPerson rfl rfl rfl hdX8_ofPerson ⟨Nat.le_of_ble_eq_true rfl, Nat.le_of_ble_eq_true rfl⟩) hC hMo f_1 (by decide) hl.1 (Nat.le_of_ble_eq_true rfl) dX8_lapses_41 ⟨Nat.zero_le _, Nat.zero_le _⟩ ?_
  refine lv_iconst (v := 1) hx hb dX8_lapses_44 (by decide) ?_
  refine lv_iadd hx hb dX8_lapses_45 ?_
  refine kX8_setPerson hF (cwV 3 hts gX8_lapses_X8_setPerson rfl rfl rfl hdX8_setPerson ⟨Nat.le_of_ble_eq_true rfl, Nat.le_of_ble_eq_true rfl⟩) hC hMo hi f_1 (by decide) hS (fun _ h => h) hl.1 (Nat.le_of_ble_eq_true rfl) dX8_lapses_46 ⟨Nat.zero_le _, Nat.zero_le _⟩ (fun H locs hMo _ _ hS => ?_)
  have hInv := inv_setPerson (w := 1) (v := ((zX8_ofPerson (zX8_setPerson (zX8_setMeal (zX8_setMeal μ x1 0 0) x1 5 (-1)) (zX8_ofMeal μ x1 5) 4 ((zX8_ofPerson (zX8_setMeal (zX8_setMeal μ x1 0 0) x1 5 (-1)) (zX8_ofMeal μ x1 5) 4) + 1)) (zX8_ofMeal μ x1 5) 1) + 1)) hInv f_1 (by decide)
  refine lv_aload_n hx hb dX8_lapses_49 rfl (lv_at hl 1 rfl) ?_
  refine lv_iload_n hx hb dX8_lapses_50 rfl (lv_at hl 0 rfl) ?_
  refine lv_iconst (v := 1) hx hb dX8_lapses_51 (by decide) ?_
  refine kX8_ofPerson hF (cwV 2 hts gX8_lapses_X8_ofPerson rfl rfl rfl hdX8_ofPerson ⟨Nat.le_of_ble_eq_true rfl, Nat.le_of_ble_eq_true rfl⟩) hC hMo f_1 (by decide) hl.1 (Nat.le_of_ble_eq_true rfl) dX8_lapses_52 ⟨Nat.zero_le _, Nat.zero_le _⟩ ?_
  refine lv_aload_n hx hb dX8_lapses_55 rfl (lv_at hl 1 rfl) ?_
  refine va_get (D := D) (ci := 8) (v := .ref (mo 1)) (C := RX8) (T := TX8) (N := 10) hx hb hts iwX8_lapses_X8 hown hC.1 hMo 0 rfl rfl 0 (by decide) (hts (.fieldLink RX8 7 "MealLockersModel" "s" "[I") (List.mem_of_getElem? (i := 1) rfl)) (fun _ h9 => h9) rfl dX8_lapses_56 ?_
  refine lv_bipush (v := 6) hx hb dX8_lapses_59 (by decide) ?_
  refine va_iald hx hb hC.1 hMo 1 0 rfl rfl (vpl (by decide)) dX8_lapses_61 ?_
  rw [cl_6]
  refine lv_icmp_lt (tgt := 92) hx hb dX8_lapses_62 (by decide) (fun c_2 => ?_) (fun c_2 => ?_)
  · exact W.vret hx hb hr (fun t ht hW => ⟨⟨(zX8_setPerson (zX8_setPerson (zX8_setMeal (zX8_setMeal μ x1 0 0) x1 5 (-1)) (zX8_ofMeal μ x1 5) 4 ((zX8_ofPerson (zX8_setMeal (zX8_setMeal μ x1 0 0) x1 5 (-1)) (zX8_ofMeal μ x1 5) 4) + 1)) (zX8_ofMeal μ x1 5) 1 ((zX8_ofPerson (zX8_setPerson (zX8_setMeal (zX8_setMeal μ x1 0 0) x1 5 (-1)) (zX8_ofMeal μ x1 5) 4 ((zX8_ofPerson (zX8_setMeal (zX8_setMeal μ x1 0 0) x1 5 (-1)) (zX8_ofMeal μ x1 5) 4) + 1)) (zX8_ofMeal μ x1 5) 1) + 1)), rfl, (by unfold zX8_lapses; rw [if_pos c_2]), by dsimp only; rw [ht]; exact hMo⟩, hS.F ht⟩) hS.2.2 dX8_lapses_92
  · refine lv_aload_n hx hb dX8_lapses_65 rfl (lv_at hl 1 rfl) ?_
    refine lv_iload_n hx hb dX8_lapses_66 rfl (lv_at hl 0 rfl) ?_
    refine lv_iconst (v := 1) hx hb dX8_lapses_67 (by decide) ?_
    refine lv_iconst (v := 0) hx hb dX8_lapses_68 (by decide) ?_
    refine kX8_setPerson hF (cwV 3 hts gX8_lapses_X8_setPerson rfl rfl rfl hdX8_setPerson ⟨Nat.le_of_ble_eq_true rfl, Nat.le_of_ble_eq_true rfl⟩) hC hMo hi f_1 (by decide) hS (fun _ h => h) hl.1 (Nat.le_of_ble_eq_true rfl) dX8_lapses_69 ⟨Nat.zero_le _, Nat.zero_le _⟩ (fun H locs hMo _ _ hS => ?_)
    have hInv := inv_setPerson (w := 1) (v := 0) hInv f_1 (by decide)
    refine lv_aload_n hx hb dX8_lapses_72 rfl (lv_at hl 1 rfl) ?_
    refine lv_iload_n hx hb dX8_lapses_73 rfl (lv_at hl 0 rfl) ?_
    refine lv_iconst (v := 2) hx hb dX8_lapses_74 (by decide) ?_
    refine lv_aload_n hx hb dX8_lapses_75 rfl (lv_at hl 1 rfl) ?_
    refine va_get (D := D) (ci := 8) (v := .ref (mo 1)) (C := RX8) (T := TX8) (N := 10) hx hb hts iwX8_lapses_X8 hown hC.1 hMo 0 rfl rfl 0 (by decide) (hts (.fieldLink RX8 7 "MealLockersModel" "s" "[I") (List.mem_of_getElem? (i := 1) rfl)) (fun _ h9 => h9) rfl dX8_lapses_76 ?_
    refine lv_iconst (v := 4) hx hb dX8_lapses_79 (by decide) ?_
    refine va_iald hx hb hC.1 hMo 1 0 rfl rfl (vpl (by decide)) dX8_lapses_80 ?_
    rw [cl_4]
    refine lv_aload_n hx hb dX8_lapses_81 rfl (lv_at hl 1 rfl) ?_
    refine va_get (D := D) (ci := 8) (v := .ref (mo 1)) (C := RX8) (T := TX8) (N := 10) hx hb hts iwX8_lapses_X8 hown hC.1 hMo 0 rfl rfl 0 (by decide) (hts (.fieldLink RX8 7 "MealLockersModel" "s" "[I") (List.mem_of_getElem? (i := 1) rfl)) (fun _ h9 => h9) rfl dX8_lapses_82 ?_
    refine lv_bipush (v := 7) hx hb dX8_lapses_85 (by decide) ?_
    refine va_iald hx hb hC.1 hMo 1 0 rfl rfl (vpl (by decide)) dX8_lapses_87 ?_
    rw [cl_7]
    refine lv_iadd hx hb dX8_lapses_88 ?_
    refine kX8_setPerson hF (cwV 3 hts gX8_lapses_X8_setPerson rfl rfl rfl hdX8_setPerson ⟨Nat.le_of_ble_eq_true rfl, Nat.le_of_ble_eq_true rfl⟩) hC hMo hi f_1 (by decide) hS (fun _ h => h) hl.1 (Nat.le_of_ble_eq_true rfl) dX8_lapses_89 ⟨Nat.zero_le _, Nat.zero_le _⟩ (fun H locs hMo _ _ hS => ?_)
    have hInv := inv_setPerson (w := 2) (v := (((zX8_setPerson (zX8_setPerson (zX8_setPerson (zX8_setMeal (zX8_setMeal μ x1 0 0) x1 5 (-1)) (zX8_ofMeal μ x1 5) 4 ((zX8_ofPerson (zX8_setMeal (zX8_setMeal μ x1 0 0) x1 5 (-1)) (zX8_ofMeal μ x1 5) 4) + 1)) (zX8_ofMeal μ x1 5) 1 ((zX8_ofPerson (zX8_setPerson (zX8_setMeal (zX8_setMeal μ x1 0 0) x1 5 (-1)) (zX8_ofMeal μ x1 5) 4 ((zX8_ofPerson (zX8_setMeal (zX8_setMeal μ x1 0 0) x1 5 (-1)) (zX8_ofMeal μ x1 5) 4) + 1)) (zX8_ofMeal μ x1 5) 1) + 1)) (zX8_ofMeal μ x1 5) 1 0) 0 4) + ((zX8_setPerson (zX8_setPerson (zX8_setPerson (zX8_setMeal (zX8_setMeal μ x1 0 0) x1 5 (-1)) (zX8_ofMeal μ x1 5) 4 ((zX8_ofPerson (zX8_setMeal (zX8_setMeal μ x1 0 0) x1 5 (-1)) (zX8_ofMeal μ x1 5) 4) + 1)) (zX8_ofMeal μ x1 5) 1 ((zX8_ofPerson (zX8_setPerson (zX8_setMeal (zX8_setMeal μ x1 0 0) x1 5 (-1)) (zX8_ofMeal μ x1 5) 4 ((zX8_ofPerson (zX8_setMeal (zX8_setMeal μ x1 0 0) x1 5 (-1)) (zX8_ofMeal μ x1 5) 4) + 1)) (zX8_ofMeal μ x1 5) 1) + 1)) (zX8_ofMeal μ x1 5) 1 0) 0 7))) hInv f_1 (by decide)
    exact W.vret hx hb hr (fun t ht hW => ⟨⟨(zX8_setPerson (zX8_setPerson (zX8_setPerson (zX8_setPerson (zX8_setMeal (zX8_setMeal μ x1 0 0) x1 5 (-1)) (zX8_ofMeal μ x1 5) 4 ((zX8_ofPerson (zX8_setMeal (zX8_setMeal μ x1 0 0) x1 5 (-1)) (zX8_ofMeal μ x1 5) 4) + 1)) (zX8_ofMeal μ x1 5) 1 ((zX8_ofPerson (zX8_setPerson (zX8_setMeal (zX8_setMeal μ x1 0 0) x1 5 (-1)) (zX8_ofMeal μ x1 5) 4 ((zX8_ofPerson (zX8_setMeal (zX8_setMeal μ x1 0 0) x1 5 (-1)) (zX8_ofMeal μ x1 5) 4) + 1)) (zX8_ofMeal μ x1 5) 1) + 1)) (zX8_ofMeal μ x1 5) 1 0) (zX8_ofMeal μ x1 5) 2 (((zX8_setPerson (zX8_setPerson (zX8_setPerson (zX8_setMeal (zX8_setMeal μ x1 0 0) x1 5 (-1)) (zX8_ofMeal μ x1 5) 4 ((zX8_ofPerson (zX8_setMeal (zX8_setMeal μ x1 0 0) x1 5 (-1)) (zX8_ofMeal μ x1 5) 4) + 1)) (zX8_ofMeal μ x1 5) 1 ((zX8_ofPerson (zX8_setPerson (zX8_setMeal (zX8_setMeal μ x1 0 0) x1 5 (-1)) (zX8_ofMeal μ x1 5) 4 ((zX8_ofPerson (zX8_setMeal (zX8_setMeal μ x1 0 0) x1 5 (-1)) (zX8_ofMeal μ x1 5) 4) + 1)) (zX8_ofMeal μ x1 5) 1) + 1)) (zX8_ofMeal μ x1 5) 1 0) 0 4) + ((zX8_setPerson (zX8_setPerson (zX8_setPerson (zX8_setMeal (zX8_setMeal μ x1 0 0) x1 5 (-1)) (zX8_ofMeal μ x1 5) 4 ((zX8_ofPerson (zX8_setMeal (zX8_setMeal μ x1 0 0) x1 5 (-1)) (zX8_ofMeal μ x1 5) 4) + 1)) (zX8_ofMeal μ x1 5) 1 ((zX8_ofPerson (zX8_setPerson (zX8_setMeal (zX8_setMeal μ x1 0 0) x1 5 (-1)) (zX8_ofMeal μ x1 5) 4 ((zX8_ofPerson (zX8_setMeal (zX8_setMeal μ x1 0 0) x1 5 (-1)) (zX8_ofMeal μ x1 5) 4) + 1)) (zX8_ofMeal μ x1 5) 1) + 1)) (zX8_ofMeal μ x1 5) 1 0) 0 7))), rfl, (by unfold zX8_lapses; rw [if_neg c_2]), by dsimp only; rw [ht]; exact hMo⟩, hS.F ht⟩) hS.2.2 dX8_lapses_92
set_option maxHeartbeats 4000000 in
set_option maxRecDepth 100000 in
theorem kX8_lapses {p : Program} {l : Launch} {e : Env} {R : Room} {s : State} {m : MethodId} {args : Array Value} {below : List Frame} {meth : Method} {c : Code} {H : Heap} {locs : List Loc} {cells slots : Nat} {Q : State → Prop} {cc : ByteArray} {nL : Nat} {Ts : List Cond} {own : String} {index pc : Nat} {ls : Array Slot} {rest : List Value} {D : va_G} {y : Y3} {mo : Nat → Nat} {μ : Sg} {x1 : Int32} {A0 : Nat → Prop} {H0 : Heap} (hF : CallFix p m c cc nL s args Ts own) (cw : CallW R s args own RX8 index yX8_lapses cX8_lapses 3 none wsX8_lapses ({ frames := 1, cells := 0, slots := 0, locals := 23 } : Room) 0 0 1) (hC : CK D y s) (hMo : MoH D y mo μ H) (hi : moI mo) (hInv : InvM μ) (hs1 : zX8_ofMeal μ x1 0 = 1) (r_x1 : rg x1 24) (hS : va_S A0 H0 H locs) (hA : ∀ q, (moA mo) q → A0 q) (hsz : ls.size = nL) (hW : (rest.map fun v => v.category).sum ≤ 8) (hdg : decode cc pc = .ok (.invokevirtual index, 3)) (hf : cells ≤ R.cells ∧ slots ≤ R.slots)
    (k : ∀ (H1 : Heap) (locs1 : List Loc), MoH D y mo (zX8_lapses μ x1) H1 → H.size ≤ H1.size → (∀ q : Nat, q < H.size → ¬ (moA mo) q → H1[q]? = H[q]?) → va_S A0 H0 H1 locs1 → W p l e R s m args below meth c H1 locs1 cells slots Q (F0 m (pc + 3) ls (rest))) : W p l e R s m args below meth c H locs cells slots Q (F0 m pc ls (.int x1 :: .ref (mo 0) :: rest)) := by
  refine va_callv (va_runV (As := [.int x1]) (rest := rest) hF (mX8_lapses l D y mo μ x1) cw ⟨fun a U g mk q => by obtain ⟨q0, q1, q2, q3, q4, q5, q6⟩ := q; exact ⟨q0, q1.call g mk a, q2, q3, q4, q5, q6⟩, va_recv hC.1 hMo (ci := 8) (q0 := 0) rfl rfl, fun U hU hW => ⟨rfl, hC.warm hW, by rw [hU]; exact hMo, hi, hInv, hs1, r_x1⟩⟩ rfl rfl hsz rfl (lv_room hW) hdg ⟨hf.1, hf.2⟩) hS (fun q _ h => hA q h) hA (fun u t H1 locs1 ht hvm hp hB hz1 hk1 hS1 => ?_)
  subst hp
  rw [ht] at hB
  exact k H1 locs1 hB hz1 hk1 hS1
