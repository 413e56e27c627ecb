theorem fstK_at {c : Nat → Bool} : ∀ {n a i : Nat}, fstK c a n = i → i < a + n → c i = true := by
  intro n
  induction n with
  | zero =>
    intro a i h hi
    have : a = i := h
    omega
  | succ n ih =>
    intro a i h hi
    by_cases hc : c a = true
    · rw [fstK_t hc] at h
      rw [← h]; exact hc
    · rw [fstK_f (by simpa using hc)] at h
      exact ih h (by omega)
def zX8_takes (μ : Sg) (x1 : Int32) (x2 : Int32) : Int32 × Sg := if (zX8_isHelper μ x1) = 0 then ((-1), μ)
  else (if (zX8_isMeal μ x2) = 0 then ((-1), μ)
    else (if (zX8_isUnderWay μ x1) = 0 then (if (zX8_ofHelper μ x1 0) ≤ (zX8_ones (zX8_mealsOf μ x1 1)) then ((-2), μ)
        else (if (zX8_ofMeal μ x2 0) = 0 then (if (zX8_isIn μ x2 (zX8_ofHelper μ x1 1)) = 0 then ((-2), μ)
            else (((zX8_ones (zX8_mealsOf μ x1 1)) + 1), (zX8_moreOf (zX8_setMeal (zX8_setMeal μ x2 0 2) x2 7 x1) (zX8_ofHelper (zX8_setMeal (zX8_setMeal μ x2 0 2) x2 7 x1) x1 1) 6)))
          else ((-2), μ)))
      else ((-2), μ)))
theorem hdX8_takes : yX8_takes.cls = RX8 ∧ yX8_takes.cls ≠ "java/lang/invoke/MethodHandle" ∧ yX8_takes.cls ≠ "java/lang/invoke/VarHandle" ∧ (parseMethodDescriptor yX8_takes.desc).map (fun d => d.parameters.length) = some 2 := by decide +kernel
set_option maxHeartbeats 4000000 in
set_option maxRecDepth 100000 in
theorem mX8_takes (l : Launch) (D : va_G) (y : Y3) (mo : Nat → Nat) (μ : Sg) (x1 : Int32) (x2 : Int32) : Met l yX8_takes wsX8_takes ({ frames := 3, cells := 0, slots := 0, locals := 69 } : Room) (va_Pc [.ref (mo 0), .int x1, .int x2] (fun U => CK D y U ∧ MoH D y mo μ U.heap ∧ moI mo ∧ InvM μ)) (va_Qi (fun (r : Int32) (u : Sg) => r = (zX8_takes μ x1 x2).1 ∧ u = (zX8_takes μ x1 x2).2) (fun u t => MoH D y mo u t.heap) (moA mo)) 0 0 (moA mo) := by
  refine Met.ofW (cc := cX8_takes) (maxL := 5) (ret := (some .int)) (by decide) rfl ?_
  intro p e s m args below meth c s₁ B hml hv
  obtain ⟨rfl, hC, hMo, hi, hInv⟩ := hv
  have hx := B.exec
  have hb := B.bytes
  have hr := B.returns
  have hts := atoms_spec (ws := wsX8_takes) B.pre
  have hown : s.vm.findClass RX8 = some m.cls := findClass_of_methodNamed B.named
  have hlocks := B.notSynchronized
  have hF := (⟨hx, hb, hml, hown, hts⟩ : CallFix p m c cX8_takes 5 s _ wsX8_takes RX8)
  have hS : va_S (moA mo) s.heap s.heap [] := va_S.rf
  have hl := lv_entry ([.ref (mo 0), .int x1, .int x2]) (n := 5) (Nat.le_of_ble_eq_true rfl)
  rw [lg_entry_eq]
  generalize (lg_sl ([.ref (mo 0), .int x1, .int x2]) ++ List.replicate (5 - (lg_sl ([.ref (mo 0), .int x1, .int x2])).length) Slot.unset).toArray = ls at hl ⊢
  have hl : lv_has ls 5 [(0, .ref (mo 0)), (1, .int x1), (2, .int x2)] := hl
  refine lv_aload_n hx hb dX8_takes_0 rfl (lv_at hl 0 rfl) ?_
  refine lv_iload_n hx hb dX8_takes_1 rfl (lv_at hl 1 rfl) ?_
  refine kX8_isHelper hF (cwV 1 hts gX8_takes_X8_isHelper rfl rfl rfl hdX8_isHelper ⟨Nat.le_of_ble_eq_true rfl, Nat.le_of_ble_eq_true rfl⟩) hC hMo  hl.1 (Nat.le_of_ble_eq_true rfl) dX8_takes_2 ⟨Nat.zero_le _, Nat.zero_le _⟩ ?_
  refine lv_if_eq (tgt := 16) hx hb dX8_takes_5 (by decide) (fun c_1 => ?_) (fun c_1 => ?_)
  · refine lv_iconst (v := (-1)) hx hb dX8_takes_16 (by decide) ?_
    exact W.iret (v := (-1)) hx hb hr (fun t ht hW => ⟨⟨(-1), μ, rfl, ⟨(by unfold zX8_takes; rw [if_pos c_1]), (by unfold zX8_takes; rw [if_pos c_1])⟩, by dsimp only; rw [ht]; exact hMo⟩, hS.F ht⟩) hS.2.2 dX8_takes_17
  · have f_2 : rg x1 3 := rg_isH hInv c_1
    refine lv_aload_n hx hb dX8_takes_8 rfl (lv_at hl 0 rfl) ?_
    refine lv_iload_n hx hb dX8_takes_9 rfl (lv_at hl 2 rfl) ?_
    refine kX8_isMeal hF (cwV 1 hts gX8_takes_X8_isMeal rfl rfl rfl hdX8_isMeal ⟨Nat.le_of_ble_eq_true rfl, Nat.le_of_ble_eq_true rfl⟩) hC hMo  hl.1 (Nat.le_of_ble_eq_true rfl) dX8_takes_10 ⟨Nat.zero_le _, Nat.zero_le _⟩ ?_
    refine lv_if_ne (tgt := 18) hx hb dX8_takes_13 (by decide) (fun c_3 => ?_) (fun c_3 => ?_)
    · have f_4 : rg x2 24 := rg_isM hInv c_3
      refine lv_aload_n hx hb dX8_takes_18 rfl (lv_at hl 0 rfl) ?_
      refine lv_iload_n hx hb dX8_takes_19 rfl (lv_at hl 1 rfl) ?_
      refine lv_iconst (v := 1) hx hb dX8_takes_20 (by decide) ?_
      refine kX8_mealsOf hF (cwV 2 hts gX8_takes_X8_mealsOf rfl rfl rfl hdX8_mealsOf ⟨Nat.le_of_ble_eq_true rfl, Nat.le_of_ble_eq_true rfl⟩) hC hMo hInv  hl.1 (Nat.le_of_ble_eq_true rfl) dX8_takes_21 ⟨Nat.zero_le _, Nat.zero_le _⟩ ?_
      refine kX8_ones hF (cwS 1 hts gX8_takes_X8_ones rfl rfl rfl (by decide +kernel) ⟨Nat.le_of_ble_eq_true rfl, Nat.le_of_ble_eq_true rfl⟩) hC hl.1 (Nat.le_of_ble_eq_true rfl) dX8_takes_24 ⟨Nat.zero_le _, Nat.zero_le _⟩ ?_
      refine lv_istore_n (lv' := [(3, .int (zX8_ones (zX8_mealsOf μ x1 1))), (0, .ref (mo 0)), (1, .int x1), (2, .int x2)]) hx hb dX8_takes_27 rfl hl (by decide) rfl (fun ls hl => ?_)
      refine lv_aload_n hx hb dX8_takes_28 rfl (lv_at hl 1 rfl) ?_
      refine lv_iload_n hx hb dX8_takes_29 rfl (lv_at hl 2 rfl) ?_
      refine kX8_isUnderWay hF (cwV 1 hts gX8_takes_X8_isUnderWay rfl rfl rfl hdX8_isUnderWay ⟨Nat.le_of_ble_eq_true rfl, Nat.le_of_ble_eq_true rfl⟩) hC hMo f_2 hl.1 (Nat.le_of_ble_eq_true rfl) dX8_takes_30 ⟨Nat.zero_le _, Nat.zero_le _⟩ ?_
      refine lv_if_ne (tgt := 73) hx hb dX8_takes_33 (by decide) (fun c_5 => ?_) (fun c_5 => ?_)
      · refine lv_iconst (v := 0) hx hb dX8_takes_73 (by decide) ?_
        refine lv_istore (lv' := [(4, .int 0), (3, .int (zX8_ones (zX8_mealsOf μ x1 1))), (0, .ref (mo 0)), (1, .int x1), (2, .int x2)]) hx hb dX8_takes_74 hl (by decide) rfl (fun ls hl => ?_)
        refine lv_iload hx hb dX8_takes_76 (lv_at hl 0 rfl) ?_
        refine lv_if_ne (tgt := 84) hx hb dX8_takes_78 (by decide) (fun c_6 => absurd c_6 (by decide)) (fun _ => ?_)
        refine lv_bipush (v := (-2)) hx hb dX8_takes_81 (by decide) ?_
        exact W.iret (v := (-2)) hx hb hr (fun t ht hW => ⟨⟨(-2), μ, rfl, ⟨(by unfold zX8_takes; rw [if_neg c_1, if_neg c_3, if_neg c_5]), (by unfold zX8_takes; rw [if_neg c_1, if_neg c_3, if_neg c_5])⟩, by dsimp only; rw [ht]; exact hMo⟩, hS.F ht⟩) hS.2.2 dX8_takes_83
      · refine lv_iload_n hx hb dX8_takes_36 rfl (lv_at hl 0 rfl) ?_
        refine lv_aload_n hx hb dX8_takes_37 rfl (lv_at hl 1 rfl) ?_
        refine lv_iload_n hx hb dX8_takes_38 rfl (lv_at hl 2 rfl) ?_
        refine lv_iconst (v := 0) hx hb dX8_takes_39 (by decide) ?_
        refine kX8_ofHelper hF (cwV 2 hts gX8_takes_X8_ofHelper rfl rfl rfl hdX8_ofHelper ⟨Nat.le_of_ble_eq_true rfl, Nat.le_of_ble_eq_true rfl⟩) hC hMo f_2 (by decide) hl.1 (Nat.le_of_ble_eq_true rfl) dX8_takes_40 ⟨Nat.zero_le _, Nat.zero_le _⟩ ?_
        refine lv_icmp_ge (tgt := 73) hx hb dX8_takes_43 (by decide) (fun c_7 => ?_) (fun c_7 => ?_)
        · refine lv_iconst (v := 0) hx hb dX8_takes_73 (by decide) ?_
          refine lv_istore (lv' := [(4, .int 0), (3, .int (zX8_ones (zX8_mealsOf μ x1 1))), (0, .ref (mo 0)), (1, .int x1), (2, .int x2)]) hx hb dX8_takes_74 hl (by decide) rfl (fun ls hl => ?_)
          refine lv_iload hx hb dX8_takes_76 (lv_at hl 0 rfl) ?_
          refine lv_if_ne (tgt := 84) hx hb dX8_takes_78 (by decide) (fun c_8 => absurd c_8 (by decide)) (fun _ => ?_)
          refine lv_bipush (v := (-2)) hx hb dX8_takes_81 (by decide) ?_
          exact W.iret (v := (-2)) hx hb hr (fun t ht hW => ⟨⟨(-2), μ, rfl, ⟨(by unfold zX8_takes; rw [if_neg c_1, if_neg c_3, if_pos c_5, if_pos c_7]), (by unfold zX8_takes; rw [if_neg c_1, if_neg c_3, if_pos c_5, if_pos c_7])⟩, by dsimp only; rw [ht]; exact hMo⟩, hS.F ht⟩) hS.2.2 dX8_takes_83
        · refine lv_aload_n hx hb dX8_takes_46 rfl (lv_at hl 1 rfl) ?_
          refine lv_iload_n hx hb dX8_takes_47 rfl (lv_at hl 3 rfl) ?_
          refine lv_iconst (v := 0) hx hb dX8_takes_48 (by decide) ?_
          refine kX8_ofMeal hF (cwV 2 hts gX8_takes_X8_ofMeal rfl rfl rfl hdX8_ofMeal ⟨Nat.le_of_ble_eq_true rfl, Nat.le_of_ble_eq_true rfl⟩) hC hMo f_4 (by decide) hl.1 (Nat.le_of_ble_eq_true rfl) dX8_takes_49 ⟨Nat.zero_le _, Nat.zero_le _⟩ ?_
          refine lv_if_ne (tgt := 73) hx hb dX8_takes_52 (by decide) (fun c_9 => ?_) (fun c_9 => ?_)
          · refine lv_iconst (v := 0) hx hb dX8_takes_73 (by decide) ?_
            refine lv_istore (lv' := [(4, .int 0), (3, .int (zX8_ones (zX8_mealsOf μ x1 1))), (0, .ref (mo 0)), (1, .int x1), (2, .int x2)]) hx hb dX8_takes_74 hl (by decide) rfl (fun ls hl => ?_)
            refine lv_iload hx hb dX8_takes_76 (lv_at hl 0 rfl) ?_
            refine lv_if_ne (tgt := 84) hx hb dX8_takes_78 (by decide) (fun c_10 => absurd c_10 (by decide)) (fun _ => ?_)
            refine lv_bipush (v := (-2)) hx hb dX8_takes_81 (by decide) ?_
            exact W.iret (v := (-2)) hx hb hr (fun t ht hW => ⟨⟨(-2), μ, rfl, ⟨(by unfold zX8_takes; rw [if_neg c_1, if_neg c_3, if_pos c_5, if_neg c_7, if_neg c_9]), (by unfold zX8_takes; rw [if_neg c_1, if_neg c_3, if_pos c_5, if_neg c_7, if_neg c_9])⟩, by dsimp only; rw [ht]; exact hMo⟩, hS.F ht⟩) hS.2.2 dX8_takes_83
          · refine lv_aload_n hx hb dX8_takes_55 rfl (lv_at hl 1 rfl) ?_
            refine lv_iload_n hx hb dX8_takes_56 rfl (lv_at hl 3 rfl) ?_
            refine lv_aload_n hx hb dX8_takes_57 rfl (lv_at hl 1 rfl) ?_
            refine lv_iload_n hx hb dX8_takes_58 rfl (lv_at hl 2 rfl) ?_
            refine lv_iconst (v := 1) hx hb dX8_takes_59 (by decide) ?_
            refine kX8_ofHelper hF (cwV 2 hts gX8_takes_X8_ofHelper rfl rfl rfl hdX8_ofHelper ⟨Nat.le_of_ble_eq_true rfl, Nat.le_of_ble_eq_true rfl⟩) hC hMo f_2 (by decide) hl.1 (Nat.le_of_ble_eq_true rfl) dX8_takes_60 ⟨Nat.zero_le _, Nat.zero_le _⟩ ?_
            have f_11 : rg (zX8_ofHelper μ x1 1) 5 := inv_at hInv f_2
            refine kX8_isIn hF (cwV 2 hts gX8_takes_X8_isIn rfl rfl rfl hdX8_isIn ⟨Nat.le_of_ble_eq_true rfl, Nat.le_of_ble_eq_true rfl⟩) hC hMo f_4 hl.1 (Nat.le_of_ble_eq_true rfl) dX8_takes_63 ⟨Nat.zero_le _, Nat.zero_le _⟩ ?_
            refine lv_if_eq (tgt := 73) hx hb dX8_takes_66 (by decide) (fun c_12 => ?_) (fun c_12 => ?_)
            · refine lv_iconst (v := 0) hx hb dX8_takes_73 (by decide) ?_
              refine lv_istore (lv' := [(4, .int 0), (3, .int (zX8_ones (zX8_mealsOf μ x1 1))), (0, .ref (mo 0)), (1, .int x1), (2, .int x2)]) hx hb dX8_takes_74 hl (by decide) rfl (fun ls hl => ?_)
              refine lv_iload hx hb dX8_takes_76 (lv_at hl 0 rfl) ?_
              refine lv_if_ne (tgt := 84) hx hb dX8_takes_78 (by decide) (fun c_13 => absurd c_13 (by decide)) (fun _ => ?_)
              refine lv_bipush (v := (-2)) hx hb dX8_takes_81 (by decide) ?_
              exact W.iret (v := (-2)) hx hb hr (fun t ht hW => ⟨⟨(-2), μ, rfl, ⟨(by unfold zX8_takes; rw [if_neg c_1, if_neg c_3, if_pos c_5, if_neg c_7, if_pos c_9, if_pos c_12]), (by unfold zX8_takes; rw [if_neg c_1, if_neg c_3, if_pos c_5, if_neg c_7, if_pos c_9, if_pos c_12])⟩, by dsimp only; rw [ht]; exact hMo⟩, hS.F ht⟩) hS.2.2 dX8_takes_83
            · refine lv_iconst (v := 1) hx hb dX8_takes_69 (by decide) ?_
              refine lv_goto (tgt := 74) hx hb dX8_takes_70 (by decide) ?_
              refine lv_istore (lv' := [(4, .int 1), (3, .int (zX8_ones (zX8_mealsOf μ x1 1))), (0, .ref (mo 0)), (1, .int x1), (2, .int x2)]) hx hb dX8_takes_74 hl (by decide) rfl (fun ls hl => ?_)
              refine lv_iload hx hb dX8_takes_76 (lv_at hl 0 rfl) ?_
              refine lv_if_ne (tgt := 84) hx hb dX8_takes_78 (by decide) (fun _ => ?_) (fun c_14 => absurd c_14 (by decide))
              refine lv_aload_n hx hb dX8_takes_84 rfl (lv_at hl 2 rfl) ?_
              refine lv_iload_n hx hb dX8_takes_85 rfl (lv_at hl 4 rfl) ?_
              refine lv_iconst (v := 0) hx hb dX8_takes_86 (by decide) ?_
              refine lv_iconst (v := 2) hx hb dX8_takes_87 (by decide) ?_
              refine kX8_setMeal hF (cwV 3 hts gX8_takes_X8_setMeal rfl rfl rfl hdX8_setMeal ⟨Nat.le_of_ble_eq_true rfl, Nat.le_of_ble_eq_true rfl⟩) hC hMo hi f_4 (by decide) hS (fun _ h => h) hl.1 (Nat.le_of_ble_eq_true rfl) dX8_takes_88 ⟨Nat.zero_le _, Nat.zero_le _⟩ (fun H locs hMo _ _ hS => ?_)
              have hInv := inv_setMeal hInv f_4 (w := 0) (v := 2) (by decide) (fun _ => Or.inl (by decide)) (fun e => absurd e (by decide)) (fun e => absurd e (by decide))
              refine lv_aload_n hx hb dX8_takes_91 rfl (lv_at hl 2 rfl) ?_
              refine lv_iload_n hx hb dX8_takes_92 rfl (lv_at hl 4 rfl) ?_
              refine lv_bipush (v := 7) hx hb dX8_takes_93 (by decide) ?_
              refine lv_iload_n hx hb dX8_takes_95 rfl (lv_at hl 3 rfl) ?_
              refine kX8_setMeal hF (cwV 3 hts gX8_takes_X8_setMeal rfl rfl rfl hdX8_setMeal ⟨Nat.le_of_ble_eq_true rfl, Nat.le_of_ble_eq_true rfl⟩) hC hMo hi f_4 (by decide) hS (fun _ h => h) hl.1 (Nat.le_of_ble_eq_true rfl) dX8_takes_96 ⟨Nat.zero_le _, Nat.zero_le _⟩ (fun H locs hMo _ _ hS => ?_)
              have hInv := inv_setMeal hInv f_4 (w := 7) (v := x1) (by decide) (fun e => absurd e (by decide)) (fun e => absurd e (by decide)) (fun e => absurd e (by decide))
              refine lv_aload_n hx hb dX8_takes_99 rfl (lv_at hl 2 rfl) ?_
              refine lv_aload_n hx hb dX8_takes_100 rfl (lv_at hl 2 rfl) ?_
              refine lv_iload_n hx hb dX8_takes_101 rfl (lv_at hl 3 rfl) ?_
              refine lv_iconst (v := 1) hx hb dX8_takes_102 (by decide) ?_
              refine kX8_ofHelper hF (cwV 2 hts gX8_takes_X8_ofHelper rfl rfl rfl hdX8_ofHelper ⟨Nat.le_of_ble_eq_true rfl, Nat.le_of_ble_eq_true rfl⟩) hC hMo f_2 (by decide) hl.1 (Nat.le_of_ble_eq_true rfl) dX8_takes_103 ⟨Nat.zero_le _, Nat.zero_le _⟩ ?_
              have f_15 : rg (zX8_ofHelper (zX8_setMeal (zX8_setMeal μ x2 0 2) x2 7 x1) x1 1) 5 := inv_at hInv f_2
              refine lv_bipush (v := 6) hx hb dX8_takes_106 (by decide) ?_
              refine kX8_moreOf hF (cwV 2 hts gX8_takes_X8_moreOf rfl rfl rfl hdX8_moreOf ⟨Nat.le_of_ble_eq_true rfl, Nat.le_of_ble_eq_true rfl⟩) hC hMo hi f_15 (by decide) hS (fun _ h => h) hl.1 (Nat.le_of_ble_eq_true rfl) dX8_takes_108 ⟨Nat.zero_le _, Nat.zero_le _⟩ (fun H locs hMo _ _ hS => ?_)
              have hInv := inv_moreOf (w := 6) hInv f_15 (by decide)
              refine lv_iload_n hx hb dX8_takes_111 rfl (lv_at hl 1 rfl) ?_
              refine lv_iconst (v := 1) hx hb dX8_takes_112 (by decide) ?_
              refine lv_iadd hx hb dX8_takes_113 ?_
              exact W.iret (v := ((zX8_ones (zX8_mealsOf μ x1 1)) + 1)) hx hb hr (fun t ht hW => ⟨⟨((zX8_ones (zX8_mealsOf μ x1 1)) + 1), (zX8_moreOf (zX8_setMeal (zX8_setMeal μ x2 0 2) x2 7 x1) (zX8_ofHelper (zX8_setMeal (zX8_setMeal μ x2 0 2) x2 7 x1) x1 1) 6), rfl, ⟨(by unfold zX8_takes; rw [if_neg c_1, if_neg c_3, if_pos c_5, if_neg c_7, if_pos c_9, if_neg c_12]), (by unfold zX8_takes; rw [if_neg c_1, if_neg c_3, if_pos c_5, if_neg c_7, if_pos c_9, if_neg c_12])⟩, by dsimp only; rw [ht]; exact hMo⟩, hS.F ht⟩) hS.2.2 dX8_takes_114
    · refine lv_iconst (v := (-1)) hx hb dX8_takes_16 (by decide) ?_
      exact W.iret (v := (-1)) hx hb hr (fun t ht hW => ⟨⟨(-1), μ, rfl, ⟨(by unfold zX8_takes; rw [if_neg c_1, if_pos c_3]), (by unfold zX8_takes; rw [if_neg c_1, if_pos c_3])⟩, by dsimp only; rw [ht]; exact hMo⟩, hS.F ht⟩) hS.2.2 dX8_takes_17
set_option maxHeartbeats 4000000 in
set_option maxRecDepth 100000 in
theorem kX8_takes {p : Program} {l : Launch} {e : Env} {R : Room} {s : State} {m : MethodId} {args : Array Value} {below : List Frame} {meth : Method} {c : Code} {H : Heap} {locs : List Loc} {cells slots : Nat} {Q : State → Prop} {cc : ByteArray} {nL : Nat} {Ts : List Cond} {own : String} {index pc : Nat} {ls : Array Slot} {rest : List Value} {D : va_G} {y : Y3} {mo : Nat → Nat} {μ : Sg} {x1 : Int32} {x2 : Int32} {A0 : Nat → Prop} {H0 : Heap} (hF : CallFix p m c cc nL s args Ts own) (cw : CallW R s args own RX8 index yX8_takes cX8_takes 5 (some .int) wsX8_takes ({ frames := 3, cells := 0, slots := 0, locals := 69 } : Room) 0 0 2) (hC : CK D y s) (hMo : MoH D y mo μ H) (hi : moI mo) (hInv : InvM μ) (hS : va_S A0 H0 H locs) (hA : ∀ q, (moA mo) q → A0 q) (hsz : ls.size = nL) (hW : (rest.map fun v => v.category).sum ≤ 8) (hdg : decode cc pc = .ok (.invokevirtual index, 3)) (hf : cells ≤ R.cells ∧ slots ≤ R.slots)
    (k : ∀ (H1 : Heap) (locs1 : List Loc), MoH D y mo (zX8_takes μ x1 x2).2 H1 → H.size ≤ H1.size → (∀ q : Nat, q < H.size → ¬ (moA mo) q → H1[q]? = H[q]?) → va_S A0 H0 H1 locs1 → W p l e R s m args below meth c H1 locs1 cells slots Q (F0 m (pc + 3) ls (.int ((zX8_takes μ x1 x2).1) :: rest))) : W p l e R s m args below meth c H locs cells slots Q (F0 m pc ls (.int x2 :: .int x1 :: .ref (mo 0) :: rest)) := by
  refine va_calli (va_runV (As := [.int x1, .int x2]) (rest := rest) hF (mX8_takes l D y mo μ x1 x2) cw ⟨fun a U g mk q => by obtain ⟨q0, q1, q2, q3, q4⟩ := q; exact ⟨q0, q1.call g mk a, q2, q3, q4⟩, va_recv hC.1 hMo (ci := 8) (q0 := 0) rfl rfl, fun U hU hW => ⟨rfl, hC.warm hW, by rw [hU]; exact hMo, hi, hInv⟩⟩ rfl rfl hsz rfl (lv_room hW) hdg ⟨hf.1, hf.2⟩) hS (fun q _ h => hA q h) hA (fun r u t H1 locs1 ht hvm hp hB hz1 hk1 hS1 => ?_)
  obtain ⟨hp1, hp2⟩ := hp
  subst hp1; subst hp2
  rw [ht] at hB
  exact k H1 locs1 hB hz1 hk1 hS1
def zX8_goes (μ : Sg) (x1 : Int32) (x2 : Int32) : Int32 × Sg := if (zX8_isHelper μ x1) = 0 then ((-1), μ)
  else (if (zX8_isLocker μ x2) = 0 then ((-1), μ)
    else (if (zX8_isUnderWay μ x1) = 0 then (if (zX8_ofHelper μ x1 1) = x2 then ((-2), μ)
        else ((zX8_ofHelper (zX8_setHelper (zX8_setHelper μ x1 2 ((μ 0 4) + (zX8_way μ (zX8_ofHelper μ x1 1) x2))) x1 1 x2) x1 2), (zX8_setHelper (zX8_setHelper μ x1 2 ((μ 0 4) + (zX8_way μ (zX8_ofHelper μ x1 1) x2))) x1 1 x2)))
      else ((-2), μ)))
theorem iwX8_goes_X8 : ∀ w ∈ wsX80, w ∈ wsX8_goes := fun _ h => List.mem_cons_of_mem _ (List.mem_append_right _ h)
theorem hdX8_goes : yX8_goes.cls = RX8 ∧ yX8_goes.cls ≠ "java/lang/invoke/MethodHandle" ∧ yX8_goes.cls ≠ "java/lang/invoke/VarHandle" ∧ (parseMethodDescriptor yX8_goes.desc).map (fun d => d.parameters.length) = some 2 := by decide +kernel
set_option maxHeartbeats 4000000 in
set_option maxRecDepth 100000 in
theorem mX8_goes (l : Launch) (D : va_G) (y : Y3) (mo : Nat → Nat) (μ : Sg) (x1 : Int32) (x2 : Int32) : Met l yX8_goes wsX8_goes ({ frames := 2, cells := 0, slots := 0, locals := 43 } : Room) (va_Pc [.ref (mo 0), .int x1, .int x2] (fun U => CK D y U ∧ MoH D y mo μ U.heap ∧ moI mo ∧ InvM μ)) (va_Qi (fun (r : Int32) (u : Sg) => r = (zX8_goes μ x1 x2).1 ∧ u = (zX8_goes μ x1 x2).2) (fun u t => MoH D y mo u t.heap) (moA mo)) 0 0 (moA mo) := by
  refine Met.ofW (cc := cX8_goes) (maxL := 3) (ret := (some .int)) (by decide) rfl ?_
  intro p e s m args below meth c s₁ B hml hv
  obtain ⟨rfl, hC, hMo, hi, hInv⟩ := hv
  have hx := B.exec
  have hb := B.bytes
  have hr := B.returns
  have hts := atoms_spec (ws := wsX8_goes) B.pre
  have hown : s.vm.findClass RX8 = some m.cls := findClass_of_methodNamed B.named
  have hlocks := B.notSynchronized
  have hF := (⟨hx, hb, hml, hown, hts⟩ : CallFix p m c cX8_goes 3 s _ wsX8_goes RX8)
  have hS : va_S (moA mo) s.heap s.heap [] := va_S.rf
  have hl := lv_entry ([.ref (mo 0), .int x1, .int x2]) (n := 3) (Nat.le_of_ble_eq_true rfl)
  rw [lg_entry_eq]
  generalize (lg_sl ([.ref (mo 0), .int x1, .int x2]) ++ List.replicate (3 - (lg_sl ([.ref (mo 0), .int x1, .int x2])).length) Slot.unset).toArray = ls at hl ⊢
  have hl : lv_has ls 3 [(0, .ref (mo 0)), (1, .int x1), (2, .int x2)] := hl
  refine lv_aload_n hx hb dX8_goes_0 rfl (lv_at hl 0 rfl) ?_
  refine lv_iload_n hx hb dX8_goes_1 rfl (lv_at hl 1 rfl) ?_
  refine kX8_isHelper hF (cwV 1 hts gX8_goes_X8_isHelper rfl rfl rfl hdX8_isHelper ⟨Nat.le_of_ble_eq_true rfl, Nat.le_of_ble_eq_true rfl⟩) hC hMo  hl.1 (Nat.le_of_ble_eq_true rfl) dX8_goes_2 ⟨Nat.zero_le _, Nat.zero_le _⟩ ?_
  refine lv_if_eq (tgt := 16) hx hb dX8_goes_5 (by decide) (fun c_1 => ?_) (fun c_1 => ?_)
  · refine lv_iconst (v := (-1)) hx hb dX8_goes_16 (by decide) ?_
    exact W.iret (v := (-1)) hx hb hr (fun t ht hW => ⟨⟨(-1), μ, rfl, ⟨(by unfold zX8_goes; rw [if_pos c_1]), (by unfold zX8_goes; rw [if_pos c_1])⟩, by dsimp only; rw [ht]; exact hMo⟩, hS.F ht⟩) hS.2.2 dX8_goes_17
  · have f_2 : rg x1 3 := rg_isH hInv c_1
    refine lv_aload_n hx hb dX8_goes_8 rfl (lv_at hl 0 rfl) ?_
    refine lv_iload_n hx hb dX8_goes_9 rfl (lv_at hl 2 rfl) ?_
    refine kX8_isLocker hF (cwV 1 hts gX8_goes_X8_isLocker rfl rfl rfl hdX8_isLocker ⟨Nat.le_of_ble_eq_true rfl, Nat.le_of_ble_eq_true rfl⟩) hC hMo  hl.1 (Nat.le_of_ble_eq_true rfl) dX8_goes_10 ⟨Nat.zero_le _, Nat.zero_le _⟩ ?_
    refine lv_if_ne (tgt := 18) hx hb dX8_goes_13 (by decide) (fun c_3 => ?_) (fun c_3 => ?_)
    · have f_4 : rg x2 5 := rg_isL hInv c_3
      refine lv_aload_n hx hb dX8_goes_18 rfl (lv_at hl 0 rfl) ?_
      refine lv_iload_n hx hb dX8_goes_19 rfl (lv_at hl 1 rfl) ?_
      refine kX8_isUnderWay hF (cwV 1 hts gX8_goes_X8_isUnderWay rfl rfl rfl hdX8_isUnderWay ⟨Nat.le_of_ble_eq_true rfl, Nat.le_of_ble_eq_true rfl⟩) hC hMo f_2 hl.1 (Nat.le_of_ble_eq_true rfl) dX8_goes_20 ⟨Nat.zero_le _, Nat.zero_le _⟩ ?_
      refine lv_if_ne (tgt := 36) hx hb dX8_goes_23 (by decide) (fun c_5 => ?_) (fun c_5 => ?_)
      · refine lv_bipush (v := (-2)) hx hb dX8_goes_36 (by decide) ?_
        exact W.iret (v := (-2)) hx hb hr (fun t ht hW => ⟨⟨(-2), μ, rfl, ⟨(by unfold zX8_goes; rw [if_neg c_1, if_neg c_3, if_neg c_5]), (by unfold zX8_goes; rw [if_neg c_1, if_neg c_3, if_neg c_5])⟩, by dsimp only; rw [ht]; exact hMo⟩, hS.F ht⟩) hS.2.2 dX8_goes_38
      · refine lv_aload_n hx hb dX8_goes_26 rfl (lv_at hl 0 rfl) ?_
        refine lv_iload_n hx hb dX8_goes_27 rfl (lv_at hl 1 rfl) ?_
        refine lv_iconst (v := 1) hx hb dX8_goes_28 (by decide) ?_
        refine kX8_ofHelper hF (cwV 2 hts gX8_goes_X8_ofHelper rfl rfl rfl hdX8_ofHelper ⟨Nat.le_of_ble_eq_true rfl, Nat.le_of_ble_eq_true rfl⟩) hC hMo f_2 (by decide) hl.1 (Nat.le_of_ble_eq_true rfl) dX8_goes_29 ⟨Nat.zero_le _, Nat.zero_le _⟩ ?_
        have f_6 : rg (zX8_ofHelper μ x1 1) 5 := inv_at hInv f_2
        refine lv_iload_n hx hb dX8_goes_32 rfl (lv_at hl 2 rfl) ?_
        refine lv_icmp_ne (tgt := 39) hx hb dX8_goes_33 (by decide) (fun c_7 => ?_) (fun c_7 => ?_)
        · refine lv_aload_n hx hb dX8_goes_39 rfl (lv_at hl 0 rfl) ?_
          refine lv_iload_n hx hb dX8_goes_40 rfl (lv_at hl 1 rfl) ?_
          refine lv_iconst (v := 2) hx hb dX8_goes_41 (by decide) ?_
          refine lv_aload_n hx hb dX8_goes_42 rfl (lv_at hl 0 rfl) ?_
          refine va_get (D := D) (ci := 8) (v := .ref (mo 1)) (C := RX8) (T := TX8) (N := 10) hx hb hts iwX8_goes_X8 hown hC.1 hMo 0 rfl rfl 0 (by decide) (hts (.fieldLink RX8 7 "MealLockersModel" "s" "[I") (List.mem_of_getElem? (i := 1) rfl)) (fun _ h9 => h9) rfl dX8_goes_43 ?_
          refine lv_iconst (v := 4) hx hb dX8_goes_46 (by decide) ?_
          refine va_iald hx hb hC.1 hMo 1 0 rfl rfl (vpl (by decide)) dX8_goes_47 ?_
          rw [cl_4]
          refine lv_aload_n hx hb dX8_goes_48 rfl (lv_at hl 0 rfl) ?_
          refine lv_aload_n hx hb dX8_goes_49 rfl (lv_at hl 0 rfl) ?_
          refine lv_iload_n hx hb dX8_goes_50 rfl (lv_at hl 1 rfl) ?_
          refine lv_iconst (v := 1) hx hb dX8_goes_51 (by decide) ?_
          refine kX8_ofHelper hF (cwV 2 hts gX8_goes_X8_ofHelper rfl rfl rfl hdX8_ofHelper ⟨Nat.le_of_ble_eq_true rfl, Nat.le_of_ble_eq_true rfl⟩) hC hMo f_2 (by decide) hl.1 (Nat.le_of_ble_eq_true rfl) dX8_goes_52 ⟨Nat.zero_le _, Nat.zero_le _⟩ ?_
          have f_8 : rg (zX8_ofHelper μ x1 1) 5 := inv_at hInv f_2
          refine lv_iload_n hx hb dX8_goes_55 rfl (lv_at hl 2 rfl) ?_
          refine kX8_way hF (cwV 2 hts gX8_goes_X8_way rfl rfl rfl hdX8_way ⟨Nat.le_of_ble_eq_true rfl, Nat.le_of_ble_eq_true rfl⟩) hC hMo  hl.1 (Nat.le_of_ble_eq_true rfl) dX8_goes_56 ⟨Nat.zero_le _, Nat.zero_le _⟩ ?_
          refine lv_iadd hx hb dX8_goes_59 ?_
          refine kX8_setHelper hF (cwV 3 hts gX8_goes_X8_setHelper rfl rfl rfl hdX8_setHelper ⟨Nat.le_of_ble_eq_true rfl, Nat.le_of_ble_eq_true rfl⟩) hC hMo hi f_2 (by decide) hS (fun _ h => h) hl.1 (Nat.le_of_ble_eq_true rfl) dX8_goes_60 ⟨Nat.zero_le _, Nat.zero_le _⟩ (fun H locs hMo _ _ hS => ?_)
          have hInv := inv_setHelper hInv f_2 (w := 2) (v := ((μ 0 4) + (zX8_way μ (zX8_ofHelper μ x1 1) x2))) (by decide) (fun e => absurd e (by decide))
          refine lv_aload_n hx hb dX8_goes_63 rfl (lv_at hl 0 rfl) ?_
          refine lv_iload_n hx hb dX8_goes_64 rfl (lv_at hl 1 rfl) ?_
          refine lv_iconst (v := 1) hx hb dX8_goes_65 (by decide) ?_
          refine lv_iload_n hx hb dX8_goes_66 rfl (lv_at hl 2 rfl) ?_
          refine kX8_setHelper hF (cwV 3 hts gX8_goes_X8_setHelper rfl rfl rfl hdX8_setHelper ⟨Nat.le_of_ble_eq_true rfl, Nat.le_of_ble_eq_true rfl⟩) hC hMo hi f_2 (by decide) hS (fun _ h => h) hl.1 (Nat.le_of_ble_eq_true rfl) dX8_goes_67 ⟨Nat.zero_le _, Nat.zero_le _⟩ (fun H locs hMo _ _ hS => ?_)
          have hInv := inv_setHelper hInv f_2 (w := 1) (v := x2) (by decide) (fun _ => f_4)
          refine lv_aload_n hx hb dX8_goes_70 rfl (lv_at hl 0 rfl) ?_
          refine lv_iload_n hx hb dX8_goes_71 rfl (lv_at hl 1 rfl) ?_
          refine lv_iconst (v := 2) hx hb dX8_goes_72 (by decide) ?_
          refine kX8_ofHelper hF (cwV 2 hts gX8_goes_X8_ofHelper rfl rfl rfl hdX8_ofHelper ⟨Nat.le_of_ble_eq_true rfl, Nat.le_of_ble_eq_true rfl⟩) hC hMo f_2 (by decide) hl.1 (Nat.le_of_ble_eq_true rfl) dX8_goes_73 ⟨Nat.zero_le _, Nat.zero_le _⟩ ?_
          exact W.iret (v := (zX8_ofHelper (zX8_setHelper (zX8_setHelper μ x1 2 ((μ 0 4) + (zX8_way μ (zX8_ofHelper μ x1 1) x2))) x1 1 x2) x1 2)) hx hb hr (fun t ht hW => ⟨⟨(zX8_ofHelper (zX8_setHelper (zX8_setHelper μ x1 2 ((μ 0 4) + (zX8_way μ (zX8_ofHelper μ x1 1) x2))) x1 1 x2) x1 2), (zX8_setHelper (zX8_setHelper μ x1 2 ((μ 0 4) + (zX8_way μ (zX8_ofHelper μ x1 1) x2))) x1 1 x2), rfl, ⟨(by unfold zX8_goes; rw [if_neg c_1, if_neg c_3, if_pos c_5, if_neg c_7]), (by unfold zX8_goes; rw [if_neg c_1, if_neg c_3, if_pos c_5, if_neg c_7])⟩, by dsimp only; rw [ht]; exact hMo⟩, hS.F ht⟩) hS.2.2 dX8_goes_76
        · refine lv_bipush (v := (-2)) hx hb dX8_goes_36 (by decide) ?_
          exact W.iret (v := (-2)) hx hb hr (fun t ht hW => ⟨⟨(-2), μ, rfl, ⟨(by unfold zX8_goes; rw [if_neg c_1, if_neg c_3, if_pos c_5, if_pos c_7]), (by unfold zX8_goes; rw [if_neg c_1, if_neg c_3, if_pos c_5, if_pos c_7])⟩, by dsimp only; rw [ht]; exact hMo⟩, hS.F ht⟩) hS.2.2 dX8_goes_38
    · refine lv_iconst (v := (-1)) hx hb dX8_goes_16 (by decide) ?_
      exact W.iret (v := (-1)) hx hb hr (fun t ht hW => ⟨⟨(-1), μ, rfl, ⟨(by unfold zX8_goes; rw [if_neg c_1, if_pos c_3]), (by unfold zX8_goes; rw [if_neg c_1, if_pos c_3])⟩, by dsimp only; rw [ht]; exact hMo⟩, hS.F ht⟩) hS.2.2 dX8_goes_17
set_option maxHeartbeats 4000000 in
set_option maxRecDepth 100000 in
theorem kX8_goes {p : Program} {l : Launch} {e : Env} {R : Room} {s : State} {m : MethodId} {args : Array Value} {below : List Frame} {meth : Method} {c : Code} {H : Heap} {locs : List Loc} {cells slots : Nat} {Q : State → Prop} {cc : ByteArray} {nL : Nat} {Ts : List Cond} {own : String} {index pc : Nat} {ls : Array Slot} {rest : List Value} {D : va_G} {y : Y3} {mo : Nat → Nat} {μ : Sg} {x1 : Int32} {x2 : Int32} {A0 : Nat → Prop} {H0 : Heap} (hF : CallFix p m c cc nL s args Ts own) (cw : CallW R s args own RX8 index yX8_goes cX8_goes 3 (some .int) wsX8_goes ({ frames := 2, cells := 0, slots := 0, locals := 43 } : Room) 0 0 2) (hC : CK D y s) (hMo : MoH D y mo μ H) (hi : moI mo) (hInv : InvM μ) (hS : va_S A0 H0 H locs) (hA : ∀ q, (moA mo) q → A0 q) (hsz : ls.size = nL) (hW : (rest.map fun v => v.category).sum ≤ 8) (hdg : decode cc pc = .ok (.invokevirtual index, 3)) (hf : cells ≤ R.cells ∧ slots ≤ R.slots)
    (k : ∀ (H1 : Heap) (locs1 : List Loc), MoH D y mo (zX8_goes μ x1 x2).2 H1 → H.size ≤ H1.size → (∀ q : Nat, q < H.size → ¬ (moA mo) q → H1[q]? = H[q]?) → va_S A0 H0 H1 locs1 → W p l e R s m args below meth c H1 locs1 cells slots Q (F0 m (pc + 3) ls (.int ((zX8_goes μ x1 x2).1) :: rest))) : W p l e R s m args below meth c H locs cells slots Q (F0 m pc ls (.int x2 :: .int x1 :: .ref (mo 0) :: rest)) := by
  refine va_calli (va_runV (As := [.int x1, .int x2]) (rest := rest) hF (mX8_goes l D y mo μ x1 x2) cw ⟨fun a U g mk q => by obtain ⟨q0, q1, q2, q3, q4⟩ := q; exact ⟨q0, q1.call g mk a, q2, q3, q4⟩, va_recv hC.1 hMo (ci := 8) (q0 := 0) rfl rfl, fun U hU hW => ⟨rfl, hC.warm hW, by rw [hU]; exact hMo, hi, hInv⟩⟩ rfl rfl hsz rfl (lv_room hW) hdg ⟨hf.1, hf.2⟩) hS (fun q _ h => hA q h) hA (fun r u t H1 locs1 ht hvm hp hB hz1 hk1 hS1 => ?_)
  obtain ⟨hp1, hp2⟩ := hp
  subst hp1; subst hp2
  rw [ht] at hB
  exact k H1 locs1 hB hz1 hk1 hS1
def zX8_puts (μ : Sg) (x1 : Int32) : Int32 × Sg := if (zX8_isHelper μ x1) = 0 then ((-1), μ)
  else (if (zX8_isUnderWay μ x1) = 0 then (if (zX8_lays μ x1).1 = 0 then ((-2), (zX8_lays μ x1).2)
      else ((zX8_lays μ x1).1, (zX8_lays μ x1).2))
    else ((-2), μ))
theorem hdX8_puts : yX8_puts.cls = RX8 ∧ yX8_puts.cls ≠ "java/lang/invoke/MethodHandle" ∧ yX8_puts.cls ≠ "java/lang/invoke/VarHandle" ∧ (parseMethodDescriptor yX8_puts.desc).map (fun d => d.parameters.length) = some 1 := by decide +kernel
set_option maxHeartbeats 4000000 in
set_option maxRecDepth 100000 in
theorem mX8_puts (l : Launch) (D : va_G) (y : Y3) (mo : Nat → Nat) (μ : Sg) (x1 : Int32) : Met l yX8_puts wsX8_puts ({ frames := 5, cells := 0, slots := 0, locals := 114 } : Room) (va_Pc [.ref (mo 0), .int x1] (fun U => CK D y U ∧ MoH D y mo μ U.heap ∧ moI mo ∧ InvM μ)) (va_Qi (fun (r : Int32) (u : Sg) => r = (zX8_puts μ x1).1 ∧ u = (zX8_puts μ x1).2) (fun u t => MoH D y mo u t.heap) (moA mo)) 0 0 (moA mo) := by
  refine Met.ofW (cc := cX8_puts) (maxL := 3) (ret := (some .int)) (by decide) rfl ?_
  intro p e s m args below meth c s₁ B hml hv
  obtain ⟨rfl, hC, hMo, hi, hInv⟩ := hv
  have hx := B.exec
  have hb := B.bytes
  have hr := B.returns
  have hts := atoms_spec (ws := wsX8_puts) B.pre
  have hown : s.vm.findClass RX8 = some m.cls := findClass_of_methodNamed B.named
  have hlocks := B.notSynchronized
  have hF := (⟨hx, hb, hml, hown, hts⟩ : CallFix p m c cX8_puts 3 s _ wsX8_puts RX8)
  have hS : va_S (moA mo) s.heap s.heap [] := va_S.rf
  have hl := lv_entry ([.ref (mo 0), .int x1]) (n := 3) (Nat.le_of_ble_eq_true rfl)
  rw [lg_entry_eq]
  generalize (lg_sl ([.ref (mo 0), .int x1]) ++ List.replicate (3 - (lg_sl ([.ref (mo 0), .int x1])).length) Slot.unset).toArray = ls at hl ⊢
  have hl : lv_has ls 3 [(0, .ref (mo 0)), (1, .int x1)] := hl
  refine lv_aload_n hx hb dX8_puts_0 rfl (lv_at hl 0 rfl) ?_
  refine lv_iload_n hx hb dX8_puts_1 rfl (lv_at hl 1 rfl) ?_
  refine kX8_isHelper hF (cwV 1 hts gX8_puts_X8_isHelper rfl rfl rfl hdX8_isHelper ⟨Nat.le_of_ble_eq_true rfl, Nat.le_of_ble_eq_true rfl⟩) hC hMo  hl.1 (Nat.le_of_ble_eq_true rfl) dX8_puts_2 ⟨Nat.zero_le _, Nat.zero_le _⟩ ?_
  refine lv_if_ne (tgt := 10) hx hb dX8_puts_5 (by decide) (fun c_1 => ?_) (fun c_1 => ?_)
  · have f_2 : rg x1 3 := rg_isH hInv c_1
    refine lv_aload_n hx hb dX8_puts_10 rfl (lv_at hl 0 rfl) ?_
    refine lv_iload_n hx hb dX8_puts_11 rfl (lv_at hl 1 rfl) ?_
    refine kX8_isUnderWay hF (cwV 1 hts gX8_puts_X8_isUnderWay rfl rfl rfl hdX8_isUnderWay ⟨Nat.le_of_ble_eq_true rfl, Nat.le_of_ble_eq_true rfl⟩) hC hMo f_2 hl.1 (Nat.le_of_ble_eq_true rfl) dX8_puts_12 ⟨Nat.zero_le _, Nat.zero_le _⟩ ?_
    refine lv_if_eq (tgt := 22) hx hb dX8_puts_15 (by decide) (fun c_3 => ?_) (fun c_3 => ?_)
    · refine lv_aload_n hx hb dX8_puts_22 rfl (lv_at hl 0 rfl) ?_
      refine lv_iload_n hx hb dX8_puts_23 rfl (lv_at hl 1 rfl) ?_
      refine kX8_lays hF (cwV 1 hts gX8_puts_X8_lays rfl rfl rfl hdX8_lays ⟨Nat.le_of_ble_eq_true rfl, Nat.le_of_ble_eq_true rfl⟩) hC hMo hi hInv f_2 hS (fun _ h => h) hl.1 (Nat.le_of_ble_eq_true rfl) dX8_puts_24 ⟨Nat.zero_le _, Nat.zero_le _⟩ (fun H locs hMo _ _ hS => ?_)
      have hInv := (gdq_X8_lays hInv f_2).1
      refine lv_istore_n (lv' := [(2, .int ((zX8_lays μ x1).1)), (0, .ref (mo 0)), (1, .int x1)]) hx hb dX8_puts_27 rfl hl (by decide) rfl (fun ls hl => ?_)
      refine lv_iload_n hx hb dX8_puts_28 rfl (lv_at hl 0 rfl) ?_
      refine lv_if_ne (tgt := 37) hx hb dX8_puts_29 (by decide) (fun c_4 => ?_) (fun c_4 => ?_)
      · refine lv_iload_n hx hb dX8_puts_37 rfl (lv_at hl 0 rfl) ?_
        exact W.iret (v := (zX8_lays μ x1).1) hx hb hr (fun t ht hW => ⟨⟨(zX8_lays μ x1).1, (zX8_lays μ x1).2, rfl, ⟨(by unfold zX8_puts; rw [if_neg c_1, if_pos c_3, if_neg c_4]), (by unfold zX8_puts; rw [if_neg c_1, if_pos c_3, if_neg c_4])⟩, by dsimp only; rw [ht]; exact hMo⟩, hS.F ht⟩) hS.2.2 dX8_puts_38
      · refine lv_bipush (v := (-2)) hx hb dX8_puts_32 (by decide) ?_
        refine lv_goto (tgt := 38) hx hb dX8_puts_34 (by decide) ?_
        exact W.iret (v := (-2)) hx hb hr (fun t ht hW => ⟨⟨(-2), (zX8_lays μ x1).2, rfl, ⟨(by unfold zX8_puts; rw [if_neg c_1, if_pos c_3, if_pos c_4]), (by unfold zX8_puts; rw [if_neg c_1, if_pos c_3, if_pos c_4])⟩, by dsimp only; rw [ht]; exact hMo⟩, hS.F ht⟩) hS.2.2 dX8_puts_38
    · refine lv_iconst (v := 0) hx hb dX8_puts_18 (by decide) ?_
      refine lv_goto (tgt := 27) hx hb dX8_puts_19 (by decide) ?_
      refine lv_istore_n (lv' := [(2, .int 0), (0, .ref (mo 0)), (1, .int x1)]) hx hb dX8_puts_27 rfl hl (by decide) rfl (fun ls hl => ?_)
      refine lv_iload_n hx hb dX8_puts_28 rfl (lv_at hl 0 rfl) ?_
      refine lv_if_ne (tgt := 37) hx hb dX8_puts_29 (by decide) (fun c_5 => absurd c_5 (by decide)) (fun _ => ?_)
      refine lv_bipush (v := (-2)) hx hb dX8_puts_32 (by decide) ?_
      refine lv_goto (tgt := 38) hx hb dX8_puts_34 (by decide) ?_
      exact W.iret (v := (-2)) hx hb hr (fun t ht hW => ⟨⟨(-2), μ, rfl, ⟨(by unfold zX8_puts; rw [if_neg c_1, if_neg c_3]), (by unfold zX8_puts; rw [if_neg c_1, if_neg c_3])⟩, by dsimp only; rw [ht]; exact hMo⟩, hS.F ht⟩) hS.2.2 dX8_puts_38
  · refine lv_iconst (v := (-1)) hx hb dX8_puts_8 (by decide) ?_
    exact W.iret (v := (-1)) hx hb hr (fun t ht hW => ⟨⟨(-1), μ, rfl, ⟨(by unfold zX8_puts; rw [if_pos c_1]), (by unfold zX8_puts; rw [if_pos c_1])⟩, by dsimp only; rw [ht]; exact hMo⟩, hS.F ht⟩) hS.2.2 dX8_puts_9
set_option maxHeartbeats 4000000 in
set_option maxRecDepth 100000 in
theorem kX8_puts {p : Program} {l : Launch} {e : Env} {R : Room} {s : State} {m : MethodId} {args : Array Value} {below : List Frame} {meth : Method} {c : Code} {H : Heap} {locs : List Loc} {cells slots : Nat} {Q : State → Prop} {cc : ByteArray} {nL : Nat} {Ts : List Cond} {own : String} {index pc : Nat} {ls : Array Slot} {rest : List Value} {D : va_G} {y : Y3} {mo : Nat → Nat} {μ : Sg} {x1 : Int32} {A0 : Nat → Prop} {H0 : Heap} (hF : CallFix p m c cc nL s args Ts own) (cw : CallW R s args own RX8 index yX8_puts cX8_puts 3 (some .int) wsX8_puts ({ frames := 5, cells := 0, slots := 0, locals := 114 } : Room) 0 0 1) (hC : CK D y s) (hMo : MoH D y mo μ H) (hi : moI mo) (hInv : InvM μ) (hS : va_S A0 H0 H locs) (hA : ∀ q, (moA mo) q → A0 q) (hsz : ls.size = nL) (hW : (rest.map fun v => v.category).sum ≤ 8) (hdg : decode cc pc = .ok (.invokevirtual index, 3)) (hf : cells ≤ R.cells ∧ slots ≤ R.slots)
    (k : ∀ (H1 : Heap) (locs1 : List Loc), MoH D y mo (zX8_puts μ x1).2 H1 → H.size ≤ H1.size → (∀ q : Nat, q < H.size → ¬ (moA mo) q → H1[q]? = H[q]?) → va_S A0 H0 H1 locs1 → W p l e R s m args below meth c H1 locs1 cells slots Q (F0 m (pc + 3) ls (.int ((zX8_puts μ x1).1) :: rest))) : W p l e R s m args below meth c H locs cells slots Q (F0 m pc ls (.int x1 :: .ref (mo 0) :: rest)) := by
  refine va_calli (va_runV (As := [.int x1]) (rest := rest) hF (mX8_puts l D y mo μ x1) cw ⟨fun a U g mk q => by obtain ⟨q0, q1, q2, q3, q4⟩ := q; exact ⟨q0, q1.call g mk a, q2, q3, q4⟩, va_recv hC.1 hMo (ci := 8) (q0 := 0) rfl rfl, fun U hU hW => ⟨rfl, hC.warm hW, by rw [hU]; exact hMo, hi, hInv⟩⟩ rfl rfl hsz rfl (lv_room hW) hdg ⟨hf.1, hf.2⟩) hS (fun q _ h => hA q h) hA (fun r u t H1 locs1 ht hvm hp hB hz1 hk1 hS1 => ?_)
  obtain ⟨hp1, hp2⟩ := hp
  subst hp1; subst hp2
  rw [ht] at hB
  exact k H1 locs1 hB hz1 hk1 hS1
def zX8_lets (μ : Sg) (x1 : Int32) : Int32 × Sg := if (zX8_in x1 1 99) = 0 then ((-1), μ)
  else (if ((μ 0 4) + x1) ≤ 5000 then ((zX8_ones ((zX8_passes μ x1).1)), (zX8_passes μ x1).2)
    else ((-3), μ))
theorem iwX8_lets_X8 : ∀ w ∈ wsX80, w ∈ wsX8_lets := fun _ h => List.mem_cons_of_mem _ (List.mem_append_right _ h)
theorem hdX8_lets : yX8_lets.cls = RX8 ∧ yX8_lets.cls ≠ "java/lang/invoke/MethodHandle" ∧ yX8_lets.cls ≠ "java/lang/invoke/VarHandle" ∧ (parseMethodDescriptor yX8_lets.desc).map (fun d => d.parameters.length) = some 1 := by decide +kernel
set_option maxHeartbeats 4000000 in
set_option maxRecDepth 100000 in
theorem mX8_lets (l : Launch) (D : va_G) (y : Y3) (mo : Nat → Nat) (μ : Sg) (x1 : Int32) : Met l yX8_lets wsX8_lets ({ frames := 7, cells := 0, slots := 0, locals := 160 } : Room) (va_Pc [.ref (mo 0), .int x1] (fun U => CK D y U ∧ MoH D y mo μ U.heap ∧ moI mo ∧ InvM μ)) (va_Qi (fun (r : Int32) (u : Sg) => r = (zX8_lets μ x1).1 ∧ u = (zX8_lets μ x1).2) (fun u t => MoH D y mo u t.heap) (moA mo)) 0 0 (moA mo) := by
  refine Met.ofW (cc := cX8_lets) (maxL := 2) (ret := (some .int)) (by decide) rfl ?_
  intro p e s m args below meth c s₁ B hml hv
  obtain ⟨rfl, hC, hMo, hi, hInv⟩ := hv
  have hx := B.exec
  have hb := B.bytes
  have hr := B.returns
  have hts := atoms_spec (ws := wsX8_lets) B.pre
  have hown : s.vm.findClass RX8 = some m.cls := findClass_of_methodNamed B.named
  have hlocks := B.notSynchronized
  have hF := (⟨hx, hb, hml, hown, hts⟩ : CallFix p m c cX8_lets 2 s _ wsX8_lets RX8)
  have hS : va_S (moA mo) s.heap s.heap [] := va_S.rf
  have hl := lv_entry ([.ref (mo 0), .int x1]) (n := 2) (Nat.le_of_ble_eq_true rfl)
  rw [lg_entry_eq]
  generalize (lg_sl ([.ref (mo 0), .int x1]) ++ List.replicate (2 - (lg_sl ([.ref (mo 0), .int x1])).length) Slot.unset).toArray = ls at hl ⊢
  have hl : lv_has ls 2 [(0, .ref (mo 0)), (1, .int x1)] := hl
  refine lv_iload_n hx hb dX8_lets_0 rfl (lv_at hl 1 rfl) ?_
  refine lv_iconst (v := 1) hx hb dX8_lets_1 (by decide) ?_
  refine lv_bipush (v := 99) hx hb dX8_lets_2 (by decide) ?_
  refine kX8_in hF (cwS 3 hts gX8_lets_X8_in rfl rfl rfl (by decide +kernel) ⟨Nat.le_of_ble_eq_true rfl, Nat.le_of_ble_eq_true rfl⟩) hC hl.1 (Nat.le_of_ble_eq_true rfl) dX8_lets_4 ⟨Nat.zero_le _, Nat.zero_le _⟩ ?_
  refine lv_if_ne (tgt := 12) hx hb dX8_lets_7 (by decide) (fun c_1 => ?_) (fun c_1 => ?_)
  · refine lv_aload_n hx hb dX8_lets_12 rfl (lv_at hl 0 rfl) ?_
    refine va_get (D := D) (ci := 8) (v := .ref (mo 1)) (C := RX8) (T := TX8) (N := 10) hx hb hts iwX8_lets_X8 hown hC.1 hMo 0 rfl rfl 0 (by decide) (hts (.fieldLink RX8 7 "MealLockersModel" "s" "[I") (List.mem_of_getElem? (i := 1) rfl)) (fun _ h9 => h9) rfl dX8_lets_13 ?_
    refine lv_iconst (v := 4) hx hb dX8_lets_16 (by decide) ?_
    refine va_iald hx hb hC.1 hMo 1 0 rfl rfl (vpl (by decide)) dX8_lets_17 ?_
    rw [cl_4]
    refine lv_iload_n hx hb dX8_lets_18 rfl (lv_at hl 1 rfl) ?_
    refine lv_iadd hx hb dX8_lets_19 ?_
    refine lv_sipush (v := 5000) hx hb dX8_lets_20 (by decide) ?_
    refine lv_icmp_le (tgt := 31) hx hb dX8_lets_23 (by decide) (fun c_2 => ?_) (fun c_2 => ?_)
    · refine lv_aload_n hx hb dX8_lets_31 rfl (lv_at hl 0 rfl) ?_
      refine lv_iload_n hx hb dX8_lets_32 rfl (lv_at hl 1 rfl) ?_
      refine kX8_passes hF (cwV 1 hts gX8_lets_X8_passes rfl rfl rfl hdX8_passes ⟨Nat.le_of_ble_eq_true rfl, Nat.le_of_ble_eq_true rfl⟩) hC hMo hi hInv  hS (fun _ h => h) hl.1 (Nat.le_of_ble_eq_true rfl) dX8_lets_33 ⟨Nat.zero_le _, Nat.zero_le _⟩ (fun H locs hMo _ _ hS => ?_)
      have hInv := (gd_X8_passes hInv x1).1
      refine kX8_ones hF (cwS 1 hts gX8_lets_X8_ones rfl rfl rfl (by decide +kernel) ⟨Nat.le_of_ble_eq_true rfl, Nat.le_of_ble_eq_true rfl⟩) hC hl.1 (Nat.le_of_ble_eq_true rfl) dX8_lets_36 ⟨Nat.zero_le _, Nat.zero_le _⟩ ?_
      exact W.iret (v := (zX8_ones ((zX8_passes μ x1).1))) hx hb hr (fun t ht hW => ⟨⟨(zX8_ones ((zX8_passes μ x1).1)), (zX8_passes μ x1).2, rfl, ⟨(by unfold zX8_lets; rw [if_neg c_1, if_pos c_2]), (by unfold zX8_lets; rw [if_neg c_1, if_pos c_2])⟩, by dsimp only; rw [ht]; exact hMo⟩, hS.F ht⟩) hS.2.2 dX8_lets_39
    · refine lv_bipush (v := (-3)) hx hb dX8_lets_26 (by decide) ?_
      refine lv_goto (tgt := 39) hx hb dX8_lets_28 (by decide) ?_
      exact W.iret (v := (-3)) hx hb hr (fun t ht hW => ⟨⟨(-3), μ, rfl, ⟨(by unfold zX8_lets; rw [if_neg c_1, if_neg c_2]), (by unfold zX8_lets; rw [if_neg c_1, if_neg c_2])⟩, by dsimp only; rw [ht]; exact hMo⟩, hS.F ht⟩) hS.2.2 dX8_lets_39
  · refine lv_iconst (v := (-1)) hx hb dX8_lets_10 (by decide) ?_
    exact W.iret (v := (-1)) hx hb hr (fun t ht hW => ⟨⟨(-1), μ, rfl, ⟨(by unfold zX8_lets; rw [if_pos c_1]), (by unfold zX8_lets; rw [if_pos c_1])⟩, by dsimp only; rw [ht]; exact hMo⟩, hS.F ht⟩) hS.2.2 dX8_lets_11
set_option maxHeartbeats 4000000 in
set_option maxRecDepth 100000 in
theorem kX8_lets {p : Program} {l : Launch} {e : Env} {R : Room} {s : State} {m : MethodId} {args : Array Value} {below : List Frame} {meth : Method} {c : Code} {H : Heap} {locs : List Loc} {cells slots : Nat} {Q : State → Prop} {cc : ByteArray} {nL : Nat} {Ts : List Cond} {own : String} {index pc : Nat} {ls : Array Slot} {rest : List Value} {D : va_G} {y : Y3} {mo : Nat → Nat} {μ : Sg} {x1 : Int32} {A0 : Nat → Prop} {H0 : Heap} (hF : CallFix p m c cc nL s args Ts own) (cw : CallW R s args own RX8 index yX8_lets cX8_lets 2 (some .int) wsX8_lets ({ frames := 7, cells := 0, slots := 0, locals := 160 } : Room) 0 0 1) (hC : CK D y s) (hMo : MoH D y mo μ H) (hi : moI mo) (hInv : InvM μ) (hS : va_S A0 H0 H locs) (hA : ∀ q, (moA mo) q → A0 q) (hsz : ls.size = nL) (hW : (rest.map fun v => v.category).sum ≤ 8) (hdg : decode cc pc = .ok (.invokevirtual index, 3)) (hf : cells ≤ R.cells ∧ slots ≤ R.slots)
    (k : ∀ (H1 : Heap) (locs1 : List Loc), MoH D y mo (zX8_lets μ x1).2 H1 → H.size ≤ H1.size → (∀ q : Nat, q < H.size → ¬ (moA mo) q → H1[q]? = H[q]?) → va_S A0 H0 H1 locs1 → W p l e R s m args below meth c H1 locs1 cells slots Q (F0 m (pc + 3) ls (.int ((zX8_lets μ x1).1) :: rest))) : W p l e R s m args below meth c H locs cells slots Q (F0 m pc ls (.int x1 :: .ref (mo 0) :: rest)) := by
  refine va_calli (va_runV (As := [.int x1]) (rest := rest) hF (mX8_lets l D y mo μ x1) cw ⟨fun a U g mk q => by obtain ⟨q0, q1, q2, q3, q4⟩ := q; exact ⟨q0, q1.call g mk a, q2, q3, q4⟩, va_recv hC.1 hMo (ci := 8) (q0 := 0) rfl rfl, fun U hU hW => ⟨rfl, hC.warm hW, by rw [hU]; exact hMo, hi, hInv⟩⟩ rfl rfl hsz rfl (lv_room hW) hdg ⟨hf.1, hf.2⟩) hS (fun q _ h => hA q h) hA (fun r u t H1 locs1 ht hvm hp hB hz1 hk1 hS1 => ?_)
  obtain ⟨hp1, hp2⟩ := hp
  subst hp1; subst hp2
  rw [ht] at hB
  exact k H1 locs1 hB hz1 hk1 hS1
theorem gd_X8_takes {μ : Sg} (h : InvM μ) (x1 x2 : Int32) : Gd μ (zX8_takes μ x1 x2).2 := by
  unfold zX8_takes
  split
  · exact Gd.rf h
  · split
    · exact Gd.rf h
    · rename_i c1 c2
      have r1 := rg_isH h c1
      have r2 := rg_isM h c2
      have ra := inv_at h r1
      have main : Gd μ (zX8_moreOf (zX8_setMeal (zX8_setMeal μ x2 0 2) x2 7 x1) (zX8_ofHelper (zX8_setMeal (zX8_setMeal μ x2 0 2) x2 7 x1) x1 1) 6) := by
        have b := ((Gd.rf h).setMeal r2 (by decide) (v := 2) (w := 0) (fun _ => Or.inl (by decide)) (fun e => absurd e (by decide)) (fun e => absurd e (by decide))).setMeal r2 (w := 7) (v := x1) (by decide) (fun e => absurd e (by decide)) (fun e => absurd e (by decide)) (fun e => absurd e (by decide))
        exact b.moreOf (inv_at b.1 r1) (by decide)
      (repeat' split) <;> first | (with_reducible exact main) | (with_reducible exact Gd.rf h)
theorem gd_X8_goes {μ : Sg} (h : InvM μ) (x1 x2 : Int32) : Gd μ (zX8_goes μ x1 x2).2 := by
  unfold zX8_goes
  split
  · exact Gd.rf h
  · split
    · exact Gd.rf h
    · rename_i c1 c2
      have r1 := rg_isH h c1
      have r2 := rg_isL h c2
      have main : ∀ v, Gd μ (zX8_setHelper (zX8_setHelper μ x1 2 v) x1 1 x2) := fun v => ((Gd.rf h).setHelper r1 (w := 2) (by decide) (fun e => absurd e (by decide))).setHelper r1 (w := 1) (by decide) (fun _ => r2)
      (repeat' split) <;> first | (with_reducible exact main _) | (with_reducible exact Gd.rf h)
theorem gd_X8_puts {μ : Sg} (h : InvM μ) (x1 : Int32) : Gd μ (zX8_puts μ x1).2 := by
  unfold zX8_puts
  split
  · exact Gd.rf h
  · rename_i c1
    have main := gdq_X8_lays h (rg_isH h c1)
    (repeat' split) <;> first | (with_reducible exact main) | (with_reducible exact Gd.rf h)
theorem gd_X8_lets {μ : Sg} (h : InvM μ) (x1 : Int32) : Gd μ (zX8_lets μ x1).2 := by
  unfold zX8_lets
  have main := gd_X8_passes h x1
  (repeat' split) <;> first | (with_reducible exact main) | (with_reducible exact Gd.rf h)
theorem ne_of3 {x : Int32} (h : rg x 2) : (3 + x) ≠ 1 := by
  rcases rg_in01 h with rfl | rfl <;> decide
theorem low_9 {x : Int32} (h : rg x 2) : 4 ≤ (9 + x).toNatClampNeg ∧ (9 + x).toNatClampNeg < 52 := by
  rcases rg_in01 h with rfl | rfl <;> decide
theorem gd_X8_fetches {μ : Sg} (h : InvM μ) (x1 x2 x3 : Int32) : Gd μ (zX8_fetches μ x1 x2 x3).2 := by
  unfold zX8_fetches
  split
  · exact Gd.rf h
  · split
    · exact Gd.rf h
    · split
      · exact Gd.rf h
      · rename_i c1 c2 c3
        have r1 := rg_isL h c1
        have r3 : rg x3 2 := rg_in c3
        split
        · rename_i hi
          generalize hk : fstK (bX8_fetches μ x1 x2) 0 (μ 0 1).toNatClampNeg = i at hi ⊢
          have r := inv_m h hi
          have hs : zX8_ofMeal μ (nI i) 0 = 1 := fe_s1 (fstK_at hk (by omega))
          have rp := inv_who h r hs
          unfold zfe
          generalize zX8_ofMeal μ (nI i) 5 = q at rp ⊢
          exact ((((Gd.rf h).setMeal r (w := 0) (by decide) (fun _ => Or.inl (ne_of3 r3)) (fun e => absurd e (by decide)) (fun e => absurd e (by decide))).moreOf r1 (rg_45 r3)).low (low_9 r3).1 (low_9 r3).2).setPerson rp (by decide)
        · exact Gd.rf h
theorem Gd.setMeal1 {a μ : Sg} (g : Gd a μ) {x : Int32} (hx : rg x 24) (hp : rg (zX8_ofMeal μ x 5) 8) : Gd a (zX8_setMeal μ x 0 1) := by
  rw [ofMeal_n hx (by decide)] at hp
  have a1 := rg_lt (n := 24) hx
  refine ⟨?_, fun j hj => ?_, fun j hj => ?_⟩
  · rw [setMeal_n hx (by decide)]
    exact inv_upd g.1 (by omega) (fun m hm e => absurd e (by rw [cl_0]; omega)) (fun m hm e hv => by
      have : m = x.toNatClampNeg := by rw [cl_0] at e; omega
      subst this
      exact hp) (fun m hm e hs => absurd e (by rw [cl_0]; omega)) (fun k hk e => absurd e (by rw [cl_0]; omega))
  · rw [setMeal_n hx (by decide), m0_ne (by omega)]
    exact g.2.1 j hj
  · rw [setMeal_n hx (by decide)]
    exact (if_neg hj).trans (g.2.2 j hj)
theorem mU_comm {μ : Sg} {i j : Nat} {u v : Int32} (h : i ≠ j) : mU (mU μ 0 (upd (μ 0) i u)) 0 (upd ((mU μ 0 (upd (μ 0) i u)) 0) j v) = mU (mU μ 0 (upd (μ 0) j v)) 0 (upd ((mU μ 0 (upd (μ 0) j v)) 0) i u) := by
  funext k
  by_cases hk : k = 0
  · subst hk
    funext q
    show upd (upd (μ 0) i u) j v q = upd (upd (μ 0) j v) i u q
    unfold upd
    by_cases h1 : q = j
    · subst h1; rw [if_pos rfl, if_neg (fun e => h e.symm)]; rw [if_pos rfl]
    · rw [if_neg h1]
      by_cases h2 : q = i
      · rw [if_pos h2, if_pos h2]
      · rw [if_neg h2, if_neg h2, if_neg h1]
  · show (if k = 0 then _ else _) = (if k = 0 then _ else _)
    rw [if_neg hk, if_neg hk]
    show (if k = 0 then _ else _) = (if k = 0 then _ else _)
    rw [if_neg hk, if_neg hk]
theorem setMeal_comm {μ : Sg} {x w1 w2 u v : Int32} (hx : rg x 24) (h1 : rg w1 8) (h2 : rg w2 8) (h : w1.toNatClampNeg ≠ w2.toNatClampNeg) : zX8_setMeal (zX8_setMeal μ x w1 u) x w2 v = zX8_setMeal (zX8_setMeal μ x w2 v) x w1 u := by
  rw [setMeal_n hx h2, setMeal_n hx h1, setMeal_n hx h1, setMeal_n hx h2]
  exact mU_comm (by omega)
theorem ofMeal_same {μ : Sg} {x w v : Int32} (hx : rg x 24) (hw : rg w 8) : zX8_ofMeal (zX8_setMeal μ x w v) x w = v := by
  rw [setMeal_n hx hw, ofMeal_n hx hw]
  exact if_pos rfl
theorem ofMeal_ne {μ : Sg} {x w w2 v : Int32} (hx : rg x 24) (hw : rg w 8) (hw2 : rg w2 8) (h : w2.toNatClampNeg ≠ w.toNatClampNeg) : zX8_ofMeal (zX8_setMeal μ x w v) x w2 = zX8_ofMeal μ x w2 := by
  rw [setMeal_n hx hw, ofMeal_n hx hw2, ofMeal_n hx hw2]
  exact if_neg (by omega)
theorem gd_X8_reserves {μ : Sg} (h : InvM μ) (x1 x2 : Int32) : Gd μ (zX8_reserves μ x1 x2).2 := by
  unfold zX8_reserves
  split
  · exact Gd.rf h
  · split
    · exact Gd.rf h
    · rename_i c1 c2
      have r1 := rg_isP h c1
      have r2 := rg_isM h c2
      have main : ∀ c t, Gd μ (zX8_setMeal (zX8_setMeal (zX8_setMeal (zX8_setMeal μ x2 0 1) x2 4 c) x2 5 x1) x2 6 t) := fun c t => by
        have e : zX8_setMeal (zX8_setMeal (zX8_setMeal μ x2 0 1) x2 4 c) x2 5 x1 = zX8_setMeal (zX8_setMeal (zX8_setMeal μ x2 4 c) x2 5 x1) x2 0 1 := by
          rw [setMeal_comm (w1 := 0) (w2 := 4) r2 (by decide) (by decide) (by decide), setMeal_comm (w1 := 0) (w2 := 5) r2 (by decide) (by decide) (by decide)]
        rw [e]
        have g5 : Gd μ (zX8_setMeal (zX8_setMeal μ x2 4 c) x2 5 x1) := ((Gd.rf h).setMeal r2 (w := 4) (by decide) (fun e => absurd e (by decide)) (fun e => absurd e (by decide)) (fun e => absurd e (by decide))).setMeal r2 (w := 5) (by decide) (fun e => absurd e (by decide)) (fun e => absurd e (by decide)) (fun _ => Or.inl r1)
        have g0 := g5.setMeal1 r2 (by rw [ofMeal_same r2 (by decide)]; exact r1)
        exact g0.setMeal r2 (w := 6) (by decide) (fun e => absurd e (by decide)) (fun e => absurd e (by decide)) (fun e => absurd e (by decide))
      (repeat' split) <;> first | (with_reducible exact main _ _) | (with_reducible exact Gd.rf h)
