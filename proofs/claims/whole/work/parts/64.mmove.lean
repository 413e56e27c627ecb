def zX8_arrivingWith (μ : Sg) (x1 : Int32) (x2 : Int32) : Int32 := if (zX8_ofMeal μ x1 0) = 0 then (if (zX8_loss μ x1) = 2 then (if (zX8_ofLocker μ x2 1) = 1 then (if (zX8_freeCells μ x2) ≤ 0 then 0
        else (if ((zX8_ofMeal μ x1 2) - (2 * (zX8_way μ (zX8_ofMeal μ x1 1) x2))) ≤ 0 then 0
          else ((zX8_ofMeal μ x1 2) - (2 * (zX8_way μ (zX8_ofMeal μ x1 1) x2)))))
      else 0)
    else 0)
  else 0
theorem hdX8_arrivingWith : yX8_arrivingWith.cls = RX8 ∧ yX8_arrivingWith.cls ≠ "java/lang/invoke/MethodHandle" ∧ yX8_arrivingWith.cls ≠ "java/lang/invoke/VarHandle" ∧ (parseMethodDescriptor yX8_arrivingWith.desc).map (fun d => d.parameters.length) = some 2 := by decide +kernel
set_option maxHeartbeats 4000000 in
set_option maxRecDepth 100000 in
theorem mX8_arrivingWith (l : Launch) (D : va_G) (y : Y3) (mo : Nat → Nat) (μ : Sg) (x1 : Int32) (x2 : Int32) : Met l yX8_arrivingWith wsX8_arrivingWith ({ frames := 4, cells := 0, slots := 0, locals := 90 } : Room) (va_Pc [.ref (mo 0), .int x1, .int x2] (fun U => CK D y U ∧ MoH D y mo μ U.heap ∧ InvM μ ∧ rg x1 24 ∧ rg x2 5)) (vp_Si (fun r => r = zX8_arrivingWith μ x1 x2)) 0 0 (fun _ => False) := by
  refine Met.ofW (cc := cX8_arrivingWith) (maxL := 5) (ret := (some .int)) (by decide) rfl ?_
  intro p e s m args below meth c s₁ B hml hv
  obtain ⟨rfl, hC, hMo, hInv, r_x1, r_x2⟩ := hv
  have hx := B.exec
  have hb := B.bytes
  have hr := B.returns
  have hts := atoms_spec (ws := wsX8_arrivingWith) B.pre
  have hown : s.vm.findClass RX8 = some m.cls := findClass_of_methodNamed B.named
  have hlocks := B.notSynchronized
  have hF := (⟨hx, hb, hml, hown, hts⟩ : CallFix p m c cX8_arrivingWith 5 s _ wsX8_arrivingWith RX8)
  have hl := lv_entry ([.ref (mo 0), .int x1, .int x2]) (n := 5) (Nat.le_of_ble_eq_true rfl)
  rw [lg_entry_eq]
  generalize (lg_sl ([.ref (mo 0), .int x1, .int x2]) ++ List.replicate (5 - (lg_sl ([.ref (mo 0), .int x1, .int x2])).length) Slot.unset).toArray = ls at hl ⊢
  have hl : lv_has ls 5 [(0, .ref (mo 0)), (1, .int x1), (2, .int x2)] := hl
  refine lv_aload_n hx hb dX8_arrivingWith_0 rfl (lv_at hl 0 rfl) ?_
  refine lv_iload_n hx hb dX8_arrivingWith_1 rfl (lv_at hl 1 rfl) ?_
  refine lv_iconst (v := 0) hx hb dX8_arrivingWith_2 (by decide) ?_
  refine kX8_ofMeal hF (cwV 2 hts gX8_arrivingWith_X8_ofMeal rfl rfl rfl hdX8_ofMeal ⟨Nat.le_of_ble_eq_true rfl, Nat.le_of_ble_eq_true rfl⟩) hC hMo r_x1 (by decide) hl.1 (Nat.le_of_ble_eq_true rfl) dX8_arrivingWith_3 ⟨Nat.zero_le _, Nat.zero_le _⟩ ?_
  refine lv_if_ne (tgt := 40) hx hb dX8_arrivingWith_6 (by decide) (fun c_1 => ?_) (fun c_1 => ?_)
  · refine lv_iconst (v := 0) hx hb dX8_arrivingWith_40 (by decide) ?_
    refine lv_istore_n (lv' := [(3, .int 0), (0, .ref (mo 0)), (1, .int x1), (2, .int x2)]) hx hb dX8_arrivingWith_41 rfl hl (by decide) rfl (fun ls hl => ?_)
    refine lv_aload_n hx hb dX8_arrivingWith_42 rfl (lv_at hl 1 rfl) ?_
    refine lv_iload_n hx hb dX8_arrivingWith_43 rfl (lv_at hl 2 rfl) ?_
    refine lv_iconst (v := 2) hx hb dX8_arrivingWith_44 (by decide) ?_
    refine kX8_ofMeal hF (cwV 2 hts gX8_arrivingWith_X8_ofMeal rfl rfl rfl hdX8_ofMeal ⟨Nat.le_of_ble_eq_true rfl, Nat.le_of_ble_eq_true rfl⟩) hC hMo r_x1 (by decide) hl.1 (Nat.le_of_ble_eq_true rfl) dX8_arrivingWith_45 ⟨Nat.zero_le _, Nat.zero_le _⟩ ?_
    refine lv_iconst (v := 2) hx hb dX8_arrivingWith_48 (by decide) ?_
    refine lv_aload_n hx hb dX8_arrivingWith_49 rfl (lv_at hl 1 rfl) ?_
    refine lv_aload_n hx hb dX8_arrivingWith_50 rfl (lv_at hl 1 rfl) ?_
    refine lv_iload_n hx hb dX8_arrivingWith_51 rfl (lv_at hl 2 rfl) ?_
    refine lv_iconst (v := 1) hx hb dX8_arrivingWith_52 (by decide) ?_
    refine kX8_ofMeal hF (cwV 2 hts gX8_arrivingWith_X8_ofMeal rfl rfl rfl hdX8_ofMeal ⟨Nat.le_of_ble_eq_true rfl, Nat.le_of_ble_eq_true rfl⟩) hC hMo r_x1 (by decide) hl.1 (Nat.le_of_ble_eq_true rfl) dX8_arrivingWith_53 ⟨Nat.zero_le _, Nat.zero_le _⟩ ?_
    have f_2 : rg (zX8_ofMeal μ x1 1) 5 := inv_where hInv r_x1
    refine lv_iload_n hx hb dX8_arrivingWith_56 rfl (lv_at hl 3 rfl) ?_
    refine kX8_way hF (cwV 2 hts gX8_arrivingWith_X8_way rfl rfl rfl hdX8_way ⟨Nat.le_of_ble_eq_true rfl, Nat.le_of_ble_eq_true rfl⟩) hC hMo  hl.1 (Nat.le_of_ble_eq_true rfl) dX8_arrivingWith_57 ⟨Nat.zero_le _, Nat.zero_le _⟩ ?_
    refine lv_imul hx hb dX8_arrivingWith_60 ?_
    refine lv_isub hx hb dX8_arrivingWith_61 ?_
    refine lv_istore (lv' := [(4, .int ((zX8_ofMeal μ x1 2) - (2 * (zX8_way μ (zX8_ofMeal μ x1 1) x2)))), (3, .int 0), (0, .ref (mo 0)), (1, .int x1), (2, .int x2)]) hx hb dX8_arrivingWith_62 hl (by decide) rfl (fun ls hl => ?_)
    refine lv_iload_n hx hb dX8_arrivingWith_64 rfl (lv_at hl 1 rfl) ?_
    refine lv_if_eq (tgt := 78) hx hb dX8_arrivingWith_65 (by decide) (fun _ => ?_) (fun c_3 => absurd (by decide) c_3)
    refine lv_iconst (v := 0) hx hb dX8_arrivingWith_78 (by decide) ?_
    exact W.iret (v := 0) hx hb hr (fun t ht hW => ⟨0, rfl, (by unfold zX8_arrivingWith; rw [if_neg c_1]), ht⟩) (fun q hq => absurd hq List.not_mem_nil) dX8_arrivingWith_79
  · refine lv_aload_n hx hb dX8_arrivingWith_9 rfl (lv_at hl 0 rfl) ?_
    refine lv_iload_n hx hb dX8_arrivingWith_10 rfl (lv_at hl 1 rfl) ?_
    refine kX8_loss hF (cwV 1 hts gX8_arrivingWith_X8_loss rfl rfl rfl hdX8_loss ⟨Nat.le_of_ble_eq_true rfl, Nat.le_of_ble_eq_true rfl⟩) hC hMo hInv r_x1 hl.1 (Nat.le_of_ble_eq_true rfl) dX8_arrivingWith_11 ⟨Nat.zero_le _, Nat.zero_le _⟩ ?_
    refine lv_iconst (v := 2) hx hb dX8_arrivingWith_14 (by decide) ?_
    refine lv_icmp_ne (tgt := 40) hx hb dX8_arrivingWith_15 (by decide) (fun c_4 => ?_) (fun c_4 => ?_)
    · refine lv_iconst (v := 0) hx hb dX8_arrivingWith_40 (by decide) ?_
      refine lv_istore_n (lv' := [(3, .int 0), (0, .ref (mo 0)), (1, .int x1), (2, .int x2)]) hx hb dX8_arrivingWith_41 rfl hl (by decide) rfl (fun ls hl => ?_)
      refine lv_aload_n hx hb dX8_arrivingWith_42 rfl (lv_at hl 1 rfl) ?_
      refine lv_iload_n hx hb dX8_arrivingWith_43 rfl (lv_at hl 2 rfl) ?_
      refine lv_iconst (v := 2) hx hb dX8_arrivingWith_44 (by decide) ?_
      refine kX8_ofMeal hF (cwV 2 hts gX8_arrivingWith_X8_ofMeal rfl rfl rfl hdX8_ofMeal ⟨Nat.le_of_ble_eq_true rfl, Nat.le_of_ble_eq_true rfl⟩) hC hMo r_x1 (by decide) hl.1 (Nat.le_of_ble_eq_true rfl) dX8_arrivingWith_45 ⟨Nat.zero_le _, Nat.zero_le _⟩ ?_
      refine lv_iconst (v := 2) hx hb dX8_arrivingWith_48 (by decide) ?_
      refine lv_aload_n hx hb dX8_arrivingWith_49 rfl (lv_at hl 1 rfl) ?_
      refine lv_aload_n hx hb dX8_arrivingWith_50 rfl (lv_at hl 1 rfl) ?_
      refine lv_iload_n hx hb dX8_arrivingWith_51 rfl (lv_at hl 2 rfl) ?_
      refine lv_iconst (v := 1) hx hb dX8_arrivingWith_52 (by decide) ?_
      refine kX8_ofMeal hF (cwV 2 hts gX8_arrivingWith_X8_ofMeal rfl rfl rfl hdX8_ofMeal ⟨Nat.le_of_ble_eq_true rfl, Nat.le_of_ble_eq_true rfl⟩) hC hMo r_x1 (by decide) hl.1 (Nat.le_of_ble_eq_true rfl) dX8_arrivingWith_53 ⟨Nat.zero_le _, Nat.zero_le _⟩ ?_
      have f_5 : rg (zX8_ofMeal μ x1 1) 5 := inv_where hInv r_x1
      refine lv_iload_n hx hb dX8_arrivingWith_56 rfl (lv_at hl 3 rfl) ?_
      refine kX8_way hF (cwV 2 hts gX8_arrivingWith_X8_way rfl rfl rfl hdX8_way ⟨Nat.le_of_ble_eq_true rfl, Nat.le_of_ble_eq_true rfl⟩) hC hMo  hl.1 (Nat.le_of_ble_eq_true rfl) dX8_arrivingWith_57 ⟨Nat.zero_le _, Nat.zero_le _⟩ ?_
      refine lv_imul hx hb dX8_arrivingWith_60 ?_
      refine lv_isub hx hb dX8_arrivingWith_61 ?_
      refine lv_istore (lv' := [(4, .int ((zX8_ofMeal μ x1 2) - (2 * (zX8_way μ (zX8_ofMeal μ x1 1) x2)))), (3, .int 0), (0, .ref (mo 0)), (1, .int x1), (2, .int x2)]) hx hb dX8_arrivingWith_62 hl (by decide) rfl (fun ls hl => ?_)
      refine lv_iload_n hx hb dX8_arrivingWith_64 rfl (lv_at hl 1 rfl) ?_
      refine lv_if_eq (tgt := 78) hx hb dX8_arrivingWith_65 (by decide) (fun _ => ?_) (fun c_6 => absurd (by decide) c_6)
      refine lv_iconst (v := 0) hx hb dX8_arrivingWith_78 (by decide) ?_
      exact W.iret (v := 0) hx hb hr (fun t ht hW => ⟨0, rfl, (by unfold zX8_arrivingWith; rw [if_pos c_1, if_neg c_4]), ht⟩) (fun q hq => absurd hq List.not_mem_nil) dX8_arrivingWith_79
    · refine lv_aload_n hx hb dX8_arrivingWith_18 rfl (lv_at hl 0 rfl) ?_
      refine lv_iload_n hx hb dX8_arrivingWith_19 rfl (lv_at hl 2 rfl) ?_
      refine lv_iconst (v := 1) hx hb dX8_arrivingWith_20 (by decide) ?_
      refine kX8_ofLocker hF (cwV 2 hts gX8_arrivingWith_X8_ofLocker rfl rfl rfl hdX8_ofLocker ⟨Nat.le_of_ble_eq_true rfl, Nat.le_of_ble_eq_true rfl⟩) hC hMo r_x2 (by decide) hl.1 (Nat.le_of_ble_eq_true rfl) dX8_arrivingWith_21 ⟨Nat.zero_le _, Nat.zero_le _⟩ ?_
      refine lv_iconst (v := 1) hx hb dX8_arrivingWith_24 (by decide) ?_
      refine lv_icmp_ne (tgt := 40) hx hb dX8_arrivingWith_25 (by decide) (fun c_7 => ?_) (fun c_7 => ?_)
      · refine lv_iconst (v := 0) hx hb dX8_arrivingWith_40 (by decide) ?_
        refine lv_istore_n (lv' := [(3, .int 0), (0, .ref (mo 0)), (1, .int x1), (2, .int x2)]) hx hb dX8_arrivingWith_41 rfl hl (by decide) rfl (fun ls hl => ?_)
        refine lv_aload_n hx hb dX8_arrivingWith_42 rfl (lv_at hl 1 rfl) ?_
        refine lv_iload_n hx hb dX8_arrivingWith_43 rfl (lv_at hl 2 rfl) ?_
        refine lv_iconst (v := 2) hx hb dX8_arrivingWith_44 (by decide) ?_
        refine kX8_ofMeal hF (cwV 2 hts gX8_arrivingWith_X8_ofMeal rfl rfl rfl hdX8_ofMeal ⟨Nat.le_of_ble_eq_true rfl, Nat.le_of_ble_eq_true rfl⟩) hC hMo r_x1 (by decide) hl.1 (Nat.le_of_ble_eq_true rfl) dX8_arrivingWith_45 ⟨Nat.zero_le _, Nat.zero_le _⟩ ?_
        refine lv_iconst (v := 2) hx hb dX8_arrivingWith_48 (by decide) ?_
        refine lv_aload_n hx hb dX8_arrivingWith_49 rfl (lv_at hl 1 rfl) ?_
        refine lv_aload_n hx hb dX8_arrivingWith_50 rfl (lv_at hl 1 rfl) ?_
        refine lv_iload_n hx hb dX8_arrivingWith_51 rfl (lv_at hl 2 rfl) ?_
        refine lv_iconst (v := 1) hx hb dX8_arrivingWith_52 (by decide) ?_
        refine kX8_ofMeal hF (cwV 2 hts gX8_arrivingWith_X8_ofMeal rfl rfl rfl hdX8_ofMeal ⟨Nat.le_of_ble_eq_true rfl, Nat.le_of_ble_eq_true rfl⟩) hC hMo r_x1 (by decide) hl.1 (Nat.le_of_ble_eq_true rfl) dX8_arrivingWith_53 ⟨Nat.zero_le _, Nat.zero_le _⟩ ?_
        have f_8 : rg (zX8_ofMeal μ x1 1) 5 := inv_where hInv r_x1
        refine lv_iload_n hx hb dX8_arrivingWith_56 rfl (lv_at hl 3 rfl) ?_
        refine kX8_way hF (cwV 2 hts gX8_arrivingWith_X8_way rfl rfl rfl hdX8_way ⟨Nat.le_of_ble_eq_true rfl, Nat.le_of_ble_eq_true rfl⟩) hC hMo  hl.1 (Nat.le_of_ble_eq_true rfl) dX8_arrivingWith_57 ⟨Nat.zero_le _, Nat.zero_le _⟩ ?_
        refine lv_imul hx hb dX8_arrivingWith_60 ?_
        refine lv_isub hx hb dX8_arrivingWith_61 ?_
        refine lv_istore (lv' := [(4, .int ((zX8_ofMeal μ x1 2) - (2 * (zX8_way μ (zX8_ofMeal μ x1 1) x2)))), (3, .int 0), (0, .ref (mo 0)), (1, .int x1), (2, .int x2)]) hx hb dX8_arrivingWith_62 hl (by decide) rfl (fun ls hl => ?_)
        refine lv_iload_n hx hb dX8_arrivingWith_64 rfl (lv_at hl 1 rfl) ?_
        refine lv_if_eq (tgt := 78) hx hb dX8_arrivingWith_65 (by decide) (fun _ => ?_) (fun c_9 => absurd (by decide) c_9)
        refine lv_iconst (v := 0) hx hb dX8_arrivingWith_78 (by decide) ?_
        exact W.iret (v := 0) hx hb hr (fun t ht hW => ⟨0, rfl, (by unfold zX8_arrivingWith; rw [if_pos c_1, if_pos c_4, if_neg c_7]), ht⟩) (fun q hq => absurd hq List.not_mem_nil) dX8_arrivingWith_79
      · refine lv_aload_n hx hb dX8_arrivingWith_28 rfl (lv_at hl 0 rfl) ?_
        refine lv_iload_n hx hb dX8_arrivingWith_29 rfl (lv_at hl 2 rfl) ?_
        refine kX8_freeCells hF (cwV 1 hts gX8_arrivingWith_X8_freeCells rfl rfl rfl hdX8_freeCells ⟨Nat.le_of_ble_eq_true rfl, Nat.le_of_ble_eq_true rfl⟩) hC hMo hInv r_x2 hl.1 (Nat.le_of_ble_eq_true rfl) dX8_arrivingWith_30 ⟨Nat.zero_le _, Nat.zero_le _⟩ ?_
        refine lv_if_le (tgt := 40) hx hb dX8_arrivingWith_33 (by decide) (fun c_10 => ?_) (fun c_10 => ?_)
        · refine lv_iconst (v := 0) hx hb dX8_arrivingWith_40 (by decide) ?_
          refine lv_istore_n (lv' := [(3, .int 0), (0, .ref (mo 0)), (1, .int x1), (2, .int x2)]) hx hb dX8_arrivingWith_41 rfl hl (by decide) rfl (fun ls hl => ?_)
          refine lv_aload_n hx hb dX8_arrivingWith_42 rfl (lv_at hl 1 rfl) ?_
          refine lv_iload_n hx hb dX8_arrivingWith_43 rfl (lv_at hl 2 rfl) ?_
          refine lv_iconst (v := 2) hx hb dX8_arrivingWith_44 (by decide) ?_
          refine kX8_ofMeal hF (cwV 2 hts gX8_arrivingWith_X8_ofMeal rfl rfl rfl hdX8_ofMeal ⟨Nat.le_of_ble_eq_true rfl, Nat.le_of_ble_eq_true rfl⟩) hC hMo r_x1 (by decide) hl.1 (Nat.le_of_ble_eq_true rfl) dX8_arrivingWith_45 ⟨Nat.zero_le _, Nat.zero_le _⟩ ?_
          refine lv_iconst (v := 2) hx hb dX8_arrivingWith_48 (by decide) ?_
          refine lv_aload_n hx hb dX8_arrivingWith_49 rfl (lv_at hl 1 rfl) ?_
          refine lv_aload_n hx hb dX8_arrivingWith_50 rfl (lv_at hl 1 rfl) ?_
          refine lv_iload_n hx hb dX8_arrivingWith_51 rfl (lv_at hl 2 rfl) ?_
          refine lv_iconst (v := 1) hx hb dX8_arrivingWith_52 (by decide) ?_
          refine kX8_ofMeal hF (cwV 2 hts gX8_arrivingWith_X8_ofMeal rfl rfl rfl hdX8_ofMeal ⟨Nat.le_of_ble_eq_true rfl, Nat.le_of_ble_eq_true rfl⟩) hC hMo r_x1 (by decide) hl.1 (Nat.le_of_ble_eq_true rfl) dX8_arrivingWith_53 ⟨Nat.zero_le _, Nat.zero_le _⟩ ?_
          have f_11 : rg (zX8_ofMeal μ x1 1) 5 := inv_where hInv r_x1
          refine lv_iload_n hx hb dX8_arrivingWith_56 rfl (lv_at hl 3 rfl) ?_
          refine kX8_way hF (cwV 2 hts gX8_arrivingWith_X8_way rfl rfl rfl hdX8_way ⟨Nat.le_of_ble_eq_true rfl, Nat.le_of_ble_eq_true rfl⟩) hC hMo  hl.1 (Nat.le_of_ble_eq_true rfl) dX8_arrivingWith_57 ⟨Nat.zero_le _, Nat.zero_le _⟩ ?_
          refine lv_imul hx hb dX8_arrivingWith_60 ?_
          refine lv_isub hx hb dX8_arrivingWith_61 ?_
          refine lv_istore (lv' := [(4, .int ((zX8_ofMeal μ x1 2) - (2 * (zX8_way μ (zX8_ofMeal μ x1 1) x2)))), (3, .int 0), (0, .ref (mo 0)), (1, .int x1), (2, .int x2)]) hx hb dX8_arrivingWith_62 hl (by decide) rfl (fun ls hl => ?_)
          refine lv_iload_n hx hb dX8_arrivingWith_64 rfl (lv_at hl 1 rfl) ?_
          refine lv_if_eq (tgt := 78) hx hb dX8_arrivingWith_65 (by decide) (fun _ => ?_) (fun c_12 => absurd (by decide) c_12)
          refine lv_iconst (v := 0) hx hb dX8_arrivingWith_78 (by decide) ?_
          exact W.iret (v := 0) hx hb hr (fun t ht hW => ⟨0, rfl, (by unfold zX8_arrivingWith; rw [if_pos c_1, if_pos c_4, if_pos c_7, if_pos c_10]), ht⟩) (fun q hq => absurd hq List.not_mem_nil) dX8_arrivingWith_79
        · refine lv_iconst (v := 1) hx hb dX8_arrivingWith_36 (by decide) ?_
          refine lv_goto (tgt := 41) hx hb dX8_arrivingWith_37 (by decide) ?_
          refine lv_istore_n (lv' := [(3, .int 1), (0, .ref (mo 0)), (1, .int x1), (2, .int x2)]) hx hb dX8_arrivingWith_41 rfl hl (by decide) rfl (fun ls hl => ?_)
          refine lv_aload_n hx hb dX8_arrivingWith_42 rfl (lv_at hl 1 rfl) ?_
          refine lv_iload_n hx hb dX8_arrivingWith_43 rfl (lv_at hl 2 rfl) ?_
          refine lv_iconst (v := 2) hx hb dX8_arrivingWith_44 (by decide) ?_
          refine kX8_ofMeal hF (cwV 2 hts gX8_arrivingWith_X8_ofMeal rfl rfl rfl hdX8_ofMeal ⟨Nat.le_of_ble_eq_true rfl, Nat.le_of_ble_eq_true rfl⟩) hC hMo r_x1 (by decide) hl.1 (Nat.le_of_ble_eq_true rfl) dX8_arrivingWith_45 ⟨Nat.zero_le _, Nat.zero_le _⟩ ?_
          refine lv_iconst (v := 2) hx hb dX8_arrivingWith_48 (by decide) ?_
          refine lv_aload_n hx hb dX8_arrivingWith_49 rfl (lv_at hl 1 rfl) ?_
          refine lv_aload_n hx hb dX8_arrivingWith_50 rfl (lv_at hl 1 rfl) ?_
          refine lv_iload_n hx hb dX8_arrivingWith_51 rfl (lv_at hl 2 rfl) ?_
          refine lv_iconst (v := 1) hx hb dX8_arrivingWith_52 (by decide) ?_
          refine kX8_ofMeal hF (cwV 2 hts gX8_arrivingWith_X8_ofMeal rfl rfl rfl hdX8_ofMeal ⟨Nat.le_of_ble_eq_true rfl, Nat.le_of_ble_eq_true rfl⟩) hC hMo r_x1 (by decide) hl.1 (Nat.le_of_ble_eq_true rfl) dX8_arrivingWith_53 ⟨Nat.zero_le _, Nat.zero_le _⟩ ?_
          have f_13 : rg (zX8_ofMeal μ x1 1) 5 := inv_where hInv r_x1
          refine lv_iload_n hx hb dX8_arrivingWith_56 rfl (lv_at hl 3 rfl) ?_
          refine kX8_way hF (cwV 2 hts gX8_arrivingWith_X8_way rfl rfl rfl hdX8_way ⟨Nat.le_of_ble_eq_true rfl, Nat.le_of_ble_eq_true rfl⟩) hC hMo  hl.1 (Nat.le_of_ble_eq_true rfl) dX8_arrivingWith_57 ⟨Nat.zero_le _, Nat.zero_le _⟩ ?_
          refine lv_imul hx hb dX8_arrivingWith_60 ?_
          refine lv_isub hx hb dX8_arrivingWith_61 ?_
          refine lv_istore (lv' := [(4, .int ((zX8_ofMeal μ x1 2) - (2 * (zX8_way μ (zX8_ofMeal μ x1 1) x2)))), (3, .int 1), (0, .ref (mo 0)), (1, .int x1), (2, .int x2)]) hx hb dX8_arrivingWith_62 hl (by decide) rfl (fun ls hl => ?_)
          refine lv_iload_n hx hb dX8_arrivingWith_64 rfl (lv_at hl 1 rfl) ?_
          refine lv_if_eq (tgt := 78) hx hb dX8_arrivingWith_65 (by decide) (fun c_14 => absurd c_14 (by decide)) (fun _ => ?_)
          refine lv_iload hx hb dX8_arrivingWith_68 (lv_at hl 0 rfl) ?_
          refine lv_if_le (tgt := 78) hx hb dX8_arrivingWith_70 (by decide) (fun c_15 => ?_) (fun c_15 => ?_)
          · refine lv_iconst (v := 0) hx hb dX8_arrivingWith_78 (by decide) ?_
            exact W.iret (v := 0) hx hb hr (fun t ht hW => ⟨0, rfl, (by unfold zX8_arrivingWith; rw [if_pos c_1, if_pos c_4, if_pos c_7, if_neg c_10, if_pos c_15]), ht⟩) (fun q hq => absurd hq List.not_mem_nil) dX8_arrivingWith_79
          · refine lv_iload hx hb dX8_arrivingWith_73 (lv_at hl 0 rfl) ?_
            refine lv_goto (tgt := 79) hx hb dX8_arrivingWith_75 (by decide) ?_
            exact W.iret (v := ((zX8_ofMeal μ x1 2) - (2 * (zX8_way μ (zX8_ofMeal μ x1 1) x2)))) hx hb hr (fun t ht hW => ⟨((zX8_ofMeal μ x1 2) - (2 * (zX8_way μ (zX8_ofMeal μ x1 1) x2))), rfl, (by unfold zX8_arrivingWith; rw [if_pos c_1, if_pos c_4, if_pos c_7, if_neg c_10, if_neg c_15]), ht⟩) (fun q hq => absurd hq List.not_mem_nil) dX8_arrivingWith_79
set_option maxHeartbeats 4000000 in
set_option maxRecDepth 100000 in
theorem kX8_arrivingWith {p : Program} {l : Launch} {e : Env} {R : Room} {s : State} {m : MethodId} {args : Array Value} {below : List Frame} {meth : Method} {c : Code} {H : Heap} {locs : List Loc} {cells slots : Nat} {Q : State → Prop} {cc : ByteArray} {nL : Nat} {Ts : List Cond} {own : String} {index pc : Nat} {ls : Array Slot} {rest : List Value} {D : va_G} {y : Y3} {mo : Nat → Nat} {μ : Sg} {x1 : Int32} {x2 : Int32} (hF : CallFix p m c cc nL s args Ts own) (cw : CallW R s args own RX8 index yX8_arrivingWith cX8_arrivingWith 5 (some .int) wsX8_arrivingWith ({ frames := 4, cells := 0, slots := 0, locals := 90 } : Room) 0 0 2) (hC : CK D y s) (hMo : MoH D y mo μ H) (hInv : InvM μ) (r_x1 : rg x1 24) (r_x2 : rg x2 5) (hsz : ls.size = nL) (hW : (rest.map fun v => v.category).sum ≤ 8) (hdg : decode cc pc = .ok (.invokevirtual index, 3)) (hf : cells ≤ R.cells ∧ slots ≤ R.slots)
    (k : W p l e R s m args below meth c H locs cells slots Q (F0 m (pc + 3) ls (.int (zX8_arrivingWith μ x1 x2) :: rest))) : W p l e R s m args below meth c H locs cells slots Q (F0 m pc ls (.int x2 :: .int x1 :: .ref (mo 0) :: rest)) := by
  refine vp_callSi (W.runV (As := [.int x1, .int x2]) (rest := rest) hF (mX8_arrivingWith l D y mo μ x1 x2) cw ⟨fun a U g mk q => by obtain ⟨q0, q1, q2, q3, q4, q5⟩ := q; exact ⟨q0, q1.call g mk a, q2, q3, q4, q5⟩, va_recv hC.1 hMo (ci := 8) (q0 := 0) rfl rfl, fun U hU hW => ⟨rfl, hC.warm hW, by rw [hU]; exact hMo, hInv, r_x1, r_x2⟩⟩ rfl rfl hsz rfl (lv_room hW) hdg ⟨hf.1, hf.2⟩) (fun r hr => ?_)
  subst hr
  exact k
theorem mv_ne {μ : Sg} {f : Nat → Int32 × Int32 → Int32 × Int32} (h : 0 ≤ (upTo f ((-1 : Int32), (0 : Int32)) ((μ 0 1) * (μ 0 0)).toNatClampNeg).1) : ¬ μ 0 0 = 0 := by
  intro e
  rw [e, Int32.mul_zero, cl_0] at h
  exact absurd (show (0 : Int32) ≤ -1 from h) (by decide)
def bX8_move (μ : Sg) (i : Nat) (v : Int32 × Int32) : Int32 × Int32 := if (zX8_arrivingWith μ ((nI i) / (μ 0 0)) ((nI i) - (nI i) / (μ 0 0) * (μ 0 0))) ≤ v.2 then (v.1, v.2)
  else ((nI i), (zX8_arrivingWith μ ((nI i) / (μ 0 0)) ((nI i) - (nI i) / (μ 0 0) * (μ 0 0))))
def zX8_move (μ : Sg) (x1 : Int32) : Int32 := if (zX8_in x1 0 2) = 0 then (-1)
  else (if 0 ≤ (upTo (bX8_move μ) ((-1 : Int32), (0 : Int32)) (((μ 0 1) * (μ 0 0)).toNatClampNeg)).1 then (if x1 = 0 then (((upTo (bX8_move μ) ((-1 : Int32), (0 : Int32)) (((μ 0 1) * (μ 0 0)).toNatClampNeg)).1) / (μ 0 0))
      else (if x1 = 1 then (((upTo (bX8_move μ) ((-1 : Int32), (0 : Int32)) (((μ 0 1) * (μ 0 0)).toNatClampNeg)).1) - ((upTo (bX8_move μ) ((-1 : Int32), (0 : Int32)) (((μ 0 1) * (μ 0 0)).toNatClampNeg)).1) / (μ 0 0) * (μ 0 0))
        else (upTo (bX8_move μ) ((-1 : Int32), (0 : Int32)) (((μ 0 1) * (μ 0 0)).toNatClampNeg)).2))
    else (-4))
theorem iwX8_move_X8 : ∀ w ∈ wsX80, w ∈ wsX8_move := fun _ h => List.mem_cons_of_mem _ (List.mem_append_right _ h)
theorem hdX8_move : yX8_move.cls = RX8 ∧ yX8_move.cls ≠ "java/lang/invoke/MethodHandle" ∧ yX8_move.cls ≠ "java/lang/invoke/VarHandle" ∧ (parseMethodDescriptor yX8_move.desc).map (fun d => d.parameters.length) = some 1 := by decide +kernel
set_option maxHeartbeats 4000000 in
set_option maxRecDepth 100000 in
theorem lpX8_move {p : Program} {l : Launch} {e : Env} {s : State} {m : MethodId} {args : Array Value} {below : List Frame} {meth : Method} {c : Code} {Q : State → Prop} {D : va_G} {y : Y3} {mo : Nat → Nat} {μ : Sg} {x1 : Int32} {H : Heap} {locs : List Loc} (hx : p.tables.exec = Jvm.exec) (hb : c.code = cX8_move) (hml : c.maxLocals = 6) (hown : s.vm.findClass RX8 = some m.cls) (hts : ∀ w ∈ wsX8_move, w.before args s = true) (hC : CK D y s) (hMo : MoH D y mo μ H) (hInv : InvM μ)
    (K : ∀ ls : Array Slot, lv_has ls 6 [(4, .int (nI ((μ 0 1) * (μ 0 0)).toNatClampNeg)), (2, .int ((upTo (bX8_move μ) ((-1 : Int32), (0 : Int32)) (((μ 0 1) * (μ 0 0)).toNatClampNeg)).1)), (3, .int ((upTo (bX8_move μ) ((-1 : Int32), (0 : Int32)) (((μ 0 1) * (μ 0 0)).toNatClampNeg)).2)), (0, .ref (mo 0)), (1, .int x1)] → W p l e (headSpec wsX8_move ({ frames := 5, cells := 0, slots := 0, locals := 114 } : Room)).room s m args below meth c H locs 0 0 Q (F0 m 92 ls [])) :
    ∀ (j i : Nat), i + j = ((μ 0 1) * (μ 0 0)).toNatClampNeg → ∀ ls : Array Slot, lv_has ls 6 [(4, .int (nI i)), (2, .int ((upTo (bX8_move μ) ((-1 : Int32), (0 : Int32)) i).1)), (3, .int ((upTo (bX8_move μ) ((-1 : Int32), (0 : Int32)) i).2)), (0, .ref (mo 0)), (1, .int x1)] → W p l e (headSpec wsX8_move ({ frames := 5, cells := 0, slots := 0, locals := 114 } : Room)).room s m args below meth c H locs 0 0 Q (F0 m 18 ls []) := by
  have hF := (⟨hx, hb, hml, hown, hts⟩ : CallFix p m c cX8_move 6 s args wsX8_move RX8)
  have hN := clamp_lt ((μ 0 1) * (μ 0 0))
  intro j
  induction j with
  | zero =>
    intro i hin ls hl
    obtain rfl : i = ((μ 0 1) * (μ 0 0)).toNatClampNeg := by omega
    refine lv_iload hx hb dX8_move_18 (lv_at hl 0 rfl) ?_
    refine lv_aload_n hx hb dX8_move_20 rfl (lv_at hl 3 rfl) ?_
    refine va_get (D := D) (ci := 8) (v := .ref (mo 1)) (C := RX8) (T := TX8) (N := 10) hx hb hts iwX8_move_X8 hown hC.1 hMo 0 rfl rfl 0 (by decide) (hts (.fieldLink RX8 7 "MealLockersModel" "s" "[I") (List.mem_of_getElem? (i := 1) rfl)) (fun _ h9 => h9) rfl dX8_move_21 ?_
    refine lv_iconst (v := 1) hx hb dX8_move_24 (by decide) ?_
    refine va_iald hx hb hC.1 hMo 1 0 rfl rfl (vpl (by decide)) dX8_move_25 ?_
    rw [cl_1]
    refine lv_aload_n hx hb dX8_move_26 rfl (lv_at hl 3 rfl) ?_
    refine va_get (D := D) (ci := 8) (v := .ref (mo 1)) (C := RX8) (T := TX8) (N := 10) hx hb hts iwX8_move_X8 hown hC.1 hMo 0 rfl rfl 0 (by decide) (hts (.fieldLink RX8 7 "MealLockersModel" "s" "[I") (List.mem_of_getElem? (i := 1) rfl)) (fun _ h9 => h9) rfl dX8_move_27 ?_
    refine lv_iconst (v := 0) hx hb dX8_move_30 (by decide) ?_
    refine va_iald hx hb hC.1 hMo 1 0 rfl rfl (vpl (by decide)) dX8_move_31 ?_
    rw [cl_0]
    refine lv_imul hx hb dX8_move_32 ?_
    refine lv_icmp_ge (tgt := 92) hx hb dX8_move_33 (by decide) (fun _ => ?_) (fun c_1 => absurd (up_le _) c_1)
    exact K ls (lv_sub hl [0, 1, 2, 3, 4] rfl)
  | succ j ih =>
    intro i hin ls hl
    obtain ⟨v, hv⟩ : ∃ v, v = (upTo (bX8_move μ) ((-1 : Int32), (0 : Int32)) i) := ⟨_, rfl⟩
    rw [← hv] at hl
    have hmv := mv_div hInv (i := i) (by omega)
    refine lv_iload hx hb dX8_move_18 (lv_at hl 0 rfl) ?_
    refine lv_aload_n hx hb dX8_move_20 rfl (lv_at hl 3 rfl) ?_
    refine va_get (D := D) (ci := 8) (v := .ref (mo 1)) (C := RX8) (T := TX8) (N := 10) hx hb hts iwX8_move_X8 hown hC.1 hMo 0 rfl rfl 0 (by decide) (hts (.fieldLink RX8 7 "MealLockersModel" "s" "[I") (List.mem_of_getElem? (i := 1) rfl)) (fun _ h9 => h9) rfl dX8_move_21 ?_
    refine lv_iconst (v := 1) hx hb dX8_move_24 (by decide) ?_
    refine va_iald hx hb hC.1 hMo 1 0 rfl rfl (vpl (by decide)) dX8_move_25 ?_
    rw [cl_1]
    refine lv_aload_n hx hb dX8_move_26 rfl (lv_at hl 3 rfl) ?_
    refine va_get (D := D) (ci := 8) (v := .ref (mo 1)) (C := RX8) (T := TX8) (N := 10) hx hb hts iwX8_move_X8 hown hC.1 hMo 0 rfl rfl 0 (by decide) (hts (.fieldLink RX8 7 "MealLockersModel" "s" "[I") (List.mem_of_getElem? (i := 1) rfl)) (fun _ h9 => h9) rfl dX8_move_27 ?_
    refine lv_iconst (v := 0) hx hb dX8_move_30 (by decide) ?_
    refine va_iald hx hb hC.1 hMo 1 0 rfl rfl (vpl (by decide)) dX8_move_31 ?_
    rw [cl_0]
    refine lv_imul hx hb dX8_move_32 ?_
    refine lv_icmp_ge (tgt := 92) hx hb dX8_move_33 (by decide) (fun c_2 => absurd c_2 (up_gt (by omega))) (fun _ => ?_)
    refine lv_aload_n hx hb dX8_move_36 rfl (lv_at hl 3 rfl) ?_
    refine lv_iload hx hb dX8_move_37 (lv_at hl 0 rfl) ?_
    refine lv_aload_n hx hb dX8_move_39 rfl (lv_at hl 3 rfl) ?_
    refine va_get (D := D) (ci := 8) (v := .ref (mo 1)) (C := RX8) (T := TX8) (N := 10) hx hb hts iwX8_move_X8 hown hC.1 hMo 0 rfl rfl 0 (by decide) (hts (.fieldLink RX8 7 "MealLockersModel" "s" "[I") (List.mem_of_getElem? (i := 1) rfl)) (fun _ h9 => h9) rfl dX8_move_40 ?_
    refine lv_iconst (v := 0) hx hb dX8_move_43 (by decide) ?_
    refine va_iald hx hb hC.1 hMo 1 0 rfl rfl (vpl (by decide)) dX8_move_44 ?_
    rw [cl_0]
    refine lv_idiv hx hb dX8_move_45 hmv.1 ?_
    refine lv_iload hx hb dX8_move_46 (lv_at hl 0 rfl) ?_
    refine lv_aload_n hx hb dX8_move_48 rfl (lv_at hl 3 rfl) ?_
    refine va_get (D := D) (ci := 8) (v := .ref (mo 1)) (C := RX8) (T := TX8) (N := 10) hx hb hts iwX8_move_X8 hown hC.1 hMo 0 rfl rfl 0 (by decide) (hts (.fieldLink RX8 7 "MealLockersModel" "s" "[I") (List.mem_of_getElem? (i := 1) rfl)) (fun _ h9 => h9) rfl dX8_move_49 ?_
    refine lv_iconst (v := 0) hx hb dX8_move_52 (by decide) ?_
    refine va_iald hx hb hC.1 hMo 1 0 rfl rfl (vpl (by decide)) dX8_move_53 ?_
    rw [cl_0]
    refine lv_irem hx hb dX8_move_54 hmv.1 ?_
    refine kX8_arrivingWith hF (cwV 2 hts gX8_move_X8_arrivingWith rfl rfl rfl hdX8_arrivingWith ⟨Nat.le_of_ble_eq_true rfl, Nat.le_of_ble_eq_true rfl⟩) hC hMo hInv hmv.2.1 hmv.2.2 hl.1 (Nat.le_of_ble_eq_true rfl) dX8_move_55 ⟨Nat.zero_le _, Nat.zero_le _⟩ ?_
    refine lv_istore (lv' := [(5, .int (zX8_arrivingWith μ ((nI i) / (μ 0 0)) ((nI i) - (nI i) / (μ 0 0) * (μ 0 0)))), (4, .int (nI i)), (2, .int v.1), (3, .int v.2), (0, .ref (mo 0)), (1, .int x1)]) hx hb dX8_move_58 hl (by decide) rfl (fun ls hl => ?_)
    refine lv_iload hx hb dX8_move_60 (lv_at hl 0 rfl) ?_
    refine lv_iload_n hx hb dX8_move_62 rfl (lv_at hl 3 rfl) ?_
    refine lv_icmp_le (tgt := 71) hx hb dX8_move_63 (by decide) (fun c_3 => ?_) (fun c_3 => ?_)
    · refine lv_iload_n hx hb dX8_move_71 rfl (lv_at hl 2 rfl) ?_
      refine lv_istore_n (lv' := [(2, .int v.1), (5, .int (zX8_arrivingWith μ ((nI i) / (μ 0 0)) ((nI i) - (nI i) / (μ 0 0) * (μ 0 0)))), (4, .int (nI i)), (3, .int v.2), (0, .ref (mo 0)), (1, .int x1)]) hx hb dX8_move_72 rfl hl (by decide) rfl (fun ls hl => ?_)
      refine lv_iload hx hb dX8_move_73 (lv_at hl 1 rfl) ?_
      refine lv_iload_n hx hb dX8_move_75 rfl (lv_at hl 3 rfl) ?_
      refine lv_icmp_le (tgt := 84) hx hb dX8_move_76 (by decide) (fun _ => ?_) (fun c_4 => absurd c_3 c_4)
      refine lv_iload_n hx hb dX8_move_84 rfl (lv_at hl 3 rfl) ?_
      refine lv_istore_n (lv' := [(3, .int v.2), (2, .int v.1), (5, .int (zX8_arrivingWith μ ((nI i) / (μ 0 0)) ((nI i) - (nI i) / (μ 0 0) * (μ 0 0)))), (4, .int (nI i)), (0, .ref (mo 0)), (1, .int x1)]) hx hb dX8_move_85 rfl hl (by decide) rfl (fun ls hl => ?_)
      refine lv_iinc (v := (nI (i + 1))) (lv' := [(4, .int (nI (i + 1))), (3, .int v.2), (2, .int v.1), (5, .int (zX8_arrivingWith μ ((nI i) / (μ 0 0)) ((nI i) - (nI i) / (μ 0 0) * (μ 0 0)))), (0, .ref (mo 0)), (1, .int x1)]) hx hb dX8_move_86 hl (k := 3) rfl (by rw [nI_succ]; rfl) (by decide) rfl (fun ls hl => ?_)
      refine lv_goto (tgt := 18) hx hb dX8_move_89 (by decide) ?_
      have e9 : (upTo (bX8_move μ) ((-1 : Int32), (0 : Int32)) (i + 1)) = (v.1, v.2) := by show bX8_move μ i (upTo (bX8_move μ) ((-1 : Int32), (0 : Int32)) i) = _; rw [← hv]; unfold bX8_move; rw [if_pos c_3]
      exact ih (i + 1) (by omega) ls (by rw [e9]; exact lv_sub hl [0, 2, 1, 4, 5] rfl)
    · refine lv_iload hx hb dX8_move_66 (lv_at hl 1 rfl) ?_
      refine lv_goto (tgt := 72) hx hb dX8_move_68 (by decide) ?_
      refine lv_istore_n (lv' := [(2, .int (nI i)), (5, .int (zX8_arrivingWith μ ((nI i) / (μ 0 0)) ((nI i) - (nI i) / (μ 0 0) * (μ 0 0)))), (4, .int (nI i)), (3, .int v.2), (0, .ref (mo 0)), (1, .int x1)]) hx hb dX8_move_72 rfl hl (by decide) rfl (fun ls hl => ?_)
      refine lv_iload hx hb dX8_move_73 (lv_at hl 1 rfl) ?_
      refine lv_iload_n hx hb dX8_move_75 rfl (lv_at hl 3 rfl) ?_
      refine lv_icmp_le (tgt := 84) hx hb dX8_move_76 (by decide) (fun c_5 => absurd c_5 c_3) (fun _ => ?_)
      refine lv_iload hx hb dX8_move_79 (lv_at hl 1 rfl) ?_
      refine lv_goto (tgt := 85) hx hb dX8_move_81 (by decide) ?_
      refine lv_istore_n (lv' := [(3, .int (zX8_arrivingWith μ ((nI i) / (μ 0 0)) ((nI i) - (nI i) / (μ 0 0) * (μ 0 0)))), (2, .int (nI i)), (5, .int (zX8_arrivingWith μ ((nI i) / (μ 0 0)) ((nI i) - (nI i) / (μ 0 0) * (μ 0 0)))), (4, .int (nI i)), (0, .ref (mo 0)), (1, .int x1)]) hx hb dX8_move_85 rfl hl (by decide) rfl (fun ls hl => ?_)
      refine lv_iinc (v := (nI (i + 1))) (lv' := [(4, .int (nI (i + 1))), (3, .int (zX8_arrivingWith μ ((nI i) / (μ 0 0)) ((nI i) - (nI i) / (μ 0 0) * (μ 0 0)))), (2, .int (nI i)), (5, .int (zX8_arrivingWith μ ((nI i) / (μ 0 0)) ((nI i) - (nI i) / (μ 0 0) * (μ 0 0)))), (0, .ref (mo 0)), (1, .int x1)]) hx hb dX8_move_86 hl (k := 3) rfl (by rw [nI_succ]; rfl) (by decide) rfl (fun ls hl => ?_)
      refine lv_goto (tgt := 18) hx hb dX8_move_89 (by decide) ?_
      have e9 : (upTo (bX8_move μ) ((-1 : Int32), (0 : Int32)) (i + 1)) = ((nI i), (zX8_arrivingWith μ ((nI i) / (μ 0 0)) ((nI i) - (nI i) / (μ 0 0) * (μ 0 0)))) := by show bX8_move μ i (upTo (bX8_move μ) ((-1 : Int32), (0 : Int32)) i) = _; rw [← hv]; unfold bX8_move; rw [if_neg c_3]
      exact ih (i + 1) (by omega) ls (by rw [e9]; exact lv_sub hl [0, 2, 1, 4, 5] rfl)
set_option maxHeartbeats 4000000 in
set_option maxRecDepth 100000 in
theorem mX8_move (l : Launch) (D : va_G) (y : Y3) (mo : Nat → Nat) (μ : Sg) (x1 : Int32) : Met l yX8_move wsX8_move ({ frames := 5, cells := 0, slots := 0, locals := 114 } : Room) (va_Pc [.ref (mo 0), .int x1] (fun U => CK D y U ∧ MoH D y mo μ U.heap ∧ InvM μ)) (vp_Si (fun r => r = zX8_move μ x1)) 0 0 (fun _ => False) := by
  refine Met.ofW (cc := cX8_move) (maxL := 6) (ret := (some .int)) (by decide) rfl ?_
  intro p e s m args below meth c s₁ B hml hv
  obtain ⟨rfl, hC, hMo, hInv⟩ := hv
  have hx := B.exec
  have hb := B.bytes
  have hr := B.returns
  have hts := atoms_spec (ws := wsX8_move) B.pre
  have hown : s.vm.findClass RX8 = some m.cls := findClass_of_methodNamed B.named
  have hlocks := B.notSynchronized
  have hF := (⟨hx, hb, hml, hown, hts⟩ : CallFix p m c cX8_move 6 s _ wsX8_move RX8)
  have hl := lv_entry ([.ref (mo 0), .int x1]) (n := 6) (Nat.le_of_ble_eq_true rfl)
  rw [lg_entry_eq]
  generalize (lg_sl ([.ref (mo 0), .int x1]) ++ List.replicate (6 - (lg_sl ([.ref (mo 0), .int x1])).length) Slot.unset).toArray = ls at hl ⊢
  have hl : lv_has ls 6 [(0, .ref (mo 0)), (1, .int x1)] := hl
  refine lv_iload_n hx hb dX8_move_0 rfl (lv_at hl 1 rfl) ?_
  refine lv_iconst (v := 0) hx hb dX8_move_1 (by decide) ?_
  refine lv_iconst (v := 2) hx hb dX8_move_2 (by decide) ?_
  refine kX8_in hF (cwS 3 hts gX8_move_X8_in rfl rfl rfl (by decide +kernel) ⟨Nat.le_of_ble_eq_true rfl, Nat.le_of_ble_eq_true rfl⟩) hC hl.1 (Nat.le_of_ble_eq_true rfl) dX8_move_3 ⟨Nat.zero_le _, Nat.zero_le _⟩ ?_
  refine lv_if_ne (tgt := 11) hx hb dX8_move_6 (by decide) (fun c_6 => ?_) (fun c_6 => ?_)
  · have f_7 : rg x1 3 := rg_in c_6
    refine lv_iconst (v := (-1)) hx hb dX8_move_11 (by decide) ?_
    refine lv_istore_n (lv' := [(2, .int (-1)), (0, .ref (mo 0)), (1, .int x1)]) hx hb dX8_move_12 rfl hl (by decide) rfl (fun ls hl => ?_)
    refine lv_iconst (v := 0) hx hb dX8_move_13 (by decide) ?_
    refine lv_istore_n (lv' := [(3, .int 0), (2, .int (-1)), (0, .ref (mo 0)), (1, .int x1)]) hx hb dX8_move_14 rfl hl (by decide) rfl (fun ls hl => ?_)
    refine lv_iconst (v := 0) hx hb dX8_move_15 (by decide) ?_
    refine lv_istore (lv' := [(4, .int 0), (3, .int 0), (2, .int (-1)), (0, .ref (mo 0)), (1, .int x1)]) hx hb dX8_move_16 hl (by decide) rfl (fun ls hl => ?_)
    refine lpX8_move hx hb hml hown hts hC hMo hInv (fun ls hl => ?_) _ 0 (Nat.zero_add _) ls (lv_sub hl [0, 2, 1, 3, 4] rfl)
    refine lv_iload_n hx hb dX8_move_92 rfl (lv_at hl 1 rfl) ?_
    refine lv_if_ge (tgt := 99) hx hb dX8_move_93 (by decide) (fun c_8 => ?_) (fun c_8 => ?_)
    · refine lv_iload_n hx hb dX8_move_99 rfl (lv_at hl 4 rfl) ?_
      refine lv_if_ne (tgt := 114) hx hb dX8_move_100 (by decide) (fun c_9 => ?_) (fun c_9 => ?_)
      · refine lv_iload_n hx hb dX8_move_114 rfl (lv_at hl 4 rfl) ?_
        refine lv_iconst (v := 1) hx hb dX8_move_115 (by decide) ?_
        refine lv_icmp_ne (tgt := 130) hx hb dX8_move_116 (by decide) (fun c_10 => ?_) (fun c_10 => ?_)
        · refine lv_iload_n hx hb dX8_move_130 rfl (lv_at hl 2 rfl) ?_
          exact W.iret (v := (upTo (bX8_move μ) ((-1 : Int32), (0 : Int32)) (((μ 0 1) * (μ 0 0)).toNatClampNeg)).2) hx hb hr (fun t ht hW => ⟨(upTo (bX8_move μ) ((-1 : Int32), (0 : Int32)) (((μ 0 1) * (μ 0 0)).toNatClampNeg)).2, rfl, (by unfold zX8_move; rw [if_neg c_6, if_pos c_8, if_neg c_9, if_neg c_10]), ht⟩) (fun q hq => absurd hq List.not_mem_nil) dX8_move_131
        · refine lv_iload_n hx hb dX8_move_119 rfl (lv_at hl 1 rfl) ?_
          refine lv_aload_n hx hb dX8_move_120 rfl (lv_at hl 3 rfl) ?_
          refine va_get (D := D) (ci := 8) (v := .ref (mo 1)) (C := RX8) (T := TX8) (N := 10) hx hb hts iwX8_move_X8 hown hC.1 hMo 0 rfl rfl 0 (by decide) (hts (.fieldLink RX8 7 "MealLockersModel" "s" "[I") (List.mem_of_getElem? (i := 1) rfl)) (fun _ h9 => h9) rfl dX8_move_121 ?_
          refine lv_iconst (v := 0) hx hb dX8_move_124 (by decide) ?_
          refine va_iald hx hb hC.1 hMo 1 0 rfl rfl (vpl (by decide)) dX8_move_125 ?_
          rw [cl_0]
          refine lv_irem hx hb dX8_move_126 (mv_ne c_8) ?_
          refine lv_goto (tgt := 131) hx hb dX8_move_127 (by decide) ?_
          exact W.iret (v := (((upTo (bX8_move μ) ((-1 : Int32), (0 : Int32)) (((μ 0 1) * (μ 0 0)).toNatClampNeg)).1) - ((upTo (bX8_move μ) ((-1 : Int32), (0 : Int32)) (((μ 0 1) * (μ 0 0)).toNatClampNeg)).1) / (μ 0 0) * (μ 0 0))) hx hb hr (fun t ht hW => ⟨(((upTo (bX8_move μ) ((-1 : Int32), (0 : Int32)) (((μ 0 1) * (μ 0 0)).toNatClampNeg)).1) - ((upTo (bX8_move μ) ((-1 : Int32), (0 : Int32)) (((μ 0 1) * (μ 0 0)).toNatClampNeg)).1) / (μ 0 0) * (μ 0 0)), rfl, (by unfold zX8_move; rw [if_neg c_6, if_pos c_8, if_neg c_9, if_pos c_10]), ht⟩) (fun q hq => absurd hq List.not_mem_nil) dX8_move_131
      · refine lv_iload_n hx hb dX8_move_103 rfl (lv_at hl 1 rfl) ?_
        refine lv_aload_n hx hb dX8_move_104 rfl (lv_at hl 3 rfl) ?_
        refine va_get (D := D) (ci := 8) (v := .ref (mo 1)) (C := RX8) (T := TX8) (N := 10) hx hb hts iwX8_move_X8 hown hC.1 hMo 0 rfl rfl 0 (by decide) (hts (.fieldLink RX8 7 "MealLockersModel" "s" "[I") (List.mem_of_getElem? (i := 1) rfl)) (fun _ h9 => h9) rfl dX8_move_105 ?_
        refine lv_iconst (v := 0) hx hb dX8_move_108 (by decide) ?_
        refine va_iald hx hb hC.1 hMo 1 0 rfl rfl (vpl (by decide)) dX8_move_109 ?_
        rw [cl_0]
        refine lv_idiv hx hb dX8_move_110 (mv_ne c_8) ?_
        refine lv_goto (tgt := 131) hx hb dX8_move_111 (by decide) ?_
        exact W.iret (v := (((upTo (bX8_move μ) ((-1 : Int32), (0 : Int32)) (((μ 0 1) * (μ 0 0)).toNatClampNeg)).1) / (μ 0 0))) hx hb hr (fun t ht hW => ⟨(((upTo (bX8_move μ) ((-1 : Int32), (0 : Int32)) (((μ 0 1) * (μ 0 0)).toNatClampNeg)).1) / (μ 0 0)), rfl, (by unfold zX8_move; rw [if_neg c_6, if_pos c_8, if_pos c_9]), ht⟩) (fun q hq => absurd hq List.not_mem_nil) dX8_move_131
    · refine lv_bipush (v := (-4)) hx hb dX8_move_96 (by decide) ?_
      exact W.iret (v := (-4)) hx hb hr (fun t ht hW => ⟨(-4), rfl, (by unfold zX8_move; rw [if_neg c_6, if_neg c_8]), ht⟩) (fun q hq => absurd hq List.not_mem_nil) dX8_move_98
  · refine lv_iconst (v := (-1)) hx hb dX8_move_9 (by decide) ?_
    exact W.iret (v := (-1)) hx hb hr (fun t ht hW => ⟨(-1), rfl, (by unfold zX8_move; rw [if_pos c_6]), ht⟩) (fun q hq => absurd hq List.not_mem_nil) dX8_move_10
set_option maxHeartbeats 4000000 in
set_option maxRecDepth 100000 in
theorem kX8_move {p : Program} {l : Launch} {e : Env} {R : Room} {s : State} {m : MethodId} {args : Array Value} {below : List Frame} {meth : Method} {c : Code} {H : Heap} {locs : List Loc} {cells slots : Nat} {Q : State → Prop} {cc : ByteArray} {nL : Nat} {Ts : List Cond} {own : String} {index pc : Nat} {ls : Array Slot} {rest : List Value} {D : va_G} {y : Y3} {mo : Nat → Nat} {μ : Sg} {x1 : Int32} (hF : CallFix p m c cc nL s args Ts own) (cw : CallW R s args own RX8 index yX8_move cX8_move 6 (some .int) wsX8_move ({ frames := 5, cells := 0, slots := 0, locals := 114 } : Room) 0 0 1) (hC : CK D y s) (hMo : MoH D y mo μ H) (hInv : InvM μ) (hsz : ls.size = nL) (hW : (rest.map fun v => v.category).sum ≤ 8) (hdg : decode cc pc = .ok (.invokevirtual index, 3)) (hf : cells ≤ R.cells ∧ slots ≤ R.slots)
    (k : W p l e R s m args below meth c H locs cells slots Q (F0 m (pc + 3) ls (.int (zX8_move μ x1) :: rest))) : W p l e R s m args below meth c H locs cells slots Q (F0 m pc ls (.int x1 :: .ref (mo 0) :: rest)) := by
  refine vp_callSi (W.runV (As := [.int x1]) (rest := rest) hF (mX8_move l D y mo μ x1) cw ⟨fun a U g mk q => by obtain ⟨q0, q1, q2, q3⟩ := q; exact ⟨q0, q1.call g mk a, q2, q3⟩, va_recv hC.1 hMo (ci := 8) (q0 := 0) rfl rfl, fun U hU hW => ⟨rfl, hC.warm hW, by rw [hU]; exact hMo, hInv⟩⟩ rfl rfl hsz rfl (lv_room hW) hdg ⟨hf.1, hf.2⟩) (fun r hr => ?_)
  subst hr
  exact k
