def zX8_called (μ : Sg) (x1 : Int32) (x2 : Int32) (x3 : Int32) : Int32 × Sg := if x1 = 102 then ((zX8_fetches μ x2 x3 0).1, (zX8_fetches μ x2 x3 0).2)
  else (if x1 = 103 then ((zX8_goes μ x2 x3).1, (zX8_goes μ x2 x3).2)
    else (if x1 = 104 then ((zX8_lets μ x2).1, (zX8_lets μ x2).2)
      else (if x1 = 105 then ((zX8_lets μ x2).1, (zX8_lets μ x2).2)
        else (if x1 = 106 then ((zX8_lets μ x2).1, (zX8_lets μ x2).2)
          else (if x1 = 107 then ((zX8_lets μ x2).1, (zX8_lets μ x2).2)
            else (if x1 = 108 then ((zX8_lets μ x2).1, (zX8_lets μ x2).2)
              else (if x1 = 109 then ((zX8_lets μ x2).1, (zX8_lets μ x2).2)
                else (if x1 = 110 then ((zX8_fetches μ x2 x3 1).1, (zX8_fetches μ x2 x3 1).2)
                  else (if x1 = 111 then ((zX8_lets μ x2).1, (zX8_lets μ x2).2)
                    else (if x1 = 112 then ((zX8_puts μ x2).1, (zX8_puts μ x2).2)
                      else (if x1 = 113 then ((zX8_lets μ x2).1, (zX8_lets μ x2).2)
                        else (if x1 = 114 then ((zX8_reserves μ x2 x3).1, (zX8_reserves μ x2 x3).2)
                          else (if x1 = 115 then ((zX8_lets μ x2).1, (zX8_lets μ x2).2)
                            else (if x1 = 116 then ((zX8_takes μ x2 x3).1, (zX8_takes μ x2 x3).2)
                              else ((zX8_lets μ x2).1, (zX8_lets μ x2).2)))))))))))))))
theorem hdX8_called : yX8_called.cls = RX8 ∧ yX8_called.cls ≠ "java/lang/invoke/MethodHandle" ∧ yX8_called.cls ≠ "java/lang/invoke/VarHandle" ∧ (parseMethodDescriptor yX8_called.desc).map (fun d => d.parameters.length) = some 3 := by decide +kernel
set_option maxHeartbeats 4000000 in
set_option maxRecDepth 100000 in
theorem mX8_called (l : Launch) (D : va_G) (y : Y3) (mo : Nat → Nat) (μ : Sg) (x1 : Int32) (x2 : Int32) (x3 : Int32) : Met l yX8_called wsX8_called ({ frames := 8, cells := 0, slots := 0, locals := 181 } : Room) (va_Pc [.ref (mo 0), .int x1, .int x2, .int x3] (fun U => CK D y U ∧ MoH D y mo μ U.heap ∧ moI mo ∧ InvM μ)) (va_Qi (fun (r : Int32) (u : Sg) => r = (zX8_called μ x1 x2 x3).1 ∧ u = (zX8_called μ x1 x2 x3).2) (fun u t => MoH D y mo u t.heap) (moA mo)) 0 0 (moA mo) := by
  refine Met.ofW (cc := cX8_called) (maxL := 4) (ret := (some .int)) (by decide) rfl ?_
  intro p e s m args below meth c s₁ B hml hv
  obtain ⟨rfl, hC, hMo, hi, hInv⟩ := hv
  have hx := B.exec
  have hb := B.bytes
  have hr := B.returns
  have hts := atoms_spec (ws := wsX8_called) B.pre
  have hown : s.vm.findClass RX8 = some m.cls := findClass_of_methodNamed B.named
  have hlocks := B.notSynchronized
  have hF := (⟨hx, hb, hml, hown, hts⟩ : CallFix p m c cX8_called 4 s _ wsX8_called RX8)
  have hS : va_S (moA mo) s.heap s.heap [] := va_S.rf
  have hl := lv_entry ([.ref (mo 0), .int x1, .int x2, .int x3]) (n := 4) (Nat.le_of_ble_eq_true rfl)
  rw [lg_entry_eq]
  generalize (lg_sl ([.ref (mo 0), .int x1, .int x2, .int x3]) ++ List.replicate (4 - (lg_sl ([.ref (mo 0), .int x1, .int x2, .int x3])).length) Slot.unset).toArray = ls at hl ⊢
  have hl : lv_has ls 4 [(0, .ref (mo 0)), (1, .int x1), (2, .int x2), (3, .int x3)] := hl
  refine lv_iload_n hx hb dX8_called_0 rfl (lv_at hl 1 rfl) ?_
  refine (Decidable.em (x1 = 102)).elim (fun c_1 => ?_) (fun c_1 => ?_)
  · refine lv_tableIn (off := 82) (tgt := 83) hx hb dX8_called_1 (by rw [c_1]; decide) (by rw [c_1]; decide) (by rw [c_1]; decide) (by decide) ?_
    refine lv_aload_n hx hb dX8_called_83 rfl (lv_at hl 0 rfl) ?_
    refine lv_iload_n hx hb dX8_called_84 rfl (lv_at hl 2 rfl) ?_
    refine lv_iload_n hx hb dX8_called_85 rfl (lv_at hl 3 rfl) ?_
    refine lv_iconst (v := 0) hx hb dX8_called_86 (by decide) ?_
    refine kX8_fetches hF (cwV 3 hts gX8_called_X8_fetches rfl rfl rfl hdX8_fetches ⟨Nat.le_of_ble_eq_true rfl, Nat.le_of_ble_eq_true rfl⟩) hC hMo hi hInv  hS (fun _ h => h) hl.1 (Nat.le_of_ble_eq_true rfl) dX8_called_87 ⟨Nat.zero_le _, Nat.zero_le _⟩ (fun H locs hMo _ _ hS => ?_)
    have hInv := (gd_X8_fetches hInv x2 x3 0).1
    exact W.iret (v := (zX8_fetches μ x2 x3 0).1) hx hb hr (fun t ht hW => ⟨⟨(zX8_fetches μ x2 x3 0).1, (zX8_fetches μ x2 x3 0).2, rfl, ⟨(by unfold zX8_called; rw [if_pos c_1]), (by unfold zX8_called; rw [if_pos c_1])⟩, by dsimp only; rw [ht]; exact hMo⟩, hS.F ht⟩) hS.2.2 dX8_called_90
  · refine (Decidable.em (x1 = 103)).elim (fun c_2 => ?_) (fun c_2 => ?_)
    · refine lv_tableIn (off := 105) (tgt := 106) hx hb dX8_called_1 (by rw [c_2]; decide) (by rw [c_2]; decide) (by rw [c_2]; decide) (by decide) ?_
      refine lv_aload_n hx hb dX8_called_106 rfl (lv_at hl 0 rfl) ?_
      refine lv_iload_n hx hb dX8_called_107 rfl (lv_at hl 2 rfl) ?_
      refine lv_iload_n hx hb dX8_called_108 rfl (lv_at hl 3 rfl) ?_
      refine kX8_goes hF (cwV 2 hts gX8_called_X8_goes rfl rfl rfl hdX8_goes ⟨Nat.le_of_ble_eq_true rfl, Nat.le_of_ble_eq_true rfl⟩) hC hMo hi hInv  hS (fun _ h => h) hl.1 (Nat.le_of_ble_eq_true rfl) dX8_called_109 ⟨Nat.zero_le _, Nat.zero_le _⟩ (fun H locs hMo _ _ hS => ?_)
      have hInv := (gd_X8_goes hInv x2 x3).1
      exact W.iret (v := (zX8_goes μ x2 x3).1) hx hb hr (fun t ht hW => ⟨⟨(zX8_goes μ x2 x3).1, (zX8_goes μ x2 x3).2, rfl, ⟨(by unfold zX8_called; rw [if_neg c_1, if_pos c_2]), (by unfold zX8_called; rw [if_neg c_1, if_pos c_2])⟩, by dsimp only; rw [ht]; exact hMo⟩, hS.F ht⟩) hS.2.2 dX8_called_112
    · refine (Decidable.em (x1 = 104)).elim (fun c_3 => ?_) (fun c_3 => ?_)
      · refine lv_tableIn (off := 118) (tgt := 119) hx hb dX8_called_1 (by rw [c_3]; decide) (by rw [c_3]; decide) (by rw [c_3]; decide) (by decide) ?_
        refine lv_aload_n hx hb dX8_called_119 rfl (lv_at hl 0 rfl) ?_
        refine lv_iload_n hx hb dX8_called_120 rfl (lv_at hl 2 rfl) ?_
        refine kX8_lets hF (cwV 1 hts gX8_called_X8_lets rfl rfl rfl hdX8_lets ⟨Nat.le_of_ble_eq_true rfl, Nat.le_of_ble_eq_true rfl⟩) hC hMo hi hInv  hS (fun _ h => h) hl.1 (Nat.le_of_ble_eq_true rfl) dX8_called_121 ⟨Nat.zero_le _, Nat.zero_le _⟩ (fun H locs hMo _ _ hS => ?_)
        have hInv := (gd_X8_lets hInv x2).1
        exact W.iret (v := (zX8_lets μ x2).1) hx hb hr (fun t ht hW => ⟨⟨(zX8_lets μ x2).1, (zX8_lets μ x2).2, rfl, ⟨(by unfold zX8_called; rw [if_neg c_1, if_neg c_2, if_pos c_3]), (by unfold zX8_called; rw [if_neg c_1, if_neg c_2, if_pos c_3])⟩, by dsimp only; rw [ht]; exact hMo⟩, hS.F ht⟩) hS.2.2 dX8_called_124
      · refine (Decidable.em (x1 = 105)).elim (fun c_4 => ?_) (fun c_4 => ?_)
        · refine lv_tableIn (off := 118) (tgt := 119) hx hb dX8_called_1 (by rw [c_4]; decide) (by rw [c_4]; decide) (by rw [c_4]; decide) (by decide) ?_
          refine lv_aload_n hx hb dX8_called_119 rfl (lv_at hl 0 rfl) ?_
          refine lv_iload_n hx hb dX8_called_120 rfl (lv_at hl 2 rfl) ?_
          refine kX8_lets hF (cwV 1 hts gX8_called_X8_lets rfl rfl rfl hdX8_lets ⟨Nat.le_of_ble_eq_true rfl, Nat.le_of_ble_eq_true rfl⟩) hC hMo hi hInv  hS (fun _ h => h) hl.1 (Nat.le_of_ble_eq_true rfl) dX8_called_121 ⟨Nat.zero_le _, Nat.zero_le _⟩ (fun H locs hMo _ _ hS => ?_)
          have hInv := (gd_X8_lets hInv x2).1
          exact W.iret (v := (zX8_lets μ x2).1) hx hb hr (fun t ht hW => ⟨⟨(zX8_lets μ x2).1, (zX8_lets μ x2).2, rfl, ⟨(by unfold zX8_called; rw [if_neg c_1, if_neg c_2, if_neg c_3, if_pos c_4]), (by unfold zX8_called; rw [if_neg c_1, if_neg c_2, if_neg c_3, if_pos c_4])⟩, by dsimp only; rw [ht]; exact hMo⟩, hS.F ht⟩) hS.2.2 dX8_called_124
        · refine (Decidable.em (x1 = 106)).elim (fun c_5 => ?_) (fun c_5 => ?_)
          · refine lv_tableIn (off := 118) (tgt := 119) hx hb dX8_called_1 (by rw [c_5]; decide) (by rw [c_5]; decide) (by rw [c_5]; decide) (by decide) ?_
            refine lv_aload_n hx hb dX8_called_119 rfl (lv_at hl 0 rfl) ?_
            refine lv_iload_n hx hb dX8_called_120 rfl (lv_at hl 2 rfl) ?_
            refine kX8_lets hF (cwV 1 hts gX8_called_X8_lets rfl rfl rfl hdX8_lets ⟨Nat.le_of_ble_eq_true rfl, Nat.le_of_ble_eq_true rfl⟩) hC hMo hi hInv  hS (fun _ h => h) hl.1 (Nat.le_of_ble_eq_true rfl) dX8_called_121 ⟨Nat.zero_le _, Nat.zero_le _⟩ (fun H locs hMo _ _ hS => ?_)
            have hInv := (gd_X8_lets hInv x2).1
            exact W.iret (v := (zX8_lets μ x2).1) hx hb hr (fun t ht hW => ⟨⟨(zX8_lets μ x2).1, (zX8_lets μ x2).2, rfl, ⟨(by unfold zX8_called; rw [if_neg c_1, if_neg c_2, if_neg c_3, if_neg c_4, if_pos c_5]), (by unfold zX8_called; rw [if_neg c_1, if_neg c_2, if_neg c_3, if_neg c_4, if_pos c_5])⟩, by dsimp only; rw [ht]; exact hMo⟩, hS.F ht⟩) hS.2.2 dX8_called_124
          · refine (Decidable.em (x1 = 107)).elim (fun c_6 => ?_) (fun c_6 => ?_)
            · refine lv_tableIn (off := 118) (tgt := 119) hx hb dX8_called_1 (by rw [c_6]; decide) (by rw [c_6]; decide) (by rw [c_6]; decide) (by decide) ?_
              refine lv_aload_n hx hb dX8_called_119 rfl (lv_at hl 0 rfl) ?_
              refine lv_iload_n hx hb dX8_called_120 rfl (lv_at hl 2 rfl) ?_
              refine kX8_lets hF (cwV 1 hts gX8_called_X8_lets rfl rfl rfl hdX8_lets ⟨Nat.le_of_ble_eq_true rfl, Nat.le_of_ble_eq_true rfl⟩) hC hMo hi hInv  hS (fun _ h => h) hl.1 (Nat.le_of_ble_eq_true rfl) dX8_called_121 ⟨Nat.zero_le _, Nat.zero_le _⟩ (fun H locs hMo _ _ hS => ?_)
              have hInv := (gd_X8_lets hInv x2).1
              exact W.iret (v := (zX8_lets μ x2).1) hx hb hr (fun t ht hW => ⟨⟨(zX8_lets μ x2).1, (zX8_lets μ x2).2, rfl, ⟨(by unfold zX8_called; rw [if_neg c_1, if_neg c_2, if_neg c_3, if_neg c_4, if_neg c_5, if_pos c_6]), (by unfold zX8_called; rw [if_neg c_1, if_neg c_2, if_neg c_3, if_neg c_4, if_neg c_5, if_pos c_6])⟩, by dsimp only; rw [ht]; exact hMo⟩, hS.F ht⟩) hS.2.2 dX8_called_124
            · refine (Decidable.em (x1 = 108)).elim (fun c_7 => ?_) (fun c_7 => ?_)
              · refine lv_tableIn (off := 118) (tgt := 119) hx hb dX8_called_1 (by rw [c_7]; decide) (by rw [c_7]; decide) (by rw [c_7]; decide) (by decide) ?_
                refine lv_aload_n hx hb dX8_called_119 rfl (lv_at hl 0 rfl) ?_
                refine lv_iload_n hx hb dX8_called_120 rfl (lv_at hl 2 rfl) ?_
                refine kX8_lets hF (cwV 1 hts gX8_called_X8_lets rfl rfl rfl hdX8_lets ⟨Nat.le_of_ble_eq_true rfl, Nat.le_of_ble_eq_true rfl⟩) hC hMo hi hInv  hS (fun _ h => h) hl.1 (Nat.le_of_ble_eq_true rfl) dX8_called_121 ⟨Nat.zero_le _, Nat.zero_le _⟩ (fun H locs hMo _ _ hS => ?_)
                have hInv := (gd_X8_lets hInv x2).1
                exact W.iret (v := (zX8_lets μ x2).1) hx hb hr (fun t ht hW => ⟨⟨(zX8_lets μ x2).1, (zX8_lets μ x2).2, rfl, ⟨(by unfold zX8_called; rw [if_neg c_1, if_neg c_2, if_neg c_3, if_neg c_4, if_neg c_5, if_neg c_6, if_pos c_7]), (by unfold zX8_called; rw [if_neg c_1, if_neg c_2, if_neg c_3, if_neg c_4, if_neg c_5, if_neg c_6, if_pos c_7])⟩, by dsimp only; rw [ht]; exact hMo⟩, hS.F ht⟩) hS.2.2 dX8_called_124
              · refine (Decidable.em (x1 = 109)).elim (fun c_8 => ?_) (fun c_8 => ?_)
                · refine lv_tableIn (off := 118) (tgt := 119) hx hb dX8_called_1 (by rw [c_8]; decide) (by rw [c_8]; decide) (by rw [c_8]; decide) (by decide) ?_
                  refine lv_aload_n hx hb dX8_called_119 rfl (lv_at hl 0 rfl) ?_
                  refine lv_iload_n hx hb dX8_called_120 rfl (lv_at hl 2 rfl) ?_
                  refine kX8_lets hF (cwV 1 hts gX8_called_X8_lets rfl rfl rfl hdX8_lets ⟨Nat.le_of_ble_eq_true rfl, Nat.le_of_ble_eq_true rfl⟩) hC hMo hi hInv  hS (fun _ h => h) hl.1 (Nat.le_of_ble_eq_true rfl) dX8_called_121 ⟨Nat.zero_le _, Nat.zero_le _⟩ (fun H locs hMo _ _ hS => ?_)
                  have hInv := (gd_X8_lets hInv x2).1
                  exact W.iret (v := (zX8_lets μ x2).1) hx hb hr (fun t ht hW => ⟨⟨(zX8_lets μ x2).1, (zX8_lets μ x2).2, rfl, ⟨(by unfold zX8_called; rw [if_neg c_1, if_neg c_2, if_neg c_3, if_neg c_4, if_neg c_5, if_neg c_6, if_neg c_7, if_pos c_8]), (by unfold zX8_called; rw [if_neg c_1, if_neg c_2, if_neg c_3, if_neg c_4, if_neg c_5, if_neg c_6, if_neg c_7, if_pos c_8])⟩, by dsimp only; rw [ht]; exact hMo⟩, hS.F ht⟩) hS.2.2 dX8_called_124
                · refine (Decidable.em (x1 = 110)).elim (fun c_9 => ?_) (fun c_9 => ?_)
                  · refine lv_tableIn (off := 90) (tgt := 91) hx hb dX8_called_1 (by rw [c_9]; decide) (by rw [c_9]; decide) (by rw [c_9]; decide) (by decide) ?_
                    refine lv_aload_n hx hb dX8_called_91 rfl (lv_at hl 0 rfl) ?_
                    refine lv_iload_n hx hb dX8_called_92 rfl (lv_at hl 2 rfl) ?_
                    refine lv_iload_n hx hb dX8_called_93 rfl (lv_at hl 3 rfl) ?_
                    refine lv_iconst (v := 1) hx hb dX8_called_94 (by decide) ?_
                    refine kX8_fetches hF (cwV 3 hts gX8_called_X8_fetches rfl rfl rfl hdX8_fetches ⟨Nat.le_of_ble_eq_true rfl, Nat.le_of_ble_eq_true rfl⟩) hC hMo hi hInv  hS (fun _ h => h) hl.1 (Nat.le_of_ble_eq_true rfl) dX8_called_95 ⟨Nat.zero_le _, Nat.zero_le _⟩ (fun H locs hMo _ _ hS => ?_)
                    have hInv := (gd_X8_fetches hInv x2 x3 1).1
                    exact W.iret (v := (zX8_fetches μ x2 x3 1).1) hx hb hr (fun t ht hW => ⟨⟨(zX8_fetches μ x2 x3 1).1, (zX8_fetches μ x2 x3 1).2, rfl, ⟨(by unfold zX8_called; rw [if_neg c_1, if_neg c_2, if_neg c_3, if_neg c_4, if_neg c_5, if_neg c_6, if_neg c_7, if_neg c_8, if_pos c_9]), (by unfold zX8_called; rw [if_neg c_1, if_neg c_2, if_neg c_3, if_neg c_4, if_neg c_5, if_neg c_6, if_neg c_7, if_neg c_8, if_pos c_9])⟩, by dsimp only; rw [ht]; exact hMo⟩, hS.F ht⟩) hS.2.2 dX8_called_98
                  · refine (Decidable.em (x1 = 111)).elim (fun c_10 => ?_) (fun c_10 => ?_)
                    · refine lv_tableIn (off := 118) (tgt := 119) hx hb dX8_called_1 (by rw [c_10]; decide) (by rw [c_10]; decide) (by rw [c_10]; decide) (by decide) ?_
                      refine lv_aload_n hx hb dX8_called_119 rfl (lv_at hl 0 rfl) ?_
                      refine lv_iload_n hx hb dX8_called_120 rfl (lv_at hl 2 rfl) ?_
                      refine kX8_lets hF (cwV 1 hts gX8_called_X8_lets rfl rfl rfl hdX8_lets ⟨Nat.le_of_ble_eq_true rfl, Nat.le_of_ble_eq_true rfl⟩) hC hMo hi hInv  hS (fun _ h => h) hl.1 (Nat.le_of_ble_eq_true rfl) dX8_called_121 ⟨Nat.zero_le _, Nat.zero_le _⟩ (fun H locs hMo _ _ hS => ?_)
                      have hInv := (gd_X8_lets hInv x2).1
                      exact W.iret (v := (zX8_lets μ x2).1) hx hb hr (fun t ht hW => ⟨⟨(zX8_lets μ x2).1, (zX8_lets μ x2).2, rfl, ⟨(by unfold zX8_called; rw [if_neg c_1, if_neg c_2, if_neg c_3, if_neg c_4, if_neg c_5, if_neg c_6, if_neg c_7, if_neg c_8, if_neg c_9, if_pos c_10]), (by unfold zX8_called; rw [if_neg c_1, if_neg c_2, if_neg c_3, if_neg c_4, if_neg c_5, if_neg c_6, if_neg c_7, if_neg c_8, if_neg c_9, if_pos c_10])⟩, by dsimp only; rw [ht]; exact hMo⟩, hS.F ht⟩) hS.2.2 dX8_called_124
                    · refine (Decidable.em (x1 = 112)).elim (fun c_11 => ?_) (fun c_11 => ?_)
                      · refine lv_tableIn (off := 112) (tgt := 113) hx hb dX8_called_1 (by rw [c_11]; decide) (by rw [c_11]; decide) (by rw [c_11]; decide) (by decide) ?_
                        refine lv_aload_n hx hb dX8_called_113 rfl (lv_at hl 0 rfl) ?_
                        refine lv_iload_n hx hb dX8_called_114 rfl (lv_at hl 2 rfl) ?_
                        refine kX8_puts hF (cwV 1 hts gX8_called_X8_puts rfl rfl rfl hdX8_puts ⟨Nat.le_of_ble_eq_true rfl, Nat.le_of_ble_eq_true rfl⟩) hC hMo hi hInv  hS (fun _ h => h) hl.1 (Nat.le_of_ble_eq_true rfl) dX8_called_115 ⟨Nat.zero_le _, Nat.zero_le _⟩ (fun H locs hMo _ _ hS => ?_)
                        have hInv := (gd_X8_puts hInv x2).1
                        exact W.iret (v := (zX8_puts μ x2).1) hx hb hr (fun t ht hW => ⟨⟨(zX8_puts μ x2).1, (zX8_puts μ x2).2, rfl, ⟨(by unfold zX8_called; rw [if_neg c_1, if_neg c_2, if_neg c_3, if_neg c_4, if_neg c_5, if_neg c_6, if_neg c_7, if_neg c_8, if_neg c_9, if_neg c_10, if_pos c_11]), (by unfold zX8_called; rw [if_neg c_1, if_neg c_2, if_neg c_3, if_neg c_4, if_neg c_5, if_neg c_6, if_neg c_7, if_neg c_8, if_neg c_9, if_neg c_10, if_pos c_11])⟩, by dsimp only; rw [ht]; exact hMo⟩, hS.F ht⟩) hS.2.2 dX8_called_118
                      · refine (Decidable.em (x1 = 113)).elim (fun c_12 => ?_) (fun c_12 => ?_)
                        · refine lv_tableIn (off := 118) (tgt := 119) hx hb dX8_called_1 (by rw [c_12]; decide) (by rw [c_12]; decide) (by rw [c_12]; decide) (by decide) ?_
                          refine lv_aload_n hx hb dX8_called_119 rfl (lv_at hl 0 rfl) ?_
                          refine lv_iload_n hx hb dX8_called_120 rfl (lv_at hl 2 rfl) ?_
                          refine kX8_lets hF (cwV 1 hts gX8_called_X8_lets rfl rfl rfl hdX8_lets ⟨Nat.le_of_ble_eq_true rfl, Nat.le_of_ble_eq_true rfl⟩) hC hMo hi hInv  hS (fun _ h => h) hl.1 (Nat.le_of_ble_eq_true rfl) dX8_called_121 ⟨Nat.zero_le _, Nat.zero_le _⟩ (fun H locs hMo _ _ hS => ?_)
                          have hInv := (gd_X8_lets hInv x2).1
                          exact W.iret (v := (zX8_lets μ x2).1) hx hb hr (fun t ht hW => ⟨⟨(zX8_lets μ x2).1, (zX8_lets μ x2).2, rfl, ⟨(by unfold zX8_called; rw [if_neg c_1, if_neg c_2, if_neg c_3, if_neg c_4, if_neg c_5, if_neg c_6, if_neg c_7, if_neg c_8, if_neg c_9, if_neg c_10, if_neg c_11, if_pos c_12]), (by unfold zX8_called; rw [if_neg c_1, if_neg c_2, if_neg c_3, if_neg c_4, if_neg c_5, if_neg c_6, if_neg c_7, if_neg c_8, if_neg c_9, if_neg c_10, if_neg c_11, if_pos c_12])⟩, by dsimp only; rw [ht]; exact hMo⟩, hS.F ht⟩) hS.2.2 dX8_called_124
                        · refine (Decidable.em (x1 = 114)).elim (fun c_13 => ?_) (fun c_13 => ?_)
                          · refine lv_tableIn (off := 75) (tgt := 76) hx hb dX8_called_1 (by rw [c_13]; decide) (by rw [c_13]; decide) (by rw [c_13]; decide) (by decide) ?_
                            refine lv_aload_n hx hb dX8_called_76 rfl (lv_at hl 0 rfl) ?_
                            refine lv_iload_n hx hb dX8_called_77 rfl (lv_at hl 2 rfl) ?_
                            refine lv_iload_n hx hb dX8_called_78 rfl (lv_at hl 3 rfl) ?_
                            refine kX8_reserves hF (cwV 2 hts gX8_called_X8_reserves rfl rfl rfl hdX8_reserves ⟨Nat.le_of_ble_eq_true rfl, Nat.le_of_ble_eq_true rfl⟩) hC hMo hi hInv  hS (fun _ h => h) hl.1 (Nat.le_of_ble_eq_true rfl) dX8_called_79 ⟨Nat.zero_le _, Nat.zero_le _⟩ (fun H locs hMo _ _ hS => ?_)
                            have hInv := (gd_X8_reserves hInv x2 x3).1
                            exact W.iret (v := (zX8_reserves μ x2 x3).1) hx hb hr (fun t ht hW => ⟨⟨(zX8_reserves μ x2 x3).1, (zX8_reserves μ x2 x3).2, rfl, ⟨(by unfold zX8_called; rw [if_neg c_1, if_neg c_2, if_neg c_3, if_neg c_4, if_neg c_5, if_neg c_6, if_neg c_7, if_neg c_8, if_neg c_9, if_neg c_10, if_neg c_11, if_neg c_12, if_pos c_13]), (by unfold zX8_called; rw [if_neg c_1, if_neg c_2, if_neg c_3, if_neg c_4, if_neg c_5, if_neg c_6, if_neg c_7, if_neg c_8, if_neg c_9, if_neg c_10, if_neg c_11, if_neg c_12, if_pos c_13])⟩, by dsimp only; rw [ht]; exact hMo⟩, hS.F ht⟩) hS.2.2 dX8_called_82
                          · refine (Decidable.em (x1 = 115)).elim (fun c_14 => ?_) (fun c_14 => ?_)
                            · refine lv_tableIn (off := 118) (tgt := 119) hx hb dX8_called_1 (by rw [c_14]; decide) (by rw [c_14]; decide) (by rw [c_14]; decide) (by decide) ?_
                              refine lv_aload_n hx hb dX8_called_119 rfl (lv_at hl 0 rfl) ?_
                              refine lv_iload_n hx hb dX8_called_120 rfl (lv_at hl 2 rfl) ?_
                              refine kX8_lets hF (cwV 1 hts gX8_called_X8_lets rfl rfl rfl hdX8_lets ⟨Nat.le_of_ble_eq_true rfl, Nat.le_of_ble_eq_true rfl⟩) hC hMo hi hInv  hS (fun _ h => h) hl.1 (Nat.le_of_ble_eq_true rfl) dX8_called_121 ⟨Nat.zero_le _, Nat.zero_le _⟩ (fun H locs hMo _ _ hS => ?_)
                              have hInv := (gd_X8_lets hInv x2).1
                              exact W.iret (v := (zX8_lets μ x2).1) hx hb hr (fun t ht hW => ⟨⟨(zX8_lets μ x2).1, (zX8_lets μ x2).2, rfl, ⟨(by unfold zX8_called; rw [if_neg c_1, if_neg c_2, if_neg c_3, if_neg c_4, if_neg c_5, if_neg c_6, if_neg c_7, if_neg c_8, if_neg c_9, if_neg c_10, if_neg c_11, if_neg c_12, if_neg c_13, if_pos c_14]), (by unfold zX8_called; rw [if_neg c_1, if_neg c_2, if_neg c_3, if_neg c_4, if_neg c_5, if_neg c_6, if_neg c_7, if_neg c_8, if_neg c_9, if_neg c_10, if_neg c_11, if_neg c_12, if_neg c_13, if_pos c_14])⟩, by dsimp only; rw [ht]; exact hMo⟩, hS.F ht⟩) hS.2.2 dX8_called_124
                            · refine (Decidable.em (x1 = 116)).elim (fun c_15 => ?_) (fun c_15 => ?_)
                              · refine lv_tableIn (off := 98) (tgt := 99) hx hb dX8_called_1 (by rw [c_15]; decide) (by rw [c_15]; decide) (by rw [c_15]; decide) (by decide) ?_
                                refine lv_aload_n hx hb dX8_called_99 rfl (lv_at hl 0 rfl) ?_
                                refine lv_iload_n hx hb dX8_called_100 rfl (lv_at hl 2 rfl) ?_
                                refine lv_iload_n hx hb dX8_called_101 rfl (lv_at hl 3 rfl) ?_
                                refine kX8_takes hF (cwV 2 hts gX8_called_X8_takes rfl rfl rfl hdX8_takes ⟨Nat.le_of_ble_eq_true rfl, Nat.le_of_ble_eq_true rfl⟩) hC hMo hi hInv  hS (fun _ h => h) hl.1 (Nat.le_of_ble_eq_true rfl) dX8_called_102 ⟨Nat.zero_le _, Nat.zero_le _⟩ (fun H locs hMo _ _ hS => ?_)
                                have hInv := (gd_X8_takes hInv x2 x3).1
                                exact W.iret (v := (zX8_takes μ x2 x3).1) hx hb hr (fun t ht hW => ⟨⟨(zX8_takes μ x2 x3).1, (zX8_takes μ x2 x3).2, rfl, ⟨(by unfold zX8_called; rw [if_neg c_1, if_neg c_2, if_neg c_3, if_neg c_4, if_neg c_5, if_neg c_6, if_neg c_7, if_neg c_8, if_neg c_9, if_neg c_10, if_neg c_11, if_neg c_12, if_neg c_13, if_neg c_14, if_pos c_15]), (by unfold zX8_called; rw [if_neg c_1, if_neg c_2, if_neg c_3, if_neg c_4, if_neg c_5, if_neg c_6, if_neg c_7, if_neg c_8, if_neg c_9, if_neg c_10, if_neg c_11, if_neg c_12, if_neg c_13, if_neg c_14, if_pos c_15])⟩, by dsimp only; rw [ht]; exact hMo⟩, hS.F ht⟩) hS.2.2 dX8_called_105
                              · refine lv_tableOut (tgt := 119) hx hb dX8_called_1 (by have q0 := lv_neT (a := 102) c_1 (by decide); have q1 := lv_neT (a := 103) c_2 (by decide); have q2 := lv_neT (a := 104) c_3 (by decide); have q3 := lv_neT (a := 105) c_4 (by decide); have q4 := lv_neT (a := 106) c_5 (by decide); have q5 := lv_neT (a := 107) c_6 (by decide); have q6 := lv_neT (a := 108) c_7 (by decide); have q7 := lv_neT (a := 109) c_8 (by decide); have q8 := lv_neT (a := 110) c_9 (by decide); have q9 := lv_neT (a := 111) c_10 (by decide); have q10 := lv_neT (a := 112) c_11 (by decide); have q11 := lv_neT (a := 113) c_12 (by decide); have q12 := lv_neT (a := 114) c_13 (by decide); have q13 := lv_neT (a := 115) c_14 (by decide); have q14 := lv_neT (a := 116) c_15 (by decide); omega) (by decide) ?_
                                refine lv_aload_n hx hb dX8_called_119 rfl (lv_at hl 0 rfl) ?_
                                refine lv_iload_n hx hb dX8_called_120 rfl (lv_at hl 2 rfl) ?_
                                refine kX8_lets hF (cwV 1 hts gX8_called_X8_lets rfl rfl rfl hdX8_lets ⟨Nat.le_of_ble_eq_true rfl, Nat.le_of_ble_eq_true rfl⟩) hC hMo hi hInv  hS (fun _ h => h) hl.1 (Nat.le_of_ble_eq_true rfl) dX8_called_121 ⟨Nat.zero_le _, Nat.zero_le _⟩ (fun H locs hMo _ _ hS => ?_)
                                have hInv := (gd_X8_lets hInv x2).1
                                exact W.iret (v := (zX8_lets μ x2).1) hx hb hr (fun t ht hW => ⟨⟨(zX8_lets μ x2).1, (zX8_lets μ x2).2, rfl, ⟨(by unfold zX8_called; rw [if_neg c_1, if_neg c_2, if_neg c_3, if_neg c_4, if_neg c_5, if_neg c_6, if_neg c_7, if_neg c_8, if_neg c_9, if_neg c_10, if_neg c_11, if_neg c_12, if_neg c_13, if_neg c_14, if_neg c_15]), (by unfold zX8_called; rw [if_neg c_1, if_neg c_2, if_neg c_3, if_neg c_4, if_neg c_5, if_neg c_6, if_neg c_7, if_neg c_8, if_neg c_9, if_neg c_10, if_neg c_11, if_neg c_12, if_neg c_13, if_neg c_14, if_neg c_15])⟩, by dsimp only; rw [ht]; exact hMo⟩, hS.F ht⟩) hS.2.2 dX8_called_124
set_option maxHeartbeats 4000000 in
set_option maxRecDepth 100000 in
theorem kX8_called {p : Program} {l : Launch} {e : Env} {R : Room} {s : State} {m : MethodId} {args : Array Value} {below : List Frame} {meth : Method} {c : Code} {H : Heap} {locs : List Loc} {cells slots : Nat} {Q : State → Prop} {cc : ByteArray} {nL : Nat} {Ts : List Cond} {own : String} {index pc : Nat} {ls : Array Slot} {rest : List Value} {D : va_G} {y : Y3} {mo : Nat → Nat} {μ : Sg} {x1 : Int32} {x2 : Int32} {x3 : Int32} {A0 : Nat → Prop} {H0 : Heap} (hF : CallFix p m c cc nL s args Ts own) (cw : CallW R s args own RX8 index yX8_called cX8_called 4 (some .int) wsX8_called ({ frames := 8, cells := 0, slots := 0, locals := 181 } : Room) 0 0 3) (hC : CK D y s) (hMo : MoH D y mo μ H) (hi : moI mo) (hInv : InvM μ) (hS : va_S A0 H0 H locs) (hA : ∀ q, (moA mo) q → A0 q) (hsz : ls.size = nL) (hW : (rest.map fun v => v.category).sum ≤ 8) (hdg : decode cc pc = .ok (.invokevirtual index, 3)) (hf : cells ≤ R.cells ∧ slots ≤ R.slots)
    (k : ∀ (H1 : Heap) (locs1 : List Loc), MoH D y mo (zX8_called μ x1 x2 x3).2 H1 → H.size ≤ H1.size → (∀ q : Nat, q < H.size → ¬ (moA mo) q → H1[q]? = H[q]?) → va_S A0 H0 H1 locs1 → W p l e R s m args below meth c H1 locs1 cells slots Q (F0 m (pc + 3) ls (.int ((zX8_called μ x1 x2 x3).1) :: rest))) : W p l e R s m args below meth c H locs cells slots Q (F0 m pc ls (.int x3 :: .int x2 :: .int x1 :: .ref (mo 0) :: rest)) := by
  refine va_calli (va_runV (As := [.int x1, .int x2, .int x3]) (rest := rest) hF (mX8_called l D y mo μ x1 x2 x3) cw ⟨fun a U g mk q => by obtain ⟨q0, q1, q2, q3, q4⟩ := q; exact ⟨q0, q1.call g mk a, q2, q3, q4⟩, va_recv hC.1 hMo (ci := 8) (q0 := 0) rfl rfl, fun U hU hW => ⟨rfl, hC.warm hW, by rw [hU]; exact hMo, hi, hInv⟩⟩ rfl rfl hsz rfl (lv_room hW) hdg ⟨hf.1, hf.2⟩) hS (fun q _ h => hA q h) hA (fun r u t H1 locs1 ht hvm hp hB hz1 hk1 hS1 => ?_)
  obtain ⟨hp1, hp2⟩ := hp
  subst hp1; subst hp2
  rw [ht] at hB
  exact k H1 locs1 hB hz1 hk1 hS1
theorem gd_X8_called {μ : Sg} (h : InvM μ) (x1 x2 x3 : Int32) : Gd μ (zX8_called μ x1 x2 x3).2 := by
  have a1 := gd_X8_reserves h x2 x3
  have a2 := fun r => gd_X8_fetches h x2 x3 r
  have a3 := gd_X8_takes h x2 x3
  have a4 := gd_X8_goes h x2 x3
  have a5 := gd_X8_puts h x2
  have a6 := gd_X8_lets h x2
  unfold zX8_called
  have P : ∀ v : Int32 × Sg, Gd μ v.2 → (fun v : Int32 × Sg => Gd μ v.2) v := fun _ h => h
  show (fun v : Int32 × Sg => Gd μ v.2) _
  repeat' (with_reducible refine ite_all (P := fun v : Int32 × Sg => Gd μ v.2) ?_ ?_)
  all_goals first | (with_reducible exact P _ a1) | (with_reducible exact P _ (a2 _)) | (with_reducible exact P _ a3) | (with_reducible exact P _ a4) | (with_reducible exact P _ a5) | (with_reducible exact P _ a6)
