def zX3_tells (x1 x2 : Int32) : Int32 := if x2 = 4 then (if x1 = 1 then 1
    else 0)
  else (if x2 = 5 then (if x1 = 1 then 1
      else (if x1 = 3 then 1
        else (if x1 = 4 then 1
          else 0)))
    else (if x2 = 6 then (if x1 = 2 then 1
        else 0)
      else 1))
set_option maxHeartbeats 4000000 in
set_option maxRecDepth 100000 in
theorem mX3_tells (l : Launch) (D : va_G) (y : Y3) (x1 x2 : Int32) : Met l yX3_tells wsX3_tells ({ frames := 0, cells := 0, slots := 0, locals := 0 } : Room) (va_Pc [.int x1, .int x2] (fun U => CK D y U)) (vp_Si (fun r => r = zX3_tells x1 x2)) 0 0 (fun _ => False) := by
  refine Met.ofW (cc := cX3_tells) (maxL := 2) (ret := (some .boolean)) (by decide) rfl ?_
  intro p e s m args below meth c s₁ B hml hv
  obtain ⟨rfl, hC⟩ := hv
  have hx := B.exec
  have hb := B.bytes
  have hr := B.returns
  have hts := atoms_spec (ws := wsX3_tells) B.pre
  have hown : s.vm.findClass RX3 = some m.cls := findClass_of_methodNamed B.named
  have hlocks := B.notSynchronized
  have hF := (⟨hx, hb, hml, hown, hts⟩ : CallFix p m c cX3_tells 2 s _ wsX3_tells RX3)
  have hl := lv_entry ([.int x1, .int x2]) (n := 2) (Nat.le_of_ble_eq_true rfl)
  rw [lg_entry_eq]
  generalize (lg_sl ([.int x1, .int x2]) ++ List.replicate (2 - (lg_sl ([.int x1, .int x2])).length) Slot.unset).toArray = ls at hl ⊢
  have hl : lv_has ls 2 [(0, .int x1), (1, .int x2)] := hl
  refine lv_iload_n hx hb dX3_tells_0 rfl (lv_at hl 1 rfl) ?_
  refine (Decidable.em (x2 = 4)).elim (fun c_1 => ?_) (fun c_1 => ?_)
  · refine lv_tableIn (off := 27) (tgt := 28) hx hb dX3_tells_1 (by rw [c_1]; decide) (by rw [c_1]; decide) (by rw [c_1]; decide) (by decide) ?_
    refine lv_iload_n hx hb dX3_tells_28 rfl (lv_at hl 0 rfl) ?_
    refine lv_iconst (v := 1) hx hb dX3_tells_29 (by decide) ?_
    refine lv_icmp_ne (tgt := 37) hx hb dX3_tells_30 (by decide) (fun c_2 => ?_) (fun c_2 => ?_)
    · refine lv_iconst (v := 0) hx hb dX3_tells_37 (by decide) ?_
      exact W.zret (v := 0) hx hb hr (by decide) (fun t ht hW => ⟨0, rfl, (by unfold zX3_tells; rw [if_pos c_1, if_neg c_2]), ht⟩) (fun q hq => absurd hq List.not_mem_nil) dX3_tells_38
    · refine lv_iconst (v := 1) hx hb dX3_tells_33 (by decide) ?_
      refine lv_goto (tgt := 38) hx hb dX3_tells_34 (by decide) ?_
      exact W.zret (v := 1) hx hb hr (by decide) (fun t ht hW => ⟨1, rfl, (by unfold zX3_tells; rw [if_pos c_1, if_pos c_2]), ht⟩) (fun q hq => absurd hq List.not_mem_nil) dX3_tells_38
  · refine (Decidable.em (x2 = 5)).elim (fun c_3 => ?_) (fun c_3 => ?_)
    · refine lv_tableIn (off := 38) (tgt := 39) hx hb dX3_tells_1 (by rw [c_3]; decide) (by rw [c_3]; decide) (by rw [c_3]; decide) (by decide) ?_
      refine lv_iload_n hx hb dX3_tells_39 rfl (lv_at hl 0 rfl) ?_
      refine lv_iconst (v := 1) hx hb dX3_tells_40 (by decide) ?_
      refine lv_icmp_eq (tgt := 54) hx hb dX3_tells_41 (by decide) (fun c_4 => ?_) (fun c_4 => ?_)
      · refine lv_iconst (v := 1) hx hb dX3_tells_54 (by decide) ?_
        refine lv_goto (tgt := 59) hx hb dX3_tells_55 (by decide) ?_
        exact W.zret (v := 1) hx hb hr (by decide) (fun t ht hW => ⟨1, rfl, (by unfold zX3_tells; rw [if_neg c_1, if_pos c_3, if_pos c_4]), ht⟩) (fun q hq => absurd hq List.not_mem_nil) dX3_tells_59
      · refine lv_iload_n hx hb dX3_tells_44 rfl (lv_at hl 0 rfl) ?_
        refine lv_iconst (v := 3) hx hb dX3_tells_45 (by decide) ?_
        refine lv_icmp_eq (tgt := 54) hx hb dX3_tells_46 (by decide) (fun c_5 => ?_) (fun c_5 => ?_)
        · refine lv_iconst (v := 1) hx hb dX3_tells_54 (by decide) ?_
          refine lv_goto (tgt := 59) hx hb dX3_tells_55 (by decide) ?_
          exact W.zret (v := 1) hx hb hr (by decide) (fun t ht hW => ⟨1, rfl, (by unfold zX3_tells; rw [if_neg c_1, if_pos c_3, if_neg c_4, if_pos c_5]), ht⟩) (fun q hq => absurd hq List.not_mem_nil) dX3_tells_59
        · refine lv_iload_n hx hb dX3_tells_49 rfl (lv_at hl 0 rfl) ?_
          refine lv_iconst (v := 4) hx hb dX3_tells_50 (by decide) ?_
          refine lv_icmp_ne (tgt := 58) hx hb dX3_tells_51 (by decide) (fun c_6 => ?_) (fun c_6 => ?_)
          · refine lv_iconst (v := 0) hx hb dX3_tells_58 (by decide) ?_
            exact W.zret (v := 0) hx hb hr (by decide) (fun t ht hW => ⟨0, rfl, (by unfold zX3_tells; rw [if_neg c_1, if_pos c_3, if_neg c_4, if_neg c_5, if_neg c_6]), ht⟩) (fun q hq => absurd hq List.not_mem_nil) dX3_tells_59
          · refine lv_iconst (v := 1) hx hb dX3_tells_54 (by decide) ?_
            refine lv_goto (tgt := 59) hx hb dX3_tells_55 (by decide) ?_
            exact W.zret (v := 1) hx hb hr (by decide) (fun t ht hW => ⟨1, rfl, (by unfold zX3_tells; rw [if_neg c_1, if_pos c_3, if_neg c_4, if_neg c_5, if_pos c_6]), ht⟩) (fun q hq => absurd hq List.not_mem_nil) dX3_tells_59
    · refine (Decidable.em (x2 = 6)).elim (fun c_7 => ?_) (fun c_7 => ?_)
      · refine lv_tableIn (off := 59) (tgt := 60) hx hb dX3_tells_1 (by rw [c_7]; decide) (by rw [c_7]; decide) (by rw [c_7]; decide) (by decide) ?_
        refine lv_iload_n hx hb dX3_tells_60 rfl (lv_at hl 0 rfl) ?_
        refine lv_iconst (v := 2) hx hb dX3_tells_61 (by decide) ?_
        refine lv_icmp_ne (tgt := 69) hx hb dX3_tells_62 (by decide) (fun c_8 => ?_) (fun c_8 => ?_)
        · refine lv_iconst (v := 0) hx hb dX3_tells_69 (by decide) ?_
          exact W.zret (v := 0) hx hb hr (by decide) (fun t ht hW => ⟨0, rfl, (by unfold zX3_tells; rw [if_neg c_1, if_neg c_3, if_pos c_7, if_neg c_8]), ht⟩) (fun q hq => absurd hq List.not_mem_nil) dX3_tells_70
        · refine lv_iconst (v := 1) hx hb dX3_tells_65 (by decide) ?_
          refine lv_goto (tgt := 70) hx hb dX3_tells_66 (by decide) ?_
          exact W.zret (v := 1) hx hb hr (by decide) (fun t ht hW => ⟨1, rfl, (by unfold zX3_tells; rw [if_neg c_1, if_neg c_3, if_pos c_7, if_pos c_8]), ht⟩) (fun q hq => absurd hq List.not_mem_nil) dX3_tells_70
      · refine lv_tableOut (tgt := 71) hx hb dX3_tells_1 (by have q0 := lv_neT (a := 4) c_1 (by decide); have q1 := lv_neT (a := 5) c_3 (by decide); have q2 := lv_neT (a := 6) c_7 (by decide); omega) (by decide) ?_
        refine lv_iconst (v := 1) hx hb dX3_tells_71 (by decide) ?_
        exact W.zret (v := 1) hx hb hr (by decide) (fun t ht hW => ⟨1, rfl, (by unfold zX3_tells; rw [if_neg c_1, if_neg c_3, if_neg c_7]), ht⟩) (fun q hq => absurd hq List.not_mem_nil) dX3_tells_72
set_option maxHeartbeats 4000000 in
set_option maxRecDepth 100000 in
theorem kX3_tells {p : Program} {l : Launch} {e : Env} {R : Room} {s : State} {m : MethodId} {args : Array Value} {below : List Frame} {meth : Method} {c : Code} {H : Heap} {locs : List Loc} {cells slots : Nat} {Q : State → Prop} {cc : ByteArray} {nL : Nat} {Ts : List Cond} {own : String} {index pc : Nat} {ls : Array Slot} {rest : List Value} {D : va_G} {y : Y3} {x1 x2 : Int32} (hF : CallFix p m c cc nL s args Ts own) (cw : CallB R s args own index yX3_tells cX3_tells 2 (some .boolean) wsX3_tells ({ frames := 0, cells := 0, slots := 0, locals := 0 } : Room) 0 0 2 ∧ (Cond.static yX3_tells).before args s = true) (hC : CK D y s) (hsz : ls.size = nL) (hW : (rest.map fun v => v.category).sum ≤ 8) (hdg : decode cc pc = .ok (.invokestatic index, 3)) (hf : cells ≤ R.cells ∧ slots ≤ R.slots)
    (k : W p l e R s m args below meth c H locs cells slots Q (F0 m (pc + 3) ls (.int (zX3_tells x1 x2) :: rest))) : W p l e R s m args below meth c H locs cells slots Q (F0 m pc ls (.int x2 :: .int x1 :: rest)) := by
  refine vp_callSi (W.runS (As := [.int x1, .int x2]) (rest := rest) hF (mX3_tells l D y x1 x2) cw ⟨fun a U g mk q => by obtain ⟨q0, q1⟩ := q; exact ⟨q0, q1.call g mk a⟩, fun U hU hW => ⟨rfl, hC.warm hW⟩⟩ rfl rfl hsz rfl (lv_room hW) hdg ⟨hf.1, hf.2⟩) (fun r hr => ?_)
  subst hr
  exact k
def zX3_ofMeal (σ : Sg) (x1 : Int32) (x2 : Int32) : Int32 := if (zX5_has (σ 5 1) x1) = 0 then (-1)
  else (if (zX7_isWithin x2 0 6) = 0 then (-1)
    else (if (zX3_tells (zatt σ 1 x1 0) x2) = 0 then (-4)
      else (zatt σ 1 x1 x2)))
theorem iwX3_ofMeal_X3 : ∀ w ∈ wsX30, w ∈ wsX3_ofMeal := fun _ h => List.mem_cons_of_mem _ (List.mem_append_left _ (List.mem_append_right _ h))
theorem hdX3_ofMeal : yX3_ofMeal.cls = RX3 ∧ yX3_ofMeal.cls ≠ "java/lang/invoke/MethodHandle" ∧ yX3_ofMeal.cls ≠ "java/lang/invoke/VarHandle" ∧ (parseMethodDescriptor yX3_ofMeal.desc).map (fun d => d.parameters.length) = some 2 := by decide +kernel
set_option maxHeartbeats 4000000 in
set_option maxRecDepth 100000 in
theorem mX3_ofMeal (l : Launch) (D : va_G) (y : Y3) (h : Nat) (ad : Nat → Nat) (σ : Sg) (x1 : Int32) (x2 : Int32) : Met l yX3_ofMeal wsX3_ofMeal ({ frames := 1, cells := 0, slots := 0, locals := 23 } : Room) (va_Pc [.ref h, .int x1, .int x2] (fun U => CK D y U ∧ qoH D 3 h ad U.heap ∧ StH D y ad σ U.heap)) (vp_Si (fun r => r = zX3_ofMeal σ x1 x2)) 0 0 (fun _ => False) := by
  refine Met.ofW (cc := cX3_ofMeal) (maxL := 3) (ret := (some .int)) (by decide) rfl ?_
  intro p e s m args below meth c s₁ B hml hv
  obtain ⟨rfl, hC, hCh, hSt⟩ := hv
  have hx := B.exec
  have hb := B.bytes
  have hr := B.returns
  have hts := atoms_spec (ws := wsX3_ofMeal) B.pre
  have hown : s.vm.findClass RX3 = some m.cls := findClass_of_methodNamed B.named
  have hlocks := B.notSynchronized
  have hF := (⟨hx, hb, hml, hown, hts⟩ : CallFix p m c cX3_ofMeal 3 s _ wsX3_ofMeal RX3)
  have hl := lv_entry ([.ref h, .int x1, .int x2]) (n := 3) (Nat.le_of_ble_eq_true rfl)
  rw [lg_entry_eq]
  generalize (lg_sl ([.ref h, .int x1, .int x2]) ++ List.replicate (3 - (lg_sl ([.ref h, .int x1, .int x2])).length) Slot.unset).toArray = ls at hl ⊢
  have hl : lv_has ls 3 [(0, .ref h), (1, .int x1), (2, .int x2)] := hl
  refine lv_aload_n hx hb dX3_ofMeal_0 rfl (lv_at hl 0 rfl) ?_
  refine va_get (D := D) (ci := 3) (v := .ref (ad 3)) (C := RX3) (T := TX3) (N := 5) hx hb hts iwX3_ofMeal_X3 hown hC.1 hCh 0 rfl rfl 2 (by decide) (hts (.fieldLink RX3 25 "MealLockers$Questions" "meals" "LMealLockers$Table;") (List.mem_of_getElem? (i := 1) rfl)) (fun _ h9 => h9) rfl dX3_ofMeal_1 ?_
  refine lv_iload_n hx hb dX3_ofMeal_4 rfl (lv_at hl 1 rfl) ?_
  refine sX5_has (k := 1) hF (cwV 1 hts gX3_ofMeal_X5_has rfl rfl rfl hdX5_has ⟨Nat.le_of_ble_eq_true rfl, Nat.le_of_ble_eq_true rfl⟩) hC hSt (by decide) hl.1 (Nat.le_of_ble_eq_true rfl) dX3_ofMeal_5 ⟨Nat.zero_le _, Nat.zero_le _⟩ ?_
  refine lv_if_eq (tgt := 21) hx hb dX3_ofMeal_8 (by decide) (fun c_1 => ?_) (fun c_1 => ?_)
  · refine lv_iconst (v := (-1)) hx hb dX3_ofMeal_21 (by decide) ?_
    exact W.iret (v := (-1)) hx hb hr (fun t ht hW => ⟨(-1), rfl, (by unfold zX3_ofMeal; rw [if_pos c_1]), ht⟩) (fun q hq => absurd hq List.not_mem_nil) dX3_ofMeal_22
  · refine lv_iload_n hx hb dX3_ofMeal_11 rfl (lv_at hl 2 rfl) ?_
    refine lv_iconst (v := 0) hx hb dX3_ofMeal_12 (by decide) ?_
    refine lv_bipush (v := 6) hx hb dX3_ofMeal_13 (by decide) ?_
    refine kX7_isWithinN hF ⟨va_cnB 3 hts gX3_ofMeal_X7_isWithin_n40 rfl rfl rfl (nw_m1 hC) (hts (.initialized RX7) (List.mem_of_getElem? (i := 9) rfl)) hdX7_isWithin ⟨Nat.le_of_ble_eq_true rfl, Nat.le_of_ble_eq_true rfl⟩, (hts (.static yX7_isWithin) (List.mem_of_getElem? (i := 8) rfl)), trivial⟩ hC hl.1 (Nat.le_of_ble_eq_true rfl) dX3_ofMeal_15 ⟨Nat.zero_le _, Nat.zero_le _⟩ ?_
    refine lv_if_ne (tgt := 23) hx hb dX3_ofMeal_18 (by decide) (fun c_2 => ?_) (fun c_2 => ?_)
    · refine lv_aload_n hx hb dX3_ofMeal_23 rfl (lv_at hl 0 rfl) ?_
      refine va_get (D := D) (ci := 3) (v := .ref (ad 3)) (C := RX3) (T := TX3) (N := 5) hx hb hts iwX3_ofMeal_X3 hown hC.1 hCh 0 rfl rfl 2 (by decide) (hts (.fieldLink RX3 25 "MealLockers$Questions" "meals" "LMealLockers$Table;") (List.mem_of_getElem? (i := 1) rfl)) (fun _ h9 => h9) rfl dX3_ofMeal_24 ?_
      refine lv_iload_n hx hb dX3_ofMeal_27 rfl (lv_at hl 1 rfl) ?_
      refine lv_iconst (v := 0) hx hb dX3_ofMeal_28 (by decide) ?_
      refine sX5_at (k := 1) hF (cwV 2 hts gX3_ofMeal_X5_at rfl rfl rfl hdX5_at ⟨Nat.le_of_ble_eq_true rfl, Nat.le_of_ble_eq_true rfl⟩) hC hSt (by decide) hl.1 (Nat.le_of_ble_eq_true rfl) dX3_ofMeal_29 ⟨Nat.zero_le _, Nat.zero_le _⟩ ?_
      refine lv_iload_n hx hb dX3_ofMeal_32 rfl (lv_at hl 2 rfl) ?_
      refine kX3_tells hF (cwS 2 hts gX3_ofMeal_X3_tells rfl rfl rfl (by decide +kernel) ⟨Nat.le_of_ble_eq_true rfl, Nat.le_of_ble_eq_true rfl⟩) hC hl.1 (Nat.le_of_ble_eq_true rfl) dX3_ofMeal_33 ⟨Nat.zero_le _, Nat.zero_le _⟩ ?_
      refine lv_if_eq (tgt := 51) hx hb dX3_ofMeal_36 (by decide) (fun c_3 => ?_) (fun c_3 => ?_)
      · refine lv_bipush (v := (-4)) hx hb dX3_ofMeal_51 (by decide) ?_
        exact W.iret (v := (-4)) hx hb hr (fun t ht hW => ⟨(-4), rfl, (by unfold zX3_ofMeal; rw [if_neg c_1, if_neg c_2, if_pos c_3]), ht⟩) (fun q hq => absurd hq List.not_mem_nil) dX3_ofMeal_53
      · refine lv_aload_n hx hb dX3_ofMeal_39 rfl (lv_at hl 0 rfl) ?_
        refine va_get (D := D) (ci := 3) (v := .ref (ad 3)) (C := RX3) (T := TX3) (N := 5) hx hb hts iwX3_ofMeal_X3 hown hC.1 hCh 0 rfl rfl 2 (by decide) (hts (.fieldLink RX3 25 "MealLockers$Questions" "meals" "LMealLockers$Table;") (List.mem_of_getElem? (i := 1) rfl)) (fun _ h9 => h9) rfl dX3_ofMeal_40 ?_
        refine lv_iload_n hx hb dX3_ofMeal_43 rfl (lv_at hl 1 rfl) ?_
        refine lv_iload_n hx hb dX3_ofMeal_44 rfl (lv_at hl 2 rfl) ?_
        refine sX5_at (k := 1) hF (cwV 2 hts gX3_ofMeal_X5_at rfl rfl rfl hdX5_at ⟨Nat.le_of_ble_eq_true rfl, Nat.le_of_ble_eq_true rfl⟩) hC hSt (by decide) hl.1 (Nat.le_of_ble_eq_true rfl) dX3_ofMeal_45 ⟨Nat.zero_le _, Nat.zero_le _⟩ ?_
        refine lv_goto (tgt := 53) hx hb dX3_ofMeal_48 (by decide) ?_
        exact W.iret (v := (zatt σ 1 x1 x2)) hx hb hr (fun t ht hW => ⟨(zatt σ 1 x1 x2), rfl, (by unfold zX3_ofMeal; rw [if_neg c_1, if_neg c_2, if_neg c_3]), ht⟩) (fun q hq => absurd hq List.not_mem_nil) dX3_ofMeal_53
    · refine lv_iconst (v := (-1)) hx hb dX3_ofMeal_21 (by decide) ?_
      exact W.iret (v := (-1)) hx hb hr (fun t ht hW => ⟨(-1), rfl, (by unfold zX3_ofMeal; rw [if_neg c_1, if_pos c_2]), ht⟩) (fun q hq => absurd hq List.not_mem_nil) dX3_ofMeal_22
set_option maxHeartbeats 4000000 in
set_option maxRecDepth 100000 in
theorem kX3_ofMeal {p : Program} {l : Launch} {e : Env} {R : Room} {s : State} {m : MethodId} {args : Array Value} {below : List Frame} {meth : Method} {c : Code} {H : Heap} {locs : List Loc} {cells slots : Nat} {Q : State → Prop} {cc : ByteArray} {nL : Nat} {Ts : List Cond} {own : String} {index pc : Nat} {ls : Array Slot} {rest : List Value} {D : va_G} {y : Y3} {h : Nat} {ad : Nat → Nat} {σ : Sg} {x1 : Int32} {x2 : Int32} (hF : CallFix p m c cc nL s args Ts own) (cw : CallW R s args own RX3 index yX3_ofMeal cX3_ofMeal 3 (some .int) wsX3_ofMeal ({ frames := 1, cells := 0, slots := 0, locals := 23 } : Room) 0 0 2) (hC : CK D y s) (hCh : qoH D 3 h ad H) (hSt : StH D y ad σ H) (hsz : ls.size = nL) (hW : (rest.map fun v => v.category).sum ≤ 8) (hdg : decode cc pc = .ok (.invokevirtual index, 3)) (hf : cells ≤ R.cells ∧ slots ≤ R.slots)
    (k : W p l e R s m args below meth c H locs cells slots Q (F0 m (pc + 3) ls (.int (zX3_ofMeal σ x1 x2) :: rest))) : W p l e R s m args below meth c H locs cells slots Q (F0 m pc ls (.int x2 :: .int x1 :: .ref h :: rest)) := by
  refine vp_callSi (W.runV (As := [.int x1, .int x2]) (rest := rest) hF (mX3_ofMeal l D y h ad σ x1 x2) cw ⟨fun a U g mk q => by obtain ⟨q0, q1, q2, q3⟩ := q; exact ⟨q0, q1.call g mk a, q2, q3⟩, va_recv hC.1 hCh (ci := 3) (q0 := 0) rfl rfl, fun U hU hW => ⟨rfl, hC.warm hW, by rw [hU]; exact hCh, by rw [hU]; exact hSt⟩⟩ rfl rfl hsz rfl (lv_room hW) hdg ⟨hf.1, hf.2⟩) (fun r hr => ?_)
  subst hr
  exact k
def zX3_ofLocker (σ : Sg) (x1 : Int32) (x2 : Int32) : Int32 := if (zX5_has (σ 5 0) x1) = 0 then (-1)
  else (if (zX7_isWithin x2 0 8) = 0 then (-1)
    else (if x2 = 2 then (zX4_mealsIn σ x1)
      else (zatt σ 0 x1 x2)))
theorem iwX3_ofLocker_X3 : ∀ w ∈ wsX30, w ∈ wsX3_ofLocker := fun _ h => List.mem_cons_of_mem _ (List.mem_append_left _ (List.mem_append_left _ (List.mem_append_right _ h)))
theorem hdX3_ofLocker : yX3_ofLocker.cls = RX3 ∧ yX3_ofLocker.cls ≠ "java/lang/invoke/MethodHandle" ∧ yX3_ofLocker.cls ≠ "java/lang/invoke/VarHandle" ∧ (parseMethodDescriptor yX3_ofLocker.desc).map (fun d => d.parameters.length) = some 2 := by decide +kernel
set_option maxHeartbeats 4000000 in
set_option maxRecDepth 100000 in
theorem mX3_ofLocker (l : Launch) (D : va_G) (y : Y3) (h : Nat) (ad : Nat → Nat) (σ : Sg) (x1 : Int32) (x2 : Int32) : Met l yX3_ofLocker wsX3_ofLocker ({ frames := 2, cells := 0, slots := 0, locals := 46 } : Room) (va_Pc [.ref h, .int x1, .int x2] (fun U => CK D y U ∧ qoH D 3 h ad U.heap ∧ StH D y ad σ U.heap)) (vp_Si (fun r => r = zX3_ofLocker σ x1 x2)) 0 0 (fun _ => False) := by
  refine Met.ofW (cc := cX3_ofLocker) (maxL := 3) (ret := (some .int)) (by decide) rfl ?_
  intro p e s m args below meth c s₁ B hml hv
  obtain ⟨rfl, hC, hCh, hSt⟩ := hv
  have hx := B.exec
  have hb := B.bytes
  have hr := B.returns
  have hts := atoms_spec (ws := wsX3_ofLocker) B.pre
  have hown : s.vm.findClass RX3 = some m.cls := findClass_of_methodNamed B.named
  have hlocks := B.notSynchronized
  have hF := (⟨hx, hb, hml, hown, hts⟩ : CallFix p m c cX3_ofLocker 3 s _ wsX3_ofLocker RX3)
  have hl := lv_entry ([.ref h, .int x1, .int x2]) (n := 3) (Nat.le_of_ble_eq_true rfl)
  rw [lg_entry_eq]
  generalize (lg_sl ([.ref h, .int x1, .int x2]) ++ List.replicate (3 - (lg_sl ([.ref h, .int x1, .int x2])).length) Slot.unset).toArray = ls at hl ⊢
  have hl : lv_has ls 3 [(0, .ref h), (1, .int x1), (2, .int x2)] := hl
  refine lv_aload_n hx hb dX3_ofLocker_0 rfl (lv_at hl 0 rfl) ?_
  refine va_get (D := D) (ci := 3) (v := .ref (ad 1)) (C := RX3) (T := TX3) (N := 5) hx hb hts iwX3_ofLocker_X3 hown hC.1 hCh 0 rfl rfl 1 (by decide) (hts (.fieldLink RX3 21 "MealLockers$Questions" "lockers" "LMealLockers$Table;") (List.mem_of_getElem? (i := 1) rfl)) (fun _ h9 => h9) rfl dX3_ofLocker_1 ?_
  refine lv_iload_n hx hb dX3_ofLocker_4 rfl (lv_at hl 1 rfl) ?_
  refine sX5_has (k := 0) hF (cwV 1 hts gX3_ofLocker_X5_has rfl rfl rfl hdX5_has ⟨Nat.le_of_ble_eq_true rfl, Nat.le_of_ble_eq_true rfl⟩) hC hSt (by decide) hl.1 (Nat.le_of_ble_eq_true rfl) dX3_ofLocker_5 ⟨Nat.zero_le _, Nat.zero_le _⟩ ?_
  refine lv_if_eq (tgt := 21) hx hb dX3_ofLocker_8 (by decide) (fun c_1 => ?_) (fun c_1 => ?_)
  · refine lv_iconst (v := (-1)) hx hb dX3_ofLocker_21 (by decide) ?_
    exact W.iret (v := (-1)) hx hb hr (fun t ht hW => ⟨(-1), rfl, (by unfold zX3_ofLocker; rw [if_pos c_1]), ht⟩) (fun q hq => absurd hq List.not_mem_nil) dX3_ofLocker_22
  · refine lv_iload_n hx hb dX3_ofLocker_11 rfl (lv_at hl 2 rfl) ?_
    refine lv_iconst (v := 0) hx hb dX3_ofLocker_12 (by decide) ?_
    refine lv_bipush (v := 8) hx hb dX3_ofLocker_13 (by decide) ?_
    refine kX7_isWithinN hF ⟨va_cnB 3 hts gX3_ofLocker_X7_isWithin_n40 rfl rfl rfl (nw_m1 hC) (hts (.initialized RX7) (List.mem_of_getElem? (i := 10) rfl)) hdX7_isWithin ⟨Nat.le_of_ble_eq_true rfl, Nat.le_of_ble_eq_true rfl⟩, (hts (.static yX7_isWithin) (List.mem_of_getElem? (i := 9) rfl)), trivial⟩ hC hl.1 (Nat.le_of_ble_eq_true rfl) dX3_ofLocker_15 ⟨Nat.zero_le _, Nat.zero_le _⟩ ?_
    refine lv_if_ne (tgt := 23) hx hb dX3_ofLocker_18 (by decide) (fun c_2 => ?_) (fun c_2 => ?_)
    · refine lv_iload_n hx hb dX3_ofLocker_23 rfl (lv_at hl 2 rfl) ?_
      refine lv_iconst (v := 2) hx hb dX3_ofLocker_24 (by decide) ?_
      refine lv_icmp_ne (tgt := 39) hx hb dX3_ofLocker_25 (by decide) (fun c_3 => ?_) (fun c_3 => ?_)
      · refine lv_aload_n hx hb dX3_ofLocker_39 rfl (lv_at hl 0 rfl) ?_
        refine va_get (D := D) (ci := 3) (v := .ref (ad 1)) (C := RX3) (T := TX3) (N := 5) hx hb hts iwX3_ofLocker_X3 hown hC.1 hCh 0 rfl rfl 1 (by decide) (hts (.fieldLink RX3 21 "MealLockers$Questions" "lockers" "LMealLockers$Table;") (List.mem_of_getElem? (i := 1) rfl)) (fun _ h9 => h9) rfl dX3_ofLocker_40 ?_
        refine lv_iload_n hx hb dX3_ofLocker_43 rfl (lv_at hl 1 rfl) ?_
        refine lv_iload_n hx hb dX3_ofLocker_44 rfl (lv_at hl 2 rfl) ?_
        refine sX5_at (k := 0) hF (cwV 2 hts gX3_ofLocker_X5_at rfl rfl rfl hdX5_at ⟨Nat.le_of_ble_eq_true rfl, Nat.le_of_ble_eq_true rfl⟩) hC hSt (by decide) hl.1 (Nat.le_of_ble_eq_true rfl) dX3_ofLocker_45 ⟨Nat.zero_le _, Nat.zero_le _⟩ ?_
        exact W.iret (v := (zatt σ 0 x1 x2)) hx hb hr (fun t ht hW => ⟨(zatt σ 0 x1 x2), rfl, (by unfold zX3_ofLocker; rw [if_neg c_1, if_neg c_2, if_neg c_3]), ht⟩) (fun q hq => absurd hq List.not_mem_nil) dX3_ofLocker_48
      · refine lv_aload_n hx hb dX3_ofLocker_28 rfl (lv_at hl 0 rfl) ?_
        refine va_get (D := D) (ci := 3) (v := .ref (ad 0)) (C := RX3) (T := TX3) (N := 5) hx hb hts iwX3_ofLocker_X3 hown hC.1 hCh 0 rfl rfl 0 (by decide) (hts (.fieldLink RX3 9 "MealLockers$Questions" "state" "LMealLockers$State;") (List.mem_of_getElem? (i := 2) rfl)) (fun _ h9 => h9) rfl dX3_ofLocker_29 ?_
        refine lv_iload_n hx hb dX3_ofLocker_32 rfl (lv_at hl 1 rfl) ?_
        refine kX4_mealsIn hF (cwV 1 hts gX3_ofLocker_X4_mealsIn rfl rfl rfl hdX4_mealsIn ⟨Nat.le_of_ble_eq_true rfl, Nat.le_of_ble_eq_true rfl⟩) hC hSt hl.1 (Nat.le_of_ble_eq_true rfl) dX3_ofLocker_33 ⟨Nat.zero_le _, Nat.zero_le _⟩ ?_
        refine lv_goto (tgt := 48) hx hb dX3_ofLocker_36 (by decide) ?_
        exact W.iret (v := (zX4_mealsIn σ x1)) hx hb hr (fun t ht hW => ⟨(zX4_mealsIn σ x1), rfl, (by unfold zX3_ofLocker; rw [if_neg c_1, if_neg c_2, if_pos c_3]), ht⟩) (fun q hq => absurd hq List.not_mem_nil) dX3_ofLocker_48
    · refine lv_iconst (v := (-1)) hx hb dX3_ofLocker_21 (by decide) ?_
      exact W.iret (v := (-1)) hx hb hr (fun t ht hW => ⟨(-1), rfl, (by unfold zX3_ofLocker; rw [if_neg c_1, if_pos c_2]), ht⟩) (fun q hq => absurd hq List.not_mem_nil) dX3_ofLocker_22
set_option maxHeartbeats 4000000 in
set_option maxRecDepth 100000 in
theorem kX3_ofLocker {p : Program} {l : Launch} {e : Env} {R : Room} {s : State} {m : MethodId} {args : Array Value} {below : List Frame} {meth : Method} {c : Code} {H : Heap} {locs : List Loc} {cells slots : Nat} {Q : State → Prop} {cc : ByteArray} {nL : Nat} {Ts : List Cond} {own : String} {index pc : Nat} {ls : Array Slot} {rest : List Value} {D : va_G} {y : Y3} {h : Nat} {ad : Nat → Nat} {σ : Sg} {x1 : Int32} {x2 : Int32} (hF : CallFix p m c cc nL s args Ts own) (cw : CallW R s args own RX3 index yX3_ofLocker cX3_ofLocker 3 (some .int) wsX3_ofLocker ({ frames := 2, cells := 0, slots := 0, locals := 46 } : Room) 0 0 2) (hC : CK D y s) (hCh : qoH D 3 h ad H) (hSt : StH D y ad σ H) (hsz : ls.size = nL) (hW : (rest.map fun v => v.category).sum ≤ 8) (hdg : decode cc pc = .ok (.invokevirtual index, 3)) (hf : cells ≤ R.cells ∧ slots ≤ R.slots)
    (k : W p l e R s m args below meth c H locs cells slots Q (F0 m (pc + 3) ls (.int (zX3_ofLocker σ x1 x2) :: rest))) : W p l e R s m args below meth c H locs cells slots Q (F0 m pc ls (.int x2 :: .int x1 :: .ref h :: rest)) := by
  refine vp_callSi (W.runV (As := [.int x1, .int x2]) (rest := rest) hF (mX3_ofLocker l D y h ad σ x1 x2) cw ⟨fun a U g mk q => by obtain ⟨q0, q1, q2, q3⟩ := q; exact ⟨q0, q1.call g mk a, q2, q3⟩, va_recv hC.1 hCh (ci := 3) (q0 := 0) rfl rfl, fun U hU hW => ⟨rfl, hC.warm hW, by rw [hU]; exact hCh, by rw [hU]; exact hSt⟩⟩ rfl rfl hsz rfl (lv_room hW) hdg ⟨hf.1, hf.2⟩) (fun r hr => ?_)
  subst hr
  exact k
def zX3_ofPerson (σ : Sg) (x1 : Int32) (x2 : Int32) : Int32 := if (zX5_has (σ 5 2) x1) = 0 then (-1)
  else (if (zX7_isWithin x2 0 5) = 0 then (-1)
    else (if x2 = 2 then (zX4_barredHours σ x1)
      else (if x2 = 3 then (zX4_mealReservedBy σ x1)
        else (zatt σ 2 x1 x2))))
theorem iwX3_ofPerson_X3 : ∀ w ∈ wsX30, w ∈ wsX3_ofPerson := fun _ h => List.mem_cons_of_mem _ (List.mem_append_left _ (List.mem_append_left _ (List.mem_append_right _ h)))
theorem hdX3_ofPerson : yX3_ofPerson.cls = RX3 ∧ yX3_ofPerson.cls ≠ "java/lang/invoke/MethodHandle" ∧ yX3_ofPerson.cls ≠ "java/lang/invoke/VarHandle" ∧ (parseMethodDescriptor yX3_ofPerson.desc).map (fun d => d.parameters.length) = some 2 := by decide +kernel
set_option maxHeartbeats 4000000 in
set_option maxRecDepth 100000 in
theorem mX3_ofPerson (l : Launch) (D : va_G) (y : Y3) (h : Nat) (ad : Nat → Nat) (σ : Sg) (x1 : Int32) (x2 : Int32) : Met l yX3_ofPerson wsX3_ofPerson ({ frames := 2, cells := 0, slots := 0, locals := 45 } : Room) (va_Pc [.ref h, .int x1, .int x2] (fun U => CK D y U ∧ qoH D 3 h ad U.heap ∧ StH D y ad σ U.heap)) (vp_Si (fun r => r = zX3_ofPerson σ x1 x2)) 0 0 (fun _ => False) := by
  refine Met.ofW (cc := cX3_ofPerson) (maxL := 3) (ret := (some .int)) (by decide) rfl ?_
  intro p e s m args below meth c s₁ B hml hv
  obtain ⟨rfl, hC, hCh, hSt⟩ := hv
  have hx := B.exec
  have hb := B.bytes
  have hr := B.returns
  have hts := atoms_spec (ws := wsX3_ofPerson) B.pre
  have hown : s.vm.findClass RX3 = some m.cls := findClass_of_methodNamed B.named
  have hlocks := B.notSynchronized
  have hF := (⟨hx, hb, hml, hown, hts⟩ : CallFix p m c cX3_ofPerson 3 s _ wsX3_ofPerson RX3)
  have hl := lv_entry ([.ref h, .int x1, .int x2]) (n := 3) (Nat.le_of_ble_eq_true rfl)
  rw [lg_entry_eq]
  generalize (lg_sl ([.ref h, .int x1, .int x2]) ++ List.replicate (3 - (lg_sl ([.ref h, .int x1, .int x2])).length) Slot.unset).toArray = ls at hl ⊢
  have hl : lv_has ls 3 [(0, .ref h), (1, .int x1), (2, .int x2)] := hl
  refine lv_aload_n hx hb dX3_ofPerson_0 rfl (lv_at hl 0 rfl) ?_
  refine va_get (D := D) (ci := 3) (v := .ref (ad 5)) (C := RX3) (T := TX3) (N := 5) hx hb hts iwX3_ofPerson_X3 hown hC.1 hCh 0 rfl rfl 3 (by decide) (hts (.fieldLink RX3 29 "MealLockers$Questions" "people" "LMealLockers$Table;") (List.mem_of_getElem? (i := 1) rfl)) (fun _ h9 => h9) rfl dX3_ofPerson_1 ?_
  refine lv_iload_n hx hb dX3_ofPerson_4 rfl (lv_at hl 1 rfl) ?_
  refine sX5_has (k := 2) hF (cwV 1 hts gX3_ofPerson_X5_has rfl rfl rfl hdX5_has ⟨Nat.le_of_ble_eq_true rfl, Nat.le_of_ble_eq_true rfl⟩) hC hSt (by decide) hl.1 (Nat.le_of_ble_eq_true rfl) dX3_ofPerson_5 ⟨Nat.zero_le _, Nat.zero_le _⟩ ?_
  refine lv_if_eq (tgt := 20) hx hb dX3_ofPerson_8 (by decide) (fun c_1 => ?_) (fun c_1 => ?_)
  · refine lv_iconst (v := (-1)) hx hb dX3_ofPerson_20 (by decide) ?_
    exact W.iret (v := (-1)) hx hb hr (fun t ht hW => ⟨(-1), rfl, (by unfold zX3_ofPerson; rw [if_pos c_1]), ht⟩) (fun q hq => absurd hq List.not_mem_nil) dX3_ofPerson_21
  · refine lv_iload_n hx hb dX3_ofPerson_11 rfl (lv_at hl 2 rfl) ?_
    refine lv_iconst (v := 0) hx hb dX3_ofPerson_12 (by decide) ?_
    refine lv_iconst (v := 5) hx hb dX3_ofPerson_13 (by decide) ?_
    refine kX7_isWithinN hF ⟨va_cnB 3 hts gX3_ofPerson_X7_isWithin_n40 rfl rfl rfl (nw_m1 hC) (hts (.initialized RX7) (List.mem_of_getElem? (i := 10) rfl)) hdX7_isWithin ⟨Nat.le_of_ble_eq_true rfl, Nat.le_of_ble_eq_true rfl⟩, (hts (.static yX7_isWithin) (List.mem_of_getElem? (i := 9) rfl)), trivial⟩ hC hl.1 (Nat.le_of_ble_eq_true rfl) dX3_ofPerson_14 ⟨Nat.zero_le _, Nat.zero_le _⟩ ?_
    refine lv_if_ne (tgt := 22) hx hb dX3_ofPerson_17 (by decide) (fun c_2 => ?_) (fun c_2 => ?_)
    · refine lv_iload_n hx hb dX3_ofPerson_22 rfl (lv_at hl 2 rfl) ?_
      refine (Decidable.em (x2 = 2)).elim (fun c_3 => ?_) (fun c_3 => ?_)
      · refine lv_lookup (tgt := 48) hx hb dX3_ofPerson_23 (by decide) (off := 25) (by rw [c_3]; decide) (by decide) ?_
        refine lv_aload_n hx hb dX3_ofPerson_48 rfl (lv_at hl 0 rfl) ?_
        refine va_get (D := D) (ci := 3) (v := .ref (ad 0)) (C := RX3) (T := TX3) (N := 5) hx hb hts iwX3_ofPerson_X3 hown hC.1 hCh 0 rfl rfl 0 (by decide) (hts (.fieldLink RX3 9 "MealLockers$Questions" "state" "LMealLockers$State;") (List.mem_of_getElem? (i := 2) rfl)) (fun _ h9 => h9) rfl dX3_ofPerson_49 ?_
        refine lv_iload_n hx hb dX3_ofPerson_52 rfl (lv_at hl 1 rfl) ?_
        refine kX4_barredHours hF (cwV 1 hts gX3_ofPerson_X4_barredHours rfl rfl rfl hdX4_barredHours ⟨Nat.le_of_ble_eq_true rfl, Nat.le_of_ble_eq_true rfl⟩) hC hSt hl.1 (Nat.le_of_ble_eq_true rfl) dX3_ofPerson_53 ⟨Nat.zero_le _, Nat.zero_le _⟩ ?_
        exact W.iret (v := (zX4_barredHours σ x1)) hx hb hr (fun t ht hW => ⟨(zX4_barredHours σ x1), rfl, (by unfold zX3_ofPerson; rw [if_neg c_1, if_neg c_2, if_pos c_3]), ht⟩) (fun q hq => absurd hq List.not_mem_nil) dX3_ofPerson_56
      · refine (Decidable.em (x2 = 3)).elim (fun c_4 => ?_) (fun c_4 => ?_)
        · refine lv_lookup (tgt := 57) hx hb dX3_ofPerson_23 (by decide) (off := 34) (by rw [c_4]; decide) (by decide) ?_
          refine lv_aload_n hx hb dX3_ofPerson_57 rfl (lv_at hl 0 rfl) ?_
          refine va_get (D := D) (ci := 3) (v := .ref (ad 0)) (C := RX3) (T := TX3) (N := 5) hx hb hts iwX3_ofPerson_X3 hown hC.1 hCh 0 rfl rfl 0 (by decide) (hts (.fieldLink RX3 9 "MealLockers$Questions" "state" "LMealLockers$State;") (List.mem_of_getElem? (i := 2) rfl)) (fun _ h9 => h9) rfl dX3_ofPerson_58 ?_
          refine lv_iload_n hx hb dX3_ofPerson_61 rfl (lv_at hl 1 rfl) ?_
          refine kX4_mealReservedBy hF (cwV 1 hts gX3_ofPerson_X4_mealReservedBy rfl rfl rfl hdX4_mealReservedBy ⟨Nat.le_of_ble_eq_true rfl, Nat.le_of_ble_eq_true rfl⟩) hC hSt hl.1 (Nat.le_of_ble_eq_true rfl) dX3_ofPerson_62 ⟨Nat.zero_le _, Nat.zero_le _⟩ ?_
          exact W.iret (v := (zX4_mealReservedBy σ x1)) hx hb hr (fun t ht hW => ⟨(zX4_mealReservedBy σ x1), rfl, (by unfold zX3_ofPerson; rw [if_neg c_1, if_neg c_2, if_neg c_3, if_pos c_4]), ht⟩) (fun q hq => absurd hq List.not_mem_nil) dX3_ofPerson_65
        · refine lv_lookup (tgt := 66) hx hb dX3_ofPerson_23 (by decide) (off := 43) (by rw [lv_osw c_3 (by decide)]; rw [lv_osw c_4 (by decide)]; rfl) (by decide) ?_
          refine lv_aload_n hx hb dX3_ofPerson_66 rfl (lv_at hl 0 rfl) ?_
          refine va_get (D := D) (ci := 3) (v := .ref (ad 5)) (C := RX3) (T := TX3) (N := 5) hx hb hts iwX3_ofPerson_X3 hown hC.1 hCh 0 rfl rfl 3 (by decide) (hts (.fieldLink RX3 29 "MealLockers$Questions" "people" "LMealLockers$Table;") (List.mem_of_getElem? (i := 1) rfl)) (fun _ h9 => h9) rfl dX3_ofPerson_67 ?_
          refine lv_iload_n hx hb dX3_ofPerson_70 rfl (lv_at hl 1 rfl) ?_
          refine lv_iload_n hx hb dX3_ofPerson_71 rfl (lv_at hl 2 rfl) ?_
          refine sX5_at (k := 2) hF (cwV 2 hts gX3_ofPerson_X5_at rfl rfl rfl hdX5_at ⟨Nat.le_of_ble_eq_true rfl, Nat.le_of_ble_eq_true rfl⟩) hC hSt (by decide) hl.1 (Nat.le_of_ble_eq_true rfl) dX3_ofPerson_72 ⟨Nat.zero_le _, Nat.zero_le _⟩ ?_
          exact W.iret (v := (zatt σ 2 x1 x2)) hx hb hr (fun t ht hW => ⟨(zatt σ 2 x1 x2), rfl, (by unfold zX3_ofPerson; rw [if_neg c_1, if_neg c_2, if_neg c_3, if_neg c_4]), ht⟩) (fun q hq => absurd hq List.not_mem_nil) dX3_ofPerson_75
    · refine lv_iconst (v := (-1)) hx hb dX3_ofPerson_20 (by decide) ?_
      exact W.iret (v := (-1)) hx hb hr (fun t ht hW => ⟨(-1), rfl, (by unfold zX3_ofPerson; rw [if_neg c_1, if_pos c_2]), ht⟩) (fun q hq => absurd hq List.not_mem_nil) dX3_ofPerson_21
set_option maxHeartbeats 4000000 in
set_option maxRecDepth 100000 in
theorem kX3_ofPerson {p : Program} {l : Launch} {e : Env} {R : Room} {s : State} {m : MethodId} {args : Array Value} {below : List Frame} {meth : Method} {c : Code} {H : Heap} {locs : List Loc} {cells slots : Nat} {Q : State → Prop} {cc : ByteArray} {nL : Nat} {Ts : List Cond} {own : String} {index pc : Nat} {ls : Array Slot} {rest : List Value} {D : va_G} {y : Y3} {h : Nat} {ad : Nat → Nat} {σ : Sg} {x1 : Int32} {x2 : Int32} (hF : CallFix p m c cc nL s args Ts own) (cw : CallW R s args own RX3 index yX3_ofPerson cX3_ofPerson 3 (some .int) wsX3_ofPerson ({ frames := 2, cells := 0, slots := 0, locals := 45 } : Room) 0 0 2) (hC : CK D y s) (hCh : qoH D 3 h ad H) (hSt : StH D y ad σ H) (hsz : ls.size = nL) (hW : (rest.map fun v => v.category).sum ≤ 8) (hdg : decode cc pc = .ok (.invokevirtual index, 3)) (hf : cells ≤ R.cells ∧ slots ≤ R.slots)
    (k : W p l e R s m args below meth c H locs cells slots Q (F0 m (pc + 3) ls (.int (zX3_ofPerson σ x1 x2) :: rest))) : W p l e R s m args below meth c H locs cells slots Q (F0 m pc ls (.int x2 :: .int x1 :: .ref h :: rest)) := by
  refine vp_callSi (W.runV (As := [.int x1, .int x2]) (rest := rest) hF (mX3_ofPerson l D y h ad σ x1 x2) cw ⟨fun a U g mk q => by obtain ⟨q0, q1, q2, q3⟩ := q; exact ⟨q0, q1.call g mk a, q2, q3⟩, va_recv hC.1 hCh (ci := 3) (q0 := 0) rfl rfl, fun U hU hW => ⟨rfl, hC.warm hW, by rw [hU]; exact hCh, by rw [hU]; exact hSt⟩⟩ rfl rfl hsz rfl (lv_room hW) hdg ⟨hf.1, hf.2⟩) (fun r hr => ?_)
  subst hr
  exact k
def zX3_ofVolunteer (σ : Sg) (x1 : Int32) (x2 : Int32) : Int32 := if (zX5_has (σ 5 3) x1) = 0 then (-1)
  else (if (zX7_isWithin x2 0 4) = 0 then (-1)
    else (if x2 = 2 then (zX4_mealsWith σ x1)
      else (if x2 = 3 then (zX4_wayHoursLeft σ x1)
        else (zatt σ 3 x1 x2))))
theorem iwX3_ofVolunteer_X3 : ∀ w ∈ wsX30, w ∈ wsX3_ofVolunteer := fun _ h => List.mem_cons_of_mem _ (List.mem_append_left _ (List.mem_append_left _ (List.mem_append_right _ h)))
theorem hdX3_ofVolunteer : yX3_ofVolunteer.cls = RX3 ∧ yX3_ofVolunteer.cls ≠ "java/lang/invoke/MethodHandle" ∧ yX3_ofVolunteer.cls ≠ "java/lang/invoke/VarHandle" ∧ (parseMethodDescriptor yX3_ofVolunteer.desc).map (fun d => d.parameters.length) = some 2 := by decide +kernel
set_option maxHeartbeats 4000000 in
set_option maxRecDepth 100000 in
theorem mX3_ofVolunteer (l : Launch) (D : va_G) (y : Y3) (h : Nat) (ad : Nat → Nat) (σ : Sg) (x1 : Int32) (x2 : Int32) : Met l yX3_ofVolunteer wsX3_ofVolunteer ({ frames := 2, cells := 0, slots := 0, locals := 46 } : Room) (va_Pc [.ref h, .int x1, .int x2] (fun U => CK D y U ∧ qoH D 3 h ad U.heap ∧ StH D y ad σ U.heap)) (vp_Si (fun r => r = zX3_ofVolunteer σ x1 x2)) 0 0 (fun _ => False) := by
  refine Met.ofW (cc := cX3_ofVolunteer) (maxL := 3) (ret := (some .int)) (by decide) rfl ?_
  intro p e s m args below meth c s₁ B hml hv
  obtain ⟨rfl, hC, hCh, hSt⟩ := hv
  have hx := B.exec
  have hb := B.bytes
  have hr := B.returns
  have hts := atoms_spec (ws := wsX3_ofVolunteer) B.pre
  have hown : s.vm.findClass RX3 = some m.cls := findClass_of_methodNamed B.named
  have hlocks := B.notSynchronized
  have hF := (⟨hx, hb, hml, hown, hts⟩ : CallFix p m c cX3_ofVolunteer 3 s _ wsX3_ofVolunteer RX3)
  have hl := lv_entry ([.ref h, .int x1, .int x2]) (n := 3) (Nat.le_of_ble_eq_true rfl)
  rw [lg_entry_eq]
  generalize (lg_sl ([.ref h, .int x1, .int x2]) ++ List.replicate (3 - (lg_sl ([.ref h, .int x1, .int x2])).length) Slot.unset).toArray = ls at hl ⊢
  have hl : lv_has ls 3 [(0, .ref h), (1, .int x1), (2, .int x2)] := hl
  refine lv_aload_n hx hb dX3_ofVolunteer_0 rfl (lv_at hl 0 rfl) ?_
  refine va_get (D := D) (ci := 3) (v := .ref (ad 7)) (C := RX3) (T := TX3) (N := 5) hx hb hts iwX3_ofVolunteer_X3 hown hC.1 hCh 0 rfl rfl 4 (by decide) (hts (.fieldLink RX3 33 "MealLockers$Questions" "volunteers" "LMealLockers$Table;") (List.mem_of_getElem? (i := 1) rfl)) (fun _ h9 => h9) rfl dX3_ofVolunteer_1 ?_
  refine lv_iload_n hx hb dX3_ofVolunteer_4 rfl (lv_at hl 1 rfl) ?_
  refine sX5_has (k := 3) hF (cwV 1 hts gX3_ofVolunteer_X5_has rfl rfl rfl hdX5_has ⟨Nat.le_of_ble_eq_true rfl, Nat.le_of_ble_eq_true rfl⟩) hC hSt (by decide) hl.1 (Nat.le_of_ble_eq_true rfl) dX3_ofVolunteer_5 ⟨Nat.zero_le _, Nat.zero_le _⟩ ?_
  refine lv_if_eq (tgt := 20) hx hb dX3_ofVolunteer_8 (by decide) (fun c_1 => ?_) (fun c_1 => ?_)
  · refine lv_iconst (v := (-1)) hx hb dX3_ofVolunteer_20 (by decide) ?_
    exact W.iret (v := (-1)) hx hb hr (fun t ht hW => ⟨(-1), rfl, (by unfold zX3_ofVolunteer; rw [if_pos c_1]), ht⟩) (fun q hq => absurd hq List.not_mem_nil) dX3_ofVolunteer_21
  · refine lv_iload_n hx hb dX3_ofVolunteer_11 rfl (lv_at hl 2 rfl) ?_
    refine lv_iconst (v := 0) hx hb dX3_ofVolunteer_12 (by decide) ?_
    refine lv_iconst (v := 4) hx hb dX3_ofVolunteer_13 (by decide) ?_
    refine kX7_isWithinN hF ⟨va_cnB 3 hts gX3_ofVolunteer_X7_isWithin_n40 rfl rfl rfl (nw_m1 hC) (hts (.initialized RX7) (List.mem_of_getElem? (i := 10) rfl)) hdX7_isWithin ⟨Nat.le_of_ble_eq_true rfl, Nat.le_of_ble_eq_true rfl⟩, (hts (.static yX7_isWithin) (List.mem_of_getElem? (i := 9) rfl)), trivial⟩ hC hl.1 (Nat.le_of_ble_eq_true rfl) dX3_ofVolunteer_14 ⟨Nat.zero_le _, Nat.zero_le _⟩ ?_
    refine lv_if_ne (tgt := 22) hx hb dX3_ofVolunteer_17 (by decide) (fun c_2 => ?_) (fun c_2 => ?_)
    · refine lv_iload_n hx hb dX3_ofVolunteer_22 rfl (lv_at hl 2 rfl) ?_
      refine (Decidable.em (x2 = 2)).elim (fun c_3 => ?_) (fun c_3 => ?_)
      · refine lv_lookup (tgt := 48) hx hb dX3_ofVolunteer_23 (by decide) (off := 25) (by rw [c_3]; decide) (by decide) ?_
        refine lv_aload_n hx hb dX3_ofVolunteer_48 rfl (lv_at hl 0 rfl) ?_
        refine va_get (D := D) (ci := 3) (v := .ref (ad 0)) (C := RX3) (T := TX3) (N := 5) hx hb hts iwX3_ofVolunteer_X3 hown hC.1 hCh 0 rfl rfl 0 (by decide) (hts (.fieldLink RX3 9 "MealLockers$Questions" "state" "LMealLockers$State;") (List.mem_of_getElem? (i := 2) rfl)) (fun _ h9 => h9) rfl dX3_ofVolunteer_49 ?_
        refine lv_iload_n hx hb dX3_ofVolunteer_52 rfl (lv_at hl 1 rfl) ?_
        refine kX4_mealsWith hF (cwV 1 hts gX3_ofVolunteer_X4_mealsWith rfl rfl rfl hdX4_mealsWith ⟨Nat.le_of_ble_eq_true rfl, Nat.le_of_ble_eq_true rfl⟩) hC hSt hl.1 (Nat.le_of_ble_eq_true rfl) dX3_ofVolunteer_53 ⟨Nat.zero_le _, Nat.zero_le _⟩ ?_
        exact W.iret (v := (zX4_mealsWith σ x1)) hx hb hr (fun t ht hW => ⟨(zX4_mealsWith σ x1), rfl, (by unfold zX3_ofVolunteer; rw [if_neg c_1, if_neg c_2, if_pos c_3]), ht⟩) (fun q hq => absurd hq List.not_mem_nil) dX3_ofVolunteer_56
      · refine (Decidable.em (x2 = 3)).elim (fun c_4 => ?_) (fun c_4 => ?_)
        · refine lv_lookup (tgt := 57) hx hb dX3_ofVolunteer_23 (by decide) (off := 34) (by rw [c_4]; decide) (by decide) ?_
          refine lv_aload_n hx hb dX3_ofVolunteer_57 rfl (lv_at hl 0 rfl) ?_
          refine va_get (D := D) (ci := 3) (v := .ref (ad 0)) (C := RX3) (T := TX3) (N := 5) hx hb hts iwX3_ofVolunteer_X3 hown hC.1 hCh 0 rfl rfl 0 (by decide) (hts (.fieldLink RX3 9 "MealLockers$Questions" "state" "LMealLockers$State;") (List.mem_of_getElem? (i := 2) rfl)) (fun _ h9 => h9) rfl dX3_ofVolunteer_58 ?_
          refine lv_iload_n hx hb dX3_ofVolunteer_61 rfl (lv_at hl 1 rfl) ?_
          refine kX4_wayHoursLeft hF (cwV 1 hts gX3_ofVolunteer_X4_wayHoursLeft rfl rfl rfl hdX4_wayHoursLeft ⟨Nat.le_of_ble_eq_true rfl, Nat.le_of_ble_eq_true rfl⟩) hC hSt hl.1 (Nat.le_of_ble_eq_true rfl) dX3_ofVolunteer_62 ⟨Nat.zero_le _, Nat.zero_le _⟩ ?_
          exact W.iret (v := (zX4_wayHoursLeft σ x1)) hx hb hr (fun t ht hW => ⟨(zX4_wayHoursLeft σ x1), rfl, (by unfold zX3_ofVolunteer; rw [if_neg c_1, if_neg c_2, if_neg c_3, if_pos c_4]), ht⟩) (fun q hq => absurd hq List.not_mem_nil) dX3_ofVolunteer_65
        · refine lv_lookup (tgt := 66) hx hb dX3_ofVolunteer_23 (by decide) (off := 43) (by rw [lv_osw c_3 (by decide)]; rw [lv_osw c_4 (by decide)]; rfl) (by decide) ?_
          refine lv_aload_n hx hb dX3_ofVolunteer_66 rfl (lv_at hl 0 rfl) ?_
          refine va_get (D := D) (ci := 3) (v := .ref (ad 7)) (C := RX3) (T := TX3) (N := 5) hx hb hts iwX3_ofVolunteer_X3 hown hC.1 hCh 0 rfl rfl 4 (by decide) (hts (.fieldLink RX3 33 "MealLockers$Questions" "volunteers" "LMealLockers$Table;") (List.mem_of_getElem? (i := 1) rfl)) (fun _ h9 => h9) rfl dX3_ofVolunteer_67 ?_
          refine lv_iload_n hx hb dX3_ofVolunteer_70 rfl (lv_at hl 1 rfl) ?_
          refine lv_iload_n hx hb dX3_ofVolunteer_71 rfl (lv_at hl 2 rfl) ?_
          refine sX5_at (k := 3) hF (cwV 2 hts gX3_ofVolunteer_X5_at rfl rfl rfl hdX5_at ⟨Nat.le_of_ble_eq_true rfl, Nat.le_of_ble_eq_true rfl⟩) hC hSt (by decide) hl.1 (Nat.le_of_ble_eq_true rfl) dX3_ofVolunteer_72 ⟨Nat.zero_le _, Nat.zero_le _⟩ ?_
          exact W.iret (v := (zatt σ 3 x1 x2)) hx hb hr (fun t ht hW => ⟨(zatt σ 3 x1 x2), rfl, (by unfold zX3_ofVolunteer; rw [if_neg c_1, if_neg c_2, if_neg c_3, if_neg c_4]), ht⟩) (fun q hq => absurd hq List.not_mem_nil) dX3_ofVolunteer_75
    · refine lv_iconst (v := (-1)) hx hb dX3_ofVolunteer_20 (by decide) ?_
      exact W.iret (v := (-1)) hx hb hr (fun t ht hW => ⟨(-1), rfl, (by unfold zX3_ofVolunteer; rw [if_neg c_1, if_pos c_2]), ht⟩) (fun q hq => absurd hq List.not_mem_nil) dX3_ofVolunteer_21
set_option maxHeartbeats 4000000 in
set_option maxRecDepth 100000 in
theorem kX3_ofVolunteer {p : Program} {l : Launch} {e : Env} {R : Room} {s : State} {m : MethodId} {args : Array Value} {below : List Frame} {meth : Method} {c : Code} {H : Heap} {locs : List Loc} {cells slots : Nat} {Q : State → Prop} {cc : ByteArray} {nL : Nat} {Ts : List Cond} {own : String} {index pc : Nat} {ls : Array Slot} {rest : List Value} {D : va_G} {y : Y3} {h : Nat} {ad : Nat → Nat} {σ : Sg} {x1 : Int32} {x2 : Int32} (hF : CallFix p m c cc nL s args Ts own) (cw : CallW R s args own RX3 index yX3_ofVolunteer cX3_ofVolunteer 3 (some .int) wsX3_ofVolunteer ({ frames := 2, cells := 0, slots := 0, locals := 46 } : Room) 0 0 2) (hC : CK D y s) (hCh : qoH D 3 h ad H) (hSt : StH D y ad σ H) (hsz : ls.size = nL) (hW : (rest.map fun v => v.category).sum ≤ 8) (hdg : decode cc pc = .ok (.invokevirtual index, 3)) (hf : cells ≤ R.cells ∧ slots ≤ R.slots)
    (k : W p l e R s m args below meth c H locs cells slots Q (F0 m (pc + 3) ls (.int (zX3_ofVolunteer σ x1 x2) :: rest))) : W p l e R s m args below meth c H locs cells slots Q (F0 m pc ls (.int x2 :: .int x1 :: .ref h :: rest)) := by
  refine vp_callSi (W.runV (As := [.int x1, .int x2]) (rest := rest) hF (mX3_ofVolunteer l D y h ad σ x1 x2) cw ⟨fun a U g mk q => by obtain ⟨q0, q1, q2, q3⟩ := q; exact ⟨q0, q1.call g mk a, q2, q3⟩, va_recv hC.1 hCh (ci := 3) (q0 := 0) rfl rfl, fun U hU hW => ⟨rfl, hC.warm hW, by rw [hU]; exact hCh, by rw [hU]; exact hSt⟩⟩ rfl rfl hsz rfl (lv_room hW) hdg ⟨hf.1, hf.2⟩) (fun r hr => ?_)
  subst hr
  exact k
def bX3_mealsAtStages (σ : Sg) (x1 : Int32) (x2 : Int32) (i : Nat) (v : Int32) : Int32 := if (zX7_isWithin (zatt σ 1 (nI i) 0) x1 x2) = 0 then v
  else (v + 1)
def zX3_mealsAtStages (σ : Sg) (x1 : Int32) (x2 : Int32) : Int32 := (upTo (bX3_mealsAtStages σ x1 x2) 0 (σ 5 1).toNatClampNeg)
theorem iwX3_mealsAtStages_X3 : ∀ w ∈ wsX30, w ∈ wsX3_mealsAtStages := fun _ h => List.mem_cons_of_mem _ (List.mem_append_left _ (List.mem_append_right _ h))
theorem hdX3_mealsAtStages : yX3_mealsAtStages.cls = RX3 ∧ yX3_mealsAtStages.cls ≠ "java/lang/invoke/MethodHandle" ∧ yX3_mealsAtStages.cls ≠ "java/lang/invoke/VarHandle" ∧ (parseMethodDescriptor yX3_mealsAtStages.desc).map (fun d => d.parameters.length) = some 2 := by decide +kernel
set_option maxHeartbeats 4000000 in
set_option maxRecDepth 100000 in
theorem lpX3_mealsAtStages {p : Program} {l : Launch} {e : Env} {s : State} {m : MethodId} {args : Array Value} {below : List Frame} {meth : Method} {c : Code} {Q : State → Prop} {D : va_G} {y : Y3} {h : Nat} {ad : Nat → Nat} {σ : Sg} {x1 : Int32} {x2 : Int32} {H : Heap} {locs : List Loc} (hx : p.tables.exec = Jvm.exec) (hb : c.code = cX3_mealsAtStages) (hml : c.maxLocals = 5) (hown : s.vm.findClass RX3 = some m.cls) (hts : ∀ w ∈ wsX3_mealsAtStages, w.before args s = true) (hC : CK D y s) (hCh : qoH D 3 h ad H) (hSt : StH D y ad σ H)
    (K : ∀ ls : Array Slot, lv_has ls 5 [(4, .int (nI (σ 5 1).toNatClampNeg)), (3, .int (upTo (bX3_mealsAtStages σ x1 x2) 0 ((σ 5 1).toNatClampNeg))), (0, .ref h), (1, .int x1), (2, .int x2)] → W p l e (headSpec wsX3_mealsAtStages ({ frames := 1, cells := 0, slots := 0, locals := 23 } : Room)).room s m args below meth c H locs 0 0 Q (F0 m 44 ls [])) :
    ∀ (j i : Nat), i + j = (σ 5 1).toNatClampNeg → ∀ ls : Array Slot, lv_has ls 5 [(4, .int (nI i)), (3, .int (upTo (bX3_mealsAtStages σ x1 x2) 0 i)), (0, .ref h), (1, .int x1), (2, .int x2)] → W p l e (headSpec wsX3_mealsAtStages ({ frames := 1, cells := 0, slots := 0, locals := 23 } : Room)).room s m args below meth c H locs 0 0 Q (F0 m 5 ls []) := by
  have hF := (⟨hx, hb, hml, hown, hts⟩ : CallFix p m c cX3_mealsAtStages 5 s args wsX3_mealsAtStages RX3)
  have hN := clamp_lt (σ 5 1)
  intro j
  induction j with
  | zero =>
    intro i hin ls hl
    obtain rfl : i = (σ 5 1).toNatClampNeg := by omega
    refine lv_iload hx hb dX3_mealsAtStages_5 (lv_at hl 0 rfl) ?_
    refine lv_aload_n hx hb dX3_mealsAtStages_7 rfl (lv_at hl 2 rfl) ?_
    refine va_get (D := D) (ci := 3) (v := .ref (ad 3)) (C := RX3) (T := TX3) (N := 5) hx hb hts iwX3_mealsAtStages_X3 hown hC.1 hCh 0 rfl rfl 2 (by decide) (hts (.fieldLink RX3 25 "MealLockers$Questions" "meals" "LMealLockers$Table;") (List.mem_of_getElem? (i := 1) rfl)) (fun _ h9 => h9) rfl dX3_mealsAtStages_8 ?_
    refine sX5_size (k := 1) hF (cwV 0 hts gX3_mealsAtStages_X5_size rfl rfl rfl hdX5_size ⟨Nat.le_of_ble_eq_true rfl, Nat.le_of_ble_eq_true rfl⟩) hC hSt (by decide) hl.1 (Nat.le_of_ble_eq_true rfl) dX3_mealsAtStages_11 ⟨Nat.zero_le _, Nat.zero_le _⟩ ?_
    refine lv_icmp_ge (tgt := 44) hx hb dX3_mealsAtStages_14 (by decide) (fun _ => ?_) (fun c_1 => absurd (up_le _) c_1)
    exact K ls hl
  | succ j ih =>
    intro i hin ls hl
    obtain ⟨v, hv⟩ : ∃ v, v = (upTo (bX3_mealsAtStages σ x1 x2) 0 i) := ⟨_, rfl⟩
    rw [← hv] at hl
    refine lv_iload hx hb dX3_mealsAtStages_5 (lv_at hl 0 rfl) ?_
    refine lv_aload_n hx hb dX3_mealsAtStages_7 rfl (lv_at hl 2 rfl) ?_
    refine va_get (D := D) (ci := 3) (v := .ref (ad 3)) (C := RX3) (T := TX3) (N := 5) hx hb hts iwX3_mealsAtStages_X3 hown hC.1 hCh 0 rfl rfl 2 (by decide) (hts (.fieldLink RX3 25 "MealLockers$Questions" "meals" "LMealLockers$Table;") (List.mem_of_getElem? (i := 1) rfl)) (fun _ h9 => h9) rfl dX3_mealsAtStages_8 ?_
    refine sX5_size (k := 1) hF (cwV 0 hts gX3_mealsAtStages_X5_size rfl rfl rfl hdX5_size ⟨Nat.le_of_ble_eq_true rfl, Nat.le_of_ble_eq_true rfl⟩) hC hSt (by decide) hl.1 (Nat.le_of_ble_eq_true rfl) dX3_mealsAtStages_11 ⟨Nat.zero_le _, Nat.zero_le _⟩ ?_
    refine lv_icmp_ge (tgt := 44) hx hb dX3_mealsAtStages_14 (by decide) (fun c_2 => absurd c_2 (up_gt (by omega))) (fun _ => ?_)
    refine lv_aload_n hx hb dX3_mealsAtStages_17 rfl (lv_at hl 2 rfl) ?_
    refine va_get (D := D) (ci := 3) (v := .ref (ad 3)) (C := RX3) (T := TX3) (N := 5) hx hb hts iwX3_mealsAtStages_X3 hown hC.1 hCh 0 rfl rfl 2 (by decide) (hts (.fieldLink RX3 25 "MealLockers$Questions" "meals" "LMealLockers$Table;") (List.mem_of_getElem? (i := 1) rfl)) (fun _ h9 => h9) rfl dX3_mealsAtStages_18 ?_
    refine lv_iload hx hb dX3_mealsAtStages_21 (lv_at hl 0 rfl) ?_
    refine lv_iconst (v := 0) hx hb dX3_mealsAtStages_23 (by decide) ?_
    refine sX5_at (k := 1) hF (cwV 2 hts gX3_mealsAtStages_X5_at rfl rfl rfl hdX5_at ⟨Nat.le_of_ble_eq_true rfl, Nat.le_of_ble_eq_true rfl⟩) hC hSt (by decide) hl.1 (Nat.le_of_ble_eq_true rfl) dX3_mealsAtStages_24 ⟨Nat.zero_le _, Nat.zero_le _⟩ ?_
    refine lv_iload_n hx hb dX3_mealsAtStages_27 rfl (lv_at hl 3 rfl) ?_
    refine lv_iload_n hx hb dX3_mealsAtStages_28 rfl (lv_at hl 4 rfl) ?_
    refine kX7_isWithinN hF ⟨va_cnB 3 hts gX3_mealsAtStages_X7_isWithin_n40 rfl rfl rfl (nw_m1 hC) (hts (.initialized RX7) (List.mem_of_getElem? (i := 15) rfl)) hdX7_isWithin ⟨Nat.le_of_ble_eq_true rfl, Nat.le_of_ble_eq_true rfl⟩, (hts (.static yX7_isWithin) (List.mem_of_getElem? (i := 14) rfl)), trivial⟩ hC hl.1 (Nat.le_of_ble_eq_true rfl) dX3_mealsAtStages_29 ⟨Nat.zero_le _, Nat.zero_le _⟩ ?_
    refine lv_if_eq (tgt := 38) hx hb dX3_mealsAtStages_32 (by decide) (fun c_3 => ?_) (fun c_3 => ?_)
    · refine lv_iinc (v := (nI (i + 1))) (lv' := [(4, .int (nI (i + 1))), (3, .int v), (0, .ref h), (1, .int x1), (2, .int x2)]) hx hb dX3_mealsAtStages_38 hl (k := 0) rfl (by rw [nI_succ]; rfl) (by decide) rfl (fun ls hl => ?_)
      refine lv_goto (tgt := 5) hx hb dX3_mealsAtStages_41 (by decide) ?_
      have e9 : (upTo (bX3_mealsAtStages σ x1 x2) 0 (i + 1)) = v := by show bX3_mealsAtStages σ x1 x2 i (upTo (bX3_mealsAtStages σ x1 x2) 0 i) = _; rw [← hv]; unfold bX3_mealsAtStages; rw [if_pos c_3]
      exact ih (i + 1) (by omega) ls (by rw [e9]; exact lv_sub hl [0, 1, 2, 3, 4] rfl)
    · refine lv_iinc (v := (v + 1)) (lv' := [(3, .int (v + 1)), (4, .int (nI i)), (0, .ref h), (1, .int x1), (2, .int x2)]) hx hb dX3_mealsAtStages_35 hl (k := 1) rfl rfl (by decide) rfl (fun ls hl => ?_)
      refine lv_iinc (v := (nI (i + 1))) (lv' := [(4, .int (nI (i + 1))), (3, .int (v + 1)), (0, .ref h), (1, .int x1), (2, .int x2)]) hx hb dX3_mealsAtStages_38 hl (k := 1) rfl (by rw [nI_succ]; rfl) (by decide) rfl (fun ls hl => ?_)
      refine lv_goto (tgt := 5) hx hb dX3_mealsAtStages_41 (by decide) ?_
      have e9 : (upTo (bX3_mealsAtStages σ x1 x2) 0 (i + 1)) = (v + 1) := by show bX3_mealsAtStages σ x1 x2 i (upTo (bX3_mealsAtStages σ x1 x2) 0 i) = _; rw [← hv]; unfold bX3_mealsAtStages; rw [if_neg c_3]
      exact ih (i + 1) (by omega) ls (by rw [e9]; exact lv_sub hl [0, 1, 2, 3, 4] rfl)
set_option maxHeartbeats 4000000 in
set_option maxRecDepth 100000 in
theorem mX3_mealsAtStages (l : Launch) (D : va_G) (y : Y3) (h : Nat) (ad : Nat → Nat) (σ : Sg) (x1 : Int32) (x2 : Int32) : Met l yX3_mealsAtStages wsX3_mealsAtStages ({ frames := 1, cells := 0, slots := 0, locals := 23 } : Room) (va_Pc [.ref h, .int x1, .int x2] (fun U => CK D y U ∧ qoH D 3 h ad U.heap ∧ StH D y ad σ U.heap)) (vp_Si (fun r => r = zX3_mealsAtStages σ x1 x2)) 0 0 (fun _ => False) := by
  refine Met.ofW (cc := cX3_mealsAtStages) (maxL := 5) (ret := (some .int)) (by decide) rfl ?_
  intro p e s m args below meth c s₁ B hml hv
  obtain ⟨rfl, hC, hCh, hSt⟩ := hv
  have hx := B.exec
  have hb := B.bytes
  have hr := B.returns
  have hts := atoms_spec (ws := wsX3_mealsAtStages) B.pre
  have hown : s.vm.findClass RX3 = some m.cls := findClass_of_methodNamed B.named
  have hlocks := B.notSynchronized
  have hF := (⟨hx, hb, hml, hown, hts⟩ : CallFix p m c cX3_mealsAtStages 5 s _ wsX3_mealsAtStages RX3)
  have hl := lv_entry ([.ref h, .int x1, .int x2]) (n := 5) (Nat.le_of_ble_eq_true rfl)
  rw [lg_entry_eq]
  generalize (lg_sl ([.ref h, .int x1, .int x2]) ++ List.replicate (5 - (lg_sl ([.ref h, .int x1, .int x2])).length) Slot.unset).toArray = ls at hl ⊢
  have hl : lv_has ls 5 [(0, .ref h), (1, .int x1), (2, .int x2)] := hl
  refine lv_iconst (v := 0) hx hb dX3_mealsAtStages_0 (by decide) ?_
  refine lv_istore_n (lv' := [(3, .int 0), (0, .ref h), (1, .int x1), (2, .int x2)]) hx hb dX3_mealsAtStages_1 rfl hl (by decide) rfl (fun ls hl => ?_)
  refine lv_iconst (v := 0) hx hb dX3_mealsAtStages_2 (by decide) ?_
  refine lv_istore (lv' := [(4, .int 0), (3, .int 0), (0, .ref h), (1, .int x1), (2, .int x2)]) hx hb dX3_mealsAtStages_3 hl (by decide) rfl (fun ls hl => ?_)
  refine lpX3_mealsAtStages hx hb hml hown hts hC hCh hSt (fun ls hl => ?_) _ 0 (Nat.zero_add _) ls (lv_sub hl [0, 1, 2, 3, 4] rfl)
  refine lv_iload_n hx hb dX3_mealsAtStages_44 rfl (lv_at hl 1 rfl) ?_
  exact W.iret (v := (upTo (bX3_mealsAtStages σ x1 x2) 0 (σ 5 1).toNatClampNeg)) hx hb hr (fun t ht hW => ⟨(upTo (bX3_mealsAtStages σ x1 x2) 0 (σ 5 1).toNatClampNeg), rfl, rfl, ht⟩) (fun q hq => absurd hq List.not_mem_nil) dX3_mealsAtStages_45
set_option maxHeartbeats 4000000 in
set_option maxRecDepth 100000 in
theorem kX3_mealsAtStages {p : Program} {l : Launch} {e : Env} {R : Room} {s : State} {m : MethodId} {args : Array Value} {below : List Frame} {meth : Method} {c : Code} {H : Heap} {locs : List Loc} {cells slots : Nat} {Q : State → Prop} {cc : ByteArray} {nL : Nat} {Ts : List Cond} {own : String} {index pc : Nat} {ls : Array Slot} {rest : List Value} {D : va_G} {y : Y3} {h : Nat} {ad : Nat → Nat} {σ : Sg} {x1 : Int32} {x2 : Int32} (hF : CallFix p m c cc nL s args Ts own) (cw : CallW R s args own RX3 index yX3_mealsAtStages cX3_mealsAtStages 5 (some .int) wsX3_mealsAtStages ({ frames := 1, cells := 0, slots := 0, locals := 23 } : Room) 0 0 2) (hC : CK D y s) (hCh : qoH D 3 h ad H) (hSt : StH D y ad σ H) (hsz : ls.size = nL) (hW : (rest.map fun v => v.category).sum ≤ 8) (hdg : decode cc pc = .ok (.invokevirtual index, 3)) (hf : cells ≤ R.cells ∧ slots ≤ R.slots)
    (k : W p l e R s m args below meth c H locs cells slots Q (F0 m (pc + 3) ls (.int (zX3_mealsAtStages σ x1 x2) :: rest))) : W p l e R s m args below meth c H locs cells slots Q (F0 m pc ls (.int x2 :: .int x1 :: .ref h :: rest)) := by
  refine vp_callSi (W.runV (As := [.int x1, .int x2]) (rest := rest) hF (mX3_mealsAtStages l D y h ad σ x1 x2) cw ⟨fun a U g mk q => by obtain ⟨q0, q1, q2, q3⟩ := q; exact ⟨q0, q1.call g mk a, q2, q3⟩, va_recv hC.1 hCh (ci := 3) (q0 := 0) rfl rfl, fun U hU hW => ⟨rfl, hC.warm hW, by rw [hU]; exact hCh, by rw [hU]; exact hSt⟩⟩ rfl rfl hsz rfl (lv_room hW) hdg ⟨hf.1, hf.2⟩) (fun r hr => ?_)
  subst hr
  exact k
def zX3_total (σ : Sg) (x1 : Int32) : Int32 := if x1 = 0 then (σ 5 0)
  else (if x1 = 1 then (σ 5 1)
    else (if x1 = 2 then (σ 5 2)
      else (if x1 = 3 then (σ 5 3)
        else (if x1 = 4 then (σ 5 5)
          else (if x1 = 5 then (zX3_mealsAtStages σ 0 1)
            else (if x1 = 6 then (zX3_mealsAtStages σ 2 2)
              else (if x1 = 7 then (zX3_mealsAtStages σ 3 3)
                else (if x1 = 8 then (zX3_mealsAtStages σ 4 4)
                  else (if x1 = 9 then (zX3_mealsAtStages σ 5 5)
                    else (if x1 = 10 then (zX3_mealsAtStages σ 1 1)
                      else (if (zX7_isWithin x1 13 16) = 0 then (-1)
                        else (zX4_setting σ (x1 - 13)))))))))))))
theorem iwX3_total_X3 : ∀ w ∈ wsX30, w ∈ wsX3_total := fun _ h => List.mem_cons_of_mem _ (List.mem_append_left _ (List.mem_append_left _ (List.mem_append_right _ h)))
theorem iwX3_total_X4 : ∀ w ∈ wsX40, w ∈ wsX3_total := fun _ h => List.mem_cons_of_mem _ (List.mem_append_left _ (List.mem_append_right _ h))
theorem hdX3_total : yX3_total.cls = RX3 ∧ yX3_total.cls ≠ "java/lang/invoke/MethodHandle" ∧ yX3_total.cls ≠ "java/lang/invoke/VarHandle" ∧ (parseMethodDescriptor yX3_total.desc).map (fun d => d.parameters.length) = some 1 := by decide +kernel
set_option maxHeartbeats 4000000 in
set_option maxRecDepth 100000 in
theorem mX3_total (l : Launch) (D : va_G) (y : Y3) (h : Nat) (ad : Nat → Nat) (σ : Sg) (x1 : Int32) : Met l yX3_total wsX3_total ({ frames := 2, cells := 0, slots := 0, locals := 47 } : Room) (va_Pc [.ref h, .int x1] (fun U => CK D y U ∧ qoH D 3 h ad U.heap ∧ StH D y ad σ U.heap)) (vp_Si (fun r => r = zX3_total σ x1)) 0 0 (fun _ => False) := by
  refine Met.ofW (cc := cX3_total) (maxL := 2) (ret := (some .int)) (by decide) rfl ?_
  intro p e s m args below meth c s₁ B hml hv
  obtain ⟨rfl, hC, hCh, hSt⟩ := hv
  have hx := B.exec
  have hb := B.bytes
  have hr := B.returns
  have hts := atoms_spec (ws := wsX3_total) B.pre
  have hown : s.vm.findClass RX3 = some m.cls := findClass_of_methodNamed B.named
  have hlocks := B.notSynchronized
  have hF := (⟨hx, hb, hml, hown, hts⟩ : CallFix p m c cX3_total 2 s _ wsX3_total RX3)
  have hl := lv_entry ([.ref h, .int x1]) (n := 2) (Nat.le_of_ble_eq_true rfl)
  rw [lg_entry_eq]
  generalize (lg_sl ([.ref h, .int x1]) ++ List.replicate (2 - (lg_sl ([.ref h, .int x1])).length) Slot.unset).toArray = ls at hl ⊢
  have hl : lv_has ls 2 [(0, .ref h), (1, .int x1)] := hl
  refine lv_iload_n hx hb dX3_total_0 rfl (lv_at hl 1 rfl) ?_
  refine (Decidable.em (x1 = 0)).elim (fun c_1 => ?_) (fun c_1 => ?_)
  · refine lv_tableIn (off := 59) (tgt := 60) hx hb dX3_total_1 (by rw [c_1]; decide) (by rw [c_1]; decide) (by rw [c_1]; decide) (by decide) ?_
    refine lv_aload_n hx hb dX3_total_60 rfl (lv_at hl 0 rfl) ?_
    refine va_get (D := D) (ci := 3) (v := .ref (ad 1)) (C := RX3) (T := TX3) (N := 5) hx hb hts iwX3_total_X3 hown hC.1 hCh 0 rfl rfl 1 (by decide) (hts (.fieldLink RX3 21 "MealLockers$Questions" "lockers" "LMealLockers$Table;") (List.mem_of_getElem? (i := 1) rfl)) (fun _ h9 => h9) rfl dX3_total_61 ?_
    refine sX5_size (k := 0) hF (cwV 0 hts gX3_total_X5_size rfl rfl rfl hdX5_size ⟨Nat.le_of_ble_eq_true rfl, Nat.le_of_ble_eq_true rfl⟩) hC hSt (by decide) hl.1 (Nat.le_of_ble_eq_true rfl) dX3_total_64 ⟨Nat.zero_le _, Nat.zero_le _⟩ ?_
    exact W.iret (v := (σ 5 0)) hx hb hr (fun t ht hW => ⟨(σ 5 0), rfl, (by unfold zX3_total; rw [if_pos c_1]), ht⟩) (fun q hq => absurd hq List.not_mem_nil) dX3_total_67
  · refine (Decidable.em (x1 = 1)).elim (fun c_2 => ?_) (fun c_2 => ?_)
    · refine lv_tableIn (off := 67) (tgt := 68) hx hb dX3_total_1 (by rw [c_2]; decide) (by rw [c_2]; decide) (by rw [c_2]; decide) (by decide) ?_
      refine lv_aload_n hx hb dX3_total_68 rfl (lv_at hl 0 rfl) ?_
      refine va_get (D := D) (ci := 3) (v := .ref (ad 3)) (C := RX3) (T := TX3) (N := 5) hx hb hts iwX3_total_X3 hown hC.1 hCh 0 rfl rfl 2 (by decide) (hts (.fieldLink RX3 25 "MealLockers$Questions" "meals" "LMealLockers$Table;") (List.mem_of_getElem? (i := 2) rfl)) (fun _ h9 => h9) rfl dX3_total_69 ?_
      refine sX5_size (k := 1) hF (cwV 0 hts gX3_total_X5_size rfl rfl rfl hdX5_size ⟨Nat.le_of_ble_eq_true rfl, Nat.le_of_ble_eq_true rfl⟩) hC hSt (by decide) hl.1 (Nat.le_of_ble_eq_true rfl) dX3_total_72 ⟨Nat.zero_le _, Nat.zero_le _⟩ ?_
      exact W.iret (v := (σ 5 1)) hx hb hr (fun t ht hW => ⟨(σ 5 1), rfl, (by unfold zX3_total; rw [if_neg c_1, if_pos c_2]), ht⟩) (fun q hq => absurd hq List.not_mem_nil) dX3_total_75
    · refine (Decidable.em (x1 = 2)).elim (fun c_3 => ?_) (fun c_3 => ?_)
      · refine lv_tableIn (off := 75) (tgt := 76) hx hb dX3_total_1 (by rw [c_3]; decide) (by rw [c_3]; decide) (by rw [c_3]; decide) (by decide) ?_
        refine lv_aload_n hx hb dX3_total_76 rfl (lv_at hl 0 rfl) ?_
        refine va_get (D := D) (ci := 3) (v := .ref (ad 5)) (C := RX3) (T := TX3) (N := 5) hx hb hts iwX3_total_X3 hown hC.1 hCh 0 rfl rfl 3 (by decide) (hts (.fieldLink RX3 29 "MealLockers$Questions" "people" "LMealLockers$Table;") (List.mem_of_getElem? (i := 3) rfl)) (fun _ h9 => h9) rfl dX3_total_77 ?_
        refine sX5_size (k := 2) hF (cwV 0 hts gX3_total_X5_size rfl rfl rfl hdX5_size ⟨Nat.le_of_ble_eq_true rfl, Nat.le_of_ble_eq_true rfl⟩) hC hSt (by decide) hl.1 (Nat.le_of_ble_eq_true rfl) dX3_total_80 ⟨Nat.zero_le _, Nat.zero_le _⟩ ?_
        exact W.iret (v := (σ 5 2)) hx hb hr (fun t ht hW => ⟨(σ 5 2), rfl, (by unfold zX3_total; rw [if_neg c_1, if_neg c_2, if_pos c_3]), ht⟩) (fun q hq => absurd hq List.not_mem_nil) dX3_total_83
      · refine (Decidable.em (x1 = 3)).elim (fun c_4 => ?_) (fun c_4 => ?_)
        · refine lv_tableIn (off := 83) (tgt := 84) hx hb dX3_total_1 (by rw [c_4]; decide) (by rw [c_4]; decide) (by rw [c_4]; decide) (by decide) ?_
          refine lv_aload_n hx hb dX3_total_84 rfl (lv_at hl 0 rfl) ?_
          refine va_get (D := D) (ci := 3) (v := .ref (ad 7)) (C := RX3) (T := TX3) (N := 5) hx hb hts iwX3_total_X3 hown hC.1 hCh 0 rfl rfl 4 (by decide) (hts (.fieldLink RX3 33 "MealLockers$Questions" "volunteers" "LMealLockers$Table;") (List.mem_of_getElem? (i := 4) rfl)) (fun _ h9 => h9) rfl dX3_total_85 ?_
          refine sX5_size (k := 3) hF (cwV 0 hts gX3_total_X5_size rfl rfl rfl hdX5_size ⟨Nat.le_of_ble_eq_true rfl, Nat.le_of_ble_eq_true rfl⟩) hC hSt (by decide) hl.1 (Nat.le_of_ble_eq_true rfl) dX3_total_88 ⟨Nat.zero_le _, Nat.zero_le _⟩ ?_
          exact W.iret (v := (σ 5 3)) hx hb hr (fun t ht hW => ⟨(σ 5 3), rfl, (by unfold zX3_total; rw [if_neg c_1, if_neg c_2, if_neg c_3, if_pos c_4]), ht⟩) (fun q hq => absurd hq List.not_mem_nil) dX3_total_91
        · refine (Decidable.em (x1 = 4)).elim (fun c_5 => ?_) (fun c_5 => ?_)
          · refine lv_tableIn (off := 91) (tgt := 92) hx hb dX3_total_1 (by rw [c_5]; decide) (by rw [c_5]; decide) (by rw [c_5]; decide) (by decide) ?_
            refine lv_aload_n hx hb dX3_total_92 rfl (lv_at hl 0 rfl) ?_
            refine va_get (D := D) (ci := 3) (v := .ref (ad 0)) (C := RX3) (T := TX3) (N := 5) hx hb hts iwX3_total_X3 hown hC.1 hCh 0 rfl rfl 0 (by decide) (hts (.fieldLink RX3 9 "MealLockers$Questions" "state" "LMealLockers$State;") (List.mem_of_getElem? (i := 5) rfl)) (fun _ h9 => h9) rfl dX3_total_93 ?_
            refine va_getN (D := D) (ci := 4) (v := .int (σ 5 5)) (C := RX4) (T := TX4) (N := 6) hx hb hts iwX3_total_X4 hown hC.1 hSt 0 rfl rfl 5 (by decide) (nw_f11 hC) (fun _ h9 => h9) rfl dX3_total_96 ?_
            exact W.iret (v := (σ 5 5)) hx hb hr (fun t ht hW => ⟨(σ 5 5), rfl, (by unfold zX3_total; rw [if_neg c_1, if_neg c_2, if_neg c_3, if_neg c_4, if_pos c_5]), ht⟩) (fun q hq => absurd hq List.not_mem_nil) dX3_total_99
          · refine (Decidable.em (x1 = 5)).elim (fun c_6 => ?_) (fun c_6 => ?_)
            · refine lv_tableIn (off := 99) (tgt := 100) hx hb dX3_total_1 (by rw [c_6]; decide) (by rw [c_6]; decide) (by rw [c_6]; decide) (by decide) ?_
              refine lv_aload_n hx hb dX3_total_100 rfl (lv_at hl 0 rfl) ?_
              refine lv_iconst (v := 0) hx hb dX3_total_101 (by decide) ?_
              refine lv_iconst (v := 1) hx hb dX3_total_102 (by decide) ?_
              refine kX3_mealsAtStages hF (cwV 2 hts gX3_total_X3_mealsAtStages rfl rfl rfl hdX3_mealsAtStages ⟨Nat.le_of_ble_eq_true rfl, Nat.le_of_ble_eq_true rfl⟩) hC hCh hSt hl.1 (Nat.le_of_ble_eq_true rfl) dX3_total_103 ⟨Nat.zero_le _, Nat.zero_le _⟩ ?_
              exact W.iret (v := (zX3_mealsAtStages σ 0 1)) hx hb hr (fun t ht hW => ⟨(zX3_mealsAtStages σ 0 1), rfl, (by unfold zX3_total; rw [if_neg c_1, if_neg c_2, if_neg c_3, if_neg c_4, if_neg c_5, if_pos c_6]), ht⟩) (fun q hq => absurd hq List.not_mem_nil) dX3_total_106
            · refine (Decidable.em (x1 = 6)).elim (fun c_7 => ?_) (fun c_7 => ?_)
              · refine lv_tableIn (off := 106) (tgt := 107) hx hb dX3_total_1 (by rw [c_7]; decide) (by rw [c_7]; decide) (by rw [c_7]; decide) (by decide) ?_
                refine lv_aload_n hx hb dX3_total_107 rfl (lv_at hl 0 rfl) ?_
                refine lv_iconst (v := 2) hx hb dX3_total_108 (by decide) ?_
                refine lv_iconst (v := 2) hx hb dX3_total_109 (by decide) ?_
                refine kX3_mealsAtStages hF (cwV 2 hts gX3_total_X3_mealsAtStages rfl rfl rfl hdX3_mealsAtStages ⟨Nat.le_of_ble_eq_true rfl, Nat.le_of_ble_eq_true rfl⟩) hC hCh hSt hl.1 (Nat.le_of_ble_eq_true rfl) dX3_total_110 ⟨Nat.zero_le _, Nat.zero_le _⟩ ?_
                exact W.iret (v := (zX3_mealsAtStages σ 2 2)) hx hb hr (fun t ht hW => ⟨(zX3_mealsAtStages σ 2 2), rfl, (by unfold zX3_total; rw [if_neg c_1, if_neg c_2, if_neg c_3, if_neg c_4, if_neg c_5, if_neg c_6, if_pos c_7]), ht⟩) (fun q hq => absurd hq List.not_mem_nil) dX3_total_113
              · refine (Decidable.em (x1 = 7)).elim (fun c_8 => ?_) (fun c_8 => ?_)
                · refine lv_tableIn (off := 113) (tgt := 114) hx hb dX3_total_1 (by rw [c_8]; decide) (by rw [c_8]; decide) (by rw [c_8]; decide) (by decide) ?_
                  refine lv_aload_n hx hb dX3_total_114 rfl (lv_at hl 0 rfl) ?_
                  refine lv_iconst (v := 3) hx hb dX3_total_115 (by decide) ?_
                  refine lv_iconst (v := 3) hx hb dX3_total_116 (by decide) ?_
                  refine kX3_mealsAtStages hF (cwV 2 hts gX3_total_X3_mealsAtStages rfl rfl rfl hdX3_mealsAtStages ⟨Nat.le_of_ble_eq_true rfl, Nat.le_of_ble_eq_true rfl⟩) hC hCh hSt hl.1 (Nat.le_of_ble_eq_true rfl) dX3_total_117 ⟨Nat.zero_le _, Nat.zero_le _⟩ ?_
                  exact W.iret (v := (zX3_mealsAtStages σ 3 3)) hx hb hr (fun t ht hW => ⟨(zX3_mealsAtStages σ 3 3), rfl, (by unfold zX3_total; rw [if_neg c_1, if_neg c_2, if_neg c_3, if_neg c_4, if_neg c_5, if_neg c_6, if_neg c_7, if_pos c_8]), ht⟩) (fun q hq => absurd hq List.not_mem_nil) dX3_total_120
                · refine (Decidable.em (x1 = 8)).elim (fun c_9 => ?_) (fun c_9 => ?_)
                  · refine lv_tableIn (off := 120) (tgt := 121) hx hb dX3_total_1 (by rw [c_9]; decide) (by rw [c_9]; decide) (by rw [c_9]; decide) (by decide) ?_
                    refine lv_aload_n hx hb dX3_total_121 rfl (lv_at hl 0 rfl) ?_
                    refine lv_iconst (v := 4) hx hb dX3_total_122 (by decide) ?_
                    refine lv_iconst (v := 4) hx hb dX3_total_123 (by decide) ?_
                    refine kX3_mealsAtStages hF (cwV 2 hts gX3_total_X3_mealsAtStages rfl rfl rfl hdX3_mealsAtStages ⟨Nat.le_of_ble_eq_true rfl, Nat.le_of_ble_eq_true rfl⟩) hC hCh hSt hl.1 (Nat.le_of_ble_eq_true rfl) dX3_total_124 ⟨Nat.zero_le _, Nat.zero_le _⟩ ?_
                    exact W.iret (v := (zX3_mealsAtStages σ 4 4)) hx hb hr (fun t ht hW => ⟨(zX3_mealsAtStages σ 4 4), rfl, (by unfold zX3_total; rw [if_neg c_1, if_neg c_2, if_neg c_3, if_neg c_4, if_neg c_5, if_neg c_6, if_neg c_7, if_neg c_8, if_pos c_9]), ht⟩) (fun q hq => absurd hq List.not_mem_nil) dX3_total_127
                  · refine (Decidable.em (x1 = 9)).elim (fun c_10 => ?_) (fun c_10 => ?_)
                    · refine lv_tableIn (off := 127) (tgt := 128) hx hb dX3_total_1 (by rw [c_10]; decide) (by rw [c_10]; decide) (by rw [c_10]; decide) (by decide) ?_
                      refine lv_aload_n hx hb dX3_total_128 rfl (lv_at hl 0 rfl) ?_
                      refine lv_iconst (v := 5) hx hb dX3_total_129 (by decide) ?_
                      refine lv_iconst (v := 5) hx hb dX3_total_130 (by decide) ?_
                      refine kX3_mealsAtStages hF (cwV 2 hts gX3_total_X3_mealsAtStages rfl rfl rfl hdX3_mealsAtStages ⟨Nat.le_of_ble_eq_true rfl, Nat.le_of_ble_eq_true rfl⟩) hC hCh hSt hl.1 (Nat.le_of_ble_eq_true rfl) dX3_total_131 ⟨Nat.zero_le _, Nat.zero_le _⟩ ?_
                      exact W.iret (v := (zX3_mealsAtStages σ 5 5)) hx hb hr (fun t ht hW => ⟨(zX3_mealsAtStages σ 5 5), rfl, (by unfold zX3_total; rw [if_neg c_1, if_neg c_2, if_neg c_3, if_neg c_4, if_neg c_5, if_neg c_6, if_neg c_7, if_neg c_8, if_neg c_9, if_pos c_10]), ht⟩) (fun q hq => absurd hq List.not_mem_nil) dX3_total_134
                    · refine (Decidable.em (x1 = 10)).elim (fun c_11 => ?_) (fun c_11 => ?_)
                      · refine lv_tableIn (off := 134) (tgt := 135) hx hb dX3_total_1 (by rw [c_11]; decide) (by rw [c_11]; decide) (by rw [c_11]; decide) (by decide) ?_
                        refine lv_aload_n hx hb dX3_total_135 rfl (lv_at hl 0 rfl) ?_
                        refine lv_iconst (v := 1) hx hb dX3_total_136 (by decide) ?_
                        refine lv_iconst (v := 1) hx hb dX3_total_137 (by decide) ?_
                        refine kX3_mealsAtStages hF (cwV 2 hts gX3_total_X3_mealsAtStages rfl rfl rfl hdX3_mealsAtStages ⟨Nat.le_of_ble_eq_true rfl, Nat.le_of_ble_eq_true rfl⟩) hC hCh hSt hl.1 (Nat.le_of_ble_eq_true rfl) dX3_total_138 ⟨Nat.zero_le _, Nat.zero_le _⟩ ?_
                        exact W.iret (v := (zX3_mealsAtStages σ 1 1)) hx hb hr (fun t ht hW => ⟨(zX3_mealsAtStages σ 1 1), rfl, (by unfold zX3_total; rw [if_neg c_1, if_neg c_2, if_neg c_3, if_neg c_4, if_neg c_5, if_neg c_6, if_neg c_7, if_neg c_8, if_neg c_9, if_neg c_10, if_pos c_11]), ht⟩) (fun q hq => absurd hq List.not_mem_nil) dX3_total_141
                      · refine lv_tableOut (tgt := 142) hx hb dX3_total_1 (by have q0 := lv_neT (a := 0) c_1 (by decide); have q1 := lv_neT (a := 1) c_2 (by decide); have q2 := lv_neT (a := 2) c_3 (by decide); have q3 := lv_neT (a := 3) c_4 (by decide); have q4 := lv_neT (a := 4) c_5 (by decide); have q5 := lv_neT (a := 5) c_6 (by decide); have q6 := lv_neT (a := 6) c_7 (by decide); have q7 := lv_neT (a := 7) c_8 (by decide); have q8 := lv_neT (a := 8) c_9 (by decide); have q9 := lv_neT (a := 9) c_10 (by decide); have q10 := lv_neT (a := 10) c_11 (by decide); omega) (by decide) ?_
                        refine lv_iload_n hx hb dX3_total_142 rfl (lv_at hl 1 rfl) ?_
                        refine lv_bipush (v := 13) hx hb dX3_total_143 (by decide) ?_
                        refine lv_bipush (v := 16) hx hb dX3_total_145 (by decide) ?_
                        refine kX7_isWithinN hF ⟨va_cnB 3 hts gX3_total_X7_isWithin_n40 rfl rfl rfl (nw_m1 hC) (hts (.initialized RX7) (List.mem_of_getElem? (i := 24) rfl)) hdX7_isWithin ⟨Nat.le_of_ble_eq_true rfl, Nat.le_of_ble_eq_true rfl⟩, (hts (.static yX7_isWithin) (List.mem_of_getElem? (i := 23) rfl)), trivial⟩ hC hl.1 (Nat.le_of_ble_eq_true rfl) dX3_total_147 ⟨Nat.zero_le _, Nat.zero_le _⟩ ?_
                        refine lv_if_eq (tgt := 167) hx hb dX3_total_150 (by decide) (fun c_12 => ?_) (fun c_12 => ?_)
                        · refine lv_iconst (v := (-1)) hx hb dX3_total_167 (by decide) ?_
                          exact W.iret (v := (-1)) hx hb hr (fun t ht hW => ⟨(-1), rfl, (by unfold zX3_total; rw [if_neg c_1, if_neg c_2, if_neg c_3, if_neg c_4, if_neg c_5, if_neg c_6, if_neg c_7, if_neg c_8, if_neg c_9, if_neg c_10, if_neg c_11, if_pos c_12]), ht⟩) (fun q hq => absurd hq List.not_mem_nil) dX3_total_168
                        · refine lv_aload_n hx hb dX3_total_153 rfl (lv_at hl 0 rfl) ?_
                          refine va_get (D := D) (ci := 3) (v := .ref (ad 0)) (C := RX3) (T := TX3) (N := 5) hx hb hts iwX3_total_X3 hown hC.1 hCh 0 rfl rfl 0 (by decide) (hts (.fieldLink RX3 9 "MealLockers$Questions" "state" "LMealLockers$State;") (List.mem_of_getElem? (i := 5) rfl)) (fun _ h9 => h9) rfl dX3_total_154 ?_
                          refine lv_iload_n hx hb dX3_total_157 rfl (lv_at hl 1 rfl) ?_
                          refine lv_bipush (v := 13) hx hb dX3_total_158 (by decide) ?_
                          refine lv_isub hx hb dX3_total_160 ?_
                          refine kX4_setting hF (cwV 1 hts gX3_total_X4_setting rfl rfl rfl hdX4_setting ⟨Nat.le_of_ble_eq_true rfl, Nat.le_of_ble_eq_true rfl⟩) hC hSt hl.1 (Nat.le_of_ble_eq_true rfl) dX3_total_161 ⟨Nat.zero_le _, Nat.zero_le _⟩ ?_
                          refine lv_goto (tgt := 168) hx hb dX3_total_164 (by decide) ?_
                          exact W.iret (v := (zX4_setting σ (x1 - 13))) hx hb hr (fun t ht hW => ⟨(zX4_setting σ (x1 - 13)), rfl, (by unfold zX3_total; rw [if_neg c_1, if_neg c_2, if_neg c_3, if_neg c_4, if_neg c_5, if_neg c_6, if_neg c_7, if_neg c_8, if_neg c_9, if_neg c_10, if_neg c_11, if_neg c_12]), ht⟩) (fun q hq => absurd hq List.not_mem_nil) dX3_total_168
set_option maxHeartbeats 4000000 in
set_option maxRecDepth 100000 in
theorem kX3_total {p : Program} {l : Launch} {e : Env} {R : Room} {s : State} {m : MethodId} {args : Array Value} {below : List Frame} {meth : Method} {c : Code} {H : Heap} {locs : List Loc} {cells slots : Nat} {Q : State → Prop} {cc : ByteArray} {nL : Nat} {Ts : List Cond} {own : String} {index pc : Nat} {ls : Array Slot} {rest : List Value} {D : va_G} {y : Y3} {h : Nat} {ad : Nat → Nat} {σ : Sg} {x1 : Int32} (hF : CallFix p m c cc nL s args Ts own) (cw : CallW R s args own RX3 index yX3_total cX3_total 2 (some .int) wsX3_total ({ frames := 2, cells := 0, slots := 0, locals := 47 } : Room) 0 0 1) (hC : CK D y s) (hCh : qoH D 3 h ad H) (hSt : StH D y ad σ H) (hsz : ls.size = nL) (hW : (rest.map fun v => v.category).sum ≤ 8) (hdg : decode cc pc = .ok (.invokevirtual index, 3)) (hf : cells ≤ R.cells ∧ slots ≤ R.slots)
    (k : W p l e R s m args below meth c H locs cells slots Q (F0 m (pc + 3) ls (.int (zX3_total σ x1) :: rest))) : W p l e R s m args below meth c H locs cells slots Q (F0 m pc ls (.int x1 :: .ref h :: rest)) := by
  refine vp_callSi (W.runV (As := [.int x1]) (rest := rest) hF (mX3_total l D y h ad σ x1) cw ⟨fun a U g mk q => by obtain ⟨q0, q1, q2, q3⟩ := q; exact ⟨q0, q1.call g mk a, q2, q3⟩, va_recv hC.1 hCh (ci := 3) (q0 := 0) rfl rfl, fun U hU hW => ⟨rfl, hC.warm hW, by rw [hU]; exact hCh, by rw [hU]; exact hSt⟩⟩ rfl rfl hsz rfl (lv_room hW) hdg ⟨hf.1, hf.2⟩) (fun r hr => ?_)
  subst hr
  exact k
