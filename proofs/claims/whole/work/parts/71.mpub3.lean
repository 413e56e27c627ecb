def zX8_type (μ : Sg) (x1 : Int32) : Int32 × Sg := if (zX8_in x1 32 126) = 0 then ((-1), μ)
  else (if (μ 4 1) = 60 then ((-3), μ)
    else (((mT (mU μ 3 (upd (μ 3) (μ 4 1).toNatClampNeg x1)) 1 (((mU μ 3 (upd (μ 3) (μ 4 1).toNatClampNeg x1)) 4 1) + 1)) 4 1), mT (mU μ 3 (upd (μ 3) (μ 4 1).toNatClampNeg x1)) 1 (((mU μ 3 (upd (μ 3) (μ 4 1).toNatClampNeg x1)) 4 1) + 1)))
theorem iwX8_type_X8 : ∀ w ∈ wsX80, w ∈ wsX8_type := fun _ h => List.mem_cons_of_mem _ (List.mem_append_right _ h)
theorem hdX8_type : yX8_type.cls = RX8 ∧ yX8_type.cls ≠ "java/lang/invoke/MethodHandle" ∧ yX8_type.cls ≠ "java/lang/invoke/VarHandle" ∧ (parseMethodDescriptor yX8_type.desc).map (fun d => d.parameters.length) = some 1 := by decide +kernel
set_option maxHeartbeats 4000000 in
set_option maxRecDepth 100000 in
theorem mX8_type (l : Launch) (D : va_G) (y : Y3) (mo : Nat → Nat) (μ : Sg) (x1 : Int32) : Met l yX8_type wsX8_type ({ frames := 1, cells := 0, slots := 0, locals := 22 } : Room) (va_Pc [.ref (mo 0), .int x1] (fun U => CK D y U ∧ MoH D y mo μ U.heap ∧ moI mo ∧ InvT μ)) (va_Qi (fun (r : Int32) (u : Sg) => r = (zX8_type μ x1).1 ∧ u = (zX8_type μ x1).2) (fun u t => MoH D y mo u t.heap) (moA mo)) 0 0 (moA mo) := by
  refine Met.ofW (cc := cX8_type) (maxL := 2) (ret := (some .int)) (by decide) rfl ?_
  intro p e s m args below meth c s₁ B hml hv
  obtain ⟨rfl, hC, hMo, hi, hT⟩ := hv
  have hx := B.exec
  have hb := B.bytes
  have hr := B.returns
  have hts := atoms_spec (ws := wsX8_type) B.pre
  have hown : s.vm.findClass RX8 = some m.cls := findClass_of_methodNamed B.named
  have hlocks := B.notSynchronized
  have hF := (⟨hx, hb, hml, hown, hts⟩ : CallFix p m c cX8_type 2 s _ wsX8_type RX8)
  have hS : va_S (moA mo) s.heap s.heap [] := va_S.rf
  have hl := lv_entry ([.ref (mo 0), .int x1]) (n := 2) (Nat.le_of_ble_eq_true rfl)
  rw [lg_entry_eq]
  generalize (lg_sl ([.ref (mo 0), .int x1]) ++ List.replicate (2 - (lg_sl ([.ref (mo 0), .int x1])).length) Slot.unset).toArray = ls at hl ⊢
  have hl : lv_has ls 2 [(0, .ref (mo 0)), (1, .int x1)] := hl
  refine lv_iload_n hx hb dX8_type_0 rfl (lv_at hl 1 rfl) ?_
  refine lv_bipush (v := 32) hx hb dX8_type_1 (by decide) ?_
  refine lv_bipush (v := 126) hx hb dX8_type_3 (by decide) ?_
  refine kX8_in hF (cwS 3 hts gX8_type_X8_in rfl rfl rfl (by decide +kernel) ⟨Nat.le_of_ble_eq_true rfl, Nat.le_of_ble_eq_true rfl⟩) hC hl.1 (Nat.le_of_ble_eq_true rfl) dX8_type_5 ⟨Nat.zero_le _, Nat.zero_le _⟩ ?_
  refine lv_if_ne (tgt := 13) hx hb dX8_type_8 (by decide) (fun c_1 => ?_) (fun c_1 => ?_)
  · refine lv_aload_n hx hb dX8_type_13 rfl (lv_at hl 0 rfl) ?_
    refine va_get (D := D) (ci := 8) (v := .int (μ 4 1)) (C := RX8) (T := TX8) (N := 10) hx hb hts iwX8_type_X8 hown hC.1 hMo 0 rfl rfl 5 (by decide) (hts (.fieldLink RX8 159 "MealLockersModel" "length" "I") (List.mem_of_getElem? (i := 1) rfl)) (fun _ h9 => h9) rfl dX8_type_14 ?_
    refine lv_bipush (v := 60) hx hb dX8_type_17 (by decide) ?_
    refine lv_icmp_ne (tgt := 25) hx hb dX8_type_19 (by decide) (fun c_2 => ?_) (fun c_2 => ?_)
    · refine lv_aload_n hx hb dX8_type_25 rfl (lv_at hl 0 rfl) ?_
      refine va_get (D := D) (ci := 8) (v := .ref (mo 4)) (C := RX8) (T := TX8) (N := 10) hx hb hts iwX8_type_X8 hown hC.1 hMo 0 rfl rfl 4 (by decide) (hts (.fieldLink RX8 19 "MealLockersModel" "text" "[I") (List.mem_of_getElem? (i := 2) rfl)) (fun _ h9 => h9) rfl dX8_type_26 ?_
      refine lv_aload_n hx hb dX8_type_29 rfl (lv_at hl 0 rfl) ?_
      refine va_get (D := D) (ci := 8) (v := .int (μ 4 1)) (C := RX8) (T := TX8) (N := 10) hx hb hts iwX8_type_X8 hown hC.1 hMo 0 rfl rfl 5 (by decide) (hts (.fieldLink RX8 159 "MealLockersModel" "length" "I") (List.mem_of_getElem? (i := 1) rfl)) (fun _ h9 => h9) rfl dX8_type_30 ?_
      refine lv_iload_n hx hb dX8_type_33 rfl (lv_at hl 1 rfl) ?_
      refine va_iast hx hb hC.1 hMo (mo_D hi) hS 4 0 rfl rfl (vp_len hT.1 c_2) dX8_type_34 (fun H locs hMo _ hS => ?_)
      have hMo := mo_row4 hMo
      refine lv_aload_n hx hb dX8_type_35 rfl (lv_at hl 0 rfl) ?_
      refine lv_dup hx hb dX8_type_36 rfl ?_
      refine va_get (D := D) (ci := 8) (v := .int ((mU μ 3 (upd (μ 3) (μ 4 1).toNatClampNeg x1)) 4 1)) (C := RX8) (T := TX8) (N := 10) hx hb hts iwX8_type_X8 hown hC.1 hMo 0 rfl rfl 5 (by decide) (hts (.fieldLink RX8 159 "MealLockersModel" "length" "I") (List.mem_of_getElem? (i := 1) rfl)) (fun _ h9 => h9) rfl dX8_type_37 ?_
      refine lv_iconst (v := 1) hx hb dX8_type_40 (by decide) ?_
      refine lv_iadd hx hb dX8_type_41 ?_
      refine va_put (D := D) (ci := 8) (v := .int (((mU μ 3 (upd (μ 3) (μ 4 1).toNatClampNeg x1)) 4 1) + 1)) (ty := .int) (C := RX8) (T := TX8) (N := 10) hx hb hts iwX8_type_X8 tyX8 tyX8_ok nmX8 hown hC.1 hMo (mo_D hi) hS 0 rfl rfl 5 (by decide) (hts (.fieldLink RX8 159 "MealLockersModel" "length" "I") (List.mem_of_getElem? (i := 1) rfl)) (fun _ h9 => h9) rfl (by decide +kernel) rfl rfl (Nat.le_of_ble_eq_true rfl) dX8_type_42 (fun H locs hMo _ hS => ?_)
      have hMo := mo_put1 hMo
      refine lv_aload_n hx hb dX8_type_45 rfl (lv_at hl 0 rfl) ?_
      refine va_get (D := D) (ci := 8) (v := .int ((mT (mU μ 3 (upd (μ 3) (μ 4 1).toNatClampNeg x1)) 1 (((mU μ 3 (upd (μ 3) (μ 4 1).toNatClampNeg x1)) 4 1) + 1)) 4 1)) (C := RX8) (T := TX8) (N := 10) hx hb hts iwX8_type_X8 hown hC.1 hMo 0 rfl rfl 5 (by decide) (hts (.fieldLink RX8 159 "MealLockersModel" "length" "I") (List.mem_of_getElem? (i := 1) rfl)) (fun _ h9 => h9) rfl dX8_type_46 ?_
      exact W.iret (v := ((mT (mU μ 3 (upd (μ 3) (μ 4 1).toNatClampNeg x1)) 1 (((mU μ 3 (upd (μ 3) (μ 4 1).toNatClampNeg x1)) 4 1) + 1)) 4 1)) hx hb hr (fun t ht hW => ⟨⟨((mT (mU μ 3 (upd (μ 3) (μ 4 1).toNatClampNeg x1)) 1 (((mU μ 3 (upd (μ 3) (μ 4 1).toNatClampNeg x1)) 4 1) + 1)) 4 1), mT (mU μ 3 (upd (μ 3) (μ 4 1).toNatClampNeg x1)) 1 (((mU μ 3 (upd (μ 3) (μ 4 1).toNatClampNeg x1)) 4 1) + 1), rfl, ⟨(by unfold zX8_type; rw [if_neg c_1, if_neg c_2]), (by unfold zX8_type; rw [if_neg c_1, if_neg c_2])⟩, by dsimp only; rw [ht]; exact hMo⟩, hS.F ht⟩) hS.2.2 dX8_type_49
    · refine lv_bipush (v := (-3)) hx hb dX8_type_22 (by decide) ?_
      exact W.iret (v := (-3)) hx hb hr (fun t ht hW => ⟨⟨(-3), μ, rfl, ⟨(by unfold zX8_type; rw [if_neg c_1, if_pos c_2]), (by unfold zX8_type; rw [if_neg c_1, if_pos c_2])⟩, by dsimp only; rw [ht]; exact hMo⟩, hS.F ht⟩) hS.2.2 dX8_type_24
  · refine lv_iconst (v := (-1)) hx hb dX8_type_11 (by decide) ?_
    exact W.iret (v := (-1)) hx hb hr (fun t ht hW => ⟨⟨(-1), μ, rfl, ⟨(by unfold zX8_type; rw [if_pos c_1]), (by unfold zX8_type; rw [if_pos c_1])⟩, by dsimp only; rw [ht]; exact hMo⟩, hS.F ht⟩) hS.2.2 dX8_type_12
set_option maxHeartbeats 4000000 in
set_option maxRecDepth 100000 in
theorem kX8_type {p : Program} {l : Launch} {e : Env} {R : Room} {s : State} {m : MethodId} {args : Array Value} {below : List Frame} {meth : Method} {c : Code} {H : Heap} {locs : List Loc} {cells slots : Nat} {Q : State → Prop} {cc : ByteArray} {nL : Nat} {Ts : List Cond} {own : String} {index pc : Nat} {ls : Array Slot} {rest : List Value} {D : va_G} {y : Y3} {mo : Nat → Nat} {μ : Sg} {x1 : Int32} {A0 : Nat → Prop} {H0 : Heap} (hF : CallFix p m c cc nL s args Ts own) (cw : CallW R s args own RX8 index yX8_type cX8_type 2 (some .int) wsX8_type ({ frames := 1, cells := 0, slots := 0, locals := 22 } : Room) 0 0 1) (hC : CK D y s) (hMo : MoH D y mo μ H) (hi : moI mo) (hT : InvT μ) (hS : va_S A0 H0 H locs) (hA : ∀ q, (moA mo) q → A0 q) (hsz : ls.size = nL) (hW : (rest.map fun v => v.category).sum ≤ 8) (hdg : decode cc pc = .ok (.invokevirtual index, 3)) (hf : cells ≤ R.cells ∧ slots ≤ R.slots)
    (k : ∀ (H1 : Heap) (locs1 : List Loc), MoH D y mo (zX8_type μ x1).2 H1 → H.size ≤ H1.size → (∀ q : Nat, q < H.size → ¬ (moA mo) q → H1[q]? = H[q]?) → va_S A0 H0 H1 locs1 → W p l e R s m args below meth c H1 locs1 cells slots Q (F0 m (pc + 3) ls (.int ((zX8_type μ x1).1) :: rest))) : W p l e R s m args below meth c H locs cells slots Q (F0 m pc ls (.int x1 :: .ref (mo 0) :: rest)) := by
  refine va_calli (va_runV (As := [.int x1]) (rest := rest) hF (mX8_type l D y mo μ x1) cw ⟨fun a U g mk q => by obtain ⟨q0, q1, q2, q3, q4⟩ := q; exact ⟨q0, q1.call g mk a, q2, q3, q4⟩, va_recv hC.1 hMo (ci := 8) (q0 := 0) rfl rfl, fun U hU hW => ⟨rfl, hC.warm hW, by rw [hU]; exact hMo, hi, hT⟩⟩ rfl rfl hsz rfl (lv_room hW) hdg ⟨hf.1, hf.2⟩) hS (fun q _ h => hA q h) hA (fun r u t H1 locs1 ht hvm hp hB hz1 hk1 hS1 => ?_)
  obtain ⟨hp1, hp2⟩ := hp
  subst hp1; subst hp2
  rw [ht] at hB
  exact k H1 locs1 hB hz1 hk1 hS1
def zX8_clearText (μ : Sg) : Int32 × Sg := ((μ 4 1), mT μ 1 0)
theorem iwX8_clearText_X8 : ∀ w ∈ wsX80, w ∈ wsX8_clearText := fun _ h => List.mem_cons_of_mem _ (List.mem_append_right _ h)
theorem hdX8_clearText : yX8_clearText.cls = RX8 ∧ yX8_clearText.cls ≠ "java/lang/invoke/MethodHandle" ∧ yX8_clearText.cls ≠ "java/lang/invoke/VarHandle" ∧ (parseMethodDescriptor yX8_clearText.desc).map (fun d => d.parameters.length) = some 0 := by decide +kernel
set_option maxHeartbeats 4000000 in
set_option maxRecDepth 100000 in
theorem mX8_clearText (l : Launch) (D : va_G) (y : Y3) (mo : Nat → Nat) (μ : Sg) : Met l yX8_clearText wsX8_clearText ({ frames := 0, cells := 0, slots := 0, locals := 0 } : Room) (va_Pc [.ref (mo 0)] (fun U => CK D y U ∧ MoH D y mo μ U.heap ∧ moI mo)) (va_Qi (fun (r : Int32) (u : Sg) => r = (zX8_clearText μ).1 ∧ u = (zX8_clearText μ).2) (fun u t => MoH D y mo u t.heap) (moA mo)) 0 0 (moA mo) := by
  refine Met.ofW (cc := cX8_clearText) (maxL := 2) (ret := (some .int)) (by decide) rfl ?_
  intro p e s m args below meth c s₁ B hml hv
  obtain ⟨rfl, hC, hMo, hi⟩ := hv
  have hx := B.exec
  have hb := B.bytes
  have hr := B.returns
  have hts := atoms_spec (ws := wsX8_clearText) B.pre
  have hown : s.vm.findClass RX8 = some m.cls := findClass_of_methodNamed B.named
  have hlocks := B.notSynchronized
  have hF := (⟨hx, hb, hml, hown, hts⟩ : CallFix p m c cX8_clearText 2 s _ wsX8_clearText RX8)
  have hS : va_S (moA mo) s.heap s.heap [] := va_S.rf
  have hl := lv_entry ([.ref (mo 0)]) (n := 2) (Nat.le_of_ble_eq_true rfl)
  rw [lg_entry_eq]
  generalize (lg_sl ([.ref (mo 0)]) ++ List.replicate (2 - (lg_sl ([.ref (mo 0)])).length) Slot.unset).toArray = ls at hl ⊢
  have hl : lv_has ls 2 [(0, .ref (mo 0))] := hl
  refine lv_aload_n hx hb dX8_clearText_0 rfl (lv_at hl 0 rfl) ?_
  refine va_get (D := D) (ci := 8) (v := .int (μ 4 1)) (C := RX8) (T := TX8) (N := 10) hx hb hts iwX8_clearText_X8 hown hC.1 hMo 0 rfl rfl 5 (by decide) (hts (.fieldLink RX8 159 "MealLockersModel" "length" "I") (List.mem_of_getElem? (i := 1) rfl)) (fun _ h9 => h9) rfl dX8_clearText_1 ?_
  refine lv_istore_n (lv' := [(1, .int (μ 4 1)), (0, .ref (mo 0))]) hx hb dX8_clearText_4 rfl hl (by decide) rfl (fun ls hl => ?_)
  refine lv_aload_n hx hb dX8_clearText_5 rfl (lv_at hl 1 rfl) ?_
  refine lv_iconst (v := 0) hx hb dX8_clearText_6 (by decide) ?_
  refine va_put (D := D) (ci := 8) (v := .int 0) (ty := .int) (C := RX8) (T := TX8) (N := 10) hx hb hts iwX8_clearText_X8 tyX8 tyX8_ok nmX8 hown hC.1 hMo (mo_D hi) hS 0 rfl rfl 5 (by decide) (hts (.fieldLink RX8 159 "MealLockersModel" "length" "I") (List.mem_of_getElem? (i := 1) rfl)) (fun _ h9 => h9) rfl (by decide +kernel) rfl rfl (Nat.le_of_ble_eq_true rfl) dX8_clearText_7 (fun H locs hMo _ hS => ?_)
  have hMo := mo_put1 hMo
  refine lv_iload_n hx hb dX8_clearText_10 rfl (lv_at hl 0 rfl) ?_
  exact W.iret (v := (μ 4 1)) hx hb hr (fun t ht hW => ⟨⟨(μ 4 1), mT μ 1 0, rfl, ⟨rfl, rfl⟩, by dsimp only; rw [ht]; exact hMo⟩, hS.F ht⟩) hS.2.2 dX8_clearText_11
set_option maxHeartbeats 4000000 in
set_option maxRecDepth 100000 in
theorem kX8_clearText {p : Program} {l : Launch} {e : Env} {R : Room} {s : State} {m : MethodId} {args : Array Value} {below : List Frame} {meth : Method} {c : Code} {H : Heap} {locs : List Loc} {cells slots : Nat} {Q : State → Prop} {cc : ByteArray} {nL : Nat} {Ts : List Cond} {own : String} {index pc : Nat} {ls : Array Slot} {rest : List Value} {D : va_G} {y : Y3} {mo : Nat → Nat} {μ : Sg} {A0 : Nat → Prop} {H0 : Heap} (hF : CallFix p m c cc nL s args Ts own) (cw : CallW R s args own RX8 index yX8_clearText cX8_clearText 2 (some .int) wsX8_clearText ({ frames := 0, cells := 0, slots := 0, locals := 0 } : Room) 0 0 0) (hC : CK D y s) (hMo : MoH D y mo μ H) (hi : moI mo) (hS : va_S A0 H0 H locs) (hA : ∀ q, (moA mo) q → A0 q) (hsz : ls.size = nL) (hW : (rest.map fun v => v.category).sum ≤ 8) (hdg : decode cc pc = .ok (.invokevirtual index, 3)) (hf : cells ≤ R.cells ∧ slots ≤ R.slots)
    (k : ∀ (H1 : Heap) (locs1 : List Loc), MoH D y mo (zX8_clearText μ).2 H1 → H.size ≤ H1.size → (∀ q : Nat, q < H.size → ¬ (moA mo) q → H1[q]? = H[q]?) → va_S A0 H0 H1 locs1 → W p l e R s m args below meth c H1 locs1 cells slots Q (F0 m (pc + 3) ls (.int ((zX8_clearText μ).1) :: rest))) : W p l e R s m args below meth c H locs cells slots Q (F0 m pc ls (.ref (mo 0) :: rest)) := by
  refine va_calli (va_runV (As := []) (rest := rest) hF (mX8_clearText l D y mo μ) cw ⟨fun a U g mk q => by obtain ⟨q0, q1, q2, q3⟩ := q; exact ⟨q0, q1.call g mk a, q2, q3⟩, va_recv hC.1 hMo (ci := 8) (q0 := 0) rfl rfl, fun U hU hW => ⟨rfl, hC.warm hW, by rw [hU]; exact hMo, hi⟩⟩ rfl rfl hsz rfl (lv_room hW) hdg ⟨hf.1, hf.2⟩) hS (fun q _ h => hA q h) hA (fun r u t H1 locs1 ht hvm hp hB hz1 hk1 hS1 => ?_)
  obtain ⟨hp1, hp2⟩ := hp
  subst hp1; subst hp2
  rw [ht] at hB
  exact k H1 locs1 hB hz1 hk1 hS1
def zX8_fault (μ : Sg) (x1 : Int32) : Int32 × Sg := if (zX8_in x1 0 1) = 0 then ((-1), μ)
  else (if 0 ≤ (zX8_does (zX8_begins μ)).1 then (if x1 = 0 then ((zX8_does (zX8_begins μ)).1, (zX8_returns ((zX8_does (zX8_begins μ)).2)))
      else (((zX8_returns ((zX8_does (zX8_begins μ)).2)) 4 4), (zX8_returns ((zX8_does (zX8_begins μ)).2))))
    else ((-4), (zX8_returns ((zX8_does (zX8_begins μ)).2))))
theorem iwX8_fault_X8 : ∀ w ∈ wsX80, w ∈ wsX8_fault := fun _ h => List.mem_cons_of_mem _ (List.mem_append_right _ h)
theorem hdX8_fault : yX8_fault.cls = RX8 ∧ yX8_fault.cls ≠ "java/lang/invoke/MethodHandle" ∧ yX8_fault.cls ≠ "java/lang/invoke/VarHandle" ∧ (parseMethodDescriptor yX8_fault.desc).map (fun d => d.parameters.length) = some 1 := by decide +kernel
set_option maxHeartbeats 4000000 in
set_option maxRecDepth 100000 in
theorem mX8_fault (l : Launch) (D : va_G) (y : Y3) (mo : Nat → Nat) (μ : Sg) (x1 : Int32) : Met l yX8_fault wsX8_fault ({ frames := 10, cells := 0, slots := 0, locals := 229 } : Room) (va_Pc [.ref (mo 0), .int x1] (fun U => CK D y U ∧ MoH D y mo μ U.heap ∧ moI mo ∧ InvM μ ∧ InvT μ)) (va_Qi (fun (r : Int32) (u : Sg) => r = (zX8_fault μ x1).1 ∧ u = (zX8_fault μ x1).2) (fun u t => MoH D y mo u t.heap) (moA mo)) 0 0 (moA mo) := by
  refine Met.ofW (cc := cX8_fault) (maxL := 3) (ret := (some .int)) (by decide) rfl ?_
  intro p e s m args below meth c s₁ B hml hv
  obtain ⟨rfl, hC, hMo, hi, hInv, hT⟩ := hv
  have hx := B.exec
  have hb := B.bytes
  have hr := B.returns
  have hts := atoms_spec (ws := wsX8_fault) B.pre
  have hown : s.vm.findClass RX8 = some m.cls := findClass_of_methodNamed B.named
  have hlocks := B.notSynchronized
  have hF := (⟨hx, hb, hml, hown, hts⟩ : CallFix p m c cX8_fault 3 s _ wsX8_fault RX8)
  have hS : va_S (moA mo) s.heap s.heap [] := va_S.rf
  have hl := lv_entry ([.ref (mo 0), .int x1]) (n := 3) (Nat.le_of_ble_eq_true rfl)
  rw [lg_entry_eq]
  generalize (lg_sl ([.ref (mo 0), .int x1]) ++ List.replicate (3 - (lg_sl ([.ref (mo 0), .int x1])).length) Slot.unset).toArray = ls at hl ⊢
  have hl : lv_has ls 3 [(0, .ref (mo 0)), (1, .int x1)] := hl
  refine lv_iload_n hx hb dX8_fault_0 rfl (lv_at hl 1 rfl) ?_
  refine lv_iconst (v := 0) hx hb dX8_fault_1 (by decide) ?_
  refine lv_iconst (v := 1) hx hb dX8_fault_2 (by decide) ?_
  refine kX8_in hF (cwS 3 hts gX8_fault_X8_in rfl rfl rfl (by decide +kernel) ⟨Nat.le_of_ble_eq_true rfl, Nat.le_of_ble_eq_true rfl⟩) hC hl.1 (Nat.le_of_ble_eq_true rfl) dX8_fault_3 ⟨Nat.zero_le _, Nat.zero_le _⟩ ?_
  refine lv_if_ne (tgt := 11) hx hb dX8_fault_6 (by decide) (fun c_1 => ?_) (fun c_1 => ?_)
  · have f_2 : rg x1 2 := rg_in c_1
    refine lv_aload_n hx hb dX8_fault_11 rfl (lv_at hl 0 rfl) ?_
    refine kX8_begins hF (cwV 0 hts gX8_fault_X8_begins rfl rfl rfl hdX8_begins ⟨Nat.le_of_ble_eq_true rfl, Nat.le_of_ble_eq_true rfl⟩) hC hMo hi  hS (fun _ h => h) hl.1 (Nat.le_of_ble_eq_true rfl) dX8_fault_12 ⟨Nat.zero_le _, Nat.zero_le _⟩ (fun H locs hMo _ _ hS => ?_)
    have hInv := inv_begins hInv
    refine lv_aload_n hx hb dX8_fault_15 rfl (lv_at hl 0 rfl) ?_
    refine kX8_does hF (cwV 0 hts gX8_fault_X8_does rfl rfl rfl hdX8_does ⟨Nat.le_of_ble_eq_true rfl, Nat.le_of_ble_eq_true rfl⟩) hC hMo hi hInv hT  hS (fun _ h => h) hl.1 (Nat.le_of_ble_eq_true rfl) dX8_fault_16 ⟨Nat.zero_le _, Nat.zero_le _⟩ (fun H locs hMo _ _ hS => ?_)
    have hkt := kt_does hInv hT
    have hInv := hkt.1
    have hT := hkt.2.1
    refine lv_istore_n (lv' := [(2, .int ((zX8_does (zX8_begins μ)).1)), (0, .ref (mo 0)), (1, .int x1)]) hx hb dX8_fault_19 rfl hl (by decide) rfl (fun ls hl => ?_)
    refine lv_aload_n hx hb dX8_fault_20 rfl (lv_at hl 1 rfl) ?_
    refine kX8_returns hF (cwV 0 hts gX8_fault_X8_returns rfl rfl rfl hdX8_returns ⟨Nat.le_of_ble_eq_true rfl, Nat.le_of_ble_eq_true rfl⟩) hC hMo hi  hS (fun _ h => h) hl.1 (Nat.le_of_ble_eq_true rfl) dX8_fault_21 ⟨Nat.zero_le _, Nat.zero_le _⟩ (fun H locs hMo _ _ hS => ?_)
    refine lv_iload_n hx hb dX8_fault_24 rfl (lv_at hl 0 rfl) ?_
    refine lv_if_ge (tgt := 33) hx hb dX8_fault_25 (by decide) (fun c_3 => ?_) (fun c_3 => ?_)
    · refine lv_iload_n hx hb dX8_fault_33 rfl (lv_at hl 2 rfl) ?_
      refine lv_if_ne (tgt := 41) hx hb dX8_fault_34 (by decide) (fun c_4 => ?_) (fun c_4 => ?_)
      · refine lv_aload_n hx hb dX8_fault_41 rfl (lv_at hl 1 rfl) ?_
        refine va_get (D := D) (ci := 8) (v := .int ((zX8_returns ((zX8_does (zX8_begins μ)).2)) 4 4)) (C := RX8) (T := TX8) (N := 10) hx hb hts iwX8_fault_X8 hown hC.1 hMo 0 rfl rfl 8 (by decide) (hts (.fieldLink RX8 200 "MealLockersModel" "reason" "I") (List.mem_of_getElem? (i := 1) rfl)) (fun _ h9 => h9) rfl dX8_fault_42 ?_
        exact W.iret (v := ((zX8_returns ((zX8_does (zX8_begins μ)).2)) 4 4)) hx hb hr (fun t ht hW => ⟨⟨((zX8_returns ((zX8_does (zX8_begins μ)).2)) 4 4), (zX8_returns ((zX8_does (zX8_begins μ)).2)), rfl, ⟨(by unfold zX8_fault; rw [if_neg c_1, if_pos c_3, if_neg c_4]), (by unfold zX8_fault; rw [if_neg c_1, if_pos c_3, if_neg c_4])⟩, by dsimp only; rw [ht]; exact hMo⟩, hS.F ht⟩) hS.2.2 dX8_fault_45
      · refine lv_iload_n hx hb dX8_fault_37 rfl (lv_at hl 0 rfl) ?_
        refine lv_goto (tgt := 45) hx hb dX8_fault_38 (by decide) ?_
        exact W.iret (v := (zX8_does (zX8_begins μ)).1) hx hb hr (fun t ht hW => ⟨⟨(zX8_does (zX8_begins μ)).1, (zX8_returns ((zX8_does (zX8_begins μ)).2)), rfl, ⟨(by unfold zX8_fault; rw [if_neg c_1, if_pos c_3, if_pos c_4]), (by unfold zX8_fault; rw [if_neg c_1, if_pos c_3, if_pos c_4])⟩, by dsimp only; rw [ht]; exact hMo⟩, hS.F ht⟩) hS.2.2 dX8_fault_45
    · refine lv_bipush (v := (-4)) hx hb dX8_fault_28 (by decide) ?_
      refine lv_goto (tgt := 45) hx hb dX8_fault_30 (by decide) ?_
      exact W.iret (v := (-4)) hx hb hr (fun t ht hW => ⟨⟨(-4), (zX8_returns ((zX8_does (zX8_begins μ)).2)), rfl, ⟨(by unfold zX8_fault; rw [if_neg c_1, if_neg c_3]), (by unfold zX8_fault; rw [if_neg c_1, if_neg c_3])⟩, by dsimp only; rw [ht]; exact hMo⟩, hS.F ht⟩) hS.2.2 dX8_fault_45
  · refine lv_iconst (v := (-1)) hx hb dX8_fault_9 (by decide) ?_
    exact W.iret (v := (-1)) hx hb hr (fun t ht hW => ⟨⟨(-1), μ, rfl, ⟨(by unfold zX8_fault; rw [if_pos c_1]), (by unfold zX8_fault; rw [if_pos c_1])⟩, by dsimp only; rw [ht]; exact hMo⟩, hS.F ht⟩) hS.2.2 dX8_fault_10
set_option maxHeartbeats 4000000 in
set_option maxRecDepth 100000 in
theorem kX8_fault {p : Program} {l : Launch} {e : Env} {R : Room} {s : State} {m : MethodId} {args : Array Value} {below : List Frame} {meth : Method} {c : Code} {H : Heap} {locs : List Loc} {cells slots : Nat} {Q : State → Prop} {cc : ByteArray} {nL : Nat} {Ts : List Cond} {own : String} {index pc : Nat} {ls : Array Slot} {rest : List Value} {D : va_G} {y : Y3} {mo : Nat → Nat} {μ : Sg} {x1 : Int32} {A0 : Nat → Prop} {H0 : Heap} (hF : CallFix p m c cc nL s args Ts own) (cw : CallW R s args own RX8 index yX8_fault cX8_fault 3 (some .int) wsX8_fault ({ frames := 10, cells := 0, slots := 0, locals := 229 } : Room) 0 0 1) (hC : CK D y s) (hMo : MoH D y mo μ H) (hi : moI mo) (hInv : InvM μ) (hT : InvT μ) (hS : va_S A0 H0 H locs) (hA : ∀ q, (moA mo) q → A0 q) (hsz : ls.size = nL) (hW : (rest.map fun v => v.category).sum ≤ 8) (hdg : decode cc pc = .ok (.invokevirtual index, 3)) (hf : cells ≤ R.cells ∧ slots ≤ R.slots)
    (k : ∀ (H1 : Heap) (locs1 : List Loc), MoH D y mo (zX8_fault μ x1).2 H1 → H.size ≤ H1.size → (∀ q : Nat, q < H.size → ¬ (moA mo) q → H1[q]? = H[q]?) → va_S A0 H0 H1 locs1 → W p l e R s m args below meth c H1 locs1 cells slots Q (F0 m (pc + 3) ls (.int ((zX8_fault μ x1).1) :: rest))) : W p l e R s m args below meth c H locs cells slots Q (F0 m pc ls (.int x1 :: .ref (mo 0) :: rest)) := by
  refine va_calli (va_runV (As := [.int x1]) (rest := rest) hF (mX8_fault l D y mo μ x1) cw ⟨fun a U g mk q => by obtain ⟨q0, q1, q2, q3, q4, q5⟩ := q; exact ⟨q0, q1.call g mk a, q2, q3, q4, q5⟩, va_recv hC.1 hMo (ci := 8) (q0 := 0) rfl rfl, fun U hU hW => ⟨rfl, hC.warm hW, by rw [hU]; exact hMo, hi, hInv, hT⟩⟩ rfl rfl hsz rfl (lv_room hW) hdg ⟨hf.1, hf.2⟩) hS (fun q _ h => hA q h) hA (fun r u t H1 locs1 ht hvm hp hB hz1 hk1 hS1 => ?_)
  obtain ⟨hp1, hp2⟩ := hp
  subst hp1; subst hp2
  rw [ht] at hB
  exact k H1 locs1 hB hz1 hk1 hS1
def zX8_play (μ : Sg) : Int32 × Sg := if 0 ≤ (zX8_does (zX8_begins μ)).1 then ((zX8_acted ((zX8_does (zX8_begins μ)).2) (-2)).1, (zX8_acted ((zX8_does (zX8_begins μ)).2) (-2)).2)
  else ((zX8_acted ((zX8_does (zX8_begins μ)).2) (((zX8_does (zX8_begins μ)).2) 4 3)).1, (zX8_acted ((zX8_does (zX8_begins μ)).2) (((zX8_does (zX8_begins μ)).2) 4 3)).2)
theorem iwX8_play_X8 : ∀ w ∈ wsX80, w ∈ wsX8_play := fun _ h => List.mem_cons_of_mem _ (List.mem_append_right _ h)
theorem hdX8_play : yX8_play.cls = RX8 ∧ yX8_play.cls ≠ "java/lang/invoke/MethodHandle" ∧ yX8_play.cls ≠ "java/lang/invoke/VarHandle" ∧ (parseMethodDescriptor yX8_play.desc).map (fun d => d.parameters.length) = some 0 := by decide +kernel
set_option maxHeartbeats 4000000 in
set_option maxRecDepth 100000 in
theorem mX8_play (l : Launch) (D : va_G) (y : Y3) (mo : Nat → Nat) (μ : Sg) : Met l yX8_play wsX8_play ({ frames := 10, cells := 0, slots := 0, locals := 229 } : Room) (va_Pc [.ref (mo 0)] (fun U => CK D y U ∧ MoH D y mo μ U.heap ∧ moI mo ∧ InvM μ ∧ rg (μ 4 0) 5 ∧ InvT μ)) (va_Qi (fun (r : Int32) (u : Sg) => r = (zX8_play μ).1 ∧ u = (zX8_play μ).2) (fun u t => MoH D y mo u t.heap) (moA mo)) 0 0 (moA mo) := by
  refine Met.ofW (cc := cX8_play) (maxL := 1) (ret := (some .int)) (by decide) rfl ?_
  intro p e s m args below meth c s₁ B hml hv
  obtain ⟨rfl, hC, hMo, hi, hInv, r_h, hT⟩ := hv
  have hx := B.exec
  have hb := B.bytes
  have hr := B.returns
  have hts := atoms_spec (ws := wsX8_play) B.pre
  have hown : s.vm.findClass RX8 = some m.cls := findClass_of_methodNamed B.named
  have hlocks := B.notSynchronized
  have hF := (⟨hx, hb, hml, hown, hts⟩ : CallFix p m c cX8_play 1 s _ wsX8_play RX8)
  have hS : va_S (moA mo) s.heap s.heap [] := va_S.rf
  have hl := lv_entry ([.ref (mo 0)]) (n := 1) (Nat.le_of_ble_eq_true rfl)
  rw [lg_entry_eq]
  generalize (lg_sl ([.ref (mo 0)]) ++ List.replicate (1 - (lg_sl ([.ref (mo 0)])).length) Slot.unset).toArray = ls at hl ⊢
  have hl : lv_has ls 1 [(0, .ref (mo 0))] := hl
  refine lv_aload_n hx hb dX8_play_0 rfl (lv_at hl 0 rfl) ?_
  refine kX8_begins hF (cwV 0 hts gX8_play_X8_begins rfl rfl rfl hdX8_begins ⟨Nat.le_of_ble_eq_true rfl, Nat.le_of_ble_eq_true rfl⟩) hC hMo hi  hS (fun _ h => h) hl.1 (Nat.le_of_ble_eq_true rfl) dX8_play_1 ⟨Nat.zero_le _, Nat.zero_le _⟩ (fun H locs hMo _ _ hS => ?_)
  have hInv := inv_begins hInv
  refine lv_aload_n hx hb dX8_play_4 rfl (lv_at hl 0 rfl) ?_
  refine lv_aload_n hx hb dX8_play_5 rfl (lv_at hl 0 rfl) ?_
  refine kX8_does hF (cwV 0 hts gX8_play_X8_does rfl rfl rfl hdX8_does ⟨Nat.le_of_ble_eq_true rfl, Nat.le_of_ble_eq_true rfl⟩) hC hMo hi hInv hT  hS (fun _ h => h) hl.1 (Nat.le_of_ble_eq_true rfl) dX8_play_6 ⟨Nat.zero_le _, Nat.zero_le _⟩ (fun H locs hMo _ _ hS => ?_)
  have hkt := kt_does hInv hT
  have hInv := hkt.1
  have hT := hkt.2.1
  refine lv_if_ge (tgt := 19) hx hb dX8_play_9 (by decide) (fun c_1 => ?_) (fun c_1 => ?_)
  · refine lv_bipush (v := (-2)) hx hb dX8_play_19 (by decide) ?_
    have r_h : rg (((zX8_does (zX8_begins μ)).2) 4 0) 5 := (r_e0 hkt.2.2.1 r_h)
    refine kX8_acted hF (cwV 1 hts gX8_play_X8_acted rfl rfl rfl hdX8_acted ⟨Nat.le_of_ble_eq_true rfl, Nat.le_of_ble_eq_true rfl⟩) hC hMo hi r_h  hS (fun _ h => h) hl.1 (Nat.le_of_ble_eq_true rfl) dX8_play_21 ⟨Nat.zero_le _, Nat.zero_le _⟩ (fun H locs hMo _ _ hS => ?_)
    exact W.iret (v := (zX8_acted ((zX8_does (zX8_begins μ)).2) (-2)).1) hx hb hr (fun t ht hW => ⟨⟨(zX8_acted ((zX8_does (zX8_begins μ)).2) (-2)).1, (zX8_acted ((zX8_does (zX8_begins μ)).2) (-2)).2, rfl, ⟨(by unfold zX8_play; rw [if_pos c_1]), (by unfold zX8_play; rw [if_pos c_1])⟩, by dsimp only; rw [ht]; exact hMo⟩, hS.F ht⟩) hS.2.2 dX8_play_24
  · refine lv_aload_n hx hb dX8_play_12 rfl (lv_at hl 0 rfl) ?_
    refine va_get (D := D) (ci := 8) (v := .int (((zX8_does (zX8_begins μ)).2) 4 3)) (C := RX8) (T := TX8) (N := 10) hx hb hts iwX8_play_X8 hown hC.1 hMo 0 rfl rfl 7 (by decide) (hts (.fieldLink RX8 185 "MealLockersModel" "done" "I") (List.mem_of_getElem? (i := 1) rfl)) (fun _ h9 => h9) rfl dX8_play_13 ?_
    refine lv_goto (tgt := 21) hx hb dX8_play_16 (by decide) ?_
    have r_h : rg (((zX8_does (zX8_begins μ)).2) 4 0) 5 := (r_e0 hkt.2.2.1 r_h)
    refine kX8_acted hF (cwV 1 hts gX8_play_X8_acted rfl rfl rfl hdX8_acted ⟨Nat.le_of_ble_eq_true rfl, Nat.le_of_ble_eq_true rfl⟩) hC hMo hi r_h  hS (fun _ h => h) hl.1 (Nat.le_of_ble_eq_true rfl) dX8_play_21 ⟨Nat.zero_le _, Nat.zero_le _⟩ (fun H locs hMo _ _ hS => ?_)
    exact W.iret (v := (zX8_acted ((zX8_does (zX8_begins μ)).2) (((zX8_does (zX8_begins μ)).2) 4 3)).1) hx hb hr (fun t ht hW => ⟨⟨(zX8_acted ((zX8_does (zX8_begins μ)).2) (((zX8_does (zX8_begins μ)).2) 4 3)).1, (zX8_acted ((zX8_does (zX8_begins μ)).2) (((zX8_does (zX8_begins μ)).2) 4 3)).2, rfl, ⟨(by unfold zX8_play; rw [if_neg c_1]), (by unfold zX8_play; rw [if_neg c_1])⟩, by dsimp only; rw [ht]; exact hMo⟩, hS.F ht⟩) hS.2.2 dX8_play_24
set_option maxHeartbeats 4000000 in
set_option maxRecDepth 100000 in
theorem kX8_play {p : Program} {l : Launch} {e : Env} {R : Room} {s : State} {m : MethodId} {args : Array Value} {below : List Frame} {meth : Method} {c : Code} {H : Heap} {locs : List Loc} {cells slots : Nat} {Q : State → Prop} {cc : ByteArray} {nL : Nat} {Ts : List Cond} {own : String} {index pc : Nat} {ls : Array Slot} {rest : List Value} {D : va_G} {y : Y3} {mo : Nat → Nat} {μ : Sg} {A0 : Nat → Prop} {H0 : Heap} (hF : CallFix p m c cc nL s args Ts own) (cw : CallW R s args own RX8 index yX8_play cX8_play 1 (some .int) wsX8_play ({ frames := 10, cells := 0, slots := 0, locals := 229 } : Room) 0 0 0) (hC : CK D y s) (hMo : MoH D y mo μ H) (hi : moI mo) (hInv : InvM μ) (r_h : rg (μ 4 0) 5) (hT : InvT μ) (hS : va_S A0 H0 H locs) (hA : ∀ q, (moA mo) q → A0 q) (hsz : ls.size = nL) (hW : (rest.map fun v => v.category).sum ≤ 8) (hdg : decode cc pc = .ok (.invokevirtual index, 3)) (hf : cells ≤ R.cells ∧ slots ≤ R.slots)
    (k : ∀ (H1 : Heap) (locs1 : List Loc), MoH D y mo (zX8_play μ).2 H1 → H.size ≤ H1.size → (∀ q : Nat, q < H.size → ¬ (moA mo) q → H1[q]? = H[q]?) → va_S A0 H0 H1 locs1 → W p l e R s m args below meth c H1 locs1 cells slots Q (F0 m (pc + 3) ls (.int ((zX8_play μ).1) :: rest))) : W p l e R s m args below meth c H locs cells slots Q (F0 m pc ls (.ref (mo 0) :: rest)) := by
  refine va_calli (va_runV (As := []) (rest := rest) hF (mX8_play l D y mo μ) cw ⟨fun a U g mk q => by obtain ⟨q0, q1, q2, q3, q4, q5, q6⟩ := q; exact ⟨q0, q1.call g mk a, q2, q3, q4, q5, q6⟩, va_recv hC.1 hMo (ci := 8) (q0 := 0) rfl rfl, fun U hU hW => ⟨rfl, hC.warm hW, by rw [hU]; exact hMo, hi, hInv, r_h, hT⟩⟩ rfl rfl hsz rfl (lv_room hW) hdg ⟨hf.1, hf.2⟩) hS (fun q _ h => hA q h) hA (fun r u t H1 locs1 ht hvm hp hB hz1 hk1 hS1 => ?_)
  obtain ⟨hp1, hp2⟩ := hp
  subst hp1; subst hp2
  rw [ht] at hB
  exact k H1 locs1 hB hz1 hk1 hS1
