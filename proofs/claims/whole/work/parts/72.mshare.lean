/-- a contract of a method that no native stands for, in a class where some have one -/
theorem mt_plain {l : Launch} {y : MethodName} {ws ws' : List Cond} {rm : Room} {Pc : Array Value → State → Prop} {Qc : Array Value → State → Outcome → State → Prop} {mc ms : Nat} {free : Addr → Prop} {cc : ByteArray} {maxL : Nat} {ret : Option FieldType} (hy : plainFor y = true) (hw : ws = Cond.code y cc maxL ret :: ws')
    (body : ∀ p e s m args below meth c s₁, BodyLoose p l y (headSpec ws rm) cc maxL ret e s m args below meth c s₁ → c.maxLocals = maxL → Pc args s → W p l e (headSpec ws rm).room s m args below meth c s.heap [] 0 0 (MQ below Qc args s mc ms free) (entryFrame m args maxL)) : Met l y ws rm Pc Qc mc ms free := by
  refine MetFree.of_bodySF (code := cc) (maxLocals := maxL) (ret := ret) hy (fun args s m h hn => ?_) (fun p e s m args below meth c s₁ B hml hP _ => ?_)
  · obtain ⟨meth, c, h1, h2, h3, h4, h5, h6, -, -⟩ := Cond.code_spec hn (atoms_spec (ws := ws) h _ (by rw [hw]; exact List.mem_cons_self))
    exact ⟨meth, c, h1, h2, h3, h4, h5, h6⟩
  · obtain ⟨t, a1, o, b1, b2, b3⟩ := body p e s m args below meth c s₁ B hml hP s₁ (by rw [B.state]; rfl) (Stand.of_body B)
    exact ⟨t, o, a1, b1, b2, ⟨b3.1, b3.2⟩⟩
def znan (x1 : UInt32) : Int32 := if (Op.cmpValue (FP.fcmp x1 x1) .l) = 0 then 0
  else 1
theorem hdJxf58ca_isNaN_12338 : yJxf58ca_isNaN_12338.cls ≠ "java/lang/invoke/MethodHandle" ∧ yJxf58ca_isNaN_12338.cls ≠ "java/lang/invoke/VarHandle" ∧ (parseMethodDescriptor yJxf58ca_isNaN_12338.desc).map (fun d => d.parameters.length) = some 1 := by decide +kernel
set_option maxHeartbeats 4000000 in
set_option maxRecDepth 100000 in
theorem mJxf58ca_isNaN_12338 (l : Launch) (D : va_G) (y : Y3) (x1 : UInt32) : Met l yJxf58ca_isNaN_12338 wsJxf58ca_isNaN_12338 ({ frames := 0, cells := 0, slots := 0, locals := 0 } : Room) (va_Pc [.float x1] (fun U => CK D y U)) (vp_Si (fun r => r = znan x1)) 0 0 (fun _ => False) := by
  refine mt_plain (cc := cJxf58ca_isNaN_12338) (maxL := 1) (ret := (some .boolean)) (by decide +kernel) rfl ?_
  intro p e s m args below meth c s₁ B hml hv
  obtain ⟨rfl, hC⟩ := hv
  have hx := B.exec
  have hb := B.bytes
  have hr := B.returns
  have hts := atoms_spec (ws := wsJxf58ca_isNaN_12338) B.pre
  have hown : s.vm.findClass RJxf58ca = some m.cls := findClass_of_methodNamed B.named
  have hlocks := B.notSynchronized
  have hF := (⟨hx, hb, hml, hown, hts⟩ : CallFix p m c cJxf58ca_isNaN_12338 1 s _ wsJxf58ca_isNaN_12338 RJxf58ca)
  have hl := lv_entry ([.float x1]) (n := 1) (Nat.le_of_ble_eq_true rfl)
  rw [lg_entry_eq]
  generalize (lg_sl ([.float x1]) ++ List.replicate (1 - (lg_sl ([.float x1])).length) Slot.unset).toArray = ls at hl ⊢
  have hl : lv_has ls 1 [(0, .float x1)] := hl
  refine lv_fload_n hx hb dJxf58ca_isNaN_12338_0 rfl (lv_at hl 0 rfl) ?_
  refine lv_fload_n hx hb dJxf58ca_isNaN_12338_1 rfl (lv_at hl 0 rfl) ?_
  refine lv_fcmp hx hb dJxf58ca_isNaN_12338_2 ?_
  refine lv_if_eq (tgt := 10) hx hb dJxf58ca_isNaN_12338_3 (by decide) (fun c_1 => ?_) (fun c_1 => ?_)
  · refine lv_iconst (v := 0) hx hb dJxf58ca_isNaN_12338_10 (by decide) ?_
    exact W.zret (v := 0) hx hb hr (by decide) (fun t ht hW => ⟨0, rfl, (by unfold znan; rw [if_pos c_1]), ht⟩) (fun q hq => absurd hq List.not_mem_nil) dJxf58ca_isNaN_12338_11
  · refine lv_iconst (v := 1) hx hb dJxf58ca_isNaN_12338_6 (by decide) ?_
    refine lv_goto (tgt := 11) hx hb dJxf58ca_isNaN_12338_7 (by decide) ?_
    exact W.zret (v := 1) hx hb hr (by decide) (fun t ht hW => ⟨1, rfl, (by unfold znan; rw [if_neg c_1]), ht⟩) (fun q hq => absurd hq List.not_mem_nil) dJxf58ca_isNaN_12338_11
set_option maxHeartbeats 4000000 in
set_option maxRecDepth 100000 in
theorem kJxf58ca_isNaN_12338 {p : Program} {l : Launch} {e : Env} {R : Room} {s : State} {m : MethodId} {args : Array Value} {below : List Frame} {meth : Method} {c : Code} {H : Heap} {locs : List Loc} {cells slots : Nat} {Q : State → Prop} {cc : ByteArray} {nL : Nat} {Ts : List Cond} {own : String} {index pc : Nat} {ls : Array Slot} {rest : List Value} {D : va_G} {y : Y3} {x1 : UInt32} (hF : CallFix p m c cc nL s args Ts own) (cw : CallB R s args own index yJxf58ca_isNaN_12338 cJxf58ca_isNaN_12338 1 (some .boolean) wsJxf58ca_isNaN_12338 ({ frames := 0, cells := 0, slots := 0, locals := 0 } : Room) 0 0 1 ∧ (Cond.static yJxf58ca_isNaN_12338).before args s = true) (hC : CK D y s) (hsz : ls.size = nL) (hW : (rest.map fun v => v.category).sum ≤ 8) (hdg : decode cc pc = .ok (.invokestatic index, 3)) (hf : cells ≤ R.cells ∧ slots ≤ R.slots)
    (k : W p l e R s m args below meth c H locs cells slots Q (F0 m (pc + 3) ls (.int (znan x1) :: rest))) : W p l e R s m args below meth c H locs cells slots Q (F0 m pc ls (.float x1 :: rest)) := by
  refine vp_callSi (W.runS (As := [.float x1]) (rest := rest) hF (mJxf58ca_isNaN_12338 l D y x1) cw ⟨fun a U g mk q => by obtain ⟨q0, q1⟩ := q; exact ⟨q0, q1.call g mk a⟩, fun U hU hW => ⟨rfl, hC.warm hW⟩⟩ rfl rfl hsz rfl (lv_room hW) hdg ⟨hf.1, hf.2⟩) (fun r hr => ?_)
  subst hr
  exact k
def zbits (x1 : UInt32) : Int32 := if (znan x1) = 0 then (x1.toInt32)
  else 2143289344
theorem hdJxf58ca_floatToIntBits_5c35a : yJxf58ca_floatToIntBits_5c35a.cls ≠ "java/lang/invoke/MethodHandle" ∧ yJxf58ca_floatToIntBits_5c35a.cls ≠ "java/lang/invoke/VarHandle" ∧ (parseMethodDescriptor yJxf58ca_floatToIntBits_5c35a.desc).map (fun d => d.parameters.length) = some 1 := by decide +kernel
set_option maxHeartbeats 4000000 in
set_option maxRecDepth 100000 in
theorem mJxf58ca_floatToIntBits_5c35a (l : Launch) (D : va_G) (y : Y3) (x1 : UInt32) : Met l yJxf58ca_floatToIntBits_5c35a wsJxf58ca_floatToIntBits_5c35a ({ frames := 1, cells := 0, slots := 0, locals := 20 } : Room) (va_Pc [.float x1] (fun U => CK D y U)) (vp_Si (fun r => r = zbits x1)) 0 0 (fun _ => False) := by
  refine mt_plain (cc := cJxf58ca_floatToIntBits_5c35a) (maxL := 1) (ret := (some .int)) (by decide +kernel) rfl ?_
  intro p e s m args below meth c s₁ B hml hv
  obtain ⟨rfl, hC⟩ := hv
  have hx := B.exec
  have hb := B.bytes
  have hr := B.returns
  have hts := atoms_spec (ws := wsJxf58ca_floatToIntBits_5c35a) B.pre
  have hown : s.vm.findClass RJxf58ca = some m.cls := findClass_of_methodNamed B.named
  have hlocks := B.notSynchronized
  have hF := (⟨hx, hb, hml, hown, hts⟩ : CallFix p m c cJxf58ca_floatToIntBits_5c35a 1 s _ wsJxf58ca_floatToIntBits_5c35a RJxf58ca)
  have hl := lv_entry ([.float x1]) (n := 1) (Nat.le_of_ble_eq_true rfl)
  rw [lg_entry_eq]
  generalize (lg_sl ([.float x1]) ++ List.replicate (1 - (lg_sl ([.float x1])).length) Slot.unset).toArray = ls at hl ⊢
  have hl : lv_has ls 1 [(0, .float x1)] := hl
  refine lv_fload_n hx hb dJxf58ca_floatToIntBits_5c35a_0 rfl (lv_at hl 0 rfl) ?_
  refine kJxf58ca_isNaN_12338 hF (va_cwS 1 hts gJxf58ca_floatToIntBits_5c35a_Jxf58ca_isNaN_12338 rfl rfl rfl hdJxf58ca_isNaN_12338 ⟨Nat.le_of_ble_eq_true rfl, Nat.le_of_ble_eq_true rfl⟩) hC hl.1 (Nat.le_of_ble_eq_true rfl) dJxf58ca_floatToIntBits_5c35a_1 ⟨Nat.zero_le _, Nat.zero_le _⟩ ?_
  refine lv_if_ne (tgt := 12) hx hb dJxf58ca_floatToIntBits_5c35a_4 (by decide) (fun c_1 => ?_) (fun c_1 => ?_)
  · refine lv_ldc (v := 2143289344) hx hb hown (hts (.constant RJxf58ca 77 (2143289344)) (List.mem_of_getElem? (i := 5) rfl)) dJxf58ca_floatToIntBits_5c35a_12 ?_
    exact W.iret (v := 2143289344) hx hb hr (fun t ht hW => ⟨2143289344, rfl, (by unfold zbits; rw [if_neg c_1]), ht⟩) (fun q hq => absurd hq List.not_mem_nil) dJxf58ca_floatToIntBits_5c35a_14
  · refine lv_fload_n hx hb dJxf58ca_floatToIntBits_5c35a_7 rfl (lv_at hl 0 rfl) ?_
    refine vn_f2i hx hb (hml.trans hl.1.symm) hown (hts (.methodLink RJxf58ca 74 ⟨"java/lang/Float", "floatToRawIntBits", "(F)I"⟩) (List.mem_of_getElem? (i := 1) rfl)) (hts (.native ⟨"java/lang/Float", "floatToRawIntBits", "(F)I"⟩) (List.mem_of_getElem? (i := 2) rfl)) (hts (.static ⟨"java/lang/Float", "floatToRawIntBits", "(F)I"⟩) (List.mem_of_getElem? (i := 3) rfl)) (hts (.initialized "java/lang/Float") (List.mem_of_getElem? (i := 4) rfl)) (Nat.le_of_ble_eq_true rfl) (Nat.le_of_ble_eq_true rfl) dJxf58ca_floatToIntBits_5c35a_8 ?_
    exact W.iret (v := (x1.toInt32)) hx hb hr (fun t ht hW => ⟨(x1.toInt32), rfl, (by unfold zbits; rw [if_pos c_1]), ht⟩) (fun q hq => absurd hq List.not_mem_nil) dJxf58ca_floatToIntBits_5c35a_11
set_option maxHeartbeats 4000000 in
set_option maxRecDepth 100000 in
theorem kJxf58ca_floatToIntBits_5c35a {p : Program} {l : Launch} {e : Env} {R : Room} {s : State} {m : MethodId} {args : Array Value} {below : List Frame} {meth : Method} {c : Code} {H : Heap} {locs : List Loc} {cells slots : Nat} {Q : State → Prop} {cc : ByteArray} {nL : Nat} {Ts : List Cond} {own : String} {index pc : Nat} {ls : Array Slot} {rest : List Value} {D : va_G} {y : Y3} {x1 : UInt32} (hF : CallFix p m c cc nL s args Ts own) (cw : CallB R s args own index yJxf58ca_floatToIntBits_5c35a cJxf58ca_floatToIntBits_5c35a 1 (some .int) wsJxf58ca_floatToIntBits_5c35a ({ frames := 1, cells := 0, slots := 0, locals := 20 } : Room) 0 0 1 ∧ (Cond.static yJxf58ca_floatToIntBits_5c35a).before args s = true) (hC : CK D y s) (hsz : ls.size = nL) (hW : (rest.map fun v => v.category).sum ≤ 8) (hdg : decode cc pc = .ok (.invokestatic index, 3)) (hf : cells ≤ R.cells ∧ slots ≤ R.slots)
    (k : W p l e R s m args below meth c H locs cells slots Q (F0 m (pc + 3) ls (.int (zbits x1) :: rest))) : W p l e R s m args below meth c H locs cells slots Q (F0 m pc ls (.float x1 :: rest)) := by
  refine vp_callSi (W.runS (As := [.float x1]) (rest := rest) hF (mJxf58ca_floatToIntBits_5c35a l D y x1) cw ⟨fun a U g mk q => by obtain ⟨q0, q1⟩ := q; exact ⟨q0, q1.call g mk a⟩, fun U hU hW => ⟨rfl, hC.warm hW⟩⟩ rfl rfl hsz rfl (lv_room hW) hdg ⟨hf.1, hf.2⟩) (fun r hr => ?_)
  subst hr
  exact k
theorem fd_dec : ∀ a : Nat, a < 25 → ∀ b : Nat, b < 25 → 0 < b → FP.fdiv (FP.i2f (nI a)) (FP.i2f (nI b)) &&& 0x7fffffff ≤ 0x7f800000 := by decide +kernel
theorem fd_ok {x y : Int32} (hx : rg x 25) (hy : rg y 25) (hc : ¬ y = 0) : vf_n32 (FP.fdiv (FP.i2f x) (FP.i2f y)) := by
  obtain ⟨ex, h1⟩ := rg_nI hx
  obtain ⟨ey, h2⟩ := rg_nI hy
  have h3 := hx.2
  have h4 := hy.2
  rw [ex, ey]
  refine fd_dec _ (by omega) _ (by omega) ?_
  rcases Nat.eq_zero_or_pos y.toNatClampNeg with z | z
  · exact absurd (by rw [ey, z]; rfl) hc
  · exact z
/-- what a share is made of: numbers of meals -/
def InvS (μ : Sg) : Prop := rg (μ 0 9) 25 ∧ rg ((μ 0 9 + μ 0 10) + μ 0 11) 25
def zX8_shareBits (μ : Sg) : Int32 := if (((μ 0 9) + (μ 0 10)) + (μ 0 11)) = 0 then (-4)
  else (zbits (FP.fdiv (FP.i2f (μ 0 9)) (FP.i2f (((μ 0 9) + (μ 0 10)) + (μ 0 11)))))
theorem iwX8_shareBits_X8 : ∀ w ∈ wsX80, w ∈ wsX8_shareBits := fun _ h => List.mem_cons_of_mem _ (List.mem_append_right _ h)
theorem hdX8_shareBits : yX8_shareBits.cls = RX8 ∧ yX8_shareBits.cls ≠ "java/lang/invoke/MethodHandle" ∧ yX8_shareBits.cls ≠ "java/lang/invoke/VarHandle" ∧ (parseMethodDescriptor yX8_shareBits.desc).map (fun d => d.parameters.length) = some 0 := by decide +kernel
set_option maxHeartbeats 4000000 in
set_option maxRecDepth 100000 in
theorem mX8_shareBits (l : Launch) (D : va_G) (y : Y3) (mo : Nat → Nat) (μ : Sg) : Met l yX8_shareBits wsX8_shareBits ({ frames := 2, cells := 0, slots := 0, locals := 40 } : Room) (va_Pc [.ref (mo 0)] (fun U => CK D y U ∧ MoH D y mo μ U.heap ∧ InvS μ)) (vp_Si (fun r => r = zX8_shareBits μ)) 0 0 (fun _ => False) := by
  refine Met.ofW (cc := cX8_shareBits) (maxL := 4) (ret := (some .int)) (by decide) rfl ?_
  intro p e s m args below meth c s₁ B hml hv
  obtain ⟨rfl, hC, hMo, hsh⟩ := hv
  have hx := B.exec
  have hb := B.bytes
  have hr := B.returns
  have hts := atoms_spec (ws := wsX8_shareBits) B.pre
  have hown : s.vm.findClass RX8 = some m.cls := findClass_of_methodNamed B.named
  have hlocks := B.notSynchronized
  have hF := (⟨hx, hb, hml, hown, hts⟩ : CallFix p m c cX8_shareBits 4 s _ wsX8_shareBits RX8)
  have hl := lv_entry ([.ref (mo 0)]) (n := 4) (Nat.le_of_ble_eq_true rfl)
  rw [lg_entry_eq]
  generalize (lg_sl ([.ref (mo 0)]) ++ List.replicate (4 - (lg_sl ([.ref (mo 0)])).length) Slot.unset).toArray = ls at hl ⊢
  have hl : lv_has ls 4 [(0, .ref (mo 0))] := hl
  refine lv_aload_n hx hb dX8_shareBits_0 rfl (lv_at hl 0 rfl) ?_
  refine va_get (D := D) (ci := 8) (v := .ref (mo 1)) (C := RX8) (T := TX8) (N := 10) hx hb hts iwX8_shareBits_X8 hown hC.1 hMo 0 rfl rfl 0 (by decide) (hts (.fieldLink RX8 7 "MealLockersModel" "s" "[I") (List.mem_of_getElem? (i := 1) rfl)) (fun _ h9 => h9) rfl dX8_shareBits_1 ?_
  refine lv_bipush (v := 9) hx hb dX8_shareBits_4 (by decide) ?_
  refine va_iald hx hb hC.1 hMo 1 0 rfl rfl (vpl (by decide)) dX8_shareBits_6 ?_
  rw [cl_9]
  refine lv_aload_n hx hb dX8_shareBits_7 rfl (lv_at hl 0 rfl) ?_
  refine va_get (D := D) (ci := 8) (v := .ref (mo 1)) (C := RX8) (T := TX8) (N := 10) hx hb hts iwX8_shareBits_X8 hown hC.1 hMo 0 rfl rfl 0 (by decide) (hts (.fieldLink RX8 7 "MealLockersModel" "s" "[I") (List.mem_of_getElem? (i := 1) rfl)) (fun _ h9 => h9) rfl dX8_shareBits_8 ?_
  refine lv_bipush (v := 10) hx hb dX8_shareBits_11 (by decide) ?_
  refine va_iald hx hb hC.1 hMo 1 0 rfl rfl (vpl (by decide)) dX8_shareBits_13 ?_
  rw [cl_10]
  refine lv_iadd hx hb dX8_shareBits_14 ?_
  refine lv_aload_n hx hb dX8_shareBits_15 rfl (lv_at hl 0 rfl) ?_
  refine va_get (D := D) (ci := 8) (v := .ref (mo 1)) (C := RX8) (T := TX8) (N := 10) hx hb hts iwX8_shareBits_X8 hown hC.1 hMo 0 rfl rfl 0 (by decide) (hts (.fieldLink RX8 7 "MealLockersModel" "s" "[I") (List.mem_of_getElem? (i := 1) rfl)) (fun _ h9 => h9) rfl dX8_shareBits_16 ?_
  refine lv_bipush (v := 11) hx hb dX8_shareBits_19 (by decide) ?_
  refine va_iald hx hb hC.1 hMo 1 0 rfl rfl (vpl (by decide)) dX8_shareBits_21 ?_
  rw [cl_11]
  refine lv_iadd hx hb dX8_shareBits_22 ?_
  refine lv_istore_n (lv' := [(1, .int (((μ 0 9) + (μ 0 10)) + (μ 0 11))), (0, .ref (mo 0))]) hx hb dX8_shareBits_23 rfl hl (by decide) rfl (fun ls hl => ?_)
  refine lv_iload_n hx hb dX8_shareBits_24 rfl (lv_at hl 0 rfl) ?_
  refine lv_if_ne (tgt := 31) hx hb dX8_shareBits_25 (by decide) (fun c_1 => ?_) (fun c_1 => ?_)
  · refine lv_aload_n hx hb dX8_shareBits_31 rfl (lv_at hl 1 rfl) ?_
    refine va_get (D := D) (ci := 8) (v := .ref (mo 1)) (C := RX8) (T := TX8) (N := 10) hx hb hts iwX8_shareBits_X8 hown hC.1 hMo 0 rfl rfl 0 (by decide) (hts (.fieldLink RX8 7 "MealLockersModel" "s" "[I") (List.mem_of_getElem? (i := 1) rfl)) (fun _ h9 => h9) rfl dX8_shareBits_32 ?_
    refine lv_bipush (v := 9) hx hb dX8_shareBits_35 (by decide) ?_
    refine va_iald hx hb hC.1 hMo 1 0 rfl rfl (vpl (by decide)) dX8_shareBits_37 ?_
    rw [cl_9]
    refine lv_i2f hx hb dX8_shareBits_38 ?_
    refine lv_fstore_n (lv' := [(2, .float (FP.i2f (μ 0 9))), (1, .int (((μ 0 9) + (μ 0 10)) + (μ 0 11))), (0, .ref (mo 0))]) hx hb dX8_shareBits_39 rfl hl (by decide) rfl (fun ls hl => ?_)
    refine lv_iload_n hx hb dX8_shareBits_40 rfl (lv_at hl 1 rfl) ?_
    refine lv_i2f hx hb dX8_shareBits_41 ?_
    refine lv_fstore_n (lv' := [(3, .float (FP.i2f (((μ 0 9) + (μ 0 10)) + (μ 0 11)))), (2, .float (FP.i2f (μ 0 9))), (1, .int (((μ 0 9) + (μ 0 10)) + (μ 0 11))), (0, .ref (mo 0))]) hx hb dX8_shareBits_42 rfl hl (by decide) rfl (fun ls hl => ?_)
    refine lv_fload_n hx hb dX8_shareBits_43 rfl (lv_at hl 1 rfl) ?_
    refine lv_fload_n hx hb dX8_shareBits_44 rfl (lv_at hl 0 rfl) ?_
    refine lv_fdiv hx hb dX8_shareBits_45 (fd_ok hsh.1 hsh.2 c_1) ?_
    refine kJxf58ca_floatToIntBits_5c35a hF (va_cwS 1 hts gX8_shareBits_Jxf58ca_floatToIntBits_5c35a rfl rfl rfl hdJxf58ca_floatToIntBits_5c35a ⟨Nat.le_of_ble_eq_true rfl, Nat.le_of_ble_eq_true rfl⟩) hC hl.1 (Nat.le_of_ble_eq_true rfl) dX8_shareBits_46 ⟨Nat.zero_le _, Nat.zero_le _⟩ ?_
    exact W.iret (v := (zbits (FP.fdiv (FP.i2f (μ 0 9)) (FP.i2f (((μ 0 9) + (μ 0 10)) + (μ 0 11)))))) hx hb hr (fun t ht hW => ⟨(zbits (FP.fdiv (FP.i2f (μ 0 9)) (FP.i2f (((μ 0 9) + (μ 0 10)) + (μ 0 11))))), rfl, (by unfold zX8_shareBits; rw [if_neg c_1]), ht⟩) (fun q hq => absurd hq List.not_mem_nil) dX8_shareBits_49
  · refine lv_bipush (v := (-4)) hx hb dX8_shareBits_28 (by decide) ?_
    exact W.iret (v := (-4)) hx hb hr (fun t ht hW => ⟨(-4), rfl, (by unfold zX8_shareBits; rw [if_pos c_1]), ht⟩) (fun q hq => absurd hq List.not_mem_nil) dX8_shareBits_30
set_option maxHeartbeats 4000000 in
set_option maxRecDepth 100000 in
theorem kX8_shareBits {p : Program} {l : Launch} {e : Env} {R : Room} {s : State} {m : MethodId} {args : Array Value} {below : List Frame} {meth : Method} {c : Code} {H : Heap} {locs : List Loc} {cells slots : Nat} {Q : State → Prop} {cc : ByteArray} {nL : Nat} {Ts : List Cond} {own : String} {index pc : Nat} {ls : Array Slot} {rest : List Value} {D : va_G} {y : Y3} {mo : Nat → Nat} {μ : Sg} (hF : CallFix p m c cc nL s args Ts own) (cw : CallW R s args own RX8 index yX8_shareBits cX8_shareBits 4 (some .int) wsX8_shareBits ({ frames := 2, cells := 0, slots := 0, locals := 40 } : Room) 0 0 0) (hC : CK D y s) (hMo : MoH D y mo μ H) (hsh : InvS μ) (hsz : ls.size = nL) (hW : (rest.map fun v => v.category).sum ≤ 8) (hdg : decode cc pc = .ok (.invokevirtual index, 3)) (hf : cells ≤ R.cells ∧ slots ≤ R.slots)
    (k : W p l e R s m args below meth c H locs cells slots Q (F0 m (pc + 3) ls (.int (zX8_shareBits μ) :: rest))) : W p l e R s m args below meth c H locs cells slots Q (F0 m pc ls (.ref (mo 0) :: rest)) := by
  refine vp_callSi (W.runV (As := []) (rest := rest) hF (mX8_shareBits l D y mo μ) cw ⟨fun a U g mk q => by obtain ⟨q0, q1, q2, q3⟩ := q; exact ⟨q0, q1.call g mk a, q2, q3⟩, va_recv hC.1 hMo (ci := 8) (q0 := 0) rfl rfl, fun U hU hW => ⟨rfl, hC.warm hW, by rw [hU]; exact hMo, hsh⟩⟩ rfl rfl hsz rfl (lv_room hW) hdg ⟨hf.1, hf.2⟩) (fun r hr => ?_)
  subst hr
  exact k
