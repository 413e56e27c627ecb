def zL_lot (L : Nat) (xs : Nat → Int32) (k : Nat) : Int32 := if (Int32.ofNat L) ≤ (nI k) then (((-774904469) * ((nI k) + 2963)) + 2731)
  else (xs (nI k).toNatClampNeg)
theorem hdL_lot : yL_lot.cls ≠ "java/lang/invoke/MethodHandle" ∧ yL_lot.cls ≠ "java/lang/invoke/VarHandle" ∧ (parseMethodDescriptor yL_lot.desc).map (fun d => d.parameters.length) = some 2 := by decide +kernel
set_option maxHeartbeats 4000000 in
set_option maxRecDepth 100000 in
theorem mL_lot (l : Launch) (D : va_G) (y : Y3) (b L : Nat) (xs : Nat → Int32) (k : Nat) : Met l yL_lot wsL_lot ({ frames := 0, cells := 0, slots := 0, locals := 0 } : Room) (va_Pc [.ref b, .int (nI k)] (fun U => CK D y U ∧ va_X b L xs U U.heap ∧ (k < 1000 ∧ L ≤ 260))) (vp_Si (fun r => r = zL_lot L xs k)) 0 0 (fun _ => False) := by
  refine Met.ofW (cc := cL_lot) (maxL := 2) (ret := (some .int)) (by decide) rfl ?_
  intro p e s m args below meth c s₁ B hml hv
  obtain ⟨rfl, hC, hX, hk⟩ := hv
  have hx := B.exec
  have hb := B.bytes
  have hr := B.returns
  have hts := atoms_spec (ws := wsL_lot) B.pre
  have hown : s.vm.findClass RL = some m.cls := findClass_of_methodNamed B.named
  have hlocks := B.notSynchronized
  have hF := (⟨hx, hb, hml, hown, hts⟩ : CallFix p m c cL_lot 2 s _ wsL_lot RL)
  have hl := lv_entry ([.ref b, .int (nI k)]) (n := 2) (Nat.le_of_ble_eq_true rfl)
  rw [lg_entry_eq]
  generalize (lg_sl ([.ref b, .int (nI k)]) ++ List.replicate (2 - (lg_sl ([.ref b, .int (nI k)])).length) Slot.unset).toArray = ls at hl ⊢
  have hl : lv_has ls 2 [(0, .ref b), (1, .int (nI k))] := hl
  obtain ⟨hk1, hk2⟩ := hk
  have hS : va_S (fun _ : Nat => False) s.heap s.heap [] := va_S.rf
  have hbA : ¬ (fun _ : Nat => False) b := id
  have hbl : b < s.heap.size := by obtain ⟨scr, h1, -⟩ := hX; exact (Array.getElem?_eq_some_iff.mp h1).1
  refine lv_iload_n hx hb dL_lot_0 rfl (lv_at hl 1 rfl) ?_
  refine lv_aload_n hx hb dL_lot_1 rfl (lv_at hl 0 rfl) ?_
  refine va_slen hx hb hX hbl hbA hS dL_lot_2 ?_
  refine lv_icmp_ge (tgt := 12) hx hb dL_lot_3 (by decide) (fun c_1 => ?_) (fun c_1 => ?_)
  · refine lv_ldc (v := (-774904469)) hx hb hown (hts (.constant RL 7 (-774904469)) (List.mem_of_getElem? (i := 1) rfl)) dL_lot_12 ?_
    refine lv_iload_n hx hb dL_lot_14 rfl (lv_at hl 1 rfl) ?_
    refine lv_sipush (v := 2963) hx hb dL_lot_15 (by decide) ?_
    refine lv_iadd hx hb dL_lot_18 ?_
    refine lv_imul hx hb dL_lot_19 ?_
    refine lv_sipush (v := 2731) hx hb dL_lot_20 (by decide) ?_
    refine lv_iadd hx hb dL_lot_23 ?_
    exact W.iret (v := (((-774904469) * ((nI k) + 2963)) + 2731)) hx hb hr (fun t ht hW => ⟨(((-774904469) * ((nI k) + 2963)) + 2731), rfl, (by unfold zL_lot; rw [if_pos c_1]), ht⟩) (fun q hq => absurd hq List.not_mem_nil) dL_lot_24
  · refine lv_aload_n hx hb dL_lot_6 rfl (lv_at hl 0 rfl) ?_
    refine lv_iload_n hx hb dL_lot_7 rfl (lv_at hl 1 rfl) ?_
    refine va_sld hx hb hX hbl hbA hS (vp_in_nI (by have q9 : ¬ nI L ≤ nI k := c_1; have := mt (nI_leI (a := L) (b := k) (by omega) (by omega)).mpr q9; omega) (by omega)) dL_lot_8 ?_
    refine lv_goto (tgt := 24) hx hb dL_lot_9 (by decide) ?_
    exact W.iret (v := (xs (nI k).toNatClampNeg)) hx hb hr (fun t ht hW => ⟨(xs (nI k).toNatClampNeg), rfl, (by unfold zL_lot; rw [if_neg c_1]), ht⟩) (fun q hq => absurd hq List.not_mem_nil) dL_lot_24
set_option maxHeartbeats 4000000 in
set_option maxRecDepth 100000 in
theorem kL_lot {p : Program} {l : Launch} {e : Env} {R : Room} {s : State} {m : MethodId} {args : Array Value} {below : List Frame} {meth : Method} {c : Code} {H : Heap} {locs : List Loc} {cells slots : Nat} {Q : State → Prop} {cc : ByteArray} {nL : Nat} {Ts : List Cond} {own : String} {index pc : Nat} {ls : Array Slot} {rest : List Value} {D : va_G} {y : Y3} {b L : Nat} {xs : Nat → Int32} {k : Nat} (hF : CallFix p m c cc nL s args Ts own) (cw : CallB R s args own index yL_lot cL_lot 2 (some .int) wsL_lot ({ frames := 0, cells := 0, slots := 0, locals := 0 } : Room) 0 0 2 ∧ (Cond.static yL_lot).before args s = true) (hC : CK D y s) (hX : va_X b L xs s H) (hk : (k < 1000 ∧ L ≤ 260)) (hsz : ls.size = nL) (hW : (rest.map fun v => v.category).sum ≤ 8) (hdg : decode cc pc = .ok (.invokestatic index, 3)) (hf : cells ≤ R.cells ∧ slots ≤ R.slots)
    (kw : W p l e R s m args below meth c H locs cells slots Q (F0 m (pc + 3) ls (.int (zL_lot L xs k) :: rest))) : W p l e R s m args below meth c H locs cells slots Q (F0 m pc ls (.int (nI k) :: .ref b :: rest)) := by
  refine vp_callSi (W.runS (As := [.ref b, .int (nI k)]) (rest := rest) hF (mL_lot l D y b L xs k) cw ⟨fun a U g mk q => by obtain ⟨q0, q1, q2, q3⟩ := q; exact ⟨q0, q1.call g mk a, q2.moved (u := U) (U := U.calling g mk a) (Vm.Alike.refl U.vm), q3⟩, fun U hU hW => ⟨rfl, hC.warm hW, by rw [hU]; exact hX.moved hW.alike, hk⟩⟩ rfl rfl hsz rfl (lv_room hW) hdg ⟨hf.1, hf.2⟩) (fun r hr => ?_)
  subst hr
  exact kw
