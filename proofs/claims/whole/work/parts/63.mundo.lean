def zund (μ : Sg) : Sg := mU μ 0 (cpU μ (μ 4 0).toNatClampNeg 299)
theorem rg_dec {x : Int32} (h : rg x 5) (hc : ¬ x = 0) : rg (x - 1) 4 := by
  have h1 := lv_neT (a := 0) hc (by decide)
  have h2 := h.1
  have h3 := h.2
  have e : (x - 1).toInt = x.toInt - 1 := by
    rw [Int32.toInt_sub, show (1 : Int32).toInt = 1 from rfl]
    exact Int.bmod_eq_of_le (by omega) (by omega)
  exact ⟨by rw [e]; omega, by rw [e]; omega⟩
def zX8_undo (μ : Sg) : Int32 × Sg := if (μ 4 0) = 0 then ((-2), μ)
  else (((zund (mT μ 0 ((μ 4 0) - 1))) 4 0), zund (mT μ 0 ((μ 4 0) - 1)))
theorem iwX8_undo_X8 : ∀ w ∈ wsX80, w ∈ wsX8_undo := fun _ h => List.mem_cons_of_mem _ (List.mem_append_right _ h)
theorem hdX8_undo : yX8_undo.cls = RX8 ∧ yX8_undo.cls ≠ "java/lang/invoke/MethodHandle" ∧ yX8_undo.cls ≠ "java/lang/invoke/VarHandle" ∧ (parseMethodDescriptor yX8_undo.desc).map (fun d => d.parameters.length) = some 0 := by decide +kernel
set_option maxHeartbeats 4000000 in
set_option maxRecDepth 100000 in
theorem lpX8_undo {p : Program} {l : Launch} {e : Env} {s : State} {m : MethodId} {args : Array Value} {below : List Frame} {meth : Method} {c : Code} {Q : State → Prop} {D : va_G} {y : Y3} {mo : Nat → Nat} {μ : Sg} (hx : p.tables.exec = Jvm.exec) (hb : c.code = cX8_undo) (hml : c.maxLocals = 2) (hown : s.vm.findClass RX8 = some m.cls) (hts : ∀ w ∈ wsX8_undo, w.before args s = true) (hC : CK D y s) (hi9 : moI mo) (hr4 : rg (μ 4 0) 4)
    (K : ∀ (H : Heap) (locs : List Loc) (ls : Array Slot), MoH D y mo (mU μ 0 (cpU μ (μ 4 0).toNatClampNeg 299)) H → va_S (moA mo) s.heap H locs → lv_has ls 2 [(1, .int (nI 299)), (0, .ref (mo 0))] → W p l e (headSpec wsX8_undo ({ frames := 0, cells := 0, slots := 0, locals := 0 } : Room)).room s m args below meth c H locs 0 0 Q (F0 m 56 ls [])) :
    ∀ (j i : Nat), i + j = 299 → ∀ (H : Heap) (locs : List Loc), MoH D y mo (mU μ 0 (cpU μ (μ 4 0).toNatClampNeg i)) H → va_S (moA mo) s.heap H locs → ∀ ls : Array Slot, lv_has ls 2 [(1, .int (nI i)), (0, .ref (mo 0))] → W p l e (headSpec wsX8_undo ({ frames := 0, cells := 0, slots := 0, locals := 0 } : Room)).room s m args below meth c H locs 0 0 Q (F0 m 22 ls []) := by
  have hF := (⟨hx, hb, hml, hown, hts⟩ : CallFix p m c cX8_undo 2 s args wsX8_undo RX8)
  have hi := hi9
  intro j
  induction j with
  | zero =>
    intro i hin H locs hMo hS ls hl
    obtain rfl : i = 299 := by omega
    refine lv_iload_n hx hb dX8_undo_22 rfl (lv_at hl 0 rfl) ?_
    refine lv_sipush (v := 299) hx hb dX8_undo_23 (by decide) ?_
    refine lv_icmp_ge (tgt := 56) hx hb dX8_undo_26 (by decide) (fun _ => ?_) (fun c_1 => absurd (by decide) c_1)
    exact K H locs ls hMo hS (lv_sub hl [0, 1] rfl)
  | succ j ih =>
    intro i hin H locs hMo hS ls hl
    have hil : i < 299 := by omega
    refine lv_iload_n hx hb dX8_undo_22 rfl (lv_at hl 0 rfl) ?_
    refine lv_sipush (v := 299) hx hb dX8_undo_23 (by decide) ?_
    refine lv_icmp_ge (tgt := 56) hx hb dX8_undo_26 (by decide) (fun c_2 => absurd c_2 (nI_ge (a := i) (b := 299) (by omega) (by decide))) (fun _ => ?_)
    refine lv_aload_n hx hb dX8_undo_29 rfl (lv_at hl 1 rfl) ?_
    refine va_get (D := D) (ci := 8) (v := .ref (mo 1)) (C := RX8) (T := TX8) (N := 10) hx hb hts iwX8_undo_X8 hown hC.1 hMo 0 rfl rfl 0 (by decide) (hts (.fieldLink RX8 7 "MealLockersModel" "s" "[I") (List.mem_of_getElem? (i := 2) rfl)) (fun _ h9 => h9) rfl dX8_undo_30 ?_
    refine lv_iload_n hx hb dX8_undo_33 rfl (lv_at hl 0 rfl) ?_
    refine lv_aload_n hx hb dX8_undo_34 rfl (lv_at hl 1 rfl) ?_
    refine va_get (D := D) (ci := 8) (v := .ref (mo 3)) (C := RX8) (T := TX8) (N := 10) hx hb hts iwX8_undo_X8 hown hC.1 hMo 0 rfl rfl 2 (by decide) (hts (.fieldLink RX8 16 "MealLockersModel" "past" "[I") (List.mem_of_getElem? (i := 3) rfl)) (fun _ h9 => h9) rfl dX8_undo_35 ?_
    refine lv_sipush (v := 299) hx hb dX8_undo_38 (by decide) ?_
    refine lv_aload_n hx hb dX8_undo_41 rfl (lv_at hl 1 rfl) ?_
    refine va_get (D := D) (ci := 8) (v := .int ((mU μ 0 (cpU μ (μ 4 0).toNatClampNeg i)) 4 0)) (C := RX8) (T := TX8) (N := 10) hx hb hts iwX8_undo_X8 hown hC.1 hMo 0 rfl rfl 3 (by decide) (hts (.fieldLink RX8 25 "MealLockersModel" "states" "I") (List.mem_of_getElem? (i := 1) rfl)) (fun _ h9 => h9) rfl dX8_undo_42 ?_
    refine lv_imul hx hb dX8_undo_45 ?_
    refine lv_iload_n hx hb dX8_undo_46 rfl (lv_at hl 0 rfl) ?_
    refine lv_iadd hx hb dX8_undo_47 ?_
    refine va_iald hx hb hC.1 hMo 3 0 rfl rfl (vp_Kk hr4 (by omega)) dX8_undo_48 ?_
    refine va_iast hx hb hC.1 hMo (mo_D hi) hS 1 0 rfl rfl (vp_in_nI (by omega) (by decide)) dX8_undo_49 (fun H locs hMo _ hS => ?_)
    have hMo := mo_row1 hMo
    refine lv_iinc (v := (nI (i + 1))) (lv' := [(1, .int (nI (i + 1))), (0, .ref (mo 0))]) hx hb dX8_undo_50 hl (k := 0) rfl (by rw [nI_succ]; rfl) (by decide) rfl (fun ls hl => ?_)
    refine lv_goto (tgt := 22) hx hb dX8_undo_53 (by decide) ?_
    exact ih (i + 1) (by omega) H locs (cp_U hr4 hil hMo) hS ls (lv_sub hl [0, 1] rfl)
set_option maxHeartbeats 4000000 in
set_option maxRecDepth 100000 in
theorem mX8_undo (l : Launch) (D : va_G) (y : Y3) (mo : Nat → Nat) (μ : Sg) : Met l yX8_undo wsX8_undo ({ frames := 0, cells := 0, slots := 0, locals := 0 } : Room) (va_Pc [.ref (mo 0)] (fun U => CK D y U ∧ MoH D y mo μ U.heap ∧ moI mo ∧ rg (μ 4 0) 5)) (va_Qi (fun (r : Int32) (u : Sg) => r = (zX8_undo μ).1 ∧ u = (zX8_undo μ).2) (fun u t => MoH D y mo u t.heap) (moA mo)) 0 0 (moA mo) := by
  refine Met.ofW (cc := cX8_undo) (maxL := 2) (ret := (some .int)) (by decide) rfl ?_
  intro p e s m args below meth c s₁ B hml hv
  obtain ⟨rfl, hC, hMo, hi, r_h⟩ := hv
  have hx := B.exec
  have hb := B.bytes
  have hr := B.returns
  have hts := atoms_spec (ws := wsX8_undo) B.pre
  have hown : s.vm.findClass RX8 = some m.cls := findClass_of_methodNamed B.named
  have hlocks := B.notSynchronized
  have hF := (⟨hx, hb, hml, hown, hts⟩ : CallFix p m c cX8_undo 2 s _ wsX8_undo RX8)
  have hS : va_S (moA mo) s.heap s.heap [] := va_S.rf
  have hl := lv_entry ([.ref (mo 0)]) (n := 2) (Nat.le_of_ble_eq_true rfl)
  rw [lg_entry_eq]
  generalize (lg_sl ([.ref (mo 0)]) ++ List.replicate (2 - (lg_sl ([.ref (mo 0)])).length) Slot.unset).toArray = ls at hl ⊢
  have hl : lv_has ls 2 [(0, .ref (mo 0))] := hl
  refine lv_aload_n hx hb dX8_undo_0 rfl (lv_at hl 0 rfl) ?_
  refine va_get (D := D) (ci := 8) (v := .int (μ 4 0)) (C := RX8) (T := TX8) (N := 10) hx hb hts iwX8_undo_X8 hown hC.1 hMo 0 rfl rfl 3 (by decide) (hts (.fieldLink RX8 25 "MealLockersModel" "states" "I") (List.mem_of_getElem? (i := 1) rfl)) (fun _ h9 => h9) rfl dX8_undo_1 ?_
  refine lv_if_ne (tgt := 10) hx hb dX8_undo_4 (by decide) (fun c_3 => ?_) (fun c_3 => ?_)
  · refine lv_aload_n hx hb dX8_undo_10 rfl (lv_at hl 0 rfl) ?_
    refine lv_dup hx hb dX8_undo_11 rfl ?_
    refine va_get (D := D) (ci := 8) (v := .int (μ 4 0)) (C := RX8) (T := TX8) (N := 10) hx hb hts iwX8_undo_X8 hown hC.1 hMo 0 rfl rfl 3 (by decide) (hts (.fieldLink RX8 25 "MealLockersModel" "states" "I") (List.mem_of_getElem? (i := 1) rfl)) (fun _ h9 => h9) rfl dX8_undo_12 ?_
    refine lv_iconst (v := 1) hx hb dX8_undo_15 (by decide) ?_
    refine lv_isub hx hb dX8_undo_16 ?_
    refine va_put (D := D) (ci := 8) (v := .int ((μ 4 0) - 1)) (ty := .int) (C := RX8) (T := TX8) (N := 10) hx hb hts iwX8_undo_X8 tyX8 tyX8_ok nmX8 hown hC.1 hMo (mo_D hi) hS 0 rfl rfl 3 (by decide) (hts (.fieldLink RX8 25 "MealLockersModel" "states" "I") (List.mem_of_getElem? (i := 1) rfl)) (fun _ h9 => h9) rfl (by decide +kernel) rfl rfl (Nat.le_of_ble_eq_true rfl) dX8_undo_17 (fun H locs hMo _ hS => ?_)
    have hMo := mo_put0 hMo
    refine lv_iconst (v := 0) hx hb dX8_undo_20 (by decide) ?_
    refine lv_istore_n (lv' := [(1, .int 0), (0, .ref (mo 0))]) hx hb dX8_undo_21 rfl hl (by decide) rfl (fun ls hl => ?_)
    refine lpX8_undo (μ := mT μ 0 ((μ 4 0) - 1)) hx hb hml hown hts hC hi (rg_dec r_h c_3) (fun H locs ls hMo hS hl => ?_) _ 0 (Nat.zero_add _) _ _ (mo_cong hMo (fun k _ => (cpU_0 (mT μ 0 ((μ 4 0) - 1)) ((mT μ 0 ((μ 4 0) - 1)) 4 0).toNatClampNeg k).symm) (fun _ _ => rfl) (fun _ _ => rfl) (fun _ _ => rfl) rfl) hS ls (lv_sub hl [0, 1] rfl)
    have hMo : MoH D y mo (zund (mT μ 0 ((μ 4 0) - 1))) H := hMo
    refine lv_aload_n hx hb dX8_undo_56 rfl (lv_at hl 1 rfl) ?_
    refine va_get (D := D) (ci := 8) (v := .int ((zund (mT μ 0 ((μ 4 0) - 1))) 4 0)) (C := RX8) (T := TX8) (N := 10) hx hb hts iwX8_undo_X8 hown hC.1 hMo 0 rfl rfl 3 (by decide) (hts (.fieldLink RX8 25 "MealLockersModel" "states" "I") (List.mem_of_getElem? (i := 1) rfl)) (fun _ h9 => h9) rfl dX8_undo_57 ?_
    exact W.iret (v := ((zund (mT μ 0 ((μ 4 0) - 1))) 4 0)) hx hb hr (fun t ht hW => ⟨⟨((zund (mT μ 0 ((μ 4 0) - 1))) 4 0), zund (mT μ 0 ((μ 4 0) - 1)), rfl, ⟨(by unfold zX8_undo; rw [if_neg c_3]), (by unfold zX8_undo; rw [if_neg c_3])⟩, by dsimp only; rw [ht]; exact hMo⟩, hS.F ht⟩) hS.2.2 dX8_undo_60
  · refine lv_bipush (v := (-2)) hx hb dX8_undo_7 (by decide) ?_
    exact W.iret (v := (-2)) hx hb hr (fun t ht hW => ⟨⟨(-2), μ, rfl, ⟨(by unfold zX8_undo; rw [if_pos c_3]), (by unfold zX8_undo; rw [if_pos c_3])⟩, by dsimp only; rw [ht]; exact hMo⟩, hS.F ht⟩) hS.2.2 dX8_undo_9
set_option maxHeartbeats 4000000 in
set_option maxRecDepth 100000 in
theorem kX8_undo {p : Program} {l : Launch} {e : Env} {R : Room} {s : State} {m : MethodId} {args : Array Value} {below : List Frame} {meth : Method} {c : Code} {H : Heap} {locs : List Loc} {cells slots : Nat} {Q : State → Prop} {cc : ByteArray} {nL : Nat} {Ts : List Cond} {own : String} {index pc : Nat} {ls : Array Slot} {rest : List Value} {D : va_G} {y : Y3} {mo : Nat → Nat} {μ : Sg} {A0 : Nat → Prop} {H0 : Heap} (hF : CallFix p m c cc nL s args Ts own) (cw : CallW R s args own RX8 index yX8_undo cX8_undo 2 (some .int) wsX8_undo ({ frames := 0, cells := 0, slots := 0, locals := 0 } : Room) 0 0 0) (hC : CK D y s) (hMo : MoH D y mo μ H) (hi : moI mo) (r_h : rg (μ 4 0) 5) (hS : va_S A0 H0 H locs) (hA : ∀ q, (moA mo) q → A0 q) (hsz : ls.size = nL) (hW : (rest.map fun v => v.category).sum ≤ 8) (hdg : decode cc pc = .ok (.invokevirtual index, 3)) (hf : cells ≤ R.cells ∧ slots ≤ R.slots)
    (k : ∀ (H1 : Heap) (locs1 : List Loc), MoH D y mo (zX8_undo μ).2 H1 → H.size ≤ H1.size → (∀ q : Nat, q < H.size → ¬ (moA mo) q → H1[q]? = H[q]?) → va_S A0 H0 H1 locs1 → W p l e R s m args below meth c H1 locs1 cells slots Q (F0 m (pc + 3) ls (.int ((zX8_undo μ).1) :: rest))) : W p l e R s m args below meth c H locs cells slots Q (F0 m pc ls (.ref (mo 0) :: rest)) := by
  refine va_calli (va_runV (As := []) (rest := rest) hF (mX8_undo l D y mo μ) cw ⟨fun a U g mk q => by obtain ⟨q0, q1, q2, q3, q4⟩ := q; exact ⟨q0, q1.call g mk a, q2, q3, q4⟩, va_recv hC.1 hMo (ci := 8) (q0 := 0) rfl rfl, fun U hU hW => ⟨rfl, hC.warm hW, by rw [hU]; exact hMo, hi, r_h⟩⟩ rfl rfl hsz rfl (lv_room hW) hdg ⟨hf.1, hf.2⟩) hS (fun q _ h => hA q h) hA (fun r u t H1 locs1 ht hvm hp hB hz1 hk1 hS1 => ?_)
  obtain ⟨hp1, hp2⟩ := hp
  subst hp1; subst hp2
  rw [ht] at hB
  exact k H1 locs1 hB hz1 hk1 hS1
