/-- the text's length and the place read are 0 .. 60 -/
def InvT (μ : Sg) : Prop := rg (μ 4 1) 61 ∧ rg (μ 4 2) 61
theorem vp_at {x n : Int32} (h : rg n 61) (h0 : rg x 61) (hc : ¬ n ≤ x) : vp_in x 60 := by
  rw [Int32.le_iff_toInt_le] at hc
  have h1 := (rg_nI h0).2
  have h2 := h.2
  have h3 := h0.1
  exact fun z => z.elim (fun z => by rw [Int32.lt_iff_toInt_lt, Int32.toInt_zero] at z; omega) (fun z => by omega)
theorem rg_inc {x n : Int32} (h : rg n 61) (h0 : rg x 61) (hc : ¬ n ≤ x) : rg (x + 1) 61 := by
  rw [Int32.le_iff_toInt_le] at hc
  have h2 := h.2
  have h3 := h0.1
  have e : (x + 1).toInt = x.toInt + 1 := by
    rw [Int32.toInt_add, show (1 : Int32).toInt = 1 from rfl]
    exact Int.bmod_eq_of_le (by omega) (by omega)
  exact ⟨by omega, by omega⟩
theorem t_mT {μ : Sg} {k : Nat} {v : Int32} (h1 : k ≠ 1) (h2 : k ≠ 2) (h : InvT μ) : InvT (mT μ k v) := by
  have e1 : mT μ k v 4 1 = μ 4 1 := if_neg (fun e => h1 e.symm)
  have e2 : mT μ k v 4 2 = μ 4 2 := if_neg (fun e => h2 e.symm)
  unfold InvT
  rw [e1, e2]
  exact h
theorem t_at {μ : Sg} {v : Int32} (h : InvT μ) (hv : rg v 61) : InvT (mT μ 2 v) := ⟨h.1, hv⟩
theorem t_len {μ : Sg} {v : Int32} (h : InvT μ) (hv : rg v 61) : InvT (mT μ 1 v) := ⟨hv, h.2⟩
theorem t_at0 {μ : Sg} (h : InvT μ) : InvT (mT μ 2 (μ 4 2 + 0)) := t_at h (by rw [Int32.add_zero]; exact h.2)
theorem t_eq {μ ν : Sg} (e : ν 4 = μ 4) (h : InvT μ) : InvT ν := by
  unfold InvT
  rw [e]
  exact h
theorem i_eq {μ ν : Sg} (e : ν 0 = μ 0) (h : InvM μ) : InvM ν := by
  unfold InvM
  rw [e]
  exact h
def zX8_here (μ : Sg) : Int32 := if (μ 4 1) ≤ (μ 4 2) then (-1)
  else (μ 3 (μ 4 2).toNatClampNeg)
theorem iwX8_here_X8 : ∀ w ∈ wsX80, w ∈ wsX8_here := fun _ h => List.mem_cons_of_mem _ (List.mem_append_right _ h)
theorem hdX8_here : yX8_here.cls = RX8 ∧ yX8_here.cls ≠ "java/lang/invoke/MethodHandle" ∧ yX8_here.cls ≠ "java/lang/invoke/VarHandle" ∧ (parseMethodDescriptor yX8_here.desc).map (fun d => d.parameters.length) = some 0 := by decide +kernel
set_option maxHeartbeats 4000000 in
set_option maxRecDepth 100000 in
theorem mX8_here (l : Launch) (D : va_G) (y : Y3) (mo : Nat → Nat) (μ : Sg) : Met l yX8_here wsX8_here ({ frames := 0, cells := 0, slots := 0, locals := 0 } : Room) (va_Pc [.ref (mo 0)] (fun U => CK D y U ∧ MoH D y mo μ U.heap ∧ InvT μ)) (vp_Si (fun r => r = zX8_here μ)) 0 0 (fun _ => False) := by
  refine Met.ofW (cc := cX8_here) (maxL := 1) (ret := (some .int)) (by decide) rfl ?_
  intro p e s m args below meth c s₁ B hml hv
  obtain ⟨rfl, hC, hMo, hT⟩ := hv
  have hx := B.exec
  have hb := B.bytes
  have hr := B.returns
  have hts := atoms_spec (ws := wsX8_here) B.pre
  have hown : s.vm.findClass RX8 = some m.cls := findClass_of_methodNamed B.named
  have hlocks := B.notSynchronized
  have hF := (⟨hx, hb, hml, hown, hts⟩ : CallFix p m c cX8_here 1 s _ wsX8_here RX8)
  have hl := lv_entry ([.ref (mo 0)]) (n := 1) (Nat.le_of_ble_eq_true rfl)
  rw [lg_entry_eq]
  generalize (lg_sl ([.ref (mo 0)]) ++ List.replicate (1 - (lg_sl ([.ref (mo 0)])).length) Slot.unset).toArray = ls at hl ⊢
  have hl : lv_has ls 1 [(0, .ref (mo 0))] := hl
  refine lv_aload_n hx hb dX8_here_0 rfl (lv_at hl 0 rfl) ?_
  refine va_get (D := D) (ci := 8) (v := .int (μ 4 2)) (C := RX8) (T := TX8) (N := 10) hx hb hts iwX8_here_X8 hown hC.1 hMo 0 rfl rfl 6 (by decide) (hts (.fieldLink RX8 171 "MealLockersModel" "at" "I") (List.mem_of_getElem? (i := 1) rfl)) (fun _ h9 => h9) rfl dX8_here_1 ?_
  refine lv_aload_n hx hb dX8_here_4 rfl (lv_at hl 0 rfl) ?_
  refine va_get (D := D) (ci := 8) (v := .int (μ 4 1)) (C := RX8) (T := TX8) (N := 10) hx hb hts iwX8_here_X8 hown hC.1 hMo 0 rfl rfl 5 (by decide) (hts (.fieldLink RX8 159 "MealLockersModel" "length" "I") (List.mem_of_getElem? (i := 2) rfl)) (fun _ h9 => h9) rfl dX8_here_5 ?_
  refine lv_icmp_ge (tgt := 23) hx hb dX8_here_8 (by decide) (fun c_1 => ?_) (fun c_1 => ?_)
  · refine lv_iconst (v := (-1)) hx hb dX8_here_23 (by decide) ?_
    exact W.iret (v := (-1)) hx hb hr (fun t ht hW => ⟨(-1), rfl, (by unfold zX8_here; rw [if_pos c_1]), ht⟩) (fun q hq => absurd hq List.not_mem_nil) dX8_here_24
  · refine lv_aload_n hx hb dX8_here_11 rfl (lv_at hl 0 rfl) ?_
    refine va_get (D := D) (ci := 8) (v := .ref (mo 4)) (C := RX8) (T := TX8) (N := 10) hx hb hts iwX8_here_X8 hown hC.1 hMo 0 rfl rfl 4 (by decide) (hts (.fieldLink RX8 19 "MealLockersModel" "text" "[I") (List.mem_of_getElem? (i := 3) rfl)) (fun _ h9 => h9) rfl dX8_here_12 ?_
    refine lv_aload_n hx hb dX8_here_15 rfl (lv_at hl 0 rfl) ?_
    refine va_get (D := D) (ci := 8) (v := .int (μ 4 2)) (C := RX8) (T := TX8) (N := 10) hx hb hts iwX8_here_X8 hown hC.1 hMo 0 rfl rfl 6 (by decide) (hts (.fieldLink RX8 171 "MealLockersModel" "at" "I") (List.mem_of_getElem? (i := 1) rfl)) (fun _ h9 => h9) rfl dX8_here_16 ?_
    refine va_iald hx hb hC.1 hMo 4 0 rfl rfl (vp_at hT.1 hT.2 c_1) dX8_here_19 ?_
    refine lv_goto (tgt := 24) hx hb dX8_here_20 (by decide) ?_
    exact W.iret (v := (μ 3 (μ 4 2).toNatClampNeg)) hx hb hr (fun t ht hW => ⟨(μ 3 (μ 4 2).toNatClampNeg), rfl, (by unfold zX8_here; rw [if_neg c_1]), ht⟩) (fun q hq => absurd hq List.not_mem_nil) dX8_here_24
set_option maxHeartbeats 4000000 in
set_option maxRecDepth 100000 in
theorem kX8_here {p : Program} {l : Launch} {e : Env} {R : Room} {s : State} {m : MethodId} {args : Array Value} {below : List Frame} {meth : Method} {c : Code} {H : Heap} {locs : List Loc} {cells slots : Nat} {Q : State → Prop} {cc : ByteArray} {nL : Nat} {Ts : List Cond} {own : String} {index pc : Nat} {ls : Array Slot} {rest : List Value} {D : va_G} {y : Y3} {mo : Nat → Nat} {μ : Sg} (hF : CallFix p m c cc nL s args Ts own) (cw : CallW R s args own RX8 index yX8_here cX8_here 1 (some .int) wsX8_here ({ frames := 0, cells := 0, slots := 0, locals := 0 } : Room) 0 0 0) (hC : CK D y s) (hMo : MoH D y mo μ H) (hT : InvT μ) (hsz : ls.size = nL) (hW : (rest.map fun v => v.category).sum ≤ 8) (hdg : decode cc pc = .ok (.invokevirtual index, 3)) (hf : cells ≤ R.cells ∧ slots ≤ R.slots)
    (k : W p l e R s m args below meth c H locs cells slots Q (F0 m (pc + 3) ls (.int (zX8_here μ) :: rest))) : W p l e R s m args below meth c H locs cells slots Q (F0 m pc ls (.ref (mo 0) :: rest)) := by
  refine vp_callSi (W.runV (As := []) (rest := rest) hF (mX8_here l D y mo μ) cw ⟨fun a U g mk q => by obtain ⟨q0, q1, q2, q3⟩ := q; exact ⟨q0, q1.call g mk a, q2, q3⟩, va_recv hC.1 hMo (ci := 8) (q0 := 0) rfl rfl, fun U hU hW => ⟨rfl, hC.warm hW, by rw [hU]; exact hMo, hT⟩⟩ rfl rfl hsz rfl (lv_room hW) hdg ⟨hf.1, hf.2⟩) (fun r hr => ?_)
  subst hr
  exact k
def zX8_isDigit (μ : Sg) : Int32 := (zX8_in (zX8_here μ) 48 57)
theorem hdX8_isDigit : yX8_isDigit.cls = RX8 ∧ yX8_isDigit.cls ≠ "java/lang/invoke/MethodHandle" ∧ yX8_isDigit.cls ≠ "java/lang/invoke/VarHandle" ∧ (parseMethodDescriptor yX8_isDigit.desc).map (fun d => d.parameters.length) = some 0 := by decide +kernel
set_option maxHeartbeats 4000000 in
set_option maxRecDepth 100000 in
theorem mX8_isDigit (l : Launch) (D : va_G) (y : Y3) (mo : Nat → Nat) (μ : Sg) : Met l yX8_isDigit wsX8_isDigit ({ frames := 1, cells := 0, slots := 0, locals := 22 } : Room) (va_Pc [.ref (mo 0)] (fun U => CK D y U ∧ MoH D y mo μ U.heap ∧ InvT μ)) (vp_Si (fun r => r = zX8_isDigit μ)) 0 0 (fun _ => False) := by
  refine Met.ofW (cc := cX8_isDigit) (maxL := 1) (ret := (some .boolean)) (by decide) rfl ?_
  intro p e s m args below meth c s₁ B hml hv
  obtain ⟨rfl, hC, hMo, hT⟩ := hv
  have hx := B.exec
  have hb := B.bytes
  have hr := B.returns
  have hts := atoms_spec (ws := wsX8_isDigit) B.pre
  have hown : s.vm.findClass RX8 = some m.cls := findClass_of_methodNamed B.named
  have hlocks := B.notSynchronized
  have hF := (⟨hx, hb, hml, hown, hts⟩ : CallFix p m c cX8_isDigit 1 s _ wsX8_isDigit RX8)
  have hl := lv_entry ([.ref (mo 0)]) (n := 1) (Nat.le_of_ble_eq_true rfl)
  rw [lg_entry_eq]
  generalize (lg_sl ([.ref (mo 0)]) ++ List.replicate (1 - (lg_sl ([.ref (mo 0)])).length) Slot.unset).toArray = ls at hl ⊢
  have hl : lv_has ls 1 [(0, .ref (mo 0))] := hl
  refine lv_aload_n hx hb dX8_isDigit_0 rfl (lv_at hl 0 rfl) ?_
  refine kX8_here hF (cwV 0 hts gX8_isDigit_X8_here rfl rfl rfl hdX8_here ⟨Nat.le_of_ble_eq_true rfl, Nat.le_of_ble_eq_true rfl⟩) hC hMo hT  hl.1 (Nat.le_of_ble_eq_true rfl) dX8_isDigit_1 ⟨Nat.zero_le _, Nat.zero_le _⟩ ?_
  refine lv_bipush (v := 48) hx hb dX8_isDigit_4 (by decide) ?_
  refine lv_bipush (v := 57) hx hb dX8_isDigit_6 (by decide) ?_
  refine kX8_in hF (cwS 3 hts gX8_isDigit_X8_in rfl rfl rfl (by decide +kernel) ⟨Nat.le_of_ble_eq_true rfl, Nat.le_of_ble_eq_true rfl⟩) hC hl.1 (Nat.le_of_ble_eq_true rfl) dX8_isDigit_8 ⟨Nat.zero_le _, Nat.zero_le _⟩ ?_
  exact W.zret (v := (zX8_in (zX8_here μ) 48 57)) hx hb hr (nb_in _ _ _) (fun t ht hW => ⟨(zX8_in (zX8_here μ) 48 57), rfl, rfl, ht⟩) (fun q hq => absurd hq List.not_mem_nil) dX8_isDigit_11
set_option maxHeartbeats 4000000 in
set_option maxRecDepth 100000 in
theorem kX8_isDigit {p : Program} {l : Launch} {e : Env} {R : Room} {s : State} {m : MethodId} {args : Array Value} {below : List Frame} {meth : Method} {c : Code} {H : Heap} {locs : List Loc} {cells slots : Nat} {Q : State → Prop} {cc : ByteArray} {nL : Nat} {Ts : List Cond} {own : String} {index pc : Nat} {ls : Array Slot} {rest : List Value} {D : va_G} {y : Y3} {mo : Nat → Nat} {μ : Sg} (hF : CallFix p m c cc nL s args Ts own) (cw : CallW R s args own RX8 index yX8_isDigit cX8_isDigit 1 (some .boolean) wsX8_isDigit ({ frames := 1, cells := 0, slots := 0, locals := 22 } : Room) 0 0 0) (hC : CK D y s) (hMo : MoH D y mo μ H) (hT : InvT μ) (hsz : ls.size = nL) (hW : (rest.map fun v => v.category).sum ≤ 8) (hdg : decode cc pc = .ok (.invokevirtual index, 3)) (hf : cells ≤ R.cells ∧ slots ≤ R.slots)
    (k : W p l e R s m args below meth c H locs cells slots Q (F0 m (pc + 3) ls (.int (zX8_isDigit μ) :: rest))) : W p l e R s m args below meth c H locs cells slots Q (F0 m pc ls (.ref (mo 0) :: rest)) := by
  refine vp_callSi (W.runV (As := []) (rest := rest) hF (mX8_isDigit l D y mo μ) cw ⟨fun a U g mk q => by obtain ⟨q0, q1, q2, q3⟩ := q; exact ⟨q0, q1.call g mk a, q2, q3⟩, va_recv hC.1 hMo (ci := 8) (q0 := 0) rfl rfl, fun U hU hW => ⟨rfl, hC.warm hW, by rw [hU]; exact hMo, hT⟩⟩ rfl rfl hsz rfl (lv_room hW) hdg ⟨hf.1, hf.2⟩) (fun r hr => ?_)
  subst hr
  exact k
theorem nb_isDigit (μ : Sg) : narrow .boolean (.int (zX8_isDigit μ)) = .int (zX8_isDigit μ) := nb_in _ _ _
theorem here_lt {μ : Sg} (h : ¬ zX8_here μ = -1) : ¬ μ 4 1 ≤ μ 4 2 := by
  intro z
  apply h
  unfold zX8_here
  rw [if_pos z]
theorem dig_lt {μ : Sg} (h : ¬ zX8_isDigit μ = 0) : ¬ μ 4 1 ≤ μ 4 2 := by
  refine here_lt (fun e => h ?_)
  unfold zX8_isDigit
  rw [e]
  decide
def zX8_takesSign (μ : Sg) (x1 : Int32) : Sg := if (μ 4 5) = 0 then mT (mT μ 5 0) 2 (((mT μ 5 0) 4 2) + 0)
  else (if (zX8_here μ) = x1 then mT (mT μ 5 1) 2 (((mT μ 5 1) 4 2) + 1)
    else mT (mT μ 5 0) 2 (((mT μ 5 0) 4 2) + 0))
theorem iwX8_takesSign_X8 : ∀ w ∈ wsX80, w ∈ wsX8_takesSign := fun _ h => List.mem_cons_of_mem _ (List.mem_append_right _ h)
theorem hdX8_takesSign : yX8_takesSign.cls = RX8 ∧ yX8_takesSign.cls ≠ "java/lang/invoke/MethodHandle" ∧ yX8_takesSign.cls ≠ "java/lang/invoke/VarHandle" ∧ (parseMethodDescriptor yX8_takesSign.desc).map (fun d => d.parameters.length) = some 1 := by decide +kernel
set_option maxHeartbeats 4000000 in
set_option maxRecDepth 100000 in
theorem mX8_takesSign (l : Launch) (D : va_G) (y : Y3) (mo : Nat → Nat) (μ : Sg) (x1 : Int32) : Met l yX8_takesSign wsX8_takesSign ({ frames := 1, cells := 0, slots := 0, locals := 20 } : Room) (va_Pc [.ref (mo 0), .int x1] (fun U => CK D y U ∧ MoH D y mo μ U.heap ∧ moI mo ∧ InvT μ)) (va_Qv (fun u : Sg => u = zX8_takesSign μ x1) (fun u t => MoH D y mo u t.heap) (moA mo)) 0 0 (moA mo) := by
  refine Met.ofW (cc := cX8_takesSign) (maxL := 2) (ret := none) (by decide) rfl ?_
  intro p e s m args below meth c s₁ B hml hv
  obtain ⟨rfl, hC, hMo, hi, hT⟩ := hv
  have hx := B.exec
  have hb := B.bytes
  have hr := B.returns
  have hts := atoms_spec (ws := wsX8_takesSign) B.pre
  have hown : s.vm.findClass RX8 = some m.cls := findClass_of_methodNamed B.named
  have hlocks := B.notSynchronized
  have hF := (⟨hx, hb, hml, hown, hts⟩ : CallFix p m c cX8_takesSign 2 s _ wsX8_takesSign RX8)
  have hS : va_S (moA mo) s.heap s.heap [] := va_S.rf
  have hl := lv_entry ([.ref (mo 0), .int x1]) (n := 2) (Nat.le_of_ble_eq_true rfl)
  rw [lg_entry_eq]
  generalize (lg_sl ([.ref (mo 0), .int x1]) ++ List.replicate (2 - (lg_sl ([.ref (mo 0), .int x1])).length) Slot.unset).toArray = ls at hl ⊢
  have hl : lv_has ls 2 [(0, .ref (mo 0)), (1, .int x1)] := hl
  refine lv_aload_n hx hb dX8_takesSign_0 rfl (lv_at hl 0 rfl) ?_
  refine lv_aload_n hx hb dX8_takesSign_1 rfl (lv_at hl 0 rfl) ?_
  refine va_get (D := D) (ci := 8) (v := .int (μ 4 5)) (C := RX8) (T := TX8) (N := 10) hx hb hts iwX8_takesSign_X8 hown hC.1 hMo 0 rfl rfl 9 (by decide) (hts (.fieldLink RX8 177 "MealLockersModel" "isForm" "Z") (List.mem_of_getElem? (i := 1) rfl)) (fun _ h9 => h9) rfl dX8_takesSign_2 ?_
  refine lv_if_eq (tgt := 20) hx hb dX8_takesSign_5 (by decide) (fun c_1 => ?_) (fun c_1 => ?_)
  · refine lv_iconst (v := 0) hx hb dX8_takesSign_20 (by decide) ?_
    refine va_put (D := D) (ci := 8) (v := .int 0) (ty := .boolean) (C := RX8) (T := TX8) (N := 10) hx hb hts iwX8_takesSign_X8 tyX8 tyX8_ok nmX8 hown hC.1 hMo (mo_D hi) hS 0 rfl rfl 9 (by decide) (hts (.fieldLink RX8 177 "MealLockersModel" "isForm" "Z") (List.mem_of_getElem? (i := 1) rfl)) (fun _ h9 => h9) rfl (by decide +kernel) rfl rfl (Nat.le_of_ble_eq_true rfl) dX8_takesSign_21 (fun H locs hMo _ hS => ?_)
    have hMo := mo_put5 hMo
    refine lv_aload_n hx hb dX8_takesSign_24 rfl (lv_at hl 0 rfl) ?_
    refine lv_dup hx hb dX8_takesSign_25 rfl ?_
    refine va_get (D := D) (ci := 8) (v := .int ((mT μ 5 0) 4 2)) (C := RX8) (T := TX8) (N := 10) hx hb hts iwX8_takesSign_X8 hown hC.1 hMo 0 rfl rfl 6 (by decide) (hts (.fieldLink RX8 171 "MealLockersModel" "at" "I") (List.mem_of_getElem? (i := 2) rfl)) (fun _ h9 => h9) rfl dX8_takesSign_26 ?_
    refine lv_aload_n hx hb dX8_takesSign_29 rfl (lv_at hl 0 rfl) ?_
    refine va_get (D := D) (ci := 8) (v := .int 0) (C := RX8) (T := TX8) (N := 10) hx hb hts iwX8_takesSign_X8 hown hC.1 hMo 0 rfl rfl 9 (by decide) (hts (.fieldLink RX8 177 "MealLockersModel" "isForm" "Z") (List.mem_of_getElem? (i := 1) rfl)) (fun _ h9 => h9) rfl dX8_takesSign_30 ?_
    refine lv_if_eq (tgt := 40) hx hb dX8_takesSign_33 (by decide) (fun _ => ?_) (fun c_2 => absurd (by decide) c_2)
    refine lv_iconst (v := 0) hx hb dX8_takesSign_40 (by decide) ?_
    refine lv_iadd hx hb dX8_takesSign_41 ?_
    refine va_put (D := D) (ci := 8) (v := .int (((mT μ 5 0) 4 2) + 0)) (ty := .int) (C := RX8) (T := TX8) (N := 10) hx hb hts iwX8_takesSign_X8 tyX8 tyX8_ok nmX8 hown hC.1 hMo (mo_D hi) hS 0 rfl rfl 6 (by decide) (hts (.fieldLink RX8 171 "MealLockersModel" "at" "I") (List.mem_of_getElem? (i := 2) rfl)) (fun _ h9 => h9) rfl (by decide +kernel) rfl rfl (Nat.le_of_ble_eq_true rfl) dX8_takesSign_42 (fun H locs hMo _ hS => ?_)
    have hMo := mo_put2 hMo
    exact W.vret hx hb hr (fun t ht hW => ⟨⟨mT (mT μ 5 0) 2 (((mT μ 5 0) 4 2) + 0), rfl, (by unfold zX8_takesSign; rw [if_pos c_1]), by dsimp only; rw [ht]; exact hMo⟩, hS.F ht⟩) hS.2.2 dX8_takesSign_45
  · refine lv_aload_n hx hb dX8_takesSign_8 rfl (lv_at hl 0 rfl) ?_
    refine kX8_here hF (cwV 0 hts gX8_takesSign_X8_here rfl rfl rfl hdX8_here ⟨Nat.le_of_ble_eq_true rfl, Nat.le_of_ble_eq_true rfl⟩) hC hMo hT  hl.1 (Nat.le_of_ble_eq_true rfl) dX8_takesSign_9 ⟨Nat.zero_le _, Nat.zero_le _⟩ ?_
    refine lv_iload_n hx hb dX8_takesSign_12 rfl (lv_at hl 1 rfl) ?_
    refine lv_icmp_ne (tgt := 20) hx hb dX8_takesSign_13 (by decide) (fun c_3 => ?_) (fun c_3 => ?_)
    · refine lv_iconst (v := 0) hx hb dX8_takesSign_20 (by decide) ?_
      refine va_put (D := D) (ci := 8) (v := .int 0) (ty := .boolean) (C := RX8) (T := TX8) (N := 10) hx hb hts iwX8_takesSign_X8 tyX8 tyX8_ok nmX8 hown hC.1 hMo (mo_D hi) hS 0 rfl rfl 9 (by decide) (hts (.fieldLink RX8 177 "MealLockersModel" "isForm" "Z") (List.mem_of_getElem? (i := 1) rfl)) (fun _ h9 => h9) rfl (by decide +kernel) rfl rfl (Nat.le_of_ble_eq_true rfl) dX8_takesSign_21 (fun H locs hMo _ hS => ?_)
      have hMo := mo_put5 hMo
      refine lv_aload_n hx hb dX8_takesSign_24 rfl (lv_at hl 0 rfl) ?_
      refine lv_dup hx hb dX8_takesSign_25 rfl ?_
      refine va_get (D := D) (ci := 8) (v := .int ((mT μ 5 0) 4 2)) (C := RX8) (T := TX8) (N := 10) hx hb hts iwX8_takesSign_X8 hown hC.1 hMo 0 rfl rfl 6 (by decide) (hts (.fieldLink RX8 171 "MealLockersModel" "at" "I") (List.mem_of_getElem? (i := 2) rfl)) (fun _ h9 => h9) rfl dX8_takesSign_26 ?_
      refine lv_aload_n hx hb dX8_takesSign_29 rfl (lv_at hl 0 rfl) ?_
      refine va_get (D := D) (ci := 8) (v := .int 0) (C := RX8) (T := TX8) (N := 10) hx hb hts iwX8_takesSign_X8 hown hC.1 hMo 0 rfl rfl 9 (by decide) (hts (.fieldLink RX8 177 "MealLockersModel" "isForm" "Z") (List.mem_of_getElem? (i := 1) rfl)) (fun _ h9 => h9) rfl dX8_takesSign_30 ?_
      refine lv_if_eq (tgt := 40) hx hb dX8_takesSign_33 (by decide) (fun _ => ?_) (fun c_4 => absurd (by decide) c_4)
      refine lv_iconst (v := 0) hx hb dX8_takesSign_40 (by decide) ?_
      refine lv_iadd hx hb dX8_takesSign_41 ?_
      refine va_put (D := D) (ci := 8) (v := .int (((mT μ 5 0) 4 2) + 0)) (ty := .int) (C := RX8) (T := TX8) (N := 10) hx hb hts iwX8_takesSign_X8 tyX8 tyX8_ok nmX8 hown hC.1 hMo (mo_D hi) hS 0 rfl rfl 6 (by decide) (hts (.fieldLink RX8 171 "MealLockersModel" "at" "I") (List.mem_of_getElem? (i := 2) rfl)) (fun _ h9 => h9) rfl (by decide +kernel) rfl rfl (Nat.le_of_ble_eq_true rfl) dX8_takesSign_42 (fun H locs hMo _ hS => ?_)
      have hMo := mo_put2 hMo
      exact W.vret hx hb hr (fun t ht hW => ⟨⟨mT (mT μ 5 0) 2 (((mT μ 5 0) 4 2) + 0), rfl, (by unfold zX8_takesSign; rw [if_neg c_1, if_neg c_3]), by dsimp only; rw [ht]; exact hMo⟩, hS.F ht⟩) hS.2.2 dX8_takesSign_45
    · refine lv_iconst (v := 1) hx hb dX8_takesSign_16 (by decide) ?_
      refine lv_goto (tgt := 21) hx hb dX8_takesSign_17 (by decide) ?_
      refine va_put (D := D) (ci := 8) (v := .int 1) (ty := .boolean) (C := RX8) (T := TX8) (N := 10) hx hb hts iwX8_takesSign_X8 tyX8 tyX8_ok nmX8 hown hC.1 hMo (mo_D hi) hS 0 rfl rfl 9 (by decide) (hts (.fieldLink RX8 177 "MealLockersModel" "isForm" "Z") (List.mem_of_getElem? (i := 1) rfl)) (fun _ h9 => h9) rfl (by decide +kernel) rfl rfl (Nat.le_of_ble_eq_true rfl) dX8_takesSign_21 (fun H locs hMo _ hS => ?_)
      have hMo := mo_put5 hMo
      refine lv_aload_n hx hb dX8_takesSign_24 rfl (lv_at hl 0 rfl) ?_
      refine lv_dup hx hb dX8_takesSign_25 rfl ?_
      refine va_get (D := D) (ci := 8) (v := .int ((mT μ 5 1) 4 2)) (C := RX8) (T := TX8) (N := 10) hx hb hts iwX8_takesSign_X8 hown hC.1 hMo 0 rfl rfl 6 (by decide) (hts (.fieldLink RX8 171 "MealLockersModel" "at" "I") (List.mem_of_getElem? (i := 2) rfl)) (fun _ h9 => h9) rfl dX8_takesSign_26 ?_
      refine lv_aload_n hx hb dX8_takesSign_29 rfl (lv_at hl 0 rfl) ?_
      refine va_get (D := D) (ci := 8) (v := .int 1) (C := RX8) (T := TX8) (N := 10) hx hb hts iwX8_takesSign_X8 hown hC.1 hMo 0 rfl rfl 9 (by decide) (hts (.fieldLink RX8 177 "MealLockersModel" "isForm" "Z") (List.mem_of_getElem? (i := 1) rfl)) (fun _ h9 => h9) rfl dX8_takesSign_30 ?_
      refine lv_if_eq (tgt := 40) hx hb dX8_takesSign_33 (by decide) (fun c_5 => absurd c_5 (by decide)) (fun _ => ?_)
      refine lv_iconst (v := 1) hx hb dX8_takesSign_36 (by decide) ?_
      refine lv_goto (tgt := 41) hx hb dX8_takesSign_37 (by decide) ?_
      refine lv_iadd hx hb dX8_takesSign_41 ?_
      refine va_put (D := D) (ci := 8) (v := .int (((mT μ 5 1) 4 2) + 1)) (ty := .int) (C := RX8) (T := TX8) (N := 10) hx hb hts iwX8_takesSign_X8 tyX8 tyX8_ok nmX8 hown hC.1 hMo (mo_D hi) hS 0 rfl rfl 6 (by decide) (hts (.fieldLink RX8 171 "MealLockersModel" "at" "I") (List.mem_of_getElem? (i := 2) rfl)) (fun _ h9 => h9) rfl (by decide +kernel) rfl rfl (Nat.le_of_ble_eq_true rfl) dX8_takesSign_42 (fun H locs hMo _ hS => ?_)
      have hMo := mo_put2 hMo
      exact W.vret hx hb hr (fun t ht hW => ⟨⟨mT (mT μ 5 1) 2 (((mT μ 5 1) 4 2) + 1), rfl, (by unfold zX8_takesSign; rw [if_neg c_1, if_pos c_3]), by dsimp only; rw [ht]; exact hMo⟩, hS.F ht⟩) hS.2.2 dX8_takesSign_45
set_option maxHeartbeats 4000000 in
set_option maxRecDepth 100000 in
theorem kX8_takesSign {p : Program} {l : Launch} {e : Env} {R : Room} {s : State} {m : MethodId} {args : Array Value} {below : List Frame} {meth : Method} {c : Code} {H : Heap} {locs : List Loc} {cells slots : Nat} {Q : State → Prop} {cc : ByteArray} {nL : Nat} {Ts : List Cond} {own : String} {index pc : Nat} {ls : Array Slot} {rest : List Value} {D : va_G} {y : Y3} {mo : Nat → Nat} {μ : Sg} {x1 : Int32} {A0 : Nat → Prop} {H0 : Heap} (hF : CallFix p m c cc nL s args Ts own) (cw : CallW R s args own RX8 index yX8_takesSign cX8_takesSign 2 none wsX8_takesSign ({ frames := 1, cells := 0, slots := 0, locals := 20 } : Room) 0 0 1) (hC : CK D y s) (hMo : MoH D y mo μ H) (hi : moI mo) (hT : InvT μ) (hS : va_S A0 H0 H locs) (hA : ∀ q, (moA mo) q → A0 q) (hsz : ls.size = nL) (hW : (rest.map fun v => v.category).sum ≤ 8) (hdg : decode cc pc = .ok (.invokevirtual index, 3)) (hf : cells ≤ R.cells ∧ slots ≤ R.slots)
    (k : ∀ (H1 : Heap) (locs1 : List Loc), MoH D y mo (zX8_takesSign μ x1) H1 → H.size ≤ H1.size → (∀ q : Nat, q < H.size → ¬ (moA mo) q → H1[q]? = H[q]?) → va_S A0 H0 H1 locs1 → W p l e R s m args below meth c H1 locs1 cells slots Q (F0 m (pc + 3) ls (rest))) : W p l e R s m args below meth c H locs cells slots Q (F0 m pc ls (.int x1 :: .ref (mo 0) :: rest)) := by
  refine va_callv (va_runV (As := [.int x1]) (rest := rest) hF (mX8_takesSign l D y mo μ x1) cw ⟨fun a U g mk q => by obtain ⟨q0, q1, q2, q3, q4⟩ := q; exact ⟨q0, q1.call g mk a, q2, q3, q4⟩, va_recv hC.1 hMo (ci := 8) (q0 := 0) rfl rfl, fun U hU hW => ⟨rfl, hC.warm hW, by rw [hU]; exact hMo, hi, hT⟩⟩ rfl rfl hsz rfl (lv_room hW) hdg ⟨hf.1, hf.2⟩) hS (fun q _ h => hA q h) hA (fun u t H1 locs1 ht hvm hp hB hz1 hk1 hS1 => ?_)
  subst hp
  rw [ht] at hB
  exact k H1 locs1 hB hz1 hk1 hS1
theorem n_takesSign {μ : Sg} {x1 : Int32} (j : Nat) (hj : j ≠ 4) : zX8_takesSign μ x1 j = μ j := by
  unfold zX8_takesSign
  (repeat' split) <;> exact (if_neg hj).trans (if_neg hj)
theorem t_takesSign {μ : Sg} {x1 : Int32} (h : InvT μ) (hs : ¬ x1 = -1) : InvT (zX8_takesSign μ x1) := by
  unfold zX8_takesSign
  split
  · exact t_at0 (t_mT (by decide) (by decide) h)
  · split
    · rename_i c
      exact t_at (t_mT (k := 5) (by decide) (by decide) h) (rg_inc h.1 h.2 (here_lt (by rw [c]; exact hs)))
    · exact t_at0 (t_mT (by decide) (by decide) h)
def wX8_number : Nat → Int32 → Sg → Int32 × Sg
  | 0, v, μ => (v, μ)
  | n + 1, v, μ => if (μ 4 5) = 0 then (v, μ) else if (zX8_isDigit μ) = 0 then (v, μ) else wX8_number n (((10 * v) + (zX8_here μ)) - 48) (mT μ 2 ((μ 4 2) + 1))
def zX8_number (μ : Sg) : Int32 × Sg := if (μ 4 5) = 0 then (wX8_number 4 0 (mT μ 5 0))
  else (if (zX8_isDigit μ) = 0 then (wX8_number 4 0 (mT μ 5 0))
    else (wX8_number 4 0 (mT μ 5 1)))
theorem iwX8_number_X8 : ∀ w ∈ wsX80, w ∈ wsX8_number := fun _ h => List.mem_cons_of_mem _ (List.mem_append_right _ h)
theorem hdX8_number : yX8_number.cls = RX8 ∧ yX8_number.cls ≠ "java/lang/invoke/MethodHandle" ∧ yX8_number.cls ≠ "java/lang/invoke/VarHandle" ∧ (parseMethodDescriptor yX8_number.desc).map (fun d => d.parameters.length) = some 0 := by decide +kernel
set_option maxHeartbeats 4000000 in
set_option maxRecDepth 100000 in
theorem lpX8_number {p : Program} {l : Launch} {e : Env} {s : State} {m : MethodId} {args : Array Value} {below : List Frame} {meth : Method} {c : Code} {Q : State → Prop} {D : va_G} {y : Y3} {mo : Nat → Nat} {μ0 : Sg} (hx : p.tables.exec = Jvm.exec) (hb : c.code = cX8_number) (hml : c.maxLocals = 3) (hown : s.vm.findClass RX8 = some m.cls) (hts : ∀ w ∈ wsX8_number, w.before args s = true) (hC : CK D y s) (hi9 : moI mo)
    (K : ∀ (x1 x2 : Int32) (μ : Sg) (H : Heap) (locs : List Loc) (ls : Array Slot), (x1, μ) = wX8_number 4 0 μ0 → MoH D y mo μ H → va_S (moA mo) s.heap H locs → lv_has ls 3 [(2, .int x2), (1, .int x1), (0, .ref (mo 0))] → W p l e (headSpec wsX8_number ({ frames := 2, cells := 0, slots := 0, locals := 42 } : Room)).room s m args below meth c H locs 0 0 Q (F0 m 75 ls [])) :
    ∀ (j i : Nat) (v : Int32) (μ : Sg), i + j = 4 → wX8_number 4 0 μ0 = wX8_number j v μ → InvT μ → ∀ (H : Heap) (locs : List Loc), MoH D y mo μ H → va_S (moA mo) s.heap H locs → ∀ ls : Array Slot, lv_has ls 3 [(2, .int (nI i)), (1, .int v), (0, .ref (mo 0))] → W p l e (headSpec wsX8_number ({ frames := 2, cells := 0, slots := 0, locals := 42 } : Room)).room s m args below meth c H locs 0 0 Q (F0 m 27 ls []) := by
  have hF := (⟨hx, hb, hml, hown, hts⟩ : CallFix p m c cX8_number 3 s args wsX8_number RX8)
  have hi := hi9
  intro j
  induction j with
  | zero =>
    intro i v μ hin hv hT H locs hMo hS ls hl
    obtain rfl : i = 4 := by omega
    refine lv_iload_n hx hb dX8_number_27 rfl (lv_at hl 0 rfl) ?_
    refine lv_iconst (v := 4) hx hb dX8_number_28 (by decide) ?_
    refine lv_icmp_ge (tgt := 75) hx hb dX8_number_29 (by decide) (fun _ => ?_) (fun c_1 => absurd (by decide) c_1)
    exact K v _ μ H locs ls hv.symm hMo hS (lv_sub hl [0, 1, 2] rfl)
  | succ j ih =>
    intro i v μ hin hv hT H locs hMo hS ls hl
    refine lv_iload_n hx hb dX8_number_27 rfl (lv_at hl 0 rfl) ?_
    refine lv_iconst (v := 4) hx hb dX8_number_28 (by decide) ?_
    refine lv_icmp_ge (tgt := 75) hx hb dX8_number_29 (by decide) (fun c_2 => absurd c_2 (nI_ge (a := i) (b := 4) (by omega) (by decide))) (fun _ => ?_)
    refine lv_aload_n hx hb dX8_number_32 rfl (lv_at hl 2 rfl) ?_
    refine va_get (D := D) (ci := 8) (v := .int (μ 4 5)) (C := RX8) (T := TX8) (N := 10) hx hb hts iwX8_number_X8 hown hC.1 hMo 0 rfl rfl 9 (by decide) (hts (.fieldLink RX8 177 "MealLockersModel" "isForm" "Z") (List.mem_of_getElem? (i := 1) rfl)) (fun _ h9 => h9) rfl dX8_number_33 ?_
    refine lv_if_eq (tgt := 75) hx hb dX8_number_36 (by decide) (fun c_3 => ?_) (fun c_3 => ?_)
    · exact K v _ μ H locs ls (hv.trans (by rw [wX8_number]; rw [if_pos c_3])).symm hMo hS (lv_sub hl [0, 1, 2] rfl)
    · refine lv_aload_n hx hb dX8_number_39 rfl (lv_at hl 2 rfl) ?_
      refine kX8_isDigit hF (cwV 0 hts gX8_number_X8_isDigit rfl rfl rfl hdX8_isDigit ⟨Nat.le_of_ble_eq_true rfl, Nat.le_of_ble_eq_true rfl⟩) hC hMo hT  hl.1 (Nat.le_of_ble_eq_true rfl) dX8_number_40 ⟨Nat.zero_le _, Nat.zero_le _⟩ ?_
      refine lv_if_eq (tgt := 75) hx hb dX8_number_43 (by decide) (fun c_4 => ?_) (fun c_4 => ?_)
      · exact K v _ μ H locs ls (hv.trans (by rw [wX8_number]; rw [if_neg c_3, if_pos c_4])).symm hMo hS (lv_sub hl [0, 1, 2] rfl)
      · refine lv_bipush (v := 10) hx hb dX8_number_46 (by decide) ?_
        refine lv_iload_n hx hb dX8_number_48 rfl (lv_at hl 1 rfl) ?_
        refine lv_imul hx hb dX8_number_49 ?_
        refine lv_aload_n hx hb dX8_number_50 rfl (lv_at hl 2 rfl) ?_
        refine kX8_here hF (cwV 0 hts gX8_number_X8_here rfl rfl rfl hdX8_here ⟨Nat.le_of_ble_eq_true rfl, Nat.le_of_ble_eq_true rfl⟩) hC hMo hT  hl.1 (Nat.le_of_ble_eq_true rfl) dX8_number_51 ⟨Nat.zero_le _, Nat.zero_le _⟩ ?_
        refine lv_iadd hx hb dX8_number_54 ?_
        refine lv_bipush (v := 48) hx hb dX8_number_55 (by decide) ?_
        refine lv_isub hx hb dX8_number_57 ?_
        refine lv_istore_n (lv' := [(1, .int (((10 * v) + (zX8_here μ)) - 48)), (2, .int (nI i)), (0, .ref (mo 0))]) hx hb dX8_number_58 rfl hl (by decide) rfl (fun ls hl => ?_)
        refine lv_aload_n hx hb dX8_number_59 rfl (lv_at hl 2 rfl) ?_
        refine lv_dup hx hb dX8_number_60 rfl ?_
        refine va_get (D := D) (ci := 8) (v := .int (μ 4 2)) (C := RX8) (T := TX8) (N := 10) hx hb hts iwX8_number_X8 hown hC.1 hMo 0 rfl rfl 6 (by decide) (hts (.fieldLink RX8 171 "MealLockersModel" "at" "I") (List.mem_of_getElem? (i := 2) rfl)) (fun _ h9 => h9) rfl dX8_number_61 ?_
        refine lv_iconst (v := 1) hx hb dX8_number_64 (by decide) ?_
        refine lv_iadd hx hb dX8_number_65 ?_
        refine va_put (D := D) (ci := 8) (v := .int ((μ 4 2) + 1)) (ty := .int) (C := RX8) (T := TX8) (N := 10) hx hb hts iwX8_number_X8 tyX8 tyX8_ok nmX8 hown hC.1 hMo (mo_D hi) hS 0 rfl rfl 6 (by decide) (hts (.fieldLink RX8 171 "MealLockersModel" "at" "I") (List.mem_of_getElem? (i := 2) rfl)) (fun _ h9 => h9) rfl (by decide +kernel) rfl rfl (Nat.le_of_ble_eq_true rfl) dX8_number_66 (fun H locs hMo _ hS => ?_)
        have hMo := mo_put2 hMo
        have hT := t_at hT (rg_inc hT.1 hT.2 (dig_lt c_4))
        refine lv_iinc (v := (nI (i + 1))) (lv' := [(2, .int (nI (i + 1))), (1, .int (((10 * v) + (zX8_here μ)) - 48)), (0, .ref (mo 0))]) hx hb dX8_number_69 hl (k := 1) rfl (by rw [nI_succ]; rfl) (by decide) rfl (fun ls hl => ?_)
        refine lv_goto (tgt := 27) hx hb dX8_number_72 (by decide) ?_
        exact ih (i + 1) ((((10 * v) + (zX8_here μ)) - 48)) (mT μ 2 ((μ 4 2) + 1)) (by omega) (hv.trans (by rw [wX8_number]; rw [if_neg c_3, if_neg c_4])) hT H locs hMo hS ls (lv_sub hl [0, 1, 2] rfl)
set_option maxHeartbeats 4000000 in
set_option maxRecDepth 100000 in
theorem mX8_number (l : Launch) (D : va_G) (y : Y3) (mo : Nat → Nat) (μ : Sg) : Met l yX8_number wsX8_number ({ frames := 2, cells := 0, slots := 0, locals := 42 } : Room) (va_Pc [.ref (mo 0)] (fun U => CK D y U ∧ MoH D y mo μ U.heap ∧ moI mo ∧ InvT μ)) (va_Qi (fun (r : Int32) (u : Sg) => r = (zX8_number μ).1 ∧ u = (zX8_number μ).2) (fun u t => MoH D y mo u t.heap) (moA mo)) 0 0 (moA mo) := by
  refine Met.ofW (cc := cX8_number) (maxL := 3) (ret := (some .int)) (by decide) rfl ?_
  intro p e s m args below meth c s₁ B hml hv
  obtain ⟨rfl, hC, hMo, hi, hT⟩ := hv
  have hx := B.exec
  have hb := B.bytes
  have hr := B.returns
  have hts := atoms_spec (ws := wsX8_number) B.pre
  have hown : s.vm.findClass RX8 = some m.cls := findClass_of_methodNamed B.named
  have hlocks := B.notSynchronized
  have hF := (⟨hx, hb, hml, hown, hts⟩ : CallFix p m c cX8_number 3 s _ wsX8_number RX8)
  have hS : va_S (moA mo) s.heap s.heap [] := va_S.rf
  have hl := lv_entry ([.ref (mo 0)]) (n := 3) (Nat.le_of_ble_eq_true rfl)
  rw [lg_entry_eq]
  generalize (lg_sl ([.ref (mo 0)]) ++ List.replicate (3 - (lg_sl ([.ref (mo 0)])).length) Slot.unset).toArray = ls at hl ⊢
  have hl : lv_has ls 3 [(0, .ref (mo 0))] := hl
  refine lv_aload_n hx hb dX8_number_0 rfl (lv_at hl 0 rfl) ?_
  refine lv_aload_n hx hb dX8_number_1 rfl (lv_at hl 0 rfl) ?_
  refine va_get (D := D) (ci := 8) (v := .int (μ 4 5)) (C := RX8) (T := TX8) (N := 10) hx hb hts iwX8_number_X8 hown hC.1 hMo 0 rfl rfl 9 (by decide) (hts (.fieldLink RX8 177 "MealLockersModel" "isForm" "Z") (List.mem_of_getElem? (i := 1) rfl)) (fun _ h9 => h9) rfl dX8_number_2 ?_
  refine lv_if_eq (tgt := 19) hx hb dX8_number_5 (by decide) (fun c_5 => ?_) (fun c_5 => ?_)
  · refine lv_iconst (v := 0) hx hb dX8_number_19 (by decide) ?_
    refine va_put (D := D) (ci := 8) (v := .int 0) (ty := .boolean) (C := RX8) (T := TX8) (N := 10) hx hb hts iwX8_number_X8 tyX8 tyX8_ok nmX8 hown hC.1 hMo (mo_D hi) hS 0 rfl rfl 9 (by decide) (hts (.fieldLink RX8 177 "MealLockersModel" "isForm" "Z") (List.mem_of_getElem? (i := 1) rfl)) (fun _ h9 => h9) rfl (by decide +kernel) rfl rfl (Nat.le_of_ble_eq_true rfl) dX8_number_20 (fun H locs hMo _ hS => ?_)
    have hMo := mo_put5 hMo
    have hT := t_mT (k := 5) (v := 0) (by decide) (by decide) hT
    refine lv_iconst (v := 0) hx hb dX8_number_23 (by decide) ?_
    refine lv_istore_n (lv' := [(1, .int 0), (0, .ref (mo 0))]) hx hb dX8_number_24 rfl hl (by decide) rfl (fun ls hl => ?_)
    refine lv_iconst (v := 0) hx hb dX8_number_25 (by decide) ?_
    refine lv_istore_n (lv' := [(2, .int 0), (1, .int 0), (0, .ref (mo 0))]) hx hb dX8_number_26 rfl hl (by decide) rfl (fun ls hl => ?_)
    refine lpX8_number (μ0 := mT μ 5 0) hx hb hml hown hts hC hi (fun v d μ2 H locs ls hv hMo hS hl => ?_) _ 0 0 _ (Nat.zero_add _) rfl hT _ _ hMo hS ls (lv_sub hl [0, 1, 2] rfl)
    refine lv_iload_n hx hb dX8_number_75 rfl (lv_at hl 1 rfl) ?_
    exact W.iret (v := v) hx hb hr (fun t ht hW => ⟨⟨v, μ2, rfl, ⟨(by unfold zX8_number; rw [if_pos c_5, ← hv]), (by unfold zX8_number; rw [if_pos c_5, ← hv])⟩, by dsimp only; rw [ht]; exact hMo⟩, hS.F ht⟩) hS.2.2 dX8_number_76
  · refine lv_aload_n hx hb dX8_number_8 rfl (lv_at hl 0 rfl) ?_
    refine kX8_isDigit hF (cwV 0 hts gX8_number_X8_isDigit rfl rfl rfl hdX8_isDigit ⟨Nat.le_of_ble_eq_true rfl, Nat.le_of_ble_eq_true rfl⟩) hC hMo hT  hl.1 (Nat.le_of_ble_eq_true rfl) dX8_number_9 ⟨Nat.zero_le _, Nat.zero_le _⟩ ?_
    refine lv_if_eq (tgt := 19) hx hb dX8_number_12 (by decide) (fun c_6 => ?_) (fun c_6 => ?_)
    · refine lv_iconst (v := 0) hx hb dX8_number_19 (by decide) ?_
      refine va_put (D := D) (ci := 8) (v := .int 0) (ty := .boolean) (C := RX8) (T := TX8) (N := 10) hx hb hts iwX8_number_X8 tyX8 tyX8_ok nmX8 hown hC.1 hMo (mo_D hi) hS 0 rfl rfl 9 (by decide) (hts (.fieldLink RX8 177 "MealLockersModel" "isForm" "Z") (List.mem_of_getElem? (i := 1) rfl)) (fun _ h9 => h9) rfl (by decide +kernel) rfl rfl (Nat.le_of_ble_eq_true rfl) dX8_number_20 (fun H locs hMo _ hS => ?_)
      have hMo := mo_put5 hMo
      have hT := t_mT (k := 5) (v := 0) (by decide) (by decide) hT
      refine lv_iconst (v := 0) hx hb dX8_number_23 (by decide) ?_
      refine lv_istore_n (lv' := [(1, .int 0), (0, .ref (mo 0))]) hx hb dX8_number_24 rfl hl (by decide) rfl (fun ls hl => ?_)
      refine lv_iconst (v := 0) hx hb dX8_number_25 (by decide) ?_
      refine lv_istore_n (lv' := [(2, .int 0), (1, .int 0), (0, .ref (mo 0))]) hx hb dX8_number_26 rfl hl (by decide) rfl (fun ls hl => ?_)
      refine lpX8_number (μ0 := mT μ 5 0) hx hb hml hown hts hC hi (fun v d μ2 H locs ls hv hMo hS hl => ?_) _ 0 0 _ (Nat.zero_add _) rfl hT _ _ hMo hS ls (lv_sub hl [0, 1, 2] rfl)
      refine lv_iload_n hx hb dX8_number_75 rfl (lv_at hl 1 rfl) ?_
      exact W.iret (v := v) hx hb hr (fun t ht hW => ⟨⟨v, μ2, rfl, ⟨(by unfold zX8_number; rw [if_neg c_5, if_pos c_6, ← hv]), (by unfold zX8_number; rw [if_neg c_5, if_pos c_6, ← hv])⟩, by dsimp only; rw [ht]; exact hMo⟩, hS.F ht⟩) hS.2.2 dX8_number_76
    · refine lv_iconst (v := 1) hx hb dX8_number_15 (by decide) ?_
      refine lv_goto (tgt := 20) hx hb dX8_number_16 (by decide) ?_
      refine va_put (D := D) (ci := 8) (v := .int 1) (ty := .boolean) (C := RX8) (T := TX8) (N := 10) hx hb hts iwX8_number_X8 tyX8 tyX8_ok nmX8 hown hC.1 hMo (mo_D hi) hS 0 rfl rfl 9 (by decide) (hts (.fieldLink RX8 177 "MealLockersModel" "isForm" "Z") (List.mem_of_getElem? (i := 1) rfl)) (fun _ h9 => h9) rfl (by decide +kernel) rfl rfl (Nat.le_of_ble_eq_true rfl) dX8_number_20 (fun H locs hMo _ hS => ?_)
      have hMo := mo_put5 hMo
      have hT := t_mT (k := 5) (v := 1) (by decide) (by decide) hT
      refine lv_iconst (v := 0) hx hb dX8_number_23 (by decide) ?_
      refine lv_istore_n (lv' := [(1, .int 0), (0, .ref (mo 0))]) hx hb dX8_number_24 rfl hl (by decide) rfl (fun ls hl => ?_)
      refine lv_iconst (v := 0) hx hb dX8_number_25 (by decide) ?_
      refine lv_istore_n (lv' := [(2, .int 0), (1, .int 0), (0, .ref (mo 0))]) hx hb dX8_number_26 rfl hl (by decide) rfl (fun ls hl => ?_)
      refine lpX8_number (μ0 := mT μ 5 1) hx hb hml hown hts hC hi (fun v d μ2 H locs ls hv hMo hS hl => ?_) _ 0 0 _ (Nat.zero_add _) rfl hT _ _ hMo hS ls (lv_sub hl [0, 1, 2] rfl)
      refine lv_iload_n hx hb dX8_number_75 rfl (lv_at hl 1 rfl) ?_
      exact W.iret (v := v) hx hb hr (fun t ht hW => ⟨⟨v, μ2, rfl, ⟨(by unfold zX8_number; rw [if_neg c_5, if_neg c_6, ← hv]), (by unfold zX8_number; rw [if_neg c_5, if_neg c_6, ← hv])⟩, by dsimp only; rw [ht]; exact hMo⟩, hS.F ht⟩) hS.2.2 dX8_number_76
set_option maxHeartbeats 4000000 in
set_option maxRecDepth 100000 in
theorem kX8_number {p : Program} {l : Launch} {e : Env} {R : Room} {s : State} {m : MethodId} {args : Array Value} {below : List Frame} {meth : Method} {c : Code} {H : Heap} {locs : List Loc} {cells slots : Nat} {Q : State → Prop} {cc : ByteArray} {nL : Nat} {Ts : List Cond} {own : String} {index pc : Nat} {ls : Array Slot} {rest : List Value} {D : va_G} {y : Y3} {mo : Nat → Nat} {μ : Sg} {A0 : Nat → Prop} {H0 : Heap} (hF : CallFix p m c cc nL s args Ts own) (cw : CallW R s args own RX8 index yX8_number cX8_number 3 (some .int) wsX8_number ({ frames := 2, cells := 0, slots := 0, locals := 42 } : Room) 0 0 0) (hC : CK D y s) (hMo : MoH D y mo μ H) (hi : moI mo) (hT : InvT μ) (hS : va_S A0 H0 H locs) (hA : ∀ q, (moA mo) q → A0 q) (hsz : ls.size = nL) (hW : (rest.map fun v => v.category).sum ≤ 8) (hdg : decode cc pc = .ok (.invokevirtual index, 3)) (hf : cells ≤ R.cells ∧ slots ≤ R.slots)
    (k : ∀ (H1 : Heap) (locs1 : List Loc), MoH D y mo (zX8_number μ).2 H1 → H.size ≤ H1.size → (∀ q : Nat, q < H.size → ¬ (moA mo) q → H1[q]? = H[q]?) → va_S A0 H0 H1 locs1 → W p l e R s m args below meth c H1 locs1 cells slots Q (F0 m (pc + 3) ls (.int ((zX8_number μ).1) :: rest))) : W p l e R s m args below meth c H locs cells slots Q (F0 m pc ls (.ref (mo 0) :: rest)) := by
  refine va_calli (va_runV (As := []) (rest := rest) hF (mX8_number l D y mo μ) cw ⟨fun a U g mk q => by obtain ⟨q0, q1, q2, q3, q4⟩ := q; exact ⟨q0, q1.call g mk a, q2, q3, q4⟩, va_recv hC.1 hMo (ci := 8) (q0 := 0) rfl rfl, fun U hU hW => ⟨rfl, hC.warm hW, by rw [hU]; exact hMo, hi, hT⟩⟩ rfl rfl hsz rfl (lv_room hW) hdg ⟨hf.1, hf.2⟩) hS (fun q _ h => hA q h) hA (fun r u t H1 locs1 ht hvm hp hB hz1 hk1 hS1 => ?_)
  obtain ⟨hp1, hp2⟩ := hp
  subst hp1; subst hp2
  rw [ht] at hB
  exact k H1 locs1 hB hz1 hk1 hS1
theorem w_number : ∀ (n : Nat) (v : Int32) (μ : Sg), InvT μ → InvT (wX8_number n v μ).2 ∧ ∀ j, j ≠ 4 → (wX8_number n v μ).2 j = μ j := by
  intro n
  induction n with
  | zero => exact fun v μ h => ⟨h, fun _ _ => rfl⟩
  | succ n ih =>
    intro v μ h
    rw [wX8_number]
    split
    · exact ⟨h, fun _ _ => rfl⟩
    · split
      · exact ⟨h, fun _ _ => rfl⟩
      · rename_i c
        have a := ih (((10 * v) + (zX8_here μ)) - 48) (mT μ 2 ((μ 4 2) + 1)) (t_at h (rg_inc h.1 h.2 (dig_lt c)))
        exact ⟨a.1, fun j hj => (a.2 j hj).trans (if_neg hj)⟩
theorem t_number {μ : Sg} (h : InvT μ) : InvT (zX8_number μ).2 := by
  unfold zX8_number
  (repeat' split) <;> exact (w_number _ _ _ (t_mT (by decide) (by decide) h)).1
theorem nt_number {μ : Sg} (h : InvT μ) (j : Nat) (hj : j ≠ 4) : (zX8_number μ).2 j = μ j := by
  unfold zX8_number
  (repeat' split) <;> exact ((w_number _ _ _ (t_mT (by decide) (by decide) h)).2 j hj).trans (if_neg hj)
