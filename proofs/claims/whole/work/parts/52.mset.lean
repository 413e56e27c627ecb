theorem inv_upd {μ : Sg} (h : InvM μ) {i : Nat} {v : Int32} (h4 : 4 ≤ i) (hm1 : ∀ m, m < 24 → i = 52 + 8 * m + 1 → rg v 5) (hm0 : ∀ m, m < 24 → i = 52 + 8 * m → v = 1 → rg (μ 0 (52 + 8 * m + 5)) 8) (hm5 : ∀ m, m < 24 → i = 52 + 8 * m + 5 → μ 0 (52 + 8 * m) = 1 → rg v 8) (hh : ∀ k, k < 3 → i = 284 + 5 * k + 1 → rg v 5) : InvM (mU μ 0 (upd (μ 0) i v)) := by
  obtain ⟨a0, a1, a2, a3, a4, a5, a6⟩ := h
  have e : ∀ j, mU μ 0 (upd (μ 0) i v) 0 j = if j = i then v else μ 0 j := fun j => rfl
  refine ⟨by rw [e, if_neg (by omega)]; exact a0, by rw [e, if_neg (by omega)]; exact a1, by rw [e, if_neg (by omega)]; exact a2, by rw [e, if_neg (by omega)]; exact a3, fun m hm => ?_, fun m hm => ?_, fun k hk => ?_⟩
  · rw [e]
    split
    · rename_i q; exact hm1 m hm q.symm
    · exact a4 m hm
  · rw [e, e]
    intro h1
    by_cases q : 52 + 8 * m + 5 = i
    · rw [if_pos q]
      rw [if_neg (by omega)] at h1
      exact hm5 m hm q.symm h1
    · rw [if_neg q]
      by_cases q2 : 52 + 8 * m = i
      · rw [if_pos q2] at h1
        exact hm0 m hm q2.symm h1
      · rw [if_neg q2] at h1
        exact a5 m hm h1
  · rw [e]
    split
    · rename_i q; exact hh k hk q.symm
    · exact a6 k hk
def zX8_setMeal (μ : Sg) (x1 : Int32) (x2 : Int32) (x3 : Int32) : Sg := mU μ 0 (upd (μ 0) ((52 + (8 * x1)) + x2).toNatClampNeg x3)
theorem iwX8_setMeal_X8 : ∀ w ∈ wsX80, w ∈ wsX8_setMeal := fun _ h => List.mem_cons_of_mem _ (List.mem_append_right _ h)
theorem hdX8_setMeal : yX8_setMeal.cls = RX8 ∧ yX8_setMeal.cls ≠ "java/lang/invoke/MethodHandle" ∧ yX8_setMeal.cls ≠ "java/lang/invoke/VarHandle" ∧ (parseMethodDescriptor yX8_setMeal.desc).map (fun d => d.parameters.length) = some 3 := by decide +kernel
set_option maxHeartbeats 4000000 in
set_option maxRecDepth 100000 in
theorem mX8_setMeal (l : Launch) (D : va_G) (y : Y3) (mo : Nat → Nat) (μ : Sg) (x1 : Int32) (x2 : Int32) (x3 : Int32) : Met l yX8_setMeal wsX8_setMeal ({ frames := 0, cells := 0, slots := 0, locals := 0 } : Room) (va_Pc [.ref (mo 0), .int x1, .int x2, .int x3] (fun U => CK D y U ∧ MoH D y mo μ U.heap ∧ moI mo ∧ rg x1 24 ∧ rg x2 8)) (va_Qv (fun u : Sg => u = zX8_setMeal μ x1 x2 x3) (fun u t => MoH D y mo u t.heap) (moA mo)) 0 0 (moA mo) := by
  refine Met.ofW (cc := cX8_setMeal) (maxL := 4) (ret := none) (by decide) rfl ?_
  intro p e s m args below meth c s₁ B hml hv
  obtain ⟨rfl, hC, hMo, hi, r_x1, r_x2⟩ := hv
  have hx := B.exec
  have hb := B.bytes
  have hr := B.returns
  have hts := atoms_spec (ws := wsX8_setMeal) B.pre
  have hown : s.vm.findClass RX8 = some m.cls := findClass_of_methodNamed B.named
  have hlocks := B.notSynchronized
  have hF := (⟨hx, hb, hml, hown, hts⟩ : CallFix p m c cX8_setMeal 4 s _ wsX8_setMeal RX8)
  have hS : va_S (moA mo) s.heap s.heap [] := va_S.rf
  have hl := lv_entry ([.ref (mo 0), .int x1, .int x2, .int x3]) (n := 4) (Nat.le_of_ble_eq_true rfl)
  rw [lg_entry_eq]
  generalize (lg_sl ([.ref (mo 0), .int x1, .int x2, .int x3]) ++ List.replicate (4 - (lg_sl ([.ref (mo 0), .int x1, .int x2, .int x3])).length) Slot.unset).toArray = ls at hl ⊢
  have hl : lv_has ls 4 [(0, .ref (mo 0)), (1, .int x1), (2, .int x2), (3, .int x3)] := hl
  refine lv_aload_n hx hb dX8_setMeal_0 rfl (lv_at hl 0 rfl) ?_
  refine va_get (D := D) (ci := 8) (v := .ref (mo 1)) (C := RX8) (T := TX8) (N := 10) hx hb hts iwX8_setMeal_X8 hown hC.1 hMo 0 rfl rfl 0 (by decide) (hts (.fieldLink RX8 7 "MealLockersModel" "s" "[I") (List.mem_of_getElem? (i := 1) rfl)) (fun _ h9 => h9) rfl dX8_setMeal_1 ?_
  refine lv_bipush (v := 52) hx hb dX8_setMeal_4 (by decide) ?_
  refine lv_bipush (v := 8) hx hb dX8_setMeal_6 (by decide) ?_
  refine lv_iload_n hx hb dX8_setMeal_8 rfl (lv_at hl 1 rfl) ?_
  refine lv_imul hx hb dX8_setMeal_9 ?_
  refine lv_iadd hx hb dX8_setMeal_10 ?_
  refine lv_iload_n hx hb dX8_setMeal_11 rfl (lv_at hl 2 rfl) ?_
  refine lv_iadd hx hb dX8_setMeal_12 ?_
  refine lv_iload_n hx hb dX8_setMeal_13 rfl (lv_at hl 3 rfl) ?_
  refine va_iast hx hb hC.1 hMo (mo_D hi) hS 1 0 rfl rfl (vpM r_x1 r_x2) dX8_setMeal_14 (fun H locs hMo _ hS => ?_)
  have hMo := mo_row1 hMo
  exact W.vret hx hb hr (fun t ht hW => ⟨⟨mU μ 0 (upd (μ 0) ((52 + (8 * x1)) + x2).toNatClampNeg x3), rfl, rfl, by dsimp only; rw [ht]; exact hMo⟩, hS.F ht⟩) hS.2.2 dX8_setMeal_15
set_option maxHeartbeats 4000000 in
set_option maxRecDepth 100000 in
theorem kX8_setMeal {p : Program} {l : Launch} {e : Env} {R : Room} {s : State} {m : MethodId} {args : Array Value} {below : List Frame} {meth : Method} {c : Code} {H : Heap} {locs : List Loc} {cells slots : Nat} {Q : State → Prop} {cc : ByteArray} {nL : Nat} {Ts : List Cond} {own : String} {index pc : Nat} {ls : Array Slot} {rest : List Value} {D : va_G} {y : Y3} {mo : Nat → Nat} {μ : Sg} {x1 : Int32} {x2 : Int32} {x3 : Int32} {A0 : Nat → Prop} {H0 : Heap} (hF : CallFix p m c cc nL s args Ts own) (cw : CallW R s args own RX8 index yX8_setMeal cX8_setMeal 4 none wsX8_setMeal ({ frames := 0, cells := 0, slots := 0, locals := 0 } : Room) 0 0 3) (hC : CK D y s) (hMo : MoH D y mo μ H) (hi : moI mo) (r_x1 : rg x1 24) (r_x2 : rg x2 8) (hS : va_S A0 H0 H locs) (hA : ∀ q, (moA mo) q → A0 q) (hsz : ls.size = nL) (hW : (rest.map fun v => v.category).sum ≤ 8) (hdg : decode cc pc = .ok (.invokevirtual index, 3)) (hf : cells ≤ R.cells ∧ slots ≤ R.slots)
    (k : ∀ (H1 : Heap) (locs1 : List Loc), MoH D y mo (zX8_setMeal μ x1 x2 x3) H1 → H.size ≤ H1.size → (∀ q : Nat, q < H.size → ¬ (moA mo) q → H1[q]? = H[q]?) → va_S A0 H0 H1 locs1 → W p l e R s m args below meth c H1 locs1 cells slots Q (F0 m (pc + 3) ls (rest))) : W p l e R s m args below meth c H locs cells slots Q (F0 m pc ls (.int x3 :: .int x2 :: .int x1 :: .ref (mo 0) :: rest)) := by
  refine va_callv (va_runV (As := [.int x1, .int x2, .int x3]) (rest := rest) hF (mX8_setMeal l D y mo μ x1 x2 x3) cw ⟨fun a U g mk q => by obtain ⟨q0, q1, q2, q3, q4, q5⟩ := q; exact ⟨q0, q1.call g mk a, q2, q3, q4, q5⟩, va_recv hC.1 hMo (ci := 8) (q0 := 0) rfl rfl, fun U hU hW => ⟨rfl, hC.warm hW, by rw [hU]; exact hMo, hi, r_x1, r_x2⟩⟩ rfl rfl hsz rfl (lv_room hW) hdg ⟨hf.1, hf.2⟩) hS (fun q _ h => hA q h) hA (fun u t H1 locs1 ht hvm hp hB hz1 hk1 hS1 => ?_)
  subst hp
  rw [ht] at hB
  exact k H1 locs1 hB hz1 hk1 hS1
def zX8_setPerson (μ : Sg) (x1 : Int32) (x2 : Int32) (x3 : Int32) : Sg := mU μ 0 (upd (μ 0) ((244 + (5 * x1)) + x2).toNatClampNeg x3)
theorem iwX8_setPerson_X8 : ∀ w ∈ wsX80, w ∈ wsX8_setPerson := fun _ h => List.mem_cons_of_mem _ (List.mem_append_right _ h)
theorem hdX8_setPerson : yX8_setPerson.cls = RX8 ∧ yX8_setPerson.cls ≠ "java/lang/invoke/MethodHandle" ∧ yX8_setPerson.cls ≠ "java/lang/invoke/VarHandle" ∧ (parseMethodDescriptor yX8_setPerson.desc).map (fun d => d.parameters.length) = some 3 := by decide +kernel
set_option maxHeartbeats 4000000 in
set_option maxRecDepth 100000 in
theorem mX8_setPerson (l : Launch) (D : va_G) (y : Y3) (mo : Nat → Nat) (μ : Sg) (x1 : Int32) (x2 : Int32) (x3 : Int32) : Met l yX8_setPerson wsX8_setPerson ({ frames := 0, cells := 0, slots := 0, locals := 0 } : Room) (va_Pc [.ref (mo 0), .int x1, .int x2, .int x3] (fun U => CK D y U ∧ MoH D y mo μ U.heap ∧ moI mo ∧ rg x1 8 ∧ rg x2 5)) (va_Qv (fun u : Sg => u = zX8_setPerson μ x1 x2 x3) (fun u t => MoH D y mo u t.heap) (moA mo)) 0 0 (moA mo) := by
  refine Met.ofW (cc := cX8_setPerson) (maxL := 4) (ret := none) (by decide) rfl ?_
  intro p e s m args below meth c s₁ B hml hv
  obtain ⟨rfl, hC, hMo, hi, r_x1, r_x2⟩ := hv
  have hx := B.exec
  have hb := B.bytes
  have hr := B.returns
  have hts := atoms_spec (ws := wsX8_setPerson) B.pre
  have hown : s.vm.findClass RX8 = some m.cls := findClass_of_methodNamed B.named
  have hlocks := B.notSynchronized
  have hF := (⟨hx, hb, hml, hown, hts⟩ : CallFix p m c cX8_setPerson 4 s _ wsX8_setPerson RX8)
  have hS : va_S (moA mo) s.heap s.heap [] := va_S.rf
  have hl := lv_entry ([.ref (mo 0), .int x1, .int x2, .int x3]) (n := 4) (Nat.le_of_ble_eq_true rfl)
  rw [lg_entry_eq]
  generalize (lg_sl ([.ref (mo 0), .int x1, .int x2, .int x3]) ++ List.replicate (4 - (lg_sl ([.ref (mo 0), .int x1, .int x2, .int x3])).length) Slot.unset).toArray = ls at hl ⊢
  have hl : lv_has ls 4 [(0, .ref (mo 0)), (1, .int x1), (2, .int x2), (3, .int x3)] := hl
  refine lv_aload_n hx hb dX8_setPerson_0 rfl (lv_at hl 0 rfl) ?_
  refine va_get (D := D) (ci := 8) (v := .ref (mo 1)) (C := RX8) (T := TX8) (N := 10) hx hb hts iwX8_setPerson_X8 hown hC.1 hMo 0 rfl rfl 0 (by decide) (hts (.fieldLink RX8 7 "MealLockersModel" "s" "[I") (List.mem_of_getElem? (i := 1) rfl)) (fun _ h9 => h9) rfl dX8_setPerson_1 ?_
  refine lv_sipush (v := 244) hx hb dX8_setPerson_4 (by decide) ?_
  refine lv_iconst (v := 5) hx hb dX8_setPerson_7 (by decide) ?_
  refine lv_iload_n hx hb dX8_setPerson_8 rfl (lv_at hl 1 rfl) ?_
  refine lv_imul hx hb dX8_setPerson_9 ?_
  refine lv_iadd hx hb dX8_setPerson_10 ?_
  refine lv_iload_n hx hb dX8_setPerson_11 rfl (lv_at hl 2 rfl) ?_
  refine lv_iadd hx hb dX8_setPerson_12 ?_
  refine lv_iload_n hx hb dX8_setPerson_13 rfl (lv_at hl 3 rfl) ?_
  refine va_iast hx hb hC.1 hMo (mo_D hi) hS 1 0 rfl rfl (vpP r_x1 r_x2) dX8_setPerson_14 (fun H locs hMo _ hS => ?_)
  have hMo := mo_row1 hMo
  exact W.vret hx hb hr (fun t ht hW => ⟨⟨mU μ 0 (upd (μ 0) ((244 + (5 * x1)) + x2).toNatClampNeg x3), rfl, rfl, by dsimp only; rw [ht]; exact hMo⟩, hS.F ht⟩) hS.2.2 dX8_setPerson_15
set_option maxHeartbeats 4000000 in
set_option maxRecDepth 100000 in
theorem kX8_setPerson {p : Program} {l : Launch} {e : Env} {R : Room} {s : State} {m : MethodId} {args : Array Value} {below : List Frame} {meth : Method} {c : Code} {H : Heap} {locs : List Loc} {cells slots : Nat} {Q : State → Prop} {cc : ByteArray} {nL : Nat} {Ts : List Cond} {own : String} {index pc : Nat} {ls : Array Slot} {rest : List Value} {D : va_G} {y : Y3} {mo : Nat → Nat} {μ : Sg} {x1 : Int32} {x2 : Int32} {x3 : Int32} {A0 : Nat → Prop} {H0 : Heap} (hF : CallFix p m c cc nL s args Ts own) (cw : CallW R s args own RX8 index yX8_setPerson cX8_setPerson 4 none wsX8_setPerson ({ frames := 0, cells := 0, slots := 0, locals := 0 } : Room) 0 0 3) (hC : CK D y s) (hMo : MoH D y mo μ H) (hi : moI mo) (r_x1 : rg x1 8) (r_x2 : rg x2 5) (hS : va_S A0 H0 H locs) (hA : ∀ q, (moA mo) q → A0 q) (hsz : ls.size = nL) (hW : (rest.map fun v => v.category).sum ≤ 8) (hdg : decode cc pc = .ok (.invokevirtual index, 3)) (hf : cells ≤ R.cells ∧ slots ≤ R.slots)
    (k : ∀ (H1 : Heap) (locs1 : List Loc), MoH D y mo (zX8_setPerson μ x1 x2 x3) H1 → H.size ≤ H1.size → (∀ q : Nat, q < H.size → ¬ (moA mo) q → H1[q]? = H[q]?) → va_S A0 H0 H1 locs1 → W p l e R s m args below meth c H1 locs1 cells slots Q (F0 m (pc + 3) ls (rest))) : W p l e R s m args below meth c H locs cells slots Q (F0 m pc ls (.int x3 :: .int x2 :: .int x1 :: .ref (mo 0) :: rest)) := by
  refine va_callv (va_runV (As := [.int x1, .int x2, .int x3]) (rest := rest) hF (mX8_setPerson l D y mo μ x1 x2 x3) cw ⟨fun a U g mk q => by obtain ⟨q0, q1, q2, q3, q4, q5⟩ := q; exact ⟨q0, q1.call g mk a, q2, q3, q4, q5⟩, va_recv hC.1 hMo (ci := 8) (q0 := 0) rfl rfl, fun U hU hW => ⟨rfl, hC.warm hW, by rw [hU]; exact hMo, hi, r_x1, r_x2⟩⟩ rfl rfl hsz rfl (lv_room hW) hdg ⟨hf.1, hf.2⟩) hS (fun q _ h => hA q h) hA (fun u t H1 locs1 ht hvm hp hB hz1 hk1 hS1 => ?_)
  subst hp
  rw [ht] at hB
  exact k H1 locs1 hB hz1 hk1 hS1
def zX8_setHelper (μ : Sg) (x1 : Int32) (x2 : Int32) (x3 : Int32) : Sg := mU μ 0 (upd (μ 0) ((284 + (5 * x1)) + x2).toNatClampNeg x3)
theorem iwX8_setHelper_X8 : ∀ w ∈ wsX80, w ∈ wsX8_setHelper := fun _ h => List.mem_cons_of_mem _ (List.mem_append_right _ h)
theorem hdX8_setHelper : yX8_setHelper.cls = RX8 ∧ yX8_setHelper.cls ≠ "java/lang/invoke/MethodHandle" ∧ yX8_setHelper.cls ≠ "java/lang/invoke/VarHandle" ∧ (parseMethodDescriptor yX8_setHelper.desc).map (fun d => d.parameters.length) = some 3 := by decide +kernel
set_option maxHeartbeats 4000000 in
set_option maxRecDepth 100000 in
theorem mX8_setHelper (l : Launch) (D : va_G) (y : Y3) (mo : Nat → Nat) (μ : Sg) (x1 : Int32) (x2 : Int32) (x3 : Int32) : Met l yX8_setHelper wsX8_setHelper ({ frames := 0, cells := 0, slots := 0, locals := 0 } : Room) (va_Pc [.ref (mo 0), .int x1, .int x2, .int x3] (fun U => CK D y U ∧ MoH D y mo μ U.heap ∧ moI mo ∧ rg x1 3 ∧ rg x2 5)) (va_Qv (fun u : Sg => u = zX8_setHelper μ x1 x2 x3) (fun u t => MoH D y mo u t.heap) (moA mo)) 0 0 (moA mo) := by
  refine Met.ofW (cc := cX8_setHelper) (maxL := 4) (ret := none) (by decide) rfl ?_
  intro p e s m args below meth c s₁ B hml hv
  obtain ⟨rfl, hC, hMo, hi, r_x1, r_x2⟩ := hv
  have hx := B.exec
  have hb := B.bytes
  have hr := B.returns
  have hts := atoms_spec (ws := wsX8_setHelper) B.pre
  have hown : s.vm.findClass RX8 = some m.cls := findClass_of_methodNamed B.named
  have hlocks := B.notSynchronized
  have hF := (⟨hx, hb, hml, hown, hts⟩ : CallFix p m c cX8_setHelper 4 s _ wsX8_setHelper RX8)
  have hS : va_S (moA mo) s.heap s.heap [] := va_S.rf
  have hl := lv_entry ([.ref (mo 0), .int x1, .int x2, .int x3]) (n := 4) (Nat.le_of_ble_eq_true rfl)
  rw [lg_entry_eq]
  generalize (lg_sl ([.ref (mo 0), .int x1, .int x2, .int x3]) ++ List.replicate (4 - (lg_sl ([.ref (mo 0), .int x1, .int x2, .int x3])).length) Slot.unset).toArray = ls at hl ⊢
  have hl : lv_has ls 4 [(0, .ref (mo 0)), (1, .int x1), (2, .int x2), (3, .int x3)] := hl
  refine lv_aload_n hx hb dX8_setHelper_0 rfl (lv_at hl 0 rfl) ?_
  refine va_get (D := D) (ci := 8) (v := .ref (mo 1)) (C := RX8) (T := TX8) (N := 10) hx hb hts iwX8_setHelper_X8 hown hC.1 hMo 0 rfl rfl 0 (by decide) (hts (.fieldLink RX8 7 "MealLockersModel" "s" "[I") (List.mem_of_getElem? (i := 1) rfl)) (fun _ h9 => h9) rfl dX8_setHelper_1 ?_
  refine lv_sipush (v := 284) hx hb dX8_setHelper_4 (by decide) ?_
  refine lv_iconst (v := 5) hx hb dX8_setHelper_7 (by decide) ?_
  refine lv_iload_n hx hb dX8_setHelper_8 rfl (lv_at hl 1 rfl) ?_
  refine lv_imul hx hb dX8_setHelper_9 ?_
  refine lv_iadd hx hb dX8_setHelper_10 ?_
  refine lv_iload_n hx hb dX8_setHelper_11 rfl (lv_at hl 2 rfl) ?_
  refine lv_iadd hx hb dX8_setHelper_12 ?_
  refine lv_iload_n hx hb dX8_setHelper_13 rfl (lv_at hl 3 rfl) ?_
  refine va_iast hx hb hC.1 hMo (mo_D hi) hS 1 0 rfl rfl (vpH r_x1 r_x2) dX8_setHelper_14 (fun H locs hMo _ hS => ?_)
  have hMo := mo_row1 hMo
  exact W.vret hx hb hr (fun t ht hW => ⟨⟨mU μ 0 (upd (μ 0) ((284 + (5 * x1)) + x2).toNatClampNeg x3), rfl, rfl, by dsimp only; rw [ht]; exact hMo⟩, hS.F ht⟩) hS.2.2 dX8_setHelper_15
set_option maxHeartbeats 4000000 in
set_option maxRecDepth 100000 in
theorem kX8_setHelper {p : Program} {l : Launch} {e : Env} {R : Room} {s : State} {m : MethodId} {args : Array Value} {below : List Frame} {meth : Method} {c : Code} {H : Heap} {locs : List Loc} {cells slots : Nat} {Q : State → Prop} {cc : ByteArray} {nL : Nat} {Ts : List Cond} {own : String} {index pc : Nat} {ls : Array Slot} {rest : List Value} {D : va_G} {y : Y3} {mo : Nat → Nat} {μ : Sg} {x1 : Int32} {x2 : Int32} {x3 : Int32} {A0 : Nat → Prop} {H0 : Heap} (hF : CallFix p m c cc nL s args Ts own) (cw : CallW R s args own RX8 index yX8_setHelper cX8_setHelper 4 none wsX8_setHelper ({ frames := 0, cells := 0, slots := 0, locals := 0 } : Room) 0 0 3) (hC : CK D y s) (hMo : MoH D y mo μ H) (hi : moI mo) (r_x1 : rg x1 3) (r_x2 : rg x2 5) (hS : va_S A0 H0 H locs) (hA : ∀ q, (moA mo) q → A0 q) (hsz : ls.size = nL) (hW : (rest.map fun v => v.category).sum ≤ 8) (hdg : decode cc pc = .ok (.invokevirtual index, 3)) (hf : cells ≤ R.cells ∧ slots ≤ R.slots)
    (k : ∀ (H1 : Heap) (locs1 : List Loc), MoH D y mo (zX8_setHelper μ x1 x2 x3) H1 → H.size ≤ H1.size → (∀ q : Nat, q < H.size → ¬ (moA mo) q → H1[q]? = H[q]?) → va_S A0 H0 H1 locs1 → W p l e R s m args below meth c H1 locs1 cells slots Q (F0 m (pc + 3) ls (rest))) : W p l e R s m args below meth c H locs cells slots Q (F0 m pc ls (.int x3 :: .int x2 :: .int x1 :: .ref (mo 0) :: rest)) := by
  refine va_callv (va_runV (As := [.int x1, .int x2, .int x3]) (rest := rest) hF (mX8_setHelper l D y mo μ x1 x2 x3) cw ⟨fun a U g mk q => by obtain ⟨q0, q1, q2, q3, q4, q5⟩ := q; exact ⟨q0, q1.call g mk a, q2, q3, q4, q5⟩, va_recv hC.1 hMo (ci := 8) (q0 := 0) rfl rfl, fun U hU hW => ⟨rfl, hC.warm hW, by rw [hU]; exact hMo, hi, r_x1, r_x2⟩⟩ rfl rfl hsz rfl (lv_room hW) hdg ⟨hf.1, hf.2⟩) hS (fun q _ h => hA q h) hA (fun u t H1 locs1 ht hvm hp hB hz1 hk1 hS1 => ?_)
  subst hp
  rw [ht] at hB
  exact k H1 locs1 hB hz1 hk1 hS1
def zX8_moreOf (μ : Sg) (x1 : Int32) (x2 : Int32) : Sg := mU μ 0 (upd (μ 0) ((12 + (8 * x1)) + x2).toNatClampNeg ((μ 0 ((12 + (8 * x1)) + x2).toNatClampNeg) + 1))
theorem iwX8_moreOf_X8 : ∀ w ∈ wsX80, w ∈ wsX8_moreOf := fun _ h => List.mem_cons_of_mem _ (List.mem_append_right _ h)
theorem hdX8_moreOf : yX8_moreOf.cls = RX8 ∧ yX8_moreOf.cls ≠ "java/lang/invoke/MethodHandle" ∧ yX8_moreOf.cls ≠ "java/lang/invoke/VarHandle" ∧ (parseMethodDescriptor yX8_moreOf.desc).map (fun d => d.parameters.length) = some 2 := by decide +kernel
set_option maxHeartbeats 4000000 in
set_option maxRecDepth 100000 in
theorem mX8_moreOf (l : Launch) (D : va_G) (y : Y3) (mo : Nat → Nat) (μ : Sg) (x1 : Int32) (x2 : Int32) : Met l yX8_moreOf wsX8_moreOf ({ frames := 0, cells := 0, slots := 0, locals := 0 } : Room) (va_Pc [.ref (mo 0), .int x1, .int x2] (fun U => CK D y U ∧ MoH D y mo μ U.heap ∧ moI mo ∧ rg x1 5 ∧ rg x2 8)) (va_Qv (fun u : Sg => u = zX8_moreOf μ x1 x2) (fun u t => MoH D y mo u t.heap) (moA mo)) 0 0 (moA mo) := by
  refine Met.ofW (cc := cX8_moreOf) (maxL := 3) (ret := none) (by decide) rfl ?_
  intro p e s m args below meth c s₁ B hml hv
  obtain ⟨rfl, hC, hMo, hi, r_x1, r_x2⟩ := hv
  have hx := B.exec
  have hb := B.bytes
  have hr := B.returns
  have hts := atoms_spec (ws := wsX8_moreOf) B.pre
  have hown : s.vm.findClass RX8 = some m.cls := findClass_of_methodNamed B.named
  have hlocks := B.notSynchronized
  have hF := (⟨hx, hb, hml, hown, hts⟩ : CallFix p m c cX8_moreOf 3 s _ wsX8_moreOf RX8)
  have hS : va_S (moA mo) s.heap s.heap [] := va_S.rf
  have hl := lv_entry ([.ref (mo 0), .int x1, .int x2]) (n := 3) (Nat.le_of_ble_eq_true rfl)
  rw [lg_entry_eq]
  generalize (lg_sl ([.ref (mo 0), .int x1, .int x2]) ++ List.replicate (3 - (lg_sl ([.ref (mo 0), .int x1, .int x2])).length) Slot.unset).toArray = ls at hl ⊢
  have hl : lv_has ls 3 [(0, .ref (mo 0)), (1, .int x1), (2, .int x2)] := hl
  refine lv_aload_n hx hb dX8_moreOf_0 rfl (lv_at hl 0 rfl) ?_
  refine va_get (D := D) (ci := 8) (v := .ref (mo 1)) (C := RX8) (T := TX8) (N := 10) hx hb hts iwX8_moreOf_X8 hown hC.1 hMo 0 rfl rfl 0 (by decide) (hts (.fieldLink RX8 7 "MealLockersModel" "s" "[I") (List.mem_of_getElem? (i := 1) rfl)) (fun _ h9 => h9) rfl dX8_moreOf_1 ?_
  refine lv_bipush (v := 12) hx hb dX8_moreOf_4 (by decide) ?_
  refine lv_bipush (v := 8) hx hb dX8_moreOf_6 (by decide) ?_
  refine lv_iload_n hx hb dX8_moreOf_8 rfl (lv_at hl 1 rfl) ?_
  refine lv_imul hx hb dX8_moreOf_9 ?_
  refine lv_iadd hx hb dX8_moreOf_10 ?_
  refine lv_iload_n hx hb dX8_moreOf_11 rfl (lv_at hl 2 rfl) ?_
  refine lv_iadd hx hb dX8_moreOf_12 ?_
  refine lv_dup2_11 hx hb dX8_moreOf_13 rfl rfl ?_
  refine va_iald hx hb hC.1 hMo 1 0 rfl rfl (vpL r_x1 r_x2) dX8_moreOf_14 ?_
  refine lv_iconst (v := 1) hx hb dX8_moreOf_15 (by decide) ?_
  refine lv_iadd hx hb dX8_moreOf_16 ?_
  refine va_iast hx hb hC.1 hMo (mo_D hi) hS 1 0 rfl rfl (vpL r_x1 r_x2) dX8_moreOf_17 (fun H locs hMo _ hS => ?_)
  have hMo := mo_row1 hMo
  exact W.vret hx hb hr (fun t ht hW => ⟨⟨mU μ 0 (upd (μ 0) ((12 + (8 * x1)) + x2).toNatClampNeg ((μ 0 ((12 + (8 * x1)) + x2).toNatClampNeg) + 1)), rfl, rfl, by dsimp only; rw [ht]; exact hMo⟩, hS.F ht⟩) hS.2.2 dX8_moreOf_18
set_option maxHeartbeats 4000000 in
set_option maxRecDepth 100000 in
theorem kX8_moreOf {p : Program} {l : Launch} {e : Env} {R : Room} {s : State} {m : MethodId} {args : Array Value} {below : List Frame} {meth : Method} {c : Code} {H : Heap} {locs : List Loc} {cells slots : Nat} {Q : State → Prop} {cc : ByteArray} {nL : Nat} {Ts : List Cond} {own : String} {index pc : Nat} {ls : Array Slot} {rest : List Value} {D : va_G} {y : Y3} {mo : Nat → Nat} {μ : Sg} {x1 : Int32} {x2 : Int32} {A0 : Nat → Prop} {H0 : Heap} (hF : CallFix p m c cc nL s args Ts own) (cw : CallW R s args own RX8 index yX8_moreOf cX8_moreOf 3 none wsX8_moreOf ({ frames := 0, cells := 0, slots := 0, locals := 0 } : Room) 0 0 2) (hC : CK D y s) (hMo : MoH D y mo μ H) (hi : moI mo) (r_x1 : rg x1 5) (r_x2 : rg x2 8) (hS : va_S A0 H0 H locs) (hA : ∀ q, (moA mo) q → A0 q) (hsz : ls.size = nL) (hW : (rest.map fun v => v.category).sum ≤ 8) (hdg : decode cc pc = .ok (.invokevirtual index, 3)) (hf : cells ≤ R.cells ∧ slots ≤ R.slots)
    (k : ∀ (H1 : Heap) (locs1 : List Loc), MoH D y mo (zX8_moreOf μ x1 x2) H1 → H.size ≤ H1.size → (∀ q : Nat, q < H.size → ¬ (moA mo) q → H1[q]? = H[q]?) → va_S A0 H0 H1 locs1 → W p l e R s m args below meth c H1 locs1 cells slots Q (F0 m (pc + 3) ls (rest))) : W p l e R s m args below meth c H locs cells slots Q (F0 m pc ls (.int x2 :: .int x1 :: .ref (mo 0) :: rest)) := by
  refine va_callv (va_runV (As := [.int x1, .int x2]) (rest := rest) hF (mX8_moreOf l D y mo μ x1 x2) cw ⟨fun a U g mk q => by obtain ⟨q0, q1, q2, q3, q4, q5⟩ := q; exact ⟨q0, q1.call g mk a, q2, q3, q4, q5⟩, va_recv hC.1 hMo (ci := 8) (q0 := 0) rfl rfl, fun U hU hW => ⟨rfl, hC.warm hW, by rw [hU]; exact hMo, hi, r_x1, r_x2⟩⟩ rfl rfl hsz rfl (lv_room hW) hdg ⟨hf.1, hf.2⟩) hS (fun q _ h => hA q h) hA (fun u t H1 locs1 ht hvm hp hB hz1 hk1 hS1 => ?_)
  subst hp
  rw [ht] at hB
  exact k H1 locs1 hB hz1 hk1 hS1
theorem ix_M {x w : Int32} (hx : rg x 24) (hw : rg w 8) : ((52 : Int32) + 8 * x + w).toNatClampNeg = 52 + 8 * x.toNatClampNeg + w.toNatClampNeg := by
  have e : (52 : Int32) + 8 * x + w = nI (52 + 8 * x.toNatClampNeg + w.toNatClampNeg) := ix_of (b := 52) (c := 8) hx hw (by decide) (by decide) (by decide) (by decide)
  have h1 := (rg_nI hx).2
  have h2 := (rg_nI hw).2
  rw [e, nI_clamp (by omega)]
theorem ix_P {x w : Int32} (hx : rg x 8) (hw : rg w 5) : ((244 : Int32) + 5 * x + w).toNatClampNeg = 244 + 5 * x.toNatClampNeg + w.toNatClampNeg := by
  have e : (244 : Int32) + 5 * x + w = nI (244 + 5 * x.toNatClampNeg + w.toNatClampNeg) := ix_of (b := 244) (c := 5) hx hw (by decide) (by decide) (by decide) (by decide)
  have h1 := (rg_nI hx).2
  have h2 := (rg_nI hw).2
  rw [e, nI_clamp (by omega)]
theorem ix_H {x w : Int32} (hx : rg x 3) (hw : rg w 5) : ((284 : Int32) + 5 * x + w).toNatClampNeg = 284 + 5 * x.toNatClampNeg + w.toNatClampNeg := by
  have e : (284 : Int32) + 5 * x + w = nI (284 + 5 * x.toNatClampNeg + w.toNatClampNeg) := ix_of (b := 284) (c := 5) hx hw (by decide) (by decide) (by decide) (by decide)
  have h1 := (rg_nI hx).2
  have h2 := (rg_nI hw).2
  rw [e, nI_clamp (by omega)]
theorem ix_L {x w : Int32} (hx : rg x 5) (hw : rg w 8) : ((12 : Int32) + 8 * x + w).toNatClampNeg = 12 + 8 * x.toNatClampNeg + w.toNatClampNeg := by
  have e : (12 : Int32) + 8 * x + w = nI (12 + 8 * x.toNatClampNeg + w.toNatClampNeg) := ix_of (b := 12) (c := 8) hx hw (by decide) (by decide) (by decide) (by decide)
  have h1 := (rg_nI hx).2
  have h2 := (rg_nI hw).2
  rw [e, nI_clamp (by omega)]
theorem setMeal_n {μ : Sg} {x w v : Int32} (hx : rg x 24) (hw : rg w 8) : zX8_setMeal μ x w v = mU μ 0 (upd (μ 0) (52 + 8 * x.toNatClampNeg + w.toNatClampNeg) v) := by
  unfold zX8_setMeal
  rw [ix_M hx hw]
theorem setPerson_n {μ : Sg} {x w v : Int32} (hx : rg x 8) (hw : rg w 5) : zX8_setPerson μ x w v = mU μ 0 (upd (μ 0) (244 + 5 * x.toNatClampNeg + w.toNatClampNeg) v) := by
  unfold zX8_setPerson
  rw [ix_P hx hw]
theorem setHelper_n {μ : Sg} {x w v : Int32} (hx : rg x 3) (hw : rg w 5) : zX8_setHelper μ x w v = mU μ 0 (upd (μ 0) (284 + 5 * x.toNatClampNeg + w.toNatClampNeg) v) := by
  unfold zX8_setHelper
  rw [ix_H hx hw]
theorem moreOf_n {μ : Sg} {x w : Int32} (hx : rg x 5) (hw : rg w 8) : zX8_moreOf μ x w = mU μ 0 (upd (μ 0) (12 + 8 * x.toNatClampNeg + w.toNatClampNeg) (μ 0 (12 + 8 * x.toNatClampNeg + w.toNatClampNeg) + 1)) := by
  unfold zX8_moreOf
  rw [ix_L hx hw]
theorem rg_lt {x : Int32} {n : Nat} (h : rg x n) : x.toNatClampNeg < n := by
  have h1 := (rg_nI h).2
  have h2 := h.2
  omega
theorem clamp_eq {w : Int32} {k : Nat} (h : w.toNatClampNeg = k) (hw : rg w 8) (hk : k < 8) : w = nI k := by
  rw [(rg_nI hw).1, h]
theorem ofMeal_set0 {μ : Sg} {x v : Int32} (hx : rg x 24) : zX8_ofMeal (zX8_setMeal μ x 0 v) x 0 = v := by
  rw [setMeal_n hx (by decide), ofMeal_n hx (by decide)]
  exact if_pos rfl
theorem inv_setMeal {μ : Sg} (h : InvM μ) {x w v : Int32} (hx : rg x 24) (hw : rg w 8) (h0 : w = 0 → v ≠ 1 ∨ False) (h1 : w = 1 → rg v 5) (h5 : w = 5 → rg v 8 ∨ zX8_ofMeal μ x 0 ≠ 1) : InvM (zX8_setMeal μ x w v) := by
  rw [setMeal_n hx hw]
  have a := rg_lt (n := 24) hx
  have b := rg_lt (n := 8) hw
  refine inv_upd h (by omega) (fun m hm e => h1 (clamp_eq (k := 1) (by omega) hw (by decide))) (fun m hm e hv => ?_) (fun m hm e hs => ?_) (fun k hk e => by omega)
  · exact absurd hv ((h0 (clamp_eq (k := 0) (by omega) hw (by decide))).elim id False.elim)
  · rcases h5 (clamp_eq (k := 5) (by omega) hw (by decide)) with q | q
    · exact q
    · rw [ofMeal_n hx (by decide)] at q
      have hm2 : m = x.toNatClampNeg := by omega
      subst hm2
      exact absurd hs q
theorem inv_setHelper {μ : Sg} (h : InvM μ) {x w v : Int32} (hx : rg x 3) (hw : rg w 5) (h1 : w = 1 → rg v 5) : InvM (zX8_setHelper μ x w v) := by
  rw [setHelper_n hx hw]
  have a := rg_lt (n := 3) hx
  have b := rg_lt (n := 5) hw
  have hw8 : rg w 8 := ⟨hw.1, by have := hw.2; omega⟩
  exact inv_upd h (by omega) (fun m hm e => by omega) (fun m hm e hv => by omega) (fun m hm e hs => by omega) (fun k hk e => h1 (clamp_eq (k := 1) (by omega) hw8 (by decide)))
theorem inv_setPerson {μ : Sg} (h : InvM μ) {x w v : Int32} (hx : rg x 8) (hw : rg w 5) : InvM (zX8_setPerson μ x w v) := by
  rw [setPerson_n hx hw]
  have a := rg_lt (n := 8) hx
  have b := rg_lt (n := 5) hw
  exact inv_upd h (by omega) (fun m hm e => by omega) (fun m hm e hv => by omega) (fun m hm e hs => by omega) (fun k hk e => by omega)
theorem inv_moreOf {μ : Sg} (h : InvM μ) {x w : Int32} (hx : rg x 5) (hw : rg w 8) : InvM (zX8_moreOf μ x w) := by
  rw [moreOf_n hx hw]
  have a := rg_lt (n := 5) hx
  have b := rg_lt (n := 8) hw
  exact inv_upd h (by omega) (fun m hm e => by omega) (fun m hm e hv => by omega) (fun m hm e hs => by omega) (fun k hk e => by omega)
theorem m0_ne {μ : Sg} {i j : Nat} {v : Int32} (h : j ≠ i) : mU μ 0 (upd (μ 0) i v) 0 j = μ 0 j := if_neg h
theorem m0_eq {μ : Sg} {i : Nat} {v : Int32} : mU μ 0 (upd (μ 0) i v) 0 i = v := if_pos rfl
theorem inv_low {μ : Sg} (h : InvM μ) {i : Nat} {v : Int32} (h4 : 4 ≤ i) (h5 : i < 52) : InvM (mU μ 0 (upd (μ 0) i v)) := inv_upd h h4 (fun m hm e => by omega) (fun m hm e hv => by omega) (fun m hm e hs => by omega) (fun k hk e => by omega)
/-- what every write keeps: the invariant, the four counts, and all rows but s -/
def Gd (μ μ2 : Sg) : Prop := InvM μ2 ∧ (∀ j, j < 4 → μ2 0 j = μ 0 j) ∧ ∀ j, j ≠ 0 → μ2 j = μ j
theorem Gd.rf {μ : Sg} (h : InvM μ) : Gd μ μ := ⟨h, fun _ _ => rfl, fun _ _ => rfl⟩
theorem Gd.tr {a b c : Sg} (h : Gd a b) (k : Gd b c) : Gd a c := ⟨k.1, fun j hj => (k.2.1 j hj).trans (h.2.1 j hj), fun j hj => (k.2.2 j hj).trans (h.2.2 j hj)⟩
theorem Gd.setMeal {a μ : Sg} (g : Gd a μ) {x w v : Int32} (hx : rg x 24) (hw : rg w 8) (h0 : w = 0 → v ≠ 1 ∨ False) (h1 : w = 1 → rg v 5) (h5 : w = 5 → rg v 8 ∨ zX8_ofMeal μ x 0 ≠ 1) : Gd a (zX8_setMeal μ x w v) := by
  refine ⟨inv_setMeal g.1 hx hw h0 h1 h5, fun j hj => ?_, fun j hj => by rw [setMeal_n hx hw]; exact (if_neg hj).trans (g.2.2 j hj)⟩
  rw [setMeal_n hx hw, m0_ne (by omega)]
  exact g.2.1 j hj
theorem Gd.setPerson {a μ : Sg} (g : Gd a μ) {x w v : Int32} (hx : rg x 8) (hw : rg w 5) : Gd a (zX8_setPerson μ x w v) := by
  refine ⟨inv_setPerson g.1 hx hw, fun j hj => ?_, fun j hj => by rw [setPerson_n hx hw]; exact (if_neg hj).trans (g.2.2 j hj)⟩
  rw [setPerson_n hx hw, m0_ne (by omega)]
  exact g.2.1 j hj
theorem Gd.setHelper {a μ : Sg} (g : Gd a μ) {x w v : Int32} (hx : rg x 3) (hw : rg w 5) (h1 : w = 1 → rg v 5) : Gd a (zX8_setHelper μ x w v) := by
  refine ⟨inv_setHelper g.1 hx hw h1, fun j hj => ?_, fun j hj => by rw [setHelper_n hx hw]; exact (if_neg hj).trans (g.2.2 j hj)⟩
  rw [setHelper_n hx hw, m0_ne (by omega)]
  exact g.2.1 j hj
theorem Gd.moreOf {a μ : Sg} (g : Gd a μ) {x w : Int32} (hx : rg x 5) (hw : rg w 8) : Gd a (zX8_moreOf μ x w) := by
  refine ⟨inv_moreOf g.1 hx hw, fun j hj => ?_, fun j hj => by rw [moreOf_n hx hw]; exact (if_neg hj).trans (g.2.2 j hj)⟩
  rw [moreOf_n hx hw, m0_ne (by omega)]
  exact g.2.1 j hj
theorem Gd.low {a μ : Sg} (g : Gd a μ) {i : Nat} {v : Int32} (h4 : 4 ≤ i) (h5 : i < 52) : Gd a (mU μ 0 (upd (μ 0) i v)) := ⟨inv_low g.1 h4 h5, fun j hj => by rw [m0_ne (by omega)]; exact g.2.1 j hj, fun j hj => (if_neg hj).trans (g.2.2 j hj)⟩
