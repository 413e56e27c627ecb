theorem STM.at_ {n0 tM tF : Nat} {s : State} {A : Nat → Prop} {H : Heap} {locs : List Loc} (h : STM n0 tM tF s s.heap) (hS : va_S A s.heap H locs) (hA : ∀ q, A q → n0 ≤ q) : STM n0 tM tF s H := h.kept (fun a h1 h2 => hS.2.1 a h1 (fun z => by have := hA a z; omega))
def zX7_set (Ω : Og) (x1 : Int32) (x2 : Int32) : Int32 × Og := ((zX7_settle (oS (zonT Ω) 1 (zX0_changeSetting ((zonT Ω) 1) x1 x2).2) ((zX0_changeSetting ((zonT Ω) 1) x1 x2).1)).1, (zX7_settle (oS (zonT Ω) 1 (zX0_changeSetting ((zonT Ω) 1) x1 x2).2) ((zX0_changeSetting ((zonT Ω) 1) x1 x2).1)).2)
theorem hdX7_set : yX7_set.cls = RX7 ∧ yX7_set.cls ≠ "java/lang/invoke/MethodHandle" ∧ yX7_set.cls ≠ "java/lang/invoke/VarHandle" ∧ (parseMethodDescriptor yX7_set.desc).map (fun d => d.parameters.length) = some 2 := by decide +kernel
set_option maxHeartbeats 4000000 in
set_option maxRecDepth 100000 in
theorem mX7_set (l : Launch) (D : va_G) (y : Y3) (n0 tM tF : Nat) (ob : Nat → Nat) (AD : Nat → Nat → Nat) (Ω : Og) (x1 : Int32) (x2 : Int32) : Met l yX7_set wsX7_set ({ frames := 4, cells := 0, slots := 0, locals := 86 } : Room) (va_Pc [.ref (ob 0), .int x1, .int x2] (fun U => CK D y U ∧ SysH D y ob AD Ω U.heap ∧ sysJ ob AD ∧ okO Ω ∧ STM n0 tM tF U U.heap ∧ (∀ q, sysA ob AD q → n0 ≤ q))) (va_Qi (fun (r : Int32) (u : Og) => r = (zX7_set Ω x1 x2).1 ∧ u = (zX7_set Ω x1 x2).2) (fun u t => SysH D y ob AD u t.heap) (sysA ob AD)) 0 0 (sysA ob AD) := by
  refine Met.ofW (cc := cX7_set) (maxL := 3) (ret := (some .int)) (by decide) rfl ?_
  intro p e s m args below meth c s₁ B hml hv
  obtain ⟨rfl, hC, hY, hJ, hOk, hZs, hn0⟩ := hv
  have hx := B.exec
  have hb := B.bytes
  have hr := B.returns
  have hts := atoms_spec (ws := wsX7_set) B.pre
  have hown : s.vm.findClass RX7 = some m.cls := findClass_of_methodNamed B.named
  have hlocks := B.notSynchronized
  have hF := (⟨hx, hb, hml, hown, hts⟩ : CallFix p m c cX7_set 3 s _ wsX7_set RX7)
  have hS : va_S (sysA ob AD) s.heap s.heap [] := va_S.rf
  have hl := lv_entry ([.ref (ob 0), .int x1, .int x2]) (n := 3) (Nat.le_of_ble_eq_true rfl)
  rw [lg_entry_eq]
  generalize (lg_sl ([.ref (ob 0), .int x1, .int x2]) ++ List.replicate (3 - (lg_sl ([.ref (ob 0), .int x1, .int x2])).length) Slot.unset).toArray = ls at hl ⊢
  have hl : lv_has ls 3 [(0, .ref (ob 0)), (1, .int x1), (2, .int x2)] := hl
  have hn1 : ∀ q, stA (AD 1) q → n0 ≤ q := fun q h => hn0 q (sysA_st (by decide) q h)
  refine lv_aload_n hx hb dX7_set_0 rfl (lv_at hl 0 rfl) ?_
  refine lv_aload_n hx hb dX7_set_1 rfl (lv_at hl 0 rfl) ?_
  refine kX7_onTrial hF (cwV 0 hts gX7_set_X7_onTrial rfl rfl rfl hdX7_onTrial ⟨Nat.le_of_ble_eq_true rfl, Nat.le_of_ble_eq_true rfl⟩) hC hY hJ hOk hS (fun _ h => h) hl.1 (Nat.le_of_ble_eq_true rfl) dX7_set_2 ⟨Nat.zero_le _, Nat.zero_le _⟩ (fun H locs hY _ _ hS => ?_)
  have hOk : okO (zonT Ω) := okO_st hOk (by decide) _
  refine lv_iload_n hx hb dX7_set_5 rfl (lv_at hl 1 rfl) ?_
  refine lv_iload_n hx hb dX7_set_6 rfl (lv_at hl 2 rfl) ?_
  have hZ := hZs.at_ hS hn0
  refine kX0_changeSetting hF (cwV 2 hts gX7_set_X0_changeSetting rfl rfl rfl hdX0_changeSetting ⟨Nat.le_of_ble_eq_true rfl, Nat.le_of_ble_eq_true rfl⟩) hC hY.2.1 (hY.2.2.2.2.2.2 1 (by decide)) (hJ.1.one (by decide)) (fun k hk => hJ.2.2 1 k 1 (by decide) hk (by decide)) hZ hn1 hS (sysA_st (by decide)) hl.1 (Nat.le_of_ble_eq_true rfl) dX7_set_7 ⟨Nat.zero_le _, Nat.zero_le _⟩ (fun H locs hSt _ hk hS => ?_)
  have hY := Sys.st hY hJ 1 (by decide) hSt hk
  have hOk := okO_st hOk (k := 1) (by decide) (zX0_changeSetting ((zonT Ω) 1) x1 x2).2
  refine kX7_settle hF (cwV 1 hts gX7_set_X7_settle rfl rfl rfl hdX7_settle ⟨Nat.le_of_ble_eq_true rfl, Nat.le_of_ble_eq_true rfl⟩) hC hY hJ hOk hS (fun _ h => h) hl.1 (Nat.le_of_ble_eq_true rfl) dX7_set_10 ⟨Nat.zero_le _, Nat.zero_le _⟩ (fun H locs hY _ _ hS => ?_)
  exact W.iret (v := (zX7_settle (oS (zonT Ω) 1 (zX0_changeSetting ((zonT Ω) 1) x1 x2).2) ((zX0_changeSetting ((zonT Ω) 1) x1 x2).1)).1) hx hb hr (fun t ht hW => ⟨⟨(zX7_settle (oS (zonT Ω) 1 (zX0_changeSetting ((zonT Ω) 1) x1 x2).2) ((zX0_changeSetting ((zonT Ω) 1) x1 x2).1)).1, (zX7_settle (oS (zonT Ω) 1 (zX0_changeSetting ((zonT Ω) 1) x1 x2).2) ((zX0_changeSetting ((zonT Ω) 1) x1 x2).1)).2, rfl, ⟨rfl, rfl⟩, by dsimp only; rw [ht]; exact hY⟩, hS.F ht⟩) hS.2.2 dX7_set_13
set_option maxHeartbeats 4000000 in
set_option maxRecDepth 100000 in
theorem kX7_set {p : Program} {l : Launch} {e : Env} {R : Room} {s : State} {m : MethodId} {args : Array Value} {below : List Frame} {meth : Method} {c : Code} {H : Heap} {locs : List Loc} {cells slots : Nat} {Q : State → Prop} {cc : ByteArray} {nL : Nat} {Ts : List Cond} {own : String} {index pc : Nat} {ls : Array Slot} {rest : List Value} {D : va_G} {y : Y3} {n0 tM tF : Nat} {ob : Nat → Nat} {AD : Nat → Nat → Nat} {Ω : Og} {x1 : Int32} {x2 : Int32} {A0 : Nat → Prop} {H0 : Heap} (hF : CallFix p m c cc nL s args Ts own) (cw : CallW R s args own RX7 index yX7_set cX7_set 3 (some .int) wsX7_set ({ frames := 4, cells := 0, slots := 0, locals := 86 } : Room) 0 0 2) (hC : CK D y s) (hY : SysH D y ob AD Ω H) (hJ : sysJ ob AD) (hOk : okO Ω) (hZs : STM n0 tM tF s H) (hn0 : (∀ q, sysA ob AD q → n0 ≤ q)) (hS : va_S A0 H0 H locs) (hA : ∀ q, (sysA ob AD) q → A0 q) (hsz : ls.size = nL) (hW : (rest.map fun v => v.category).sum ≤ 8) (hdg : decode cc pc = .ok (.invokevirtual index, 3)) (hf : cells ≤ R.cells ∧ slots ≤ R.slots)
    (k : ∀ (H1 : Heap) (locs1 : List Loc), SysH D y ob AD (zX7_set Ω x1 x2).2 H1 → H.size ≤ H1.size → (∀ q : Nat, q < H.size → ¬ (sysA ob AD) q → H1[q]? = H[q]?) → va_S A0 H0 H1 locs1 → W p l e R s m args below meth c H1 locs1 cells slots Q (F0 m (pc + 3) ls (.int ((zX7_set Ω x1 x2).1) :: rest))) : W p l e R s m args below meth c H locs cells slots Q (F0 m pc ls (.int x2 :: .int x1 :: .ref (ob 0) :: rest)) := by
  refine va_calli (va_runV (As := [.int x1, .int x2]) (rest := rest) hF (mX7_set l D y n0 tM tF ob AD Ω x1 x2) cw ⟨fun a U g mk q => by obtain ⟨q0, q1, q2, q3, q4, q5, q6⟩ := q; exact ⟨q0, q1.call g mk a, q2, q3, q4, q5.call g mk a, q6⟩, va_recv hC.1 hY.1 (ci := 7) (q0 := 0) rfl rfl, fun U hU hW => ⟨rfl, hC.warm hW, by rw [hU]; exact hY, hJ, hOk, by rw [hU]; exact hZs.warm hW, hn0⟩⟩ rfl rfl hsz rfl (lv_room hW) hdg ⟨hf.1, hf.2⟩) hS (fun q _ h => hA q h) hA (fun r u t H1 locs1 ht hvm hp hB hz1 hk1 hS1 => ?_)
  obtain ⟨hp1, hp2⟩ := hp
  subst hp1; subst hp2
  rw [ht] at hB
  exact k H1 locs1 hB hz1 hk1 hS1
def zX7_mealOf (Ω : Og) (x1 : Int32) (x2 : Int32) : Int32 × Og := ((zX3_ofMeal (Ω 0) x1 x2), Ω)
theorem iwX7_mealOf_X7 : ∀ w ∈ wsX70, w ∈ wsX7_mealOf := fun _ h => List.mem_cons_of_mem _ (List.mem_append_left _ (List.mem_append_left _ (List.mem_append_right _ h)))
theorem hdX7_mealOf : yX7_mealOf.cls = RX7 ∧ yX7_mealOf.cls ≠ "java/lang/invoke/MethodHandle" ∧ yX7_mealOf.cls ≠ "java/lang/invoke/VarHandle" ∧ (parseMethodDescriptor yX7_mealOf.desc).map (fun d => d.parameters.length) = some 2 := by decide +kernel
set_option maxHeartbeats 4000000 in
set_option maxRecDepth 100000 in
theorem mX7_mealOf (l : Launch) (D : va_G) (y : Y3) (ob : Nat → Nat) (AD : Nat → Nat → Nat) (Ω : Og) (x1 : Int32) (x2 : Int32) : Met l yX7_mealOf wsX7_mealOf ({ frames := 2, cells := 0, slots := 0, locals := 45 } : Room) (va_Pc [.ref (ob 0), .int x1, .int x2] (fun U => CK D y U ∧ SysH D y ob AD Ω U.heap ∧ sysJ ob AD ∧ okO Ω)) (va_Qi (fun (r : Int32) (u : Og) => r = (zX7_mealOf Ω x1 x2).1 ∧ u = (zX7_mealOf Ω x1 x2).2) (fun u t => SysH D y ob AD u t.heap) (sysA ob AD)) 0 0 (sysA ob AD) := by
  refine Met.ofW (cc := cX7_mealOf) (maxL := 3) (ret := (some .int)) (by decide) rfl ?_
  intro p e s m args below meth c s₁ B hml hv
  obtain ⟨rfl, hC, hY, hJ, hOk⟩ := hv
  have hx := B.exec
  have hb := B.bytes
  have hr := B.returns
  have hts := atoms_spec (ws := wsX7_mealOf) B.pre
  have hown : s.vm.findClass RX7 = some m.cls := findClass_of_methodNamed B.named
  have hlocks := B.notSynchronized
  have hF := (⟨hx, hb, hml, hown, hts⟩ : CallFix p m c cX7_mealOf 3 s _ wsX7_mealOf RX7)
  have hS : va_S (sysA ob AD) s.heap s.heap [] := va_S.rf
  have hl := lv_entry ([.ref (ob 0), .int x1, .int x2]) (n := 3) (Nat.le_of_ble_eq_true rfl)
  rw [lg_entry_eq]
  generalize (lg_sl ([.ref (ob 0), .int x1, .int x2]) ++ List.replicate (3 - (lg_sl ([.ref (ob 0), .int x1, .int x2])).length) Slot.unset).toArray = ls at hl ⊢
  have hl : lv_has ls 3 [(0, .ref (ob 0)), (1, .int x1), (2, .int x2)] := hl
  refine lv_aload_n hx hb dX7_mealOf_0 rfl (lv_at hl 0 rfl) ?_
  refine va_get (D := D) (ci := 7) (v := .ref (ob 2)) (C := RX7) (T := TX7) (N := 7) hx hb hts iwX7_mealOf_X7 hown hC.1 hY.1 0 rfl rfl 3 (by decide) (hts (.fieldLink RX7 31 "MealLockers" "questions" "LMealLockers$Questions;") (List.mem_of_getElem? (i := 1) rfl)) (fun _ h9 => h9) rfl dX7_mealOf_1 ?_
  refine lv_iload_n hx hb dX7_mealOf_4 rfl (lv_at hl 1 rfl) ?_
  refine lv_iload_n hx hb dX7_mealOf_5 rfl (lv_at hl 2 rfl) ?_
  refine kX3_ofMeal hF (cwV 2 hts gX7_mealOf_X3_ofMeal rfl rfl rfl hdX3_ofMeal ⟨Nat.le_of_ble_eq_true rfl, Nat.le_of_ble_eq_true rfl⟩) hC hY.2.2.1 (hY.2.2.2.2.2.2 0 (by decide)) hl.1 (Nat.le_of_ble_eq_true rfl) dX7_mealOf_6 ⟨Nat.zero_le _, Nat.zero_le _⟩ ?_
  exact W.iret (v := (zX3_ofMeal (Ω 0) x1 x2)) hx hb hr (fun t ht hW => ⟨⟨(zX3_ofMeal (Ω 0) x1 x2), Ω, rfl, ⟨rfl, rfl⟩, by dsimp only; rw [ht]; exact hY⟩, hS.F ht⟩) hS.2.2 dX7_mealOf_9
set_option maxHeartbeats 4000000 in
set_option maxRecDepth 100000 in
theorem kX7_mealOf {p : Program} {l : Launch} {e : Env} {R : Room} {s : State} {m : MethodId} {args : Array Value} {below : List Frame} {meth : Method} {c : Code} {H : Heap} {locs : List Loc} {cells slots : Nat} {Q : State → Prop} {cc : ByteArray} {nL : Nat} {Ts : List Cond} {own : String} {index pc : Nat} {ls : Array Slot} {rest : List Value} {D : va_G} {y : Y3} {ob : Nat → Nat} {AD : Nat → Nat → Nat} {Ω : Og} {x1 : Int32} {x2 : Int32} {A0 : Nat → Prop} {H0 : Heap} (hF : CallFix p m c cc nL s args Ts own) (cw : CallW R s args own RX7 index yX7_mealOf cX7_mealOf 3 (some .int) wsX7_mealOf ({ frames := 2, cells := 0, slots := 0, locals := 45 } : Room) 0 0 2) (hC : CK D y s) (hY : SysH D y ob AD Ω H) (hJ : sysJ ob AD) (hOk : okO Ω) (hS : va_S A0 H0 H locs) (hA : ∀ q, (sysA ob AD) q → A0 q) (hsz : ls.size = nL) (hW : (rest.map fun v => v.category).sum ≤ 8) (hdg : decode cc pc = .ok (.invokevirtual index, 3)) (hf : cells ≤ R.cells ∧ slots ≤ R.slots)
    (k : ∀ (H1 : Heap) (locs1 : List Loc), SysH D y ob AD (zX7_mealOf Ω x1 x2).2 H1 → H.size ≤ H1.size → (∀ q : Nat, q < H.size → ¬ (sysA ob AD) q → H1[q]? = H[q]?) → va_S A0 H0 H1 locs1 → W p l e R s m args below meth c H1 locs1 cells slots Q (F0 m (pc + 3) ls (.int ((zX7_mealOf Ω x1 x2).1) :: rest))) : W p l e R s m args below meth c H locs cells slots Q (F0 m pc ls (.int x2 :: .int x1 :: .ref (ob 0) :: rest)) := by
  refine va_calli (va_runV (As := [.int x1, .int x2]) (rest := rest) hF (mX7_mealOf l D y ob AD Ω x1 x2) cw ⟨fun a U g mk q => by obtain ⟨q0, q1, q2, q3, q4⟩ := q; exact ⟨q0, q1.call g mk a, q2, q3, q4⟩, va_recv hC.1 hY.1 (ci := 7) (q0 := 0) rfl rfl, fun U hU hW => ⟨rfl, hC.warm hW, by rw [hU]; exact hY, hJ, hOk⟩⟩ rfl rfl hsz rfl (lv_room hW) hdg ⟨hf.1, hf.2⟩) hS (fun q _ h => hA q h) hA (fun r u t H1 locs1 ht hvm hp hB hz1 hk1 hS1 => ?_)
  obtain ⟨hp1, hp2⟩ := hp
  subst hp1; subst hp2
  rw [ht] at hB
  exact k H1 locs1 hB hz1 hk1 hS1
def zX7_lockerOf (Ω : Og) (x1 : Int32) (x2 : Int32) : Int32 × Og := ((zX3_ofLocker (Ω 0) x1 x2), Ω)
theorem iwX7_lockerOf_X7 : ∀ w ∈ wsX70, w ∈ wsX7_lockerOf := fun _ h => List.mem_cons_of_mem _ (List.mem_append_left _ (List.mem_append_left _ (List.mem_append_left _ (List.mem_append_right _ h))))
theorem hdX7_lockerOf : yX7_lockerOf.cls = RX7 ∧ yX7_lockerOf.cls ≠ "java/lang/invoke/MethodHandle" ∧ yX7_lockerOf.cls ≠ "java/lang/invoke/VarHandle" ∧ (parseMethodDescriptor yX7_lockerOf.desc).map (fun d => d.parameters.length) = some 2 := by decide +kernel
set_option maxHeartbeats 4000000 in
set_option maxRecDepth 100000 in
theorem mX7_lockerOf (l : Launch) (D : va_G) (y : Y3) (ob : Nat → Nat) (AD : Nat → Nat → Nat) (Ω : Og) (x1 : Int32) (x2 : Int32) : Met l yX7_lockerOf wsX7_lockerOf ({ frames := 3, cells := 0, slots := 0, locals := 68 } : Room) (va_Pc [.ref (ob 0), .int x1, .int x2] (fun U => CK D y U ∧ SysH D y ob AD Ω U.heap ∧ sysJ ob AD ∧ okO Ω)) (va_Qi (fun (r : Int32) (u : Og) => r = (zX7_lockerOf Ω x1 x2).1 ∧ u = (zX7_lockerOf Ω x1 x2).2) (fun u t => SysH D y ob AD u t.heap) (sysA ob AD)) 0 0 (sysA ob AD) := by
  refine Met.ofW (cc := cX7_lockerOf) (maxL := 3) (ret := (some .int)) (by decide) rfl ?_
  intro p e s m args below meth c s₁ B hml hv
  obtain ⟨rfl, hC, hY, hJ, hOk⟩ := hv
  have hx := B.exec
  have hb := B.bytes
  have hr := B.returns
  have hts := atoms_spec (ws := wsX7_lockerOf) B.pre
  have hown : s.vm.findClass RX7 = some m.cls := findClass_of_methodNamed B.named
  have hlocks := B.notSynchronized
  have hF := (⟨hx, hb, hml, hown, hts⟩ : CallFix p m c cX7_lockerOf 3 s _ wsX7_lockerOf RX7)
  have hS : va_S (sysA ob AD) s.heap s.heap [] := va_S.rf
  have hl := lv_entry ([.ref (ob 0), .int x1, .int x2]) (n := 3) (Nat.le_of_ble_eq_true rfl)
  rw [lg_entry_eq]
  generalize (lg_sl ([.ref (ob 0), .int x1, .int x2]) ++ List.replicate (3 - (lg_sl ([.ref (ob 0), .int x1, .int x2])).length) Slot.unset).toArray = ls at hl ⊢
  have hl : lv_has ls 3 [(0, .ref (ob 0)), (1, .int x1), (2, .int x2)] := hl
  refine lv_aload_n hx hb dX7_lockerOf_0 rfl (lv_at hl 0 rfl) ?_
  refine va_get (D := D) (ci := 7) (v := .ref (ob 2)) (C := RX7) (T := TX7) (N := 7) hx hb hts iwX7_lockerOf_X7 hown hC.1 hY.1 0 rfl rfl 3 (by decide) (hts (.fieldLink RX7 31 "MealLockers" "questions" "LMealLockers$Questions;") (List.mem_of_getElem? (i := 1) rfl)) (fun _ h9 => h9) rfl dX7_lockerOf_1 ?_
  refine lv_iload_n hx hb dX7_lockerOf_4 rfl (lv_at hl 1 rfl) ?_
  refine lv_iload_n hx hb dX7_lockerOf_5 rfl (lv_at hl 2 rfl) ?_
  refine kX3_ofLocker hF (cwV 2 hts gX7_lockerOf_X3_ofLocker rfl rfl rfl hdX3_ofLocker ⟨Nat.le_of_ble_eq_true rfl, Nat.le_of_ble_eq_true rfl⟩) hC hY.2.2.1 (hY.2.2.2.2.2.2 0 (by decide)) hl.1 (Nat.le_of_ble_eq_true rfl) dX7_lockerOf_6 ⟨Nat.zero_le _, Nat.zero_le _⟩ ?_
  exact W.iret (v := (zX3_ofLocker (Ω 0) x1 x2)) hx hb hr (fun t ht hW => ⟨⟨(zX3_ofLocker (Ω 0) x1 x2), Ω, rfl, ⟨rfl, rfl⟩, by dsimp only; rw [ht]; exact hY⟩, hS.F ht⟩) hS.2.2 dX7_lockerOf_9
set_option maxHeartbeats 4000000 in
set_option maxRecDepth 100000 in
theorem kX7_lockerOf {p : Program} {l : Launch} {e : Env} {R : Room} {s : State} {m : MethodId} {args : Array Value} {below : List Frame} {meth : Method} {c : Code} {H : Heap} {locs : List Loc} {cells slots : Nat} {Q : State → Prop} {cc : ByteArray} {nL : Nat} {Ts : List Cond} {own : String} {index pc : Nat} {ls : Array Slot} {rest : List Value} {D : va_G} {y : Y3} {ob : Nat → Nat} {AD : Nat → Nat → Nat} {Ω : Og} {x1 : Int32} {x2 : Int32} {A0 : Nat → Prop} {H0 : Heap} (hF : CallFix p m c cc nL s args Ts own) (cw : CallW R s args own RX7 index yX7_lockerOf cX7_lockerOf 3 (some .int) wsX7_lockerOf ({ frames := 3, cells := 0, slots := 0, locals := 68 } : Room) 0 0 2) (hC : CK D y s) (hY : SysH D y ob AD Ω H) (hJ : sysJ ob AD) (hOk : okO Ω) (hS : va_S A0 H0 H locs) (hA : ∀ q, (sysA ob AD) q → A0 q) (hsz : ls.size = nL) (hW : (rest.map fun v => v.category).sum ≤ 8) (hdg : decode cc pc = .ok (.invokevirtual index, 3)) (hf : cells ≤ R.cells ∧ slots ≤ R.slots)
    (k : ∀ (H1 : Heap) (locs1 : List Loc), SysH D y ob AD (zX7_lockerOf Ω x1 x2).2 H1 → H.size ≤ H1.size → (∀ q : Nat, q < H.size → ¬ (sysA ob AD) q → H1[q]? = H[q]?) → va_S A0 H0 H1 locs1 → W p l e R s m args below meth c H1 locs1 cells slots Q (F0 m (pc + 3) ls (.int ((zX7_lockerOf Ω x1 x2).1) :: rest))) : W p l e R s m args below meth c H locs cells slots Q (F0 m pc ls (.int x2 :: .int x1 :: .ref (ob 0) :: rest)) := by
  refine va_calli (va_runV (As := [.int x1, .int x2]) (rest := rest) hF (mX7_lockerOf l D y ob AD Ω x1 x2) cw ⟨fun a U g mk q => by obtain ⟨q0, q1, q2, q3, q4⟩ := q; exact ⟨q0, q1.call g mk a, q2, q3, q4⟩, va_recv hC.1 hY.1 (ci := 7) (q0 := 0) rfl rfl, fun U hU hW => ⟨rfl, hC.warm hW, by rw [hU]; exact hY, hJ, hOk⟩⟩ rfl rfl hsz rfl (lv_room hW) hdg ⟨hf.1, hf.2⟩) hS (fun q _ h => hA q h) hA (fun r u t H1 locs1 ht hvm hp hB hz1 hk1 hS1 => ?_)
  obtain ⟨hp1, hp2⟩ := hp
  subst hp1; subst hp2
  rw [ht] at hB
  exact k H1 locs1 hB hz1 hk1 hS1
def zX7_personOf (Ω : Og) (x1 : Int32) (x2 : Int32) : Int32 × Og := ((zX3_ofPerson (Ω 0) x1 x2), Ω)
theorem iwX7_personOf_X7 : ∀ w ∈ wsX70, w ∈ wsX7_personOf := fun _ h => List.mem_cons_of_mem _ (List.mem_append_left _ (List.mem_append_left _ (List.mem_append_left _ (List.mem_append_right _ h))))
theorem hdX7_personOf : yX7_personOf.cls = RX7 ∧ yX7_personOf.cls ≠ "java/lang/invoke/MethodHandle" ∧ yX7_personOf.cls ≠ "java/lang/invoke/VarHandle" ∧ (parseMethodDescriptor yX7_personOf.desc).map (fun d => d.parameters.length) = some 2 := by decide +kernel
set_option maxHeartbeats 4000000 in
set_option maxRecDepth 100000 in
theorem mX7_personOf (l : Launch) (D : va_G) (y : Y3) (ob : Nat → Nat) (AD : Nat → Nat → Nat) (Ω : Og) (x1 : Int32) (x2 : Int32) : Met l yX7_personOf wsX7_personOf ({ frames := 3, cells := 0, slots := 0, locals := 67 } : Room) (va_Pc [.ref (ob 0), .int x1, .int x2] (fun U => CK D y U ∧ SysH D y ob AD Ω U.heap ∧ sysJ ob AD ∧ okO Ω)) (va_Qi (fun (r : Int32) (u : Og) => r = (zX7_personOf Ω x1 x2).1 ∧ u = (zX7_personOf Ω x1 x2).2) (fun u t => SysH D y ob AD u t.heap) (sysA ob AD)) 0 0 (sysA ob AD) := by
  refine Met.ofW (cc := cX7_personOf) (maxL := 3) (ret := (some .int)) (by decide) rfl ?_
  intro p e s m args below meth c s₁ B hml hv
  obtain ⟨rfl, hC, hY, hJ, hOk⟩ := hv
  have hx := B.exec
  have hb := B.bytes
  have hr := B.returns
  have hts := atoms_spec (ws := wsX7_personOf) B.pre
  have hown : s.vm.findClass RX7 = some m.cls := findClass_of_methodNamed B.named
  have hlocks := B.notSynchronized
  have hF := (⟨hx, hb, hml, hown, hts⟩ : CallFix p m c cX7_personOf 3 s _ wsX7_personOf RX7)
  have hS : va_S (sysA ob AD) s.heap s.heap [] := va_S.rf
  have hl := lv_entry ([.ref (ob 0), .int x1, .int x2]) (n := 3) (Nat.le_of_ble_eq_true rfl)
  rw [lg_entry_eq]
  generalize (lg_sl ([.ref (ob 0), .int x1, .int x2]) ++ List.replicate (3 - (lg_sl ([.ref (ob 0), .int x1, .int x2])).length) Slot.unset).toArray = ls at hl ⊢
  have hl : lv_has ls 3 [(0, .ref (ob 0)), (1, .int x1), (2, .int x2)] := hl
  refine lv_aload_n hx hb dX7_personOf_0 rfl (lv_at hl 0 rfl) ?_
  refine va_get (D := D) (ci := 7) (v := .ref (ob 2)) (C := RX7) (T := TX7) (N := 7) hx hb hts iwX7_personOf_X7 hown hC.1 hY.1 0 rfl rfl 3 (by decide) (hts (.fieldLink RX7 31 "MealLockers" "questions" "LMealLockers$Questions;") (List.mem_of_getElem? (i := 1) rfl)) (fun _ h9 => h9) rfl dX7_personOf_1 ?_
  refine lv_iload_n hx hb dX7_personOf_4 rfl (lv_at hl 1 rfl) ?_
  refine lv_iload_n hx hb dX7_personOf_5 rfl (lv_at hl 2 rfl) ?_
  refine kX3_ofPerson hF (cwV 2 hts gX7_personOf_X3_ofPerson rfl rfl rfl hdX3_ofPerson ⟨Nat.le_of_ble_eq_true rfl, Nat.le_of_ble_eq_true rfl⟩) hC hY.2.2.1 (hY.2.2.2.2.2.2 0 (by decide)) hl.1 (Nat.le_of_ble_eq_true rfl) dX7_personOf_6 ⟨Nat.zero_le _, Nat.zero_le _⟩ ?_
  exact W.iret (v := (zX3_ofPerson (Ω 0) x1 x2)) hx hb hr (fun t ht hW => ⟨⟨(zX3_ofPerson (Ω 0) x1 x2), Ω, rfl, ⟨rfl, rfl⟩, by dsimp only; rw [ht]; exact hY⟩, hS.F ht⟩) hS.2.2 dX7_personOf_9
set_option maxHeartbeats 4000000 in
set_option maxRecDepth 100000 in
theorem kX7_personOf {p : Program} {l : Launch} {e : Env} {R : Room} {s : State} {m : MethodId} {args : Array Value} {below : List Frame} {meth : Method} {c : Code} {H : Heap} {locs : List Loc} {cells slots : Nat} {Q : State → Prop} {cc : ByteArray} {nL : Nat} {Ts : List Cond} {own : String} {index pc : Nat} {ls : Array Slot} {rest : List Value} {D : va_G} {y : Y3} {ob : Nat → Nat} {AD : Nat → Nat → Nat} {Ω : Og} {x1 : Int32} {x2 : Int32} {A0 : Nat → Prop} {H0 : Heap} (hF : CallFix p m c cc nL s args Ts own) (cw : CallW R s args own RX7 index yX7_personOf cX7_personOf 3 (some .int) wsX7_personOf ({ frames := 3, cells := 0, slots := 0, locals := 67 } : Room) 0 0 2) (hC : CK D y s) (hY : SysH D y ob AD Ω H) (hJ : sysJ ob AD) (hOk : okO Ω) (hS : va_S A0 H0 H locs) (hA : ∀ q, (sysA ob AD) q → A0 q) (hsz : ls.size = nL) (hW : (rest.map fun v => v.category).sum ≤ 8) (hdg : decode cc pc = .ok (.invokevirtual index, 3)) (hf : cells ≤ R.cells ∧ slots ≤ R.slots)
    (k : ∀ (H1 : Heap) (locs1 : List Loc), SysH D y ob AD (zX7_personOf Ω x1 x2).2 H1 → H.size ≤ H1.size → (∀ q : Nat, q < H.size → ¬ (sysA ob AD) q → H1[q]? = H[q]?) → va_S A0 H0 H1 locs1 → W p l e R s m args below meth c H1 locs1 cells slots Q (F0 m (pc + 3) ls (.int ((zX7_personOf Ω x1 x2).1) :: rest))) : W p l e R s m args below meth c H locs cells slots Q (F0 m pc ls (.int x2 :: .int x1 :: .ref (ob 0) :: rest)) := by
  refine va_calli (va_runV (As := [.int x1, .int x2]) (rest := rest) hF (mX7_personOf l D y ob AD Ω x1 x2) cw ⟨fun a U g mk q => by obtain ⟨q0, q1, q2, q3, q4⟩ := q; exact ⟨q0, q1.call g mk a, q2, q3, q4⟩, va_recv hC.1 hY.1 (ci := 7) (q0 := 0) rfl rfl, fun U hU hW => ⟨rfl, hC.warm hW, by rw [hU]; exact hY, hJ, hOk⟩⟩ rfl rfl hsz rfl (lv_room hW) hdg ⟨hf.1, hf.2⟩) hS (fun q _ h => hA q h) hA (fun r u t H1 locs1 ht hvm hp hB hz1 hk1 hS1 => ?_)
  obtain ⟨hp1, hp2⟩ := hp
  subst hp1; subst hp2
  rw [ht] at hB
  exact k H1 locs1 hB hz1 hk1 hS1
def zX7_volunteerOf (Ω : Og) (x1 : Int32) (x2 : Int32) : Int32 × Og := ((zX3_ofVolunteer (Ω 0) x1 x2), Ω)
theorem iwX7_volunteerOf_X7 : ∀ w ∈ wsX70, w ∈ wsX7_volunteerOf := fun _ h => List.mem_cons_of_mem _ (List.mem_append_left _ (List.mem_append_left _ (List.mem_append_left _ (List.mem_append_right _ h))))
theorem hdX7_volunteerOf : yX7_volunteerOf.cls = RX7 ∧ yX7_volunteerOf.cls ≠ "java/lang/invoke/MethodHandle" ∧ yX7_volunteerOf.cls ≠ "java/lang/invoke/VarHandle" ∧ (parseMethodDescriptor yX7_volunteerOf.desc).map (fun d => d.parameters.length) = some 2 := by decide +kernel
set_option maxHeartbeats 4000000 in
set_option maxRecDepth 100000 in
theorem mX7_volunteerOf (l : Launch) (D : va_G) (y : Y3) (ob : Nat → Nat) (AD : Nat → Nat → Nat) (Ω : Og) (x1 : Int32) (x2 : Int32) : Met l yX7_volunteerOf wsX7_volunteerOf ({ frames := 3, cells := 0, slots := 0, locals := 68 } : Room) (va_Pc [.ref (ob 0), .int x1, .int x2] (fun U => CK D y U ∧ SysH D y ob AD Ω U.heap ∧ sysJ ob AD ∧ okO Ω)) (va_Qi (fun (r : Int32) (u : Og) => r = (zX7_volunteerOf Ω x1 x2).1 ∧ u = (zX7_volunteerOf Ω x1 x2).2) (fun u t => SysH D y ob AD u t.heap) (sysA ob AD)) 0 0 (sysA ob AD) := by
  refine Met.ofW (cc := cX7_volunteerOf) (maxL := 3) (ret := (some .int)) (by decide) rfl ?_
  intro p e s m args below meth c s₁ B hml hv
  obtain ⟨rfl, hC, hY, hJ, hOk⟩ := hv
  have hx := B.exec
  have hb := B.bytes
  have hr := B.returns
  have hts := atoms_spec (ws := wsX7_volunteerOf) B.pre
  have hown : s.vm.findClass RX7 = some m.cls := findClass_of_methodNamed B.named
  have hlocks := B.notSynchronized
  have hF := (⟨hx, hb, hml, hown, hts⟩ : CallFix p m c cX7_volunteerOf 3 s _ wsX7_volunteerOf RX7)
  have hS : va_S (sysA ob AD) s.heap s.heap [] := va_S.rf
  have hl := lv_entry ([.ref (ob 0), .int x1, .int x2]) (n := 3) (Nat.le_of_ble_eq_true rfl)
  rw [lg_entry_eq]
  generalize (lg_sl ([.ref (ob 0), .int x1, .int x2]) ++ List.replicate (3 - (lg_sl ([.ref (ob 0), .int x1, .int x2])).length) Slot.unset).toArray = ls at hl ⊢
  have hl : lv_has ls 3 [(0, .ref (ob 0)), (1, .int x1), (2, .int x2)] := hl
  refine lv_aload_n hx hb dX7_volunteerOf_0 rfl (lv_at hl 0 rfl) ?_
  refine va_get (D := D) (ci := 7) (v := .ref (ob 2)) (C := RX7) (T := TX7) (N := 7) hx hb hts iwX7_volunteerOf_X7 hown hC.1 hY.1 0 rfl rfl 3 (by decide) (hts (.fieldLink RX7 31 "MealLockers" "questions" "LMealLockers$Questions;") (List.mem_of_getElem? (i := 1) rfl)) (fun _ h9 => h9) rfl dX7_volunteerOf_1 ?_
  refine lv_iload_n hx hb dX7_volunteerOf_4 rfl (lv_at hl 1 rfl) ?_
  refine lv_iload_n hx hb dX7_volunteerOf_5 rfl (lv_at hl 2 rfl) ?_
  refine kX3_ofVolunteer hF (cwV 2 hts gX7_volunteerOf_X3_ofVolunteer rfl rfl rfl hdX3_ofVolunteer ⟨Nat.le_of_ble_eq_true rfl, Nat.le_of_ble_eq_true rfl⟩) hC hY.2.2.1 (hY.2.2.2.2.2.2 0 (by decide)) hl.1 (Nat.le_of_ble_eq_true rfl) dX7_volunteerOf_6 ⟨Nat.zero_le _, Nat.zero_le _⟩ ?_
  exact W.iret (v := (zX3_ofVolunteer (Ω 0) x1 x2)) hx hb hr (fun t ht hW => ⟨⟨(zX3_ofVolunteer (Ω 0) x1 x2), Ω, rfl, ⟨rfl, rfl⟩, by dsimp only; rw [ht]; exact hY⟩, hS.F ht⟩) hS.2.2 dX7_volunteerOf_9
set_option maxHeartbeats 4000000 in
set_option maxRecDepth 100000 in
theorem kX7_volunteerOf {p : Program} {l : Launch} {e : Env} {R : Room} {s : State} {m : MethodId} {args : Array Value} {below : List Frame} {meth : Method} {c : Code} {H : Heap} {locs : List Loc} {cells slots : Nat} {Q : State → Prop} {cc : ByteArray} {nL : Nat} {Ts : List Cond} {own : String} {index pc : Nat} {ls : Array Slot} {rest : List Value} {D : va_G} {y : Y3} {ob : Nat → Nat} {AD : Nat → Nat → Nat} {Ω : Og} {x1 : Int32} {x2 : Int32} {A0 : Nat → Prop} {H0 : Heap} (hF : CallFix p m c cc nL s args Ts own) (cw : CallW R s args own RX7 index yX7_volunteerOf cX7_volunteerOf 3 (some .int) wsX7_volunteerOf ({ frames := 3, cells := 0, slots := 0, locals := 68 } : Room) 0 0 2) (hC : CK D y s) (hY : SysH D y ob AD Ω H) (hJ : sysJ ob AD) (hOk : okO Ω) (hS : va_S A0 H0 H locs) (hA : ∀ q, (sysA ob AD) q → A0 q) (hsz : ls.size = nL) (hW : (rest.map fun v => v.category).sum ≤ 8) (hdg : decode cc pc = .ok (.invokevirtual index, 3)) (hf : cells ≤ R.cells ∧ slots ≤ R.slots)
    (k : ∀ (H1 : Heap) (locs1 : List Loc), SysH D y ob AD (zX7_volunteerOf Ω x1 x2).2 H1 → H.size ≤ H1.size → (∀ q : Nat, q < H.size → ¬ (sysA ob AD) q → H1[q]? = H[q]?) → va_S A0 H0 H1 locs1 → W p l e R s m args below meth c H1 locs1 cells slots Q (F0 m (pc + 3) ls (.int ((zX7_volunteerOf Ω x1 x2).1) :: rest))) : W p l e R s m args below meth c H locs cells slots Q (F0 m pc ls (.int x2 :: .int x1 :: .ref (ob 0) :: rest)) := by
  refine va_calli (va_runV (As := [.int x1, .int x2]) (rest := rest) hF (mX7_volunteerOf l D y ob AD Ω x1 x2) cw ⟨fun a U g mk q => by obtain ⟨q0, q1, q2, q3, q4⟩ := q; exact ⟨q0, q1.call g mk a, q2, q3, q4⟩, va_recv hC.1 hY.1 (ci := 7) (q0 := 0) rfl rfl, fun U hU hW => ⟨rfl, hC.warm hW, by rw [hU]; exact hY, hJ, hOk⟩⟩ rfl rfl hsz rfl (lv_room hW) hdg ⟨hf.1, hf.2⟩) hS (fun q _ h => hA q h) hA (fun r u t H1 locs1 ht hvm hp hB hz1 hk1 hS1 => ?_)
  obtain ⟨hp1, hp2⟩ := hp
  subst hp1; subst hp2
  rw [ht] at hB
  exact k H1 locs1 hB hz1 hk1 hS1
def zX7_count (Ω : Og) (x1 : Int32) : Int32 × Og := if x1 = 11 then ((Ω 7 0 1), Ω)
  else (if x1 = 12 then ((zX6_length (Ω 6)), Ω)
    else ((zX3_total (Ω 0) x1), Ω))
theorem iwX7_count_X7 : ∀ w ∈ wsX70, w ∈ wsX7_count := fun _ h => List.mem_cons_of_mem _ (List.mem_append_left _ (List.mem_append_left _ (List.mem_append_left _ (List.mem_append_left _ (List.mem_append_left _ (List.mem_append_right _ h))))))
theorem hdX7_count : yX7_count.cls = RX7 ∧ yX7_count.cls ≠ "java/lang/invoke/MethodHandle" ∧ yX7_count.cls ≠ "java/lang/invoke/VarHandle" ∧ (parseMethodDescriptor yX7_count.desc).map (fun d => d.parameters.length) = some 1 := by decide +kernel
set_option maxHeartbeats 4000000 in
set_option maxRecDepth 100000 in
theorem mX7_count (l : Launch) (D : va_G) (y : Y3) (ob : Nat → Nat) (AD : Nat → Nat → Nat) (Ω : Og) (x1 : Int32) : Met l yX7_count wsX7_count ({ frames := 3, cells := 0, slots := 0, locals := 68 } : Room) (va_Pc [.ref (ob 0), .int x1] (fun U => CK D y U ∧ SysH D y ob AD Ω U.heap ∧ sysJ ob AD ∧ okO Ω)) (va_Qi (fun (r : Int32) (u : Og) => r = (zX7_count Ω x1).1 ∧ u = (zX7_count Ω x1).2) (fun u t => SysH D y ob AD u t.heap) (sysA ob AD)) 0 0 (sysA ob AD) := by
  refine Met.ofW (cc := cX7_count) (maxL := 2) (ret := (some .int)) (by decide) rfl ?_
  intro p e s m args below meth c s₁ B hml hv
  obtain ⟨rfl, hC, hY, hJ, hOk⟩ := hv
  have hx := B.exec
  have hb := B.bytes
  have hr := B.returns
  have hts := atoms_spec (ws := wsX7_count) B.pre
  have hown : s.vm.findClass RX7 = some m.cls := findClass_of_methodNamed B.named
  have hlocks := B.notSynchronized
  have hF := (⟨hx, hb, hml, hown, hts⟩ : CallFix p m c cX7_count 2 s _ wsX7_count RX7)
  have hS : va_S (sysA ob AD) s.heap s.heap [] := va_S.rf
  have hl := lv_entry ([.ref (ob 0), .int x1]) (n := 2) (Nat.le_of_ble_eq_true rfl)
  rw [lg_entry_eq]
  generalize (lg_sl ([.ref (ob 0), .int x1]) ++ List.replicate (2 - (lg_sl ([.ref (ob 0), .int x1])).length) Slot.unset).toArray = ls at hl ⊢
  have hl : lv_has ls 2 [(0, .ref (ob 0)), (1, .int x1)] := hl
  refine lv_iload_n hx hb dX7_count_0 rfl (lv_at hl 1 rfl) ?_
  refine (Decidable.em (x1 = 11)).elim (fun c_1 => ?_) (fun c_1 => ?_)
  · refine lv_lookup (tgt := 28) hx hb dX7_count_1 (by decide) (off := 27) (by rw [c_1]; decide) (by decide) ?_
    refine lv_aload_n hx hb dX7_count_28 rfl (lv_at hl 0 rfl) ?_
    refine va_get (D := D) (ci := 7) (v := .ref (ob 3)) (C := RX7) (T := TX7) (N := 7) hx hb hts iwX7_count_X7 hown hC.1 hY.1 0 rfl rfl 4 (by decide) (hts (.fieldLink RX7 38 "MealLockers" "history" "LMealLockers$History;") (List.mem_of_getElem? (i := 1) rfl)) (fun _ h9 => h9) rfl dX7_count_29 ?_
    refine kX1_size hF (cwV 0 hts gX7_count_X1_size rfl rfl rfl hdX1_size ⟨Nat.le_of_ble_eq_true rfl, Nat.le_of_ble_eq_true rfl⟩) hC hY.2.2.2.1 hl.1 (Nat.le_of_ble_eq_true rfl) dX7_count_32 ⟨Nat.zero_le _, Nat.zero_le _⟩ ?_
    exact W.iret (v := (Ω 7 0 1)) hx hb hr (fun t ht hW => ⟨⟨(Ω 7 0 1), Ω, rfl, ⟨(by unfold zX7_count; rw [if_pos c_1]), (by unfold zX7_count; rw [if_pos c_1])⟩, by dsimp only; rw [ht]; exact hY⟩, hS.F ht⟩) hS.2.2 dX7_count_35
  · refine (Decidable.em (x1 = 12)).elim (fun c_2 => ?_) (fun c_2 => ?_)
    · refine lv_lookup (tgt := 36) hx hb dX7_count_1 (by decide) (off := 35) (by rw [c_2]; decide) (by decide) ?_
      refine lv_aload_n hx hb dX7_count_36 rfl (lv_at hl 0 rfl) ?_
      refine va_get (D := D) (ci := 7) (v := .ref (ob 5)) (C := RX7) (T := TX7) (N := 7) hx hb hts iwX7_count_X7 hown hC.1 hY.1 0 rfl rfl 5 (by decide) (hts (.fieldLink RX7 45 "MealLockers" "text" "LMealLockers$Text;") (List.mem_of_getElem? (i := 2) rfl)) (fun _ h9 => h9) rfl dX7_count_37 ?_
      refine kX6_length hF (cwV 0 hts gX7_count_X6_length rfl rfl rfl hdX6_length ⟨Nat.le_of_ble_eq_true rfl, Nat.le_of_ble_eq_true rfl⟩) hC hY.2.2.2.2.1 hl.1 (Nat.le_of_ble_eq_true rfl) dX7_count_40 ⟨Nat.zero_le _, Nat.zero_le _⟩ ?_
      exact W.iret (v := (zX6_length (Ω 6))) hx hb hr (fun t ht hW => ⟨⟨(zX6_length (Ω 6)), Ω, rfl, ⟨(by unfold zX7_count; rw [if_neg c_1, if_pos c_2]), (by unfold zX7_count; rw [if_neg c_1, if_pos c_2])⟩, by dsimp only; rw [ht]; exact hY⟩, hS.F ht⟩) hS.2.2 dX7_count_43
    · refine lv_lookup (tgt := 44) hx hb dX7_count_1 (by decide) (off := 43) (by rw [lv_osw c_1 (by decide)]; rw [lv_osw c_2 (by decide)]; rfl) (by decide) ?_
      refine lv_aload_n hx hb dX7_count_44 rfl (lv_at hl 0 rfl) ?_
      refine va_get (D := D) (ci := 7) (v := .ref (ob 2)) (C := RX7) (T := TX7) (N := 7) hx hb hts iwX7_count_X7 hown hC.1 hY.1 0 rfl rfl 3 (by decide) (hts (.fieldLink RX7 31 "MealLockers" "questions" "LMealLockers$Questions;") (List.mem_of_getElem? (i := 3) rfl)) (fun _ h9 => h9) rfl dX7_count_45 ?_
      refine lv_iload_n hx hb dX7_count_48 rfl (lv_at hl 1 rfl) ?_
      refine kX3_total hF (cwV 1 hts gX7_count_X3_total rfl rfl rfl hdX3_total ⟨Nat.le_of_ble_eq_true rfl, Nat.le_of_ble_eq_true rfl⟩) hC hY.2.2.1 (hY.2.2.2.2.2.2 0 (by decide)) hl.1 (Nat.le_of_ble_eq_true rfl) dX7_count_49 ⟨Nat.zero_le _, Nat.zero_le _⟩ ?_
      exact W.iret (v := (zX3_total (Ω 0) x1)) hx hb hr (fun t ht hW => ⟨⟨(zX3_total (Ω 0) x1), Ω, rfl, ⟨(by unfold zX7_count; rw [if_neg c_1, if_neg c_2]), (by unfold zX7_count; rw [if_neg c_1, if_neg c_2])⟩, by dsimp only; rw [ht]; exact hY⟩, hS.F ht⟩) hS.2.2 dX7_count_52
set_option maxHeartbeats 4000000 in
set_option maxRecDepth 100000 in
theorem kX7_count {p : Program} {l : Launch} {e : Env} {R : Room} {s : State} {m : MethodId} {args : Array Value} {below : List Frame} {meth : Method} {c : Code} {H : Heap} {locs : List Loc} {cells slots : Nat} {Q : State → Prop} {cc : ByteArray} {nL : Nat} {Ts : List Cond} {own : String} {index pc : Nat} {ls : Array Slot} {rest : List Value} {D : va_G} {y : Y3} {ob : Nat → Nat} {AD : Nat → Nat → Nat} {Ω : Og} {x1 : Int32} {A0 : Nat → Prop} {H0 : Heap} (hF : CallFix p m c cc nL s args Ts own) (cw : CallW R s args own RX7 index yX7_count cX7_count 2 (some .int) wsX7_count ({ frames := 3, cells := 0, slots := 0, locals := 68 } : Room) 0 0 1) (hC : CK D y s) (hY : SysH D y ob AD Ω H) (hJ : sysJ ob AD) (hOk : okO Ω) (hS : va_S A0 H0 H locs) (hA : ∀ q, (sysA ob AD) q → A0 q) (hsz : ls.size = nL) (hW : (rest.map fun v => v.category).sum ≤ 8) (hdg : decode cc pc = .ok (.invokevirtual index, 3)) (hf : cells ≤ R.cells ∧ slots ≤ R.slots)
    (k : ∀ (H1 : Heap) (locs1 : List Loc), SysH D y ob AD (zX7_count Ω x1).2 H1 → H.size ≤ H1.size → (∀ q : Nat, q < H.size → ¬ (sysA ob AD) q → H1[q]? = H[q]?) → va_S A0 H0 H1 locs1 → W p l e R s m args below meth c H1 locs1 cells slots Q (F0 m (pc + 3) ls (.int ((zX7_count Ω x1).1) :: rest))) : W p l e R s m args below meth c H locs cells slots Q (F0 m pc ls (.int x1 :: .ref (ob 0) :: rest)) := by
  refine va_calli (va_runV (As := [.int x1]) (rest := rest) hF (mX7_count l D y ob AD Ω x1) cw ⟨fun a U g mk q => by obtain ⟨q0, q1, q2, q3, q4⟩ := q; exact ⟨q0, q1.call g mk a, q2, q3, q4⟩, va_recv hC.1 hY.1 (ci := 7) (q0 := 0) rfl rfl, fun U hU hW => ⟨rfl, hC.warm hW, by rw [hU]; exact hY, hJ, hOk⟩⟩ rfl rfl hsz rfl (lv_room hW) hdg ⟨hf.1, hf.2⟩) hS (fun q _ h => hA q h) hA (fun r u t H1 locs1 ht hvm hp hB hz1 hk1 hS1 => ?_)
  obtain ⟨hp1, hp2⟩ := hp
  subst hp1; subst hp2
  rw [ht] at hB
  exact k H1 locs1 hB hz1 hk1 hS1
def zX7_undo (Ω : Og) : Int32 × Og := ((zrest Ω).1, (zrest Ω).2)
theorem iwX7_undo_X7 : ∀ w ∈ wsX70, w ∈ wsX7_undo := fun _ h => List.mem_cons_of_mem _ (List.mem_append_left _ (List.mem_append_left _ (List.mem_append_left _ (List.mem_append_right _ h))))
theorem hdX7_undo : yX7_undo.cls = RX7 ∧ yX7_undo.cls ≠ "java/lang/invoke/MethodHandle" ∧ yX7_undo.cls ≠ "java/lang/invoke/VarHandle" ∧ (parseMethodDescriptor yX7_undo.desc).map (fun d => d.parameters.length) = some 0 := by decide +kernel
set_option maxHeartbeats 4000000 in
set_option maxRecDepth 100000 in
theorem mX7_undo (l : Launch) (D : va_G) (y : Y3) (ob : Nat → Nat) (AD : Nat → Nat → Nat) (Ω : Og) : Met l yX7_undo wsX7_undo ({ frames := 3, cells := 0, slots := 0, locals := 65 } : Room) (va_Pc [.ref (ob 0)] (fun U => CK D y U ∧ SysH D y ob AD Ω U.heap ∧ sysJ ob AD ∧ okO Ω)) (va_Qi (fun (r : Int32) (u : Og) => r = (zX7_undo Ω).1 ∧ u = (zX7_undo Ω).2) (fun u t => SysH D y ob AD u t.heap) (sysA ob AD)) 0 0 (sysA ob AD) := by
  refine Met.ofW (cc := cX7_undo) (maxL := 1) (ret := (some .int)) (by decide) rfl ?_
  intro p e s m args below meth c s₁ B hml hv
  obtain ⟨rfl, hC, hY, hJ, hOk⟩ := hv
  have hx := B.exec
  have hb := B.bytes
  have hr := B.returns
  have hts := atoms_spec (ws := wsX7_undo) B.pre
  have hown : s.vm.findClass RX7 = some m.cls := findClass_of_methodNamed B.named
  have hlocks := B.notSynchronized
  have hF := (⟨hx, hb, hml, hown, hts⟩ : CallFix p m c cX7_undo 1 s _ wsX7_undo RX7)
  have hS : va_S (sysA ob AD) s.heap s.heap [] := va_S.rf
  have hl := lv_entry ([.ref (ob 0)]) (n := 1) (Nat.le_of_ble_eq_true rfl)
  rw [lg_entry_eq]
  generalize (lg_sl ([.ref (ob 0)]) ++ List.replicate (1 - (lg_sl ([.ref (ob 0)])).length) Slot.unset).toArray = ls at hl ⊢
  have hl : lv_has ls 1 [(0, .ref (ob 0))] := hl
  refine lv_aload_n hx hb dX7_undo_0 rfl (lv_at hl 0 rfl) ?_
  refine va_get (D := D) (ci := 7) (v := .ref (ob 3)) (C := RX7) (T := TX7) (N := 7) hx hb hts iwX7_undo_X7 hown hC.1 hY.1 0 rfl rfl 4 (by decide) (hts (.fieldLink RX7 38 "MealLockers" "history" "LMealLockers$History;") (List.mem_of_getElem? (i := 1) rfl)) (fun _ h9 => h9) rfl dX7_undo_1 ?_
  refine lv_aload_n hx hb dX7_undo_4 rfl (lv_at hl 0 rfl) ?_
  refine va_get (D := D) (ci := 7) (v := .ref (AD 0 0)) (C := RX7) (T := TX7) (N := 7) hx hb hts iwX7_undo_X7 hown hC.1 hY.1 0 rfl rfl 0 (by decide) (hts (.fieldLink RX7 10 "MealLockers" "current" "LMealLockers$State;") (List.mem_of_getElem? (i := 2) rfl)) (fun _ h9 => h9) rfl dX7_undo_5 ?_
  refine kX1_restoreLatest (o := hO Ω) (z := hZn Ω) hF (cwV 1 hts gX7_undo_X1_restoreLatest rfl rfl rfl hdX1_restoreLatest ⟨Nat.le_of_ble_eq_true rfl, Nat.le_of_ble_eq_true rfl⟩) hC (Sys.his hY hOk) hY.2.2.2.2.2.2 hJ.1 hJ.hb hJ.hd hOk.2.1 hOk.2.2.1 hS sysA_hi hl.1 (Nat.le_of_ble_eq_true rfl) dX7_undo_8 ⟨Nat.zero_le _, Nat.zero_le _⟩ (fun H locs hB _ hk hS => ?_)
  have hY := Sys.rest hY hJ hB hk
  have hOk := okO_rest hOk
  exact W.iret (v := (zrest Ω).1) hx hb hr (fun t ht hW => ⟨⟨(zrest Ω).1, (zrest Ω).2, rfl, ⟨rfl, rfl⟩, by dsimp only; rw [ht]; exact hY⟩, hS.F ht⟩) hS.2.2 dX7_undo_11
set_option maxHeartbeats 4000000 in
set_option maxRecDepth 100000 in
theorem kX7_undo {p : Program} {l : Launch} {e : Env} {R : Room} {s : State} {m : MethodId} {args : Array Value} {below : List Frame} {meth : Method} {c : Code} {H : Heap} {locs : List Loc} {cells slots : Nat} {Q : State → Prop} {cc : ByteArray} {nL : Nat} {Ts : List Cond} {own : String} {index pc : Nat} {ls : Array Slot} {rest : List Value} {D : va_G} {y : Y3} {ob : Nat → Nat} {AD : Nat → Nat → Nat} {Ω : Og} {A0 : Nat → Prop} {H0 : Heap} (hF : CallFix p m c cc nL s args Ts own) (cw : CallW R s args own RX7 index yX7_undo cX7_undo 1 (some .int) wsX7_undo ({ frames := 3, cells := 0, slots := 0, locals := 65 } : Room) 0 0 0) (hC : CK D y s) (hY : SysH D y ob AD Ω H) (hJ : sysJ ob AD) (hOk : okO Ω) (hS : va_S A0 H0 H locs) (hA : ∀ q, (sysA ob AD) q → A0 q) (hsz : ls.size = nL) (hW : (rest.map fun v => v.category).sum ≤ 8) (hdg : decode cc pc = .ok (.invokevirtual index, 3)) (hf : cells ≤ R.cells ∧ slots ≤ R.slots)
    (k : ∀ (H1 : Heap) (locs1 : List Loc), SysH D y ob AD (zX7_undo Ω).2 H1 → H.size ≤ H1.size → (∀ q : Nat, q < H.size → ¬ (sysA ob AD) q → H1[q]? = H[q]?) → va_S A0 H0 H1 locs1 → W p l e R s m args below meth c H1 locs1 cells slots Q (F0 m (pc + 3) ls (.int ((zX7_undo Ω).1) :: rest))) : W p l e R s m args below meth c H locs cells slots Q (F0 m pc ls (.ref (ob 0) :: rest)) := by
  refine va_calli (va_runV (As := []) (rest := rest) hF (mX7_undo l D y ob AD Ω) cw ⟨fun a U g mk q => by obtain ⟨q0, q1, q2, q3, q4⟩ := q; exact ⟨q0, q1.call g mk a, q2, q3, q4⟩, va_recv hC.1 hY.1 (ci := 7) (q0 := 0) rfl rfl, fun U hU hW => ⟨rfl, hC.warm hW, by rw [hU]; exact hY, hJ, hOk⟩⟩ rfl rfl hsz rfl (lv_room hW) hdg ⟨hf.1, hf.2⟩) hS (fun q _ h => hA q h) hA (fun r u t H1 locs1 ht hvm hp hB hz1 hk1 hS1 => ?_)
  obtain ⟨hp1, hp2⟩ := hp
  subst hp1; subst hp2
  rw [ht] at hB
  exact k H1 locs1 hB hz1 hk1 hS1
def zX7_type (Ω : Og) (x1 : Int32) : Int32 × Og := ((zX6_append (Ω 6) x1).1, oS Ω 6 (zX6_append (Ω 6) x1).2)
theorem iwX7_type_X7 : ∀ w ∈ wsX70, w ∈ wsX7_type := fun _ h => List.mem_cons_of_mem _ (List.mem_append_left _ (List.mem_append_right _ h))
theorem hdX7_type : yX7_type.cls = RX7 ∧ yX7_type.cls ≠ "java/lang/invoke/MethodHandle" ∧ yX7_type.cls ≠ "java/lang/invoke/VarHandle" ∧ (parseMethodDescriptor yX7_type.desc).map (fun d => d.parameters.length) = some 1 := by decide +kernel
set_option maxHeartbeats 4000000 in
set_option maxRecDepth 100000 in
theorem mX7_type (l : Launch) (D : va_G) (y : Y3) (ob : Nat → Nat) (AD : Nat → Nat → Nat) (Ω : Og) (x1 : Int32) : Met l yX7_type wsX7_type ({ frames := 2, cells := 0, slots := 0, locals := 43 } : Room) (va_Pc [.ref (ob 0), .int x1] (fun U => CK D y U ∧ SysH D y ob AD Ω U.heap ∧ sysJ ob AD ∧ okO Ω)) (va_Qi (fun (r : Int32) (u : Og) => r = (zX7_type Ω x1).1 ∧ u = (zX7_type Ω x1).2) (fun u t => SysH D y ob AD u t.heap) (sysA ob AD)) 0 0 (sysA ob AD) := by
  refine Met.ofW (cc := cX7_type) (maxL := 2) (ret := (some .int)) (by decide) rfl ?_
  intro p e s m args below meth c s₁ B hml hv
  obtain ⟨rfl, hC, hY, hJ, hOk⟩ := hv
  have hx := B.exec
  have hb := B.bytes
  have hr := B.returns
  have hts := atoms_spec (ws := wsX7_type) B.pre
  have hown : s.vm.findClass RX7 = some m.cls := findClass_of_methodNamed B.named
  have hlocks := B.notSynchronized
  have hF := (⟨hx, hb, hml, hown, hts⟩ : CallFix p m c cX7_type 2 s _ wsX7_type RX7)
  have hS : va_S (sysA ob AD) s.heap s.heap [] := va_S.rf
  have hl := lv_entry ([.ref (ob 0), .int x1]) (n := 2) (Nat.le_of_ble_eq_true rfl)
  rw [lg_entry_eq]
  generalize (lg_sl ([.ref (ob 0), .int x1]) ++ List.replicate (2 - (lg_sl ([.ref (ob 0), .int x1])).length) Slot.unset).toArray = ls at hl ⊢
  have hl : lv_has ls 2 [(0, .ref (ob 0)), (1, .int x1)] := hl
  refine lv_aload_n hx hb dX7_type_0 rfl (lv_at hl 0 rfl) ?_
  refine va_get (D := D) (ci := 7) (v := .ref (ob 5)) (C := RX7) (T := TX7) (N := 7) hx hb hts iwX7_type_X7 hown hC.1 hY.1 0 rfl rfl 5 (by decide) (hts (.fieldLink RX7 45 "MealLockers" "text" "LMealLockers$Text;") (List.mem_of_getElem? (i := 1) rfl)) (fun _ h9 => h9) rfl dX7_type_1 ?_
  refine lv_iload_n hx hb dX7_type_4 rfl (lv_at hl 1 rfl) ?_
  refine kX6_append hF (cwV 1 hts gX7_type_X6_append rfl rfl rfl hdX6_append ⟨Nat.le_of_ble_eq_true rfl, Nat.le_of_ble_eq_true rfl⟩) hC hY.2.2.2.2.1 hOk.1 (fun e => absurd (hJ.2.1 5 6 (by decide) (by decide) e) (by decide)) hS sysA_tx hl.1 (Nat.le_of_ble_eq_true rfl) dX7_type_5 ⟨Nat.zero_le _, Nat.zero_le _⟩ (fun H locs hTx _ hk hS => ?_)
  have hY := Sys.tx hY hJ hTx hk
  exact W.iret (v := (zX6_append (Ω 6) x1).1) hx hb hr (fun t ht hW => ⟨⟨(zX6_append (Ω 6) x1).1, oS Ω 6 (zX6_append (Ω 6) x1).2, rfl, ⟨rfl, rfl⟩, by dsimp only; rw [ht]; exact hY⟩, hS.F ht⟩) hS.2.2 dX7_type_8
set_option maxHeartbeats 4000000 in
set_option maxRecDepth 100000 in
theorem kX7_type {p : Program} {l : Launch} {e : Env} {R : Room} {s : State} {m : MethodId} {args : Array Value} {below : List Frame} {meth : Method} {c : Code} {H : Heap} {locs : List Loc} {cells slots : Nat} {Q : State → Prop} {cc : ByteArray} {nL : Nat} {Ts : List Cond} {own : String} {index pc : Nat} {ls : Array Slot} {rest : List Value} {D : va_G} {y : Y3} {ob : Nat → Nat} {AD : Nat → Nat → Nat} {Ω : Og} {x1 : Int32} {A0 : Nat → Prop} {H0 : Heap} (hF : CallFix p m c cc nL s args Ts own) (cw : CallW R s args own RX7 index yX7_type cX7_type 2 (some .int) wsX7_type ({ frames := 2, cells := 0, slots := 0, locals := 43 } : Room) 0 0 1) (hC : CK D y s) (hY : SysH D y ob AD Ω H) (hJ : sysJ ob AD) (hOk : okO Ω) (hS : va_S A0 H0 H locs) (hA : ∀ q, (sysA ob AD) q → A0 q) (hsz : ls.size = nL) (hW : (rest.map fun v => v.category).sum ≤ 8) (hdg : decode cc pc = .ok (.invokevirtual index, 3)) (hf : cells ≤ R.cells ∧ slots ≤ R.slots)
    (k : ∀ (H1 : Heap) (locs1 : List Loc), SysH D y ob AD (zX7_type Ω x1).2 H1 → H.size ≤ H1.size → (∀ q : Nat, q < H.size → ¬ (sysA ob AD) q → H1[q]? = H[q]?) → va_S A0 H0 H1 locs1 → W p l e R s m args below meth c H1 locs1 cells slots Q (F0 m (pc + 3) ls (.int ((zX7_type Ω x1).1) :: rest))) : W p l e R s m args below meth c H locs cells slots Q (F0 m pc ls (.int x1 :: .ref (ob 0) :: rest)) := by
  refine va_calli (va_runV (As := [.int x1]) (rest := rest) hF (mX7_type l D y ob AD Ω x1) cw ⟨fun a U g mk q => by obtain ⟨q0, q1, q2, q3, q4⟩ := q; exact ⟨q0, q1.call g mk a, q2, q3, q4⟩, va_recv hC.1 hY.1 (ci := 7) (q0 := 0) rfl rfl, fun U hU hW => ⟨rfl, hC.warm hW, by rw [hU]; exact hY, hJ, hOk⟩⟩ rfl rfl hsz rfl (lv_room hW) hdg ⟨hf.1, hf.2⟩) hS (fun q _ h => hA q h) hA (fun r u t H1 locs1 ht hvm hp hB hz1 hk1 hS1 => ?_)
  obtain ⟨hp1, hp2⟩ := hp
  subst hp1; subst hp2
  rw [ht] at hB
  exact k H1 locs1 hB hz1 hk1 hS1
def zX7_clearText (Ω : Og) : Int32 × Og := ((zX6_empty (Ω 6)).1, oS Ω 6 (zX6_empty (Ω 6)).2)
theorem iwX7_clearText_X7 : ∀ w ∈ wsX70, w ∈ wsX7_clearText := fun _ h => List.mem_cons_of_mem _ (List.mem_append_left _ (List.mem_append_right _ h))
theorem hdX7_clearText : yX7_clearText.cls = RX7 ∧ yX7_clearText.cls ≠ "java/lang/invoke/MethodHandle" ∧ yX7_clearText.cls ≠ "java/lang/invoke/VarHandle" ∧ (parseMethodDescriptor yX7_clearText.desc).map (fun d => d.parameters.length) = some 0 := by decide +kernel
set_option maxHeartbeats 4000000 in
set_option maxRecDepth 100000 in
theorem mX7_clearText (l : Launch) (D : va_G) (y : Y3) (ob : Nat → Nat) (AD : Nat → Nat → Nat) (Ω : Og) : Met l yX7_clearText wsX7_clearText ({ frames := 1, cells := 0, slots := 0, locals := 21 } : Room) (va_Pc [.ref (ob 0)] (fun U => CK D y U ∧ SysH D y ob AD Ω U.heap ∧ sysJ ob AD ∧ okO Ω)) (va_Qi (fun (r : Int32) (u : Og) => r = (zX7_clearText Ω).1 ∧ u = (zX7_clearText Ω).2) (fun u t => SysH D y ob AD u t.heap) (sysA ob AD)) 0 0 (sysA ob AD) := by
  refine Met.ofW (cc := cX7_clearText) (maxL := 1) (ret := (some .int)) (by decide) rfl ?_
  intro p e s m args below meth c s₁ B hml hv
  obtain ⟨rfl, hC, hY, hJ, hOk⟩ := hv
  have hx := B.exec
  have hb := B.bytes
  have hr := B.returns
  have hts := atoms_spec (ws := wsX7_clearText) B.pre
  have hown : s.vm.findClass RX7 = some m.cls := findClass_of_methodNamed B.named
  have hlocks := B.notSynchronized
  have hF := (⟨hx, hb, hml, hown, hts⟩ : CallFix p m c cX7_clearText 1 s _ wsX7_clearText RX7)
  have hS : va_S (sysA ob AD) s.heap s.heap [] := va_S.rf
  have hl := lv_entry ([.ref (ob 0)]) (n := 1) (Nat.le_of_ble_eq_true rfl)
  rw [lg_entry_eq]
  generalize (lg_sl ([.ref (ob 0)]) ++ List.replicate (1 - (lg_sl ([.ref (ob 0)])).length) Slot.unset).toArray = ls at hl ⊢
  have hl : lv_has ls 1 [(0, .ref (ob 0))] := hl
  refine lv_aload_n hx hb dX7_clearText_0 rfl (lv_at hl 0 rfl) ?_
  refine va_get (D := D) (ci := 7) (v := .ref (ob 5)) (C := RX7) (T := TX7) (N := 7) hx hb hts iwX7_clearText_X7 hown hC.1 hY.1 0 rfl rfl 5 (by decide) (hts (.fieldLink RX7 45 "MealLockers" "text" "LMealLockers$Text;") (List.mem_of_getElem? (i := 1) rfl)) (fun _ h9 => h9) rfl dX7_clearText_1 ?_
  refine kX6_empty hF (cwV 0 hts gX7_clearText_X6_empty rfl rfl rfl hdX6_empty ⟨Nat.le_of_ble_eq_true rfl, Nat.le_of_ble_eq_true rfl⟩) hC hY.2.2.2.2.1 hOk.1 (fun e => absurd (hJ.2.1 5 6 (by decide) (by decide) e) (by decide)) hS sysA_tx hl.1 (Nat.le_of_ble_eq_true rfl) dX7_clearText_4 ⟨Nat.zero_le _, Nat.zero_le _⟩ (fun H locs hTx _ hk hS => ?_)
  have hY := Sys.tx hY hJ hTx hk
  exact W.iret (v := (zX6_empty (Ω 6)).1) hx hb hr (fun t ht hW => ⟨⟨(zX6_empty (Ω 6)).1, oS Ω 6 (zX6_empty (Ω 6)).2, rfl, ⟨rfl, rfl⟩, by dsimp only; rw [ht]; exact hY⟩, hS.F ht⟩) hS.2.2 dX7_clearText_7
set_option maxHeartbeats 4000000 in
set_option maxRecDepth 100000 in
theorem kX7_clearText {p : Program} {l : Launch} {e : Env} {R : Room} {s : State} {m : MethodId} {args : Array Value} {below : List Frame} {meth : Method} {c : Code} {H : Heap} {locs : List Loc} {cells slots : Nat} {Q : State → Prop} {cc : ByteArray} {nL : Nat} {Ts : List Cond} {own : String} {index pc : Nat} {ls : Array Slot} {rest : List Value} {D : va_G} {y : Y3} {ob : Nat → Nat} {AD : Nat → Nat → Nat} {Ω : Og} {A0 : Nat → Prop} {H0 : Heap} (hF : CallFix p m c cc nL s args Ts own) (cw : CallW R s args own RX7 index yX7_clearText cX7_clearText 1 (some .int) wsX7_clearText ({ frames := 1, cells := 0, slots := 0, locals := 21 } : Room) 0 0 0) (hC : CK D y s) (hY : SysH D y ob AD Ω H) (hJ : sysJ ob AD) (hOk : okO Ω) (hS : va_S A0 H0 H locs) (hA : ∀ q, (sysA ob AD) q → A0 q) (hsz : ls.size = nL) (hW : (rest.map fun v => v.category).sum ≤ 8) (hdg : decode cc pc = .ok (.invokevirtual index, 3)) (hf : cells ≤ R.cells ∧ slots ≤ R.slots)
    (k : ∀ (H1 : Heap) (locs1 : List Loc), SysH D y ob AD (zX7_clearText Ω).2 H1 → H.size ≤ H1.size → (∀ q : Nat, q < H.size → ¬ (sysA ob AD) q → H1[q]? = H[q]?) → va_S A0 H0 H1 locs1 → W p l e R s m args below meth c H1 locs1 cells slots Q (F0 m (pc + 3) ls (.int ((zX7_clearText Ω).1) :: rest))) : W p l e R s m args below meth c H locs cells slots Q (F0 m pc ls (.ref (ob 0) :: rest)) := by
  refine va_calli (va_runV (As := []) (rest := rest) hF (mX7_clearText l D y ob AD Ω) cw ⟨fun a U g mk q => by obtain ⟨q0, q1, q2, q3, q4⟩ := q; exact ⟨q0, q1.call g mk a, q2, q3, q4⟩, va_recv hC.1 hY.1 (ci := 7) (q0 := 0) rfl rfl, fun U hU hW => ⟨rfl, hC.warm hW, by rw [hU]; exact hY, hJ, hOk⟩⟩ rfl rfl hsz rfl (lv_room hW) hdg ⟨hf.1, hf.2⟩) hS (fun q _ h => hA q h) hA (fun r u t H1 locs1 ht hvm hp hB hz1 hk1 hS1 => ?_)
  obtain ⟨hp1, hp2⟩ := hp
  subst hp1; subst hp2
  rw [ht] at hB
  exact k H1 locs1 hB hz1 hk1 hS1
def zX7_fault (Ω : Og) (x1 : Int32) : Int32 × Og := ((zX2_ofFault ((zX2_playText (zonT Ω)).2) x1), (zX2_playText (zonT Ω)).2)
theorem iwX7_fault_X7 : ∀ w ∈ wsX70, w ∈ wsX7_fault := fun _ h => List.mem_cons_of_mem _ (List.mem_append_left _ (List.mem_append_left _ (List.mem_append_left _ (List.mem_append_left _ (List.mem_append_left _ (List.mem_append_right _ h))))))
theorem hdX7_fault : yX7_fault.cls = RX7 ∧ yX7_fault.cls ≠ "java/lang/invoke/MethodHandle" ∧ yX7_fault.cls ≠ "java/lang/invoke/VarHandle" ∧ (parseMethodDescriptor yX7_fault.desc).map (fun d => d.parameters.length) = some 1 := by decide +kernel
set_option maxHeartbeats 4000000 in
set_option maxRecDepth 100000 in
theorem mX7_fault (l : Launch) (D : va_G) (y : Y3) (ob : Nat → Nat) (AD : Nat → Nat → Nat) (Ω : Og) (x1 : Int32) : Met l yX7_fault wsX7_fault ({ frames := 7, cells := 0, slots := 0, locals := 160 } : Room) (va_Pc [.ref (ob 0), .int x1] (fun U => CK D y U ∧ SysH D y ob AD Ω U.heap ∧ sysJ ob AD ∧ okO Ω)) (va_Qi (fun (r : Int32) (u : Og) => r = (zX7_fault Ω x1).1 ∧ u = (zX7_fault Ω x1).2) (fun u t => SysH D y ob AD u t.heap) (sysA ob AD)) 0 0 (sysA ob AD) := by
  refine Met.ofW (cc := cX7_fault) (maxL := 2) (ret := (some .int)) (by decide) rfl ?_
  intro p e s m args below meth c s₁ B hml hv
  obtain ⟨rfl, hC, hY, hJ, hOk⟩ := hv
  have hx := B.exec
  have hb := B.bytes
  have hr := B.returns
  have hts := atoms_spec (ws := wsX7_fault) B.pre
  have hown : s.vm.findClass RX7 = some m.cls := findClass_of_methodNamed B.named
  have hlocks := B.notSynchronized
  have hF := (⟨hx, hb, hml, hown, hts⟩ : CallFix p m c cX7_fault 2 s _ wsX7_fault RX7)
  have hS : va_S (sysA ob AD) s.heap s.heap [] := va_S.rf
  have hl := lv_entry ([.ref (ob 0), .int x1]) (n := 2) (Nat.le_of_ble_eq_true rfl)
  rw [lg_entry_eq]
  generalize (lg_sl ([.ref (ob 0), .int x1]) ++ List.replicate (2 - (lg_sl ([.ref (ob 0), .int x1])).length) Slot.unset).toArray = ls at hl ⊢
  have hl : lv_has ls 2 [(0, .ref (ob 0)), (1, .int x1)] := hl
  refine lv_aload_n hx hb dX7_fault_0 rfl (lv_at hl 0 rfl) ?_
  refine va_get (D := D) (ci := 7) (v := .ref (ob 7)) (C := RX7) (T := TX7) (N := 7) hx hb hts iwX7_fault_X7 hown hC.1 hY.1 0 rfl rfl 6 (by decide) (hts (.fieldLink RX7 54 "MealLockers" "player" "LMealLockers$Player;") (List.mem_of_getElem? (i := 1) rfl)) (fun _ h9 => h9) rfl dX7_fault_1 ?_
  refine lv_aload_n hx hb dX7_fault_4 rfl (lv_at hl 0 rfl) ?_
  refine kX7_onTrial hF (cwV 0 hts gX7_fault_X7_onTrial rfl rfl rfl hdX7_onTrial ⟨Nat.le_of_ble_eq_true rfl, Nat.le_of_ble_eq_true rfl⟩) hC hY hJ hOk hS (fun _ h => h) hl.1 (Nat.le_of_ble_eq_true rfl) dX7_fault_5 ⟨Nat.zero_le _, Nat.zero_le _⟩ (fun H locs hY _ _ hS => ?_)
  have hOk : okO (zonT Ω) := okO_st hOk (by decide) _
  refine kX2_playText hF (cwV 1 hts gX7_fault_X2_playText rfl rfl rfl hdX2_playText ⟨Nat.le_of_ble_eq_true rfl, Nat.le_of_ble_eq_true rfl⟩) hC (Sys.plh hY) hJ.pl hOk.1 hS sysA_pl hl.1 (Nat.le_of_ble_eq_true rfl) dX7_fault_8 ⟨Nat.zero_le _, Nat.zero_le _⟩ (fun H locs hP _ hk hS => ?_)
  have hY := Sys.pl hY hJ hP (play_e _).2.2 (play_e _).1 hk
  have hOk := okO_play hOk
  refine lv_pop hx hb dX7_fault_11 rfl ?_
  refine lv_aload_n hx hb dX7_fault_12 rfl (lv_at hl 0 rfl) ?_
  refine va_get (D := D) (ci := 7) (v := .ref (ob 7)) (C := RX7) (T := TX7) (N := 7) hx hb hts iwX7_fault_X7 hown hC.1 hY.1 0 rfl rfl 6 (by decide) (hts (.fieldLink RX7 54 "MealLockers" "player" "LMealLockers$Player;") (List.mem_of_getElem? (i := 1) rfl)) (fun _ h9 => h9) rfl dX7_fault_13 ?_
  refine lv_iload_n hx hb dX7_fault_16 rfl (lv_at hl 1 rfl) ?_
  refine kX2_ofFault hF (cwV 1 hts gX7_fault_X2_ofFault rfl rfl rfl hdX2_ofFault ⟨Nat.le_of_ble_eq_true rfl, Nat.le_of_ble_eq_true rfl⟩) hC hY.2.2.2.2.2.1 hl.1 (Nat.le_of_ble_eq_true rfl) dX7_fault_17 ⟨Nat.zero_le _, Nat.zero_le _⟩ ?_
  exact W.iret (v := (zX2_ofFault ((zX2_playText (zonT Ω)).2) x1)) hx hb hr (fun t ht hW => ⟨⟨(zX2_ofFault ((zX2_playText (zonT Ω)).2) x1), (zX2_playText (zonT Ω)).2, rfl, ⟨rfl, rfl⟩, by dsimp only; rw [ht]; exact hY⟩, hS.F ht⟩) hS.2.2 dX7_fault_20
set_option maxHeartbeats 4000000 in
set_option maxRecDepth 100000 in
theorem kX7_fault {p : Program} {l : Launch} {e : Env} {R : Room} {s : State} {m : MethodId} {args : Array Value} {below : List Frame} {meth : Method} {c : Code} {H : Heap} {locs : List Loc} {cells slots : Nat} {Q : State → Prop} {cc : ByteArray} {nL : Nat} {Ts : List Cond} {own : String} {index pc : Nat} {ls : Array Slot} {rest : List Value} {D : va_G} {y : Y3} {ob : Nat → Nat} {AD : Nat → Nat → Nat} {Ω : Og} {x1 : Int32} {A0 : Nat → Prop} {H0 : Heap} (hF : CallFix p m c cc nL s args Ts own) (cw : CallW R s args own RX7 index yX7_fault cX7_fault 2 (some .int) wsX7_fault ({ frames := 7, cells := 0, slots := 0, locals := 160 } : Room) 0 0 1) (hC : CK D y s) (hY : SysH D y ob AD Ω H) (hJ : sysJ ob AD) (hOk : okO Ω) (hS : va_S A0 H0 H locs) (hA : ∀ q, (sysA ob AD) q → A0 q) (hsz : ls.size = nL) (hW : (rest.map fun v => v.category).sum ≤ 8) (hdg : decode cc pc = .ok (.invokevirtual index, 3)) (hf : cells ≤ R.cells ∧ slots ≤ R.slots)
    (k : ∀ (H1 : Heap) (locs1 : List Loc), SysH D y ob AD (zX7_fault Ω x1).2 H1 → H.size ≤ H1.size → (∀ q : Nat, q < H.size → ¬ (sysA ob AD) q → H1[q]? = H[q]?) → va_S A0 H0 H1 locs1 → W p l e R s m args below meth c H1 locs1 cells slots Q (F0 m (pc + 3) ls (.int ((zX7_fault Ω x1).1) :: rest))) : W p l e R s m args below meth c H locs cells slots Q (F0 m pc ls (.int x1 :: .ref (ob 0) :: rest)) := by
  refine va_calli (va_runV (As := [.int x1]) (rest := rest) hF (mX7_fault l D y ob AD Ω x1) cw ⟨fun a U g mk q => by obtain ⟨q0, q1, q2, q3, q4⟩ := q; exact ⟨q0, q1.call g mk a, q2, q3, q4⟩, va_recv hC.1 hY.1 (ci := 7) (q0 := 0) rfl rfl, fun U hU hW => ⟨rfl, hC.warm hW, by rw [hU]; exact hY, hJ, hOk⟩⟩ rfl rfl hsz rfl (lv_room hW) hdg ⟨hf.1, hf.2⟩) hS (fun q _ h => hA q h) hA (fun r u t H1 locs1 ht hvm hp hB hz1 hk1 hS1 => ?_)
  obtain ⟨hp1, hp2⟩ := hp
  subst hp1; subst hp2
  rw [ht] at hB
  exact k H1 locs1 hB hz1 hk1 hS1
def zX7_play (Ω : Og) : Int32 × Og := ((zX7_settle ((zX2_playText (zonT Ω)).2) ((zX2_playText (zonT Ω)).1)).1, (zX7_settle ((zX2_playText (zonT Ω)).2) ((zX2_playText (zonT Ω)).1)).2)
theorem iwX7_play_X7 : ∀ w ∈ wsX70, w ∈ wsX7_play := fun _ h => List.mem_cons_of_mem _ (List.mem_append_left _ (List.mem_append_left _ (List.mem_append_left _ (List.mem_append_left _ (List.mem_append_left _ (List.mem_append_left _ (List.mem_append_right _ h)))))))
theorem hdX7_play : yX7_play.cls = RX7 ∧ yX7_play.cls ≠ "java/lang/invoke/MethodHandle" ∧ yX7_play.cls ≠ "java/lang/invoke/VarHandle" ∧ (parseMethodDescriptor yX7_play.desc).map (fun d => d.parameters.length) = some 0 := by decide +kernel
set_option maxHeartbeats 4000000 in
set_option maxRecDepth 100000 in
theorem mX7_play (l : Launch) (D : va_G) (y : Y3) (ob : Nat → Nat) (AD : Nat → Nat → Nat) (Ω : Og) : Met l yX7_play wsX7_play ({ frames := 7, cells := 0, slots := 0, locals := 160 } : Room) (va_Pc [.ref (ob 0)] (fun U => CK D y U ∧ SysH D y ob AD Ω U.heap ∧ sysJ ob AD ∧ okO Ω)) (va_Qi (fun (r : Int32) (u : Og) => r = (zX7_play Ω).1 ∧ u = (zX7_play Ω).2) (fun u t => SysH D y ob AD u t.heap) (sysA ob AD)) 0 0 (sysA ob AD) := by
  refine Met.ofW (cc := cX7_play) (maxL := 1) (ret := (some .int)) (by decide) rfl ?_
  intro p e s m args below meth c s₁ B hml hv
  obtain ⟨rfl, hC, hY, hJ, hOk⟩ := hv
  have hx := B.exec
  have hb := B.bytes
  have hr := B.returns
  have hts := atoms_spec (ws := wsX7_play) B.pre
  have hown : s.vm.findClass RX7 = some m.cls := findClass_of_methodNamed B.named
  have hlocks := B.notSynchronized
  have hF := (⟨hx, hb, hml, hown, hts⟩ : CallFix p m c cX7_play 1 s _ wsX7_play RX7)
  have hS : va_S (sysA ob AD) s.heap s.heap [] := va_S.rf
  have hl := lv_entry ([.ref (ob 0)]) (n := 1) (Nat.le_of_ble_eq_true rfl)
  rw [lg_entry_eq]
  generalize (lg_sl ([.ref (ob 0)]) ++ List.replicate (1 - (lg_sl ([.ref (ob 0)])).length) Slot.unset).toArray = ls at hl ⊢
  have hl : lv_has ls 1 [(0, .ref (ob 0))] := hl
  refine lv_aload_n hx hb dX7_play_0 rfl (lv_at hl 0 rfl) ?_
  refine lv_aload_n hx hb dX7_play_1 rfl (lv_at hl 0 rfl) ?_
  refine va_get (D := D) (ci := 7) (v := .ref (ob 7)) (C := RX7) (T := TX7) (N := 7) hx hb hts iwX7_play_X7 hown hC.1 hY.1 0 rfl rfl 6 (by decide) (hts (.fieldLink RX7 54 "MealLockers" "player" "LMealLockers$Player;") (List.mem_of_getElem? (i := 1) rfl)) (fun _ h9 => h9) rfl dX7_play_2 ?_
  refine lv_aload_n hx hb dX7_play_5 rfl (lv_at hl 0 rfl) ?_
  refine kX7_onTrial hF (cwV 0 hts gX7_play_X7_onTrial rfl rfl rfl hdX7_onTrial ⟨Nat.le_of_ble_eq_true rfl, Nat.le_of_ble_eq_true rfl⟩) hC hY hJ hOk hS (fun _ h => h) hl.1 (Nat.le_of_ble_eq_true rfl) dX7_play_6 ⟨Nat.zero_le _, Nat.zero_le _⟩ (fun H locs hY _ _ hS => ?_)
  have hOk : okO (zonT Ω) := okO_st hOk (by decide) _
  refine kX2_playText hF (cwV 1 hts gX7_play_X2_playText rfl rfl rfl hdX2_playText ⟨Nat.le_of_ble_eq_true rfl, Nat.le_of_ble_eq_true rfl⟩) hC (Sys.plh hY) hJ.pl hOk.1 hS sysA_pl hl.1 (Nat.le_of_ble_eq_true rfl) dX7_play_9 ⟨Nat.zero_le _, Nat.zero_le _⟩ (fun H locs hP _ hk hS => ?_)
  have hY := Sys.pl hY hJ hP (play_e _).2.2 (play_e _).1 hk
  have hOk := okO_play hOk
  refine kX7_settle hF (cwV 1 hts gX7_play_X7_settle rfl rfl rfl hdX7_settle ⟨Nat.le_of_ble_eq_true rfl, Nat.le_of_ble_eq_true rfl⟩) hC hY hJ hOk hS (fun _ h => h) hl.1 (Nat.le_of_ble_eq_true rfl) dX7_play_12 ⟨Nat.zero_le _, Nat.zero_le _⟩ (fun H locs hY _ _ hS => ?_)
  exact W.iret (v := (zX7_settle ((zX2_playText (zonT Ω)).2) ((zX2_playText (zonT Ω)).1)).1) hx hb hr (fun t ht hW => ⟨⟨(zX7_settle ((zX2_playText (zonT Ω)).2) ((zX2_playText (zonT Ω)).1)).1, (zX7_settle ((zX2_playText (zonT Ω)).2) ((zX2_playText (zonT Ω)).1)).2, rfl, ⟨rfl, rfl⟩, by dsimp only; rw [ht]; exact hY⟩, hS.F ht⟩) hS.2.2 dX7_play_15
set_option maxHeartbeats 4000000 in
set_option maxRecDepth 100000 in
theorem kX7_play {p : Program} {l : Launch} {e : Env} {R : Room} {s : State} {m : MethodId} {args : Array Value} {below : List Frame} {meth : Method} {c : Code} {H : Heap} {locs : List Loc} {cells slots : Nat} {Q : State → Prop} {cc : ByteArray} {nL : Nat} {Ts : List Cond} {own : String} {index pc : Nat} {ls : Array Slot} {rest : List Value} {D : va_G} {y : Y3} {ob : Nat → Nat} {AD : Nat → Nat → Nat} {Ω : Og} {A0 : Nat → Prop} {H0 : Heap} (hF : CallFix p m c cc nL s args Ts own) (cw : CallW R s args own RX7 index yX7_play cX7_play 1 (some .int) wsX7_play ({ frames := 7, cells := 0, slots := 0, locals := 160 } : Room) 0 0 0) (hC : CK D y s) (hY : SysH D y ob AD Ω H) (hJ : sysJ ob AD) (hOk : okO Ω) (hS : va_S A0 H0 H locs) (hA : ∀ q, (sysA ob AD) q → A0 q) (hsz : ls.size = nL) (hW : (rest.map fun v => v.category).sum ≤ 8) (hdg : decode cc pc = .ok (.invokevirtual index, 3)) (hf : cells ≤ R.cells ∧ slots ≤ R.slots)
    (k : ∀ (H1 : Heap) (locs1 : List Loc), SysH D y ob AD (zX7_play Ω).2 H1 → H.size ≤ H1.size → (∀ q : Nat, q < H.size → ¬ (sysA ob AD) q → H1[q]? = H[q]?) → va_S A0 H0 H1 locs1 → W p l e R s m args below meth c H1 locs1 cells slots Q (F0 m (pc + 3) ls (.int ((zX7_play Ω).1) :: rest))) : W p l e R s m args below meth c H locs cells slots Q (F0 m pc ls (.ref (ob 0) :: rest)) := by
  refine va_calli (va_runV (As := []) (rest := rest) hF (mX7_play l D y ob AD Ω) cw ⟨fun a U g mk q => by obtain ⟨q0, q1, q2, q3, q4⟩ := q; exact ⟨q0, q1.call g mk a, q2, q3, q4⟩, va_recv hC.1 hY.1 (ci := 7) (q0 := 0) rfl rfl, fun U hU hW => ⟨rfl, hC.warm hW, by rw [hU]; exact hY, hJ, hOk⟩⟩ rfl rfl hsz rfl (lv_room hW) hdg ⟨hf.1, hf.2⟩) hS (fun q _ h => hA q h) hA (fun r u t H1 locs1 ht hvm hp hB hz1 hk1 hS1 => ?_)
  obtain ⟨hp1, hp2⟩ := hp
  subst hp1; subst hp2
  rw [ht] at hB
  exact k H1 locs1 hB hz1 hk1 hS1
