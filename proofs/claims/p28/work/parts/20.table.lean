def zX5_size (rows : Int32) : Int32 := rows
theorem iwX5_size_X5 : ∀ w ∈ wsX50, w ∈ wsX5_size := fun _ h => List.mem_cons_of_mem _ (List.mem_append_right _ h)
theorem hdX5_size : yX5_size.cls = RX5 ∧ yX5_size.cls ≠ "java/lang/invoke/MethodHandle" ∧ yX5_size.cls ≠ "java/lang/invoke/VarHandle" ∧ (parseMethodDescriptor yX5_size.desc).map (fun d => d.parameters.length) = some 0 := by decide +kernel
set_option maxHeartbeats 4000000 in
set_option maxRecDepth 100000 in
theorem mX5_size (l : Launch) (D : va_G) (y : Y3) (a b : Nat) (lim col : Int32) (n : Nat) (rows : Int32) (f : Nat → Int32) (hn : n < 2 ^ 31) : Met l yX5_size wsX5_size ({ frames := 0, cells := 0, slots := 0, locals := 0 } : Room) (va_Pc [.ref a] (fun U => CK D y U ∧ va_P D vwCl (tbW y.1 a b lim col n rows f) U.heap)) (vp_Si (fun r => r = zX5_size rows)) 0 0 (fun _ => False) := by
  refine Met.ofW (cc := cX5_size) (maxL := 1) (ret := (some .int)) (by decide) rfl ?_
  intro p e s m args below meth c s₁ B hml hv
  obtain ⟨rfl, hC, hP⟩ := hv
  have hx := B.exec
  have hb := B.bytes
  have hr := B.returns
  have hts := atoms_spec (ws := wsX5_size) B.pre
  have hown : s.vm.findClass RX5 = some m.cls := findClass_of_methodNamed B.named
  have hlocks := B.notSynchronized
  have hF := (⟨hx, hb, hml, hown, hts⟩ : CallFix p m c cX5_size 1 s _ wsX5_size RX5)
  have hl := lv_entry ([.ref a]) (n := 1) (Nat.le_of_ble_eq_true rfl)
  rw [lg_entry_eq]
  generalize (lg_sl ([.ref a]) ++ List.replicate (1 - (lg_sl ([.ref a])).length) Slot.unset).toArray = ls at hl ⊢
  have hl : lv_has ls 1 [(0, .ref a)] := hl
  refine lv_aload_n hx hb dX5_size_0 rfl (lv_at hl 0 rfl) ?_
  refine va_get (D := D) (ci := 5) (v := .int rows) (C := RX5) (T := TX5) (N := 4) hx hb hts iwX5_size_X5 hown hC.1 hP 0 rfl rfl 3 (by decide) (hts (.fieldLink RX5 26 "MealLockers$Table" "rows" "I") (List.mem_of_getElem? (i := 1) rfl)) (fun _ h9 => h9) rfl dX5_size_1 ?_
  exact W.iret (v := rows) hx hb hr (fun t ht hW => ⟨rows, rfl, rfl, ht⟩) (fun q hq => absurd hq List.not_mem_nil) dX5_size_4
set_option maxHeartbeats 4000000 in
set_option maxRecDepth 100000 in
theorem kX5_size {p : Program} {l : Launch} {e : Env} {R : Room} {s : State} {m : MethodId} {args : Array Value} {below : List Frame} {meth : Method} {c : Code} {H : Heap} {locs : List Loc} {cells slots : Nat} {Q : State → Prop} {cc : ByteArray} {nL : Nat} {Ts : List Cond} {own : String} {index pc : Nat} {ls : Array Slot} {rest : List Value} {D : va_G} {y : Y3} {a b : Nat} {lim col : Int32} {n : Nat} {rows : Int32} {f : Nat → Int32} {hn : n < 2 ^ 31} (hF : CallFix p m c cc nL s args Ts own) (cw : CallW R s args own RX5 index yX5_size cX5_size 1 (some .int) wsX5_size ({ frames := 0, cells := 0, slots := 0, locals := 0 } : Room) 0 0 0) (hC : CK D y s) (hP : va_P D vwCl (tbW y.1 a b lim col n rows f) H) (hsz : ls.size = nL) (hW : (rest.map fun v => v.category).sum ≤ 8) (hdg : decode cc pc = .ok (.invokevirtual index, 3)) (hf : cells ≤ R.cells ∧ slots ≤ R.slots)
    (k : W p l e R s m args below meth c H locs cells slots Q (F0 m (pc + 3) ls (.int (zX5_size rows) :: rest))) : W p l e R s m args below meth c H locs cells slots Q (F0 m pc ls (.ref a :: rest)) := by
  refine vp_callSi (W.runV (As := []) (rest := rest) hF (mX5_size l D y a b lim col n rows f hn) cw ⟨fun a U g mk q => by obtain ⟨q0, q1, q2⟩ := q; exact ⟨q0, q1.call g mk a, q2⟩, va_recv hC.1 hP (ci := 5) (q0 := 0) rfl rfl, fun U hU hW => ⟨rfl, hC.warm hW, by rw [hU]; exact hP⟩⟩ rfl rfl hsz rfl (lv_room hW) hdg ⟨hf.1, hf.2⟩) (fun r hr => ?_)
  subst hr
  exact k
def zX5_has (rows x1 : Int32) : Int32 := if x1 < 0 then 0
  else (if rows ≤ x1 then 0
    else 1)
theorem iwX5_has_X5 : ∀ w ∈ wsX50, w ∈ wsX5_has := fun _ h => List.mem_cons_of_mem _ (List.mem_append_right _ h)
theorem hdX5_has : yX5_has.cls = RX5 ∧ yX5_has.cls ≠ "java/lang/invoke/MethodHandle" ∧ yX5_has.cls ≠ "java/lang/invoke/VarHandle" ∧ (parseMethodDescriptor yX5_has.desc).map (fun d => d.parameters.length) = some 1 := by decide +kernel
set_option maxHeartbeats 4000000 in
set_option maxRecDepth 100000 in
theorem mX5_has (l : Launch) (D : va_G) (y : Y3) (a b : Nat) (lim col : Int32) (n : Nat) (rows : Int32) (f : Nat → Int32) (hn : n < 2 ^ 31) (x1 : Int32) : Met l yX5_has wsX5_has ({ frames := 0, cells := 0, slots := 0, locals := 0 } : Room) (va_Pc [.ref a, .int x1] (fun U => CK D y U ∧ va_P D vwCl (tbW y.1 a b lim col n rows f) U.heap)) (vp_Si (fun r => r = zX5_has rows x1)) 0 0 (fun _ => False) := by
  refine Met.ofW (cc := cX5_has) (maxL := 2) (ret := (some .boolean)) (by decide) rfl ?_
  intro p e s m args below meth c s₁ B hml hv
  obtain ⟨rfl, hC, hP⟩ := hv
  have hx := B.exec
  have hb := B.bytes
  have hr := B.returns
  have hts := atoms_spec (ws := wsX5_has) B.pre
  have hown : s.vm.findClass RX5 = some m.cls := findClass_of_methodNamed B.named
  have hlocks := B.notSynchronized
  have hF := (⟨hx, hb, hml, hown, hts⟩ : CallFix p m c cX5_has 2 s _ wsX5_has RX5)
  have hl := lv_entry ([.ref a, .int x1]) (n := 2) (Nat.le_of_ble_eq_true rfl)
  rw [lg_entry_eq]
  generalize (lg_sl ([.ref a, .int x1]) ++ List.replicate (2 - (lg_sl ([.ref a, .int x1])).length) Slot.unset).toArray = ls at hl ⊢
  have hl : lv_has ls 2 [(0, .ref a), (1, .int x1)] := hl
  refine lv_iload_n hx hb dX5_has_0 rfl (lv_at hl 1 rfl) ?_
  refine lv_if_lt (tgt := 16) hx hb dX5_has_1 (by decide) (fun c_1 => ?_) (fun c_1 => ?_)
  · refine lv_iconst (v := 0) hx hb dX5_has_16 (by decide) ?_
    exact W.zret (v := 0) hx hb hr (by decide) (fun t ht hW => ⟨0, rfl, (by unfold zX5_has; rw [if_pos c_1]), ht⟩) (fun q hq => absurd hq List.not_mem_nil) dX5_has_17
  · refine lv_iload_n hx hb dX5_has_4 rfl (lv_at hl 1 rfl) ?_
    refine lv_aload_n hx hb dX5_has_5 rfl (lv_at hl 0 rfl) ?_
    refine va_get (D := D) (ci := 5) (v := .int rows) (C := RX5) (T := TX5) (N := 4) hx hb hts iwX5_has_X5 hown hC.1 hP 0 rfl rfl 3 (by decide) (hts (.fieldLink RX5 26 "MealLockers$Table" "rows" "I") (List.mem_of_getElem? (i := 1) rfl)) (fun _ h9 => h9) rfl dX5_has_6 ?_
    refine lv_icmp_ge (tgt := 16) hx hb dX5_has_9 (by decide) (fun c_2 => ?_) (fun c_2 => ?_)
    · refine lv_iconst (v := 0) hx hb dX5_has_16 (by decide) ?_
      exact W.zret (v := 0) hx hb hr (by decide) (fun t ht hW => ⟨0, rfl, (by unfold zX5_has; rw [if_neg c_1, if_pos c_2]), ht⟩) (fun q hq => absurd hq List.not_mem_nil) dX5_has_17
    · refine lv_iconst (v := 1) hx hb dX5_has_12 (by decide) ?_
      refine lv_goto (tgt := 17) hx hb dX5_has_13 (by decide) ?_
      exact W.zret (v := 1) hx hb hr (by decide) (fun t ht hW => ⟨1, rfl, (by unfold zX5_has; rw [if_neg c_1, if_neg c_2]), ht⟩) (fun q hq => absurd hq List.not_mem_nil) dX5_has_17
set_option maxHeartbeats 4000000 in
set_option maxRecDepth 100000 in
theorem kX5_has {p : Program} {l : Launch} {e : Env} {R : Room} {s : State} {m : MethodId} {args : Array Value} {below : List Frame} {meth : Method} {c : Code} {H : Heap} {locs : List Loc} {cells slots : Nat} {Q : State → Prop} {cc : ByteArray} {nL : Nat} {Ts : List Cond} {own : String} {index pc : Nat} {ls : Array Slot} {rest : List Value} {D : va_G} {y : Y3} {a b : Nat} {lim col : Int32} {n : Nat} {rows : Int32} {f : Nat → Int32} {hn : n < 2 ^ 31} {x1 : Int32} (hF : CallFix p m c cc nL s args Ts own) (cw : CallW R s args own RX5 index yX5_has cX5_has 2 (some .boolean) wsX5_has ({ frames := 0, cells := 0, slots := 0, locals := 0 } : Room) 0 0 1) (hC : CK D y s) (hP : va_P D vwCl (tbW y.1 a b lim col n rows f) H) (hsz : ls.size = nL) (hW : (rest.map fun v => v.category).sum ≤ 8) (hdg : decode cc pc = .ok (.invokevirtual index, 3)) (hf : cells ≤ R.cells ∧ slots ≤ R.slots)
    (k : W p l e R s m args below meth c H locs cells slots Q (F0 m (pc + 3) ls (.int (zX5_has rows x1) :: rest))) : W p l e R s m args below meth c H locs cells slots Q (F0 m pc ls (.int x1 :: .ref a :: rest)) := by
  refine vp_callSi (W.runV (As := [.int x1]) (rest := rest) hF (mX5_has l D y a b lim col n rows f hn x1) cw ⟨fun a U g mk q => by obtain ⟨q0, q1, q2⟩ := q; exact ⟨q0, q1.call g mk a, q2⟩, va_recv hC.1 hP (ci := 5) (q0 := 0) rfl rfl, fun U hU hW => ⟨rfl, hC.warm hW, by rw [hU]; exact hP⟩⟩ rfl rfl hsz rfl (lv_room hW) hdg ⟨hf.1, hf.2⟩) (fun r hr => ?_)
  subst hr
  exact k
def zX5_isFull (lim rows : Int32) : Int32 := if rows < lim then 0
  else 1
theorem iwX5_isFull_X5 : ∀ w ∈ wsX50, w ∈ wsX5_isFull := fun _ h => List.mem_cons_of_mem _ (List.mem_append_right _ h)
theorem hdX5_isFull : yX5_isFull.cls = RX5 ∧ yX5_isFull.cls ≠ "java/lang/invoke/MethodHandle" ∧ yX5_isFull.cls ≠ "java/lang/invoke/VarHandle" ∧ (parseMethodDescriptor yX5_isFull.desc).map (fun d => d.parameters.length) = some 0 := by decide +kernel
set_option maxHeartbeats 4000000 in
set_option maxRecDepth 100000 in
theorem mX5_isFull (l : Launch) (D : va_G) (y : Y3) (a b : Nat) (lim col : Int32) (n : Nat) (rows : Int32) (f : Nat → Int32) (hn : n < 2 ^ 31) : Met l yX5_isFull wsX5_isFull ({ frames := 0, cells := 0, slots := 0, locals := 0 } : Room) (va_Pc [.ref a] (fun U => CK D y U ∧ va_P D vwCl (tbW y.1 a b lim col n rows f) U.heap)) (vp_Si (fun r => r = zX5_isFull lim rows)) 0 0 (fun _ => False) := by
  refine Met.ofW (cc := cX5_isFull) (maxL := 1) (ret := (some .boolean)) (by decide) rfl ?_
  intro p e s m args below meth c s₁ B hml hv
  obtain ⟨rfl, hC, hP⟩ := hv
  have hx := B.exec
  have hb := B.bytes
  have hr := B.returns
  have hts := atoms_spec (ws := wsX5_isFull) B.pre
  have hown : s.vm.findClass RX5 = some m.cls := findClass_of_methodNamed B.named
  have hlocks := B.notSynchronized
  have hF := (⟨hx, hb, hml, hown, hts⟩ : CallFix p m c cX5_isFull 1 s _ wsX5_isFull RX5)
  have hl := lv_entry ([.ref a]) (n := 1) (Nat.le_of_ble_eq_true rfl)
  rw [lg_entry_eq]
  generalize (lg_sl ([.ref a]) ++ List.replicate (1 - (lg_sl ([.ref a])).length) Slot.unset).toArray = ls at hl ⊢
  have hl : lv_has ls 1 [(0, .ref a)] := hl
  refine lv_aload_n hx hb dX5_isFull_0 rfl (lv_at hl 0 rfl) ?_
  refine va_get (D := D) (ci := 5) (v := .int rows) (C := RX5) (T := TX5) (N := 4) hx hb hts iwX5_isFull_X5 hown hC.1 hP 0 rfl rfl 3 (by decide) (hts (.fieldLink RX5 26 "MealLockers$Table" "rows" "I") (List.mem_of_getElem? (i := 1) rfl)) (fun _ h9 => h9) rfl dX5_isFull_1 ?_
  refine lv_aload_n hx hb dX5_isFull_4 rfl (lv_at hl 0 rfl) ?_
  refine va_get (D := D) (ci := 5) (v := .int lim) (C := RX5) (T := TX5) (N := 4) hx hb hts iwX5_isFull_X5 hown hC.1 hP 0 rfl rfl 0 (by decide) (hts (.fieldLink RX5 7 "MealLockers$Table" "limit" "I") (List.mem_of_getElem? (i := 2) rfl)) (fun _ h9 => h9) rfl dX5_isFull_5 ?_
  refine lv_icmp_lt (tgt := 15) hx hb dX5_isFull_8 (by decide) (fun c_1 => ?_) (fun c_1 => ?_)
  · refine lv_iconst (v := 0) hx hb dX5_isFull_15 (by decide) ?_
    exact W.zret (v := 0) hx hb hr (by decide) (fun t ht hW => ⟨0, rfl, (by unfold zX5_isFull; rw [if_pos c_1]), ht⟩) (fun q hq => absurd hq List.not_mem_nil) dX5_isFull_16
  · refine lv_iconst (v := 1) hx hb dX5_isFull_11 (by decide) ?_
    refine lv_goto (tgt := 16) hx hb dX5_isFull_12 (by decide) ?_
    exact W.zret (v := 1) hx hb hr (by decide) (fun t ht hW => ⟨1, rfl, (by unfold zX5_isFull; rw [if_neg c_1]), ht⟩) (fun q hq => absurd hq List.not_mem_nil) dX5_isFull_16
set_option maxHeartbeats 4000000 in
set_option maxRecDepth 100000 in
theorem kX5_isFull {p : Program} {l : Launch} {e : Env} {R : Room} {s : State} {m : MethodId} {args : Array Value} {below : List Frame} {meth : Method} {c : Code} {H : Heap} {locs : List Loc} {cells slots : Nat} {Q : State → Prop} {cc : ByteArray} {nL : Nat} {Ts : List Cond} {own : String} {index pc : Nat} {ls : Array Slot} {rest : List Value} {D : va_G} {y : Y3} {a b : Nat} {lim col : Int32} {n : Nat} {rows : Int32} {f : Nat → Int32} {hn : n < 2 ^ 31} (hF : CallFix p m c cc nL s args Ts own) (cw : CallW R s args own RX5 index yX5_isFull cX5_isFull 1 (some .boolean) wsX5_isFull ({ frames := 0, cells := 0, slots := 0, locals := 0 } : Room) 0 0 0) (hC : CK D y s) (hP : va_P D vwCl (tbW y.1 a b lim col n rows f) H) (hsz : ls.size = nL) (hW : (rest.map fun v => v.category).sum ≤ 8) (hdg : decode cc pc = .ok (.invokevirtual index, 3)) (hf : cells ≤ R.cells ∧ slots ≤ R.slots)
    (k : W p l e R s m args below meth c H locs cells slots Q (F0 m (pc + 3) ls (.int (zX5_isFull lim rows) :: rest))) : W p l e R s m args below meth c H locs cells slots Q (F0 m pc ls (.ref a :: rest)) := by
  refine vp_callSi (W.runV (As := []) (rest := rest) hF (mX5_isFull l D y a b lim col n rows f hn) cw ⟨fun a U g mk q => by obtain ⟨q0, q1, q2⟩ := q; exact ⟨q0, q1.call g mk a, q2⟩, va_recv hC.1 hP (ci := 5) (q0 := 0) rfl rfl, fun U hU hW => ⟨rfl, hC.warm hW, by rw [hU]; exact hP⟩⟩ rfl rfl hsz rfl (lv_room hW) hdg ⟨hf.1, hf.2⟩) (fun r hr => ?_)
  subst hr
  exact k
def zX5_at (col : Int32) (n : Nat) (f : Nat → Int32) (x1 x2 : Int32) : Int32 := if ((x1 * col) + x2) < 0 then 0
  else (if Int32.ofNat n ≤ ((x1 * col) + x2) then 0
    else (f ((x1 * col) + x2).toNatClampNeg))
theorem iwX5_at_X5 : ∀ w ∈ wsX50, w ∈ wsX5_at := fun _ h => List.mem_cons_of_mem _ (List.mem_append_right _ h)
theorem hdX5_at : yX5_at.cls = RX5 ∧ yX5_at.cls ≠ "java/lang/invoke/MethodHandle" ∧ yX5_at.cls ≠ "java/lang/invoke/VarHandle" ∧ (parseMethodDescriptor yX5_at.desc).map (fun d => d.parameters.length) = some 2 := by decide +kernel
set_option maxHeartbeats 4000000 in
set_option maxRecDepth 100000 in
theorem mX5_at (l : Launch) (D : va_G) (y : Y3) (a b : Nat) (lim col : Int32) (n : Nat) (rows : Int32) (f : Nat → Int32) (hn : n < 2 ^ 31) (x1 : Int32) (x2 : Int32) : Met l yX5_at wsX5_at ({ frames := 0, cells := 0, slots := 0, locals := 0 } : Room) (va_Pc [.ref a, .int x1, .int x2] (fun U => CK D y U ∧ va_P D vwCl (tbW y.1 a b lim col n rows f) U.heap)) (vp_Si (fun r => r = zX5_at col n f x1 x2)) 0 0 (fun _ => False) := by
  refine Met.ofW (cc := cX5_at) (maxL := 4) (ret := (some .int)) (by decide) rfl ?_
  intro p e s m args below meth c s₁ B hml hv
  obtain ⟨rfl, hC, hP⟩ := hv
  have hx := B.exec
  have hb := B.bytes
  have hr := B.returns
  have hts := atoms_spec (ws := wsX5_at) B.pre
  have hown : s.vm.findClass RX5 = some m.cls := findClass_of_methodNamed B.named
  have hlocks := B.notSynchronized
  have hF := (⟨hx, hb, hml, hown, hts⟩ : CallFix p m c cX5_at 4 s _ wsX5_at RX5)
  have hl := lv_entry ([.ref a, .int x1, .int x2]) (n := 4) (Nat.le_of_ble_eq_true rfl)
  rw [lg_entry_eq]
  generalize (lg_sl ([.ref a, .int x1, .int x2]) ++ List.replicate (4 - (lg_sl ([.ref a, .int x1, .int x2])).length) Slot.unset).toArray = ls at hl ⊢
  have hl : lv_has ls 4 [(0, .ref a), (1, .int x1), (2, .int x2)] := hl
  refine lv_iload_n hx hb dX5_at_0 rfl (lv_at hl 1 rfl) ?_
  refine lv_aload_n hx hb dX5_at_1 rfl (lv_at hl 0 rfl) ?_
  refine va_get (D := D) (ci := 5) (v := .int col) (C := RX5) (T := TX5) (N := 4) hx hb hts iwX5_at_X5 hown hC.1 hP 0 rfl rfl 1 (by decide) (hts (.fieldLink RX5 13 "MealLockers$Table" "columns" "I") (List.mem_of_getElem? (i := 1) rfl)) (fun _ h9 => h9) rfl dX5_at_2 ?_
  refine lv_imul hx hb dX5_at_5 ?_
  refine lv_iload_n hx hb dX5_at_6 rfl (lv_at hl 2 rfl) ?_
  refine lv_iadd hx hb dX5_at_7 ?_
  refine lv_istore_n (lv' := [(3, .int ((x1 * col) + x2)), (0, .ref a), (1, .int x1), (2, .int x2)]) hx hb dX5_at_8 rfl hl (by decide) rfl (fun ls hl => ?_)
  refine lv_iload_n hx hb dX5_at_9 rfl (lv_at hl 0 rfl) ?_
  refine lv_if_lt (tgt := 31) hx hb dX5_at_10 (by decide) (fun c_1 => ?_) (fun c_1 => ?_)
  · refine lv_iconst (v := 0) hx hb dX5_at_31 (by decide) ?_
    exact W.iret (v := 0) hx hb hr (fun t ht hW => ⟨0, rfl, (by unfold zX5_at; rw [if_pos c_1]), ht⟩) (fun q hq => absurd hq List.not_mem_nil) dX5_at_32
  · refine lv_iload_n hx hb dX5_at_13 rfl (lv_at hl 0 rfl) ?_
    refine lv_aload_n hx hb dX5_at_14 rfl (lv_at hl 1 rfl) ?_
    refine va_get (D := D) (ci := 5) (v := .ref b) (C := RX5) (T := TX5) (N := 4) hx hb hts iwX5_at_X5 hown hC.1 hP 0 rfl rfl 2 (by decide) (hts (.fieldLink RX5 22 "MealLockers$Table" "cells" "[I") (List.mem_of_getElem? (i := 2) rfl)) (fun _ h9 => h9) rfl dX5_at_15 ?_
    refine va_alen (v := Int32.ofNat n) hx hb hC.1 hP 1 0 rfl rfl rfl dX5_at_18 ?_
    refine lv_icmp_ge (tgt := 31) hx hb dX5_at_19 (by decide) (fun c_2 => ?_) (fun c_2 => ?_)
    · refine lv_iconst (v := 0) hx hb dX5_at_31 (by decide) ?_
      exact W.iret (v := 0) hx hb hr (fun t ht hW => ⟨0, rfl, (by unfold zX5_at; rw [if_neg c_1, if_pos c_2]), ht⟩) (fun q hq => absurd hq List.not_mem_nil) dX5_at_32
    · refine lv_aload_n hx hb dX5_at_22 rfl (lv_at hl 1 rfl) ?_
      refine va_get (D := D) (ci := 5) (v := .ref b) (C := RX5) (T := TX5) (N := 4) hx hb hts iwX5_at_X5 hown hC.1 hP 0 rfl rfl 2 (by decide) (hts (.fieldLink RX5 22 "MealLockers$Table" "cells" "[I") (List.mem_of_getElem? (i := 2) rfl)) (fun _ h9 => h9) rfl dX5_at_23 ?_
      refine lv_iload_n hx hb dX5_at_26 rfl (lv_at hl 0 rfl) ?_
      refine va_iald hx hb hC.1 hP 1 0 rfl rfl (zin_of c_1 c_2 hn) dX5_at_27 ?_
      refine lv_goto (tgt := 32) hx hb dX5_at_28 (by decide) ?_
      exact W.iret (v := (f ((x1 * col) + x2).toNatClampNeg)) hx hb hr (fun t ht hW => ⟨(f ((x1 * col) + x2).toNatClampNeg), rfl, (by unfold zX5_at; rw [if_neg c_1, if_neg c_2]), ht⟩) (fun q hq => absurd hq List.not_mem_nil) dX5_at_32
set_option maxHeartbeats 4000000 in
set_option maxRecDepth 100000 in
theorem kX5_at {p : Program} {l : Launch} {e : Env} {R : Room} {s : State} {m : MethodId} {args : Array Value} {below : List Frame} {meth : Method} {c : Code} {H : Heap} {locs : List Loc} {cells slots : Nat} {Q : State → Prop} {cc : ByteArray} {nL : Nat} {Ts : List Cond} {own : String} {index pc : Nat} {ls : Array Slot} {rest : List Value} {D : va_G} {y : Y3} {a b : Nat} {lim col : Int32} {n : Nat} {rows : Int32} {f : Nat → Int32} {hn : n < 2 ^ 31} {x1 : Int32} {x2 : Int32} (hF : CallFix p m c cc nL s args Ts own) (cw : CallW R s args own RX5 index yX5_at cX5_at 4 (some .int) wsX5_at ({ frames := 0, cells := 0, slots := 0, locals := 0 } : Room) 0 0 2) (hC : CK D y s) (hP : va_P D vwCl (tbW y.1 a b lim col n rows f) H) (hsz : ls.size = nL) (hW : (rest.map fun v => v.category).sum ≤ 8) (hdg : decode cc pc = .ok (.invokevirtual index, 3)) (hf : cells ≤ R.cells ∧ slots ≤ R.slots)
    (k : W p l e R s m args below meth c H locs cells slots Q (F0 m (pc + 3) ls (.int (zX5_at col n f x1 x2) :: rest))) : W p l e R s m args below meth c H locs cells slots Q (F0 m pc ls (.int x2 :: .int x1 :: .ref a :: rest)) := by
  refine vp_callSi (W.runV (As := [.int x1, .int x2]) (rest := rest) hF (mX5_at l D y a b lim col n rows f hn x1 x2) cw ⟨fun a U g mk q => by obtain ⟨q0, q1, q2⟩ := q; exact ⟨q0, q1.call g mk a, q2⟩, va_recv hC.1 hP (ci := 5) (q0 := 0) rfl rfl, fun U hU hW => ⟨rfl, hC.warm hW, by rw [hU]; exact hP⟩⟩ rfl rfl hsz rfl (lv_room hW) hdg ⟨hf.1, hf.2⟩) (fun r hr => ?_)
  subst hr
  exact k
def zX5_store (col : Int32) (n : Nat) (f : Nat → Int32) (x1 x2 x3 : Int32) : Nat → Int32 := if ((x1 * col) + x2) < 0 then f
  else (if Int32.ofNat n ≤ ((x1 * col) + x2) then f
    else upd f ((x1 * col) + x2).toNatClampNeg x3)
theorem iwX5_store_X5 : ∀ w ∈ wsX50, w ∈ wsX5_store := fun _ h => List.mem_cons_of_mem _ (List.mem_append_right _ h)
theorem hdX5_store : yX5_store.cls = RX5 ∧ yX5_store.cls ≠ "java/lang/invoke/MethodHandle" ∧ yX5_store.cls ≠ "java/lang/invoke/VarHandle" ∧ (parseMethodDescriptor yX5_store.desc).map (fun d => d.parameters.length) = some 3 := by decide +kernel
set_option maxHeartbeats 4000000 in
set_option maxRecDepth 100000 in
theorem mX5_store (l : Launch) (D : va_G) (y : Y3) (a b : Nat) (lim col : Int32) (n : Nat) (rows : Int32) (f : Nat → Int32) (hn : n < 2 ^ 31) (x1 : Int32) (x2 : Int32) (x3 : Int32) : Met l yX5_store wsX5_store ({ frames := 0, cells := 0, slots := 0, locals := 0 } : Room) (va_Pc [.ref a, .int x1, .int x2, .int x3] (fun U => CK D y U ∧ va_P D vwCl (tbW y.1 a b lim col n rows f) U.heap ∧ a ≠ b)) (va_Qv (fun u : Nat → Int32 => u = zX5_store col n f x1 x2 x3) (fun u t => va_P D vwCl (tbW y.1 a b lim col n rows u) t.heap) (tbA a b)) 0 0 (tbA a b) := by
  refine Met.ofW (cc := cX5_store) (maxL := 5) (ret := none) (by decide) rfl ?_
  intro p e s m args below meth c s₁ B hml hv
  obtain ⟨rfl, hC, hP, hne⟩ := hv
  have hx := B.exec
  have hb := B.bytes
  have hr := B.returns
  have hts := atoms_spec (ws := wsX5_store) B.pre
  have hown : s.vm.findClass RX5 = some m.cls := findClass_of_methodNamed B.named
  have hlocks := B.notSynchronized
  have hF := (⟨hx, hb, hml, hown, hts⟩ : CallFix p m c cX5_store 5 s _ wsX5_store RX5)
  have hS : va_S (tbA a b) s.heap s.heap [] := va_S.rf
  have hl := lv_entry ([.ref a, .int x1, .int x2, .int x3]) (n := 5) (Nat.le_of_ble_eq_true rfl)
  rw [lg_entry_eq]
  generalize (lg_sl ([.ref a, .int x1, .int x2, .int x3]) ++ List.replicate (5 - (lg_sl ([.ref a, .int x1, .int x2, .int x3])).length) Slot.unset).toArray = ls at hl ⊢
  have hl : lv_has ls 5 [(0, .ref a), (1, .int x1), (2, .int x2), (3, .int x3)] := hl
  have hD : va_D (tbA a b) (tbW y.1 a b lim col n rows f) := tb_D hne
  refine lv_iload_n hx hb dX5_store_0 rfl (lv_at hl 1 rfl) ?_
  refine lv_aload_n hx hb dX5_store_1 rfl (lv_at hl 0 rfl) ?_
  refine va_get (D := D) (ci := 5) (v := .int col) (C := RX5) (T := TX5) (N := 4) hx hb hts iwX5_store_X5 hown hC.1 hP 0 rfl rfl 1 (by decide) (hts (.fieldLink RX5 13 "MealLockers$Table" "columns" "I") (List.mem_of_getElem? (i := 1) rfl)) (fun _ h9 => h9) rfl dX5_store_2 ?_
  refine lv_imul hx hb dX5_store_5 ?_
  refine lv_iload_n hx hb dX5_store_6 rfl (lv_at hl 2 rfl) ?_
  refine lv_iadd hx hb dX5_store_7 ?_
  refine lv_istore (lv' := [(4, .int ((x1 * col) + x2)), (0, .ref a), (1, .int x1), (2, .int x2), (3, .int x3)]) hx hb dX5_store_8 hl (by decide) rfl (fun ls hl => ?_)
  refine lv_iload hx hb dX5_store_10 (lv_at hl 0 rfl) ?_
  refine lv_if_lt (tgt := 33) hx hb dX5_store_12 (by decide) (fun c_1 => ?_) (fun c_1 => ?_)
  · exact W.vret hx hb hr (fun t ht hW => ⟨⟨f, rfl, (by unfold zX5_store; rw [if_pos c_1]), by dsimp only; rw [ht]; exact hP⟩, hS.F ht⟩) hS.2.2 dX5_store_33
  · refine lv_iload hx hb dX5_store_15 (lv_at hl 0 rfl) ?_
    refine lv_aload_n hx hb dX5_store_17 rfl (lv_at hl 1 rfl) ?_
    refine va_get (D := D) (ci := 5) (v := .ref b) (C := RX5) (T := TX5) (N := 4) hx hb hts iwX5_store_X5 hown hC.1 hP 0 rfl rfl 2 (by decide) (hts (.fieldLink RX5 22 "MealLockers$Table" "cells" "[I") (List.mem_of_getElem? (i := 2) rfl)) (fun _ h9 => h9) rfl dX5_store_18 ?_
    refine va_alen (v := Int32.ofNat n) hx hb hC.1 hP 1 0 rfl rfl rfl dX5_store_21 ?_
    refine lv_icmp_ge (tgt := 33) hx hb dX5_store_22 (by decide) (fun c_2 => ?_) (fun c_2 => ?_)
    · exact W.vret hx hb hr (fun t ht hW => ⟨⟨f, rfl, (by unfold zX5_store; rw [if_neg c_1, if_pos c_2]), by dsimp only; rw [ht]; exact hP⟩, hS.F ht⟩) hS.2.2 dX5_store_33
    · refine lv_aload_n hx hb dX5_store_25 rfl (lv_at hl 1 rfl) ?_
      refine va_get (D := D) (ci := 5) (v := .ref b) (C := RX5) (T := TX5) (N := 4) hx hb hts iwX5_store_X5 hown hC.1 hP 0 rfl rfl 2 (by decide) (hts (.fieldLink RX5 22 "MealLockers$Table" "cells" "[I") (List.mem_of_getElem? (i := 2) rfl)) (fun _ h9 => h9) rfl dX5_store_26 ?_
      refine lv_iload hx hb dX5_store_29 (lv_at hl 0 rfl) ?_
      refine lv_iload_n hx hb dX5_store_31 rfl (lv_at hl 4 rfl) ?_
      refine va_iast hx hb hC.1 hP hD hS 1 0 rfl rfl (zin_of c_1 c_2 hn) dX5_store_32 (fun H locs hP hD hS => ?_)
      have hP : va_P D vwCl (tbW y.1 a b lim col n rows (upd f ((x1 * col) + x2).toNatClampNeg x3)) H := hP
      exact W.vret hx hb hr (fun t ht hW => ⟨⟨upd f ((x1 * col) + x2).toNatClampNeg x3, rfl, (by unfold zX5_store; rw [if_neg c_1, if_neg c_2]), by dsimp only; rw [ht]; exact hP⟩, hS.F ht⟩) hS.2.2 dX5_store_33
set_option maxHeartbeats 4000000 in
set_option maxRecDepth 100000 in
theorem kX5_store {p : Program} {l : Launch} {e : Env} {R : Room} {s : State} {m : MethodId} {args : Array Value} {below : List Frame} {meth : Method} {c : Code} {H : Heap} {locs : List Loc} {cells slots : Nat} {Q : State → Prop} {cc : ByteArray} {nL : Nat} {Ts : List Cond} {own : String} {index pc : Nat} {ls : Array Slot} {rest : List Value} {D : va_G} {y : Y3} {a b : Nat} {lim col : Int32} {n : Nat} {rows : Int32} {f : Nat → Int32} {hn : n < 2 ^ 31} {x1 : Int32} {x2 : Int32} {x3 : Int32} {A0 : Nat → Prop} {H0 : Heap} (hF : CallFix p m c cc nL s args Ts own) (cw : CallW R s args own RX5 index yX5_store cX5_store 5 none wsX5_store ({ frames := 0, cells := 0, slots := 0, locals := 0 } : Room) 0 0 3) (hC : CK D y s) (hP : va_P D vwCl (tbW y.1 a b lim col n rows f) H) (hne : a ≠ b) (hS : va_S A0 H0 H locs) (hA : ∀ q, (tbA a b) q → A0 q) (hsz : ls.size = nL) (hW : (rest.map fun v => v.category).sum ≤ 8) (hdg : decode cc pc = .ok (.invokevirtual index, 3)) (hf : cells ≤ R.cells ∧ slots ≤ R.slots)
    (k : ∀ (H1 : Heap) (locs1 : List Loc), va_P D vwCl (tbW y.1 a b lim col n rows (zX5_store col n f x1 x2 x3)) H1 → H.size ≤ H1.size → (∀ q : Nat, q < H.size → ¬ (tbA a b) q → H1[q]? = H[q]?) → va_S A0 H0 H1 locs1 → W p l e R s m args below meth c H1 locs1 cells slots Q (F0 m (pc + 3) ls (rest))) : W p l e R s m args below meth c H locs cells slots Q (F0 m pc ls (.int x3 :: .int x2 :: .int x1 :: .ref a :: rest)) := by
  refine va_callv (va_runV (As := [.int x1, .int x2, .int x3]) (rest := rest) hF (mX5_store l D y a b lim col n rows f hn x1 x2 x3) cw ⟨fun a U g mk q => by obtain ⟨q0, q1, q2, q3⟩ := q; exact ⟨q0, q1.call g mk a, q2, q3⟩, va_recv hC.1 hP (ci := 5) (q0 := 0) rfl rfl, fun U hU hW => ⟨rfl, hC.warm hW, by rw [hU]; exact hP, hne⟩⟩ rfl rfl hsz rfl (lv_room hW) hdg ⟨hf.1, hf.2⟩) hS (fun q _ h => hA q h) hA (fun u t H1 locs1 ht hvm hp hB hz1 hk1 hS1 => ?_)
  subst hp
  rw [ht] at hB
  exact k H1 locs1 hB hz1 hk1 hS1
def zX5_addRow (lim rows : Int32) : Int32 × Int32 := (((rows + 1) - 1), (rows + 1))
theorem iwX5_addRow_X5 : ∀ w ∈ wsX50, w ∈ wsX5_addRow := fun _ h => List.mem_cons_of_mem _ (List.mem_append_right _ h)
theorem hdX5_addRow : yX5_addRow.cls = RX5 ∧ yX5_addRow.cls ≠ "java/lang/invoke/MethodHandle" ∧ yX5_addRow.cls ≠ "java/lang/invoke/VarHandle" ∧ (parseMethodDescriptor yX5_addRow.desc).map (fun d => d.parameters.length) = some 0 := by decide +kernel
set_option maxHeartbeats 4000000 in
set_option maxRecDepth 100000 in
theorem mX5_addRow (l : Launch) (D : va_G) (y : Y3) (a b : Nat) (lim col : Int32) (n : Nat) (rows : Int32) (f : Nat → Int32) (hn : n < 2 ^ 31) : Met l yX5_addRow wsX5_addRow ({ frames := 0, cells := 0, slots := 0, locals := 0 } : Room) (va_Pc [.ref a] (fun U => CK D y U ∧ va_P D vwCl (tbW y.1 a b lim col n rows f) U.heap ∧ a ≠ b)) (va_Qi (fun (r u : Int32) => r = (zX5_addRow lim rows).1 ∧ u = (zX5_addRow lim rows).2) (fun u t => va_P D vwCl (tbW y.1 a b lim col n u f) t.heap) (tbA a b)) 0 0 (tbA a b) := by
  refine Met.ofW (cc := cX5_addRow) (maxL := 1) (ret := (some .int)) (by decide) rfl ?_
  intro p e s m args below meth c s₁ B hml hv
  obtain ⟨rfl, hC, hP, hne⟩ := hv
  have hx := B.exec
  have hb := B.bytes
  have hr := B.returns
  have hts := atoms_spec (ws := wsX5_addRow) B.pre
  have hown : s.vm.findClass RX5 = some m.cls := findClass_of_methodNamed B.named
  have hlocks := B.notSynchronized
  have hF := (⟨hx, hb, hml, hown, hts⟩ : CallFix p m c cX5_addRow 1 s _ wsX5_addRow RX5)
  have hS : va_S (tbA a b) s.heap s.heap [] := va_S.rf
  have hl := lv_entry ([.ref a]) (n := 1) (Nat.le_of_ble_eq_true rfl)
  rw [lg_entry_eq]
  generalize (lg_sl ([.ref a]) ++ List.replicate (1 - (lg_sl ([.ref a])).length) Slot.unset).toArray = ls at hl ⊢
  have hl : lv_has ls 1 [(0, .ref a)] := hl
  have hD : va_D (tbA a b) (tbW y.1 a b lim col n rows f) := tb_D hne
  refine lv_aload_n hx hb dX5_addRow_0 rfl (lv_at hl 0 rfl) ?_
  refine lv_dup hx hb dX5_addRow_1 rfl ?_
  refine va_get (D := D) (ci := 5) (v := .int rows) (C := RX5) (T := TX5) (N := 4) hx hb hts iwX5_addRow_X5 hown hC.1 hP 0 rfl rfl 3 (by decide) (hts (.fieldLink RX5 26 "MealLockers$Table" "rows" "I") (List.mem_of_getElem? (i := 1) rfl)) (fun _ h9 => h9) rfl dX5_addRow_2 ?_
  refine lv_iconst (v := 1) hx hb dX5_addRow_5 (by decide) ?_
  refine lv_iadd hx hb dX5_addRow_6 ?_
  refine va_put (D := D) (ci := 5) (v := .int (rows + 1)) (ty := .int) (C := RX5) (T := TX5) (N := 4) hx hb hts iwX5_addRow_X5 tyX5 tyX5_ok nmX5 hown hC.1 hP hD hS 0 rfl rfl 3 (by decide) (hts (.fieldLink RX5 26 "MealLockers$Table" "rows" "I") (List.mem_of_getElem? (i := 1) rfl)) (fun _ h9 => h9) rfl (by decide +kernel) rfl rfl (Nat.le_of_ble_eq_true rfl) dX5_addRow_7 (fun H locs hP hD hS => ?_)
  have hP : va_P D vwCl (tbW y.1 a b lim col n (rows + 1) f) H := hP
  have hD : va_D (tbA a b) (tbW y.1 a b lim col n (rows + 1) f) := tb_D hne
  refine lv_aload_n hx hb dX5_addRow_10 rfl (lv_at hl 0 rfl) ?_
  refine va_get (D := D) (ci := 5) (v := .int (rows + 1)) (C := RX5) (T := TX5) (N := 4) hx hb hts iwX5_addRow_X5 hown hC.1 hP 0 rfl rfl 3 (by decide) (hts (.fieldLink RX5 26 "MealLockers$Table" "rows" "I") (List.mem_of_getElem? (i := 1) rfl)) (fun _ h9 => h9) rfl dX5_addRow_11 ?_
  refine lv_iconst (v := 1) hx hb dX5_addRow_14 (by decide) ?_
  refine lv_isub hx hb dX5_addRow_15 ?_
  exact W.iret (v := ((rows + 1) - 1)) hx hb hr (fun t ht hW => ⟨⟨((rows + 1) - 1), (rows + 1), rfl, ⟨rfl, rfl⟩, by dsimp only; rw [ht]; exact hP⟩, hS.F ht⟩) hS.2.2 dX5_addRow_16
set_option maxHeartbeats 4000000 in
set_option maxRecDepth 100000 in
theorem kX5_addRow {p : Program} {l : Launch} {e : Env} {R : Room} {s : State} {m : MethodId} {args : Array Value} {below : List Frame} {meth : Method} {c : Code} {H : Heap} {locs : List Loc} {cells slots : Nat} {Q : State → Prop} {cc : ByteArray} {nL : Nat} {Ts : List Cond} {own : String} {index pc : Nat} {ls : Array Slot} {rest : List Value} {D : va_G} {y : Y3} {a b : Nat} {lim col : Int32} {n : Nat} {rows : Int32} {f : Nat → Int32} {hn : n < 2 ^ 31} {A0 : Nat → Prop} {H0 : Heap} (hF : CallFix p m c cc nL s args Ts own) (cw : CallW R s args own RX5 index yX5_addRow cX5_addRow 1 (some .int) wsX5_addRow ({ frames := 0, cells := 0, slots := 0, locals := 0 } : Room) 0 0 0) (hC : CK D y s) (hP : va_P D vwCl (tbW y.1 a b lim col n rows f) H) (hne : a ≠ b) (hS : va_S A0 H0 H locs) (hA : ∀ q, (tbA a b) q → A0 q) (hsz : ls.size = nL) (hW : (rest.map fun v => v.category).sum ≤ 8) (hdg : decode cc pc = .ok (.invokevirtual index, 3)) (hf : cells ≤ R.cells ∧ slots ≤ R.slots)
    (k : ∀ (H1 : Heap) (locs1 : List Loc), va_P D vwCl (tbW y.1 a b lim col n (zX5_addRow lim rows).2 f) H1 → H.size ≤ H1.size → (∀ q : Nat, q < H.size → ¬ (tbA a b) q → H1[q]? = H[q]?) → va_S A0 H0 H1 locs1 → W p l e R s m args below meth c H1 locs1 cells slots Q (F0 m (pc + 3) ls (.int ((zX5_addRow lim rows).1) :: rest))) : W p l e R s m args below meth c H locs cells slots Q (F0 m pc ls (.ref a :: rest)) := by
  refine va_calli (va_runV (As := []) (rest := rest) hF (mX5_addRow l D y a b lim col n rows f hn) cw ⟨fun a U g mk q => by obtain ⟨q0, q1, q2, q3⟩ := q; exact ⟨q0, q1.call g mk a, q2, q3⟩, va_recv hC.1 hP (ci := 5) (q0 := 0) rfl rfl, fun U hU hW => ⟨rfl, hC.warm hW, by rw [hU]; exact hP, hne⟩⟩ rfl rfl hsz rfl (lv_room hW) hdg ⟨hf.1, hf.2⟩) hS (fun q _ h => hA q h) hA (fun r u t H1 locs1 ht hvm hp hB hz1 hk1 hS1 => ?_)
  obtain ⟨hp1, hp2⟩ := hp
  subst hp1; subst hp2
  rw [ht] at hB
  exact k H1 locs1 hB hz1 hk1 hS1
def zX5_raise (col : Int32) (n : Nat) (f : Nat → Int32) (x1 x2 : Int32) : Nat → Int32 := zX5_store col n f x1 x2 ((zX5_at col n f x1 x2) + 1)
theorem hdX5_raise : yX5_raise.cls = RX5 ∧ yX5_raise.cls ≠ "java/lang/invoke/MethodHandle" ∧ yX5_raise.cls ≠ "java/lang/invoke/VarHandle" ∧ (parseMethodDescriptor yX5_raise.desc).map (fun d => d.parameters.length) = some 2 := by decide +kernel
set_option maxHeartbeats 4000000 in
set_option maxRecDepth 100000 in
theorem mX5_raise (l : Launch) (D : va_G) (y : Y3) (a b : Nat) (lim col : Int32) (n : Nat) (rows : Int32) (f : Nat → Int32) (hn : n < 2 ^ 31) (x1 : Int32) (x2 : Int32) : Met l yX5_raise wsX5_raise ({ frames := 1, cells := 0, slots := 0, locals := 24 } : Room) (va_Pc [.ref a, .int x1, .int x2] (fun U => CK D y U ∧ va_P D vwCl (tbW y.1 a b lim col n rows f) U.heap ∧ a ≠ b)) (va_Qv (fun u : Nat → Int32 => u = zX5_raise col n f x1 x2) (fun u t => va_P D vwCl (tbW y.1 a b lim col n rows u) t.heap) (tbA a b)) 0 0 (tbA a b) := by
  refine Met.ofW (cc := cX5_raise) (maxL := 3) (ret := none) (by decide) rfl ?_
  intro p e s m args below meth c s₁ B hml hv
  obtain ⟨rfl, hC, hP, hne⟩ := hv
  have hx := B.exec
  have hb := B.bytes
  have hr := B.returns
  have hts := atoms_spec (ws := wsX5_raise) B.pre
  have hown : s.vm.findClass RX5 = some m.cls := findClass_of_methodNamed B.named
  have hlocks := B.notSynchronized
  have hF := (⟨hx, hb, hml, hown, hts⟩ : CallFix p m c cX5_raise 3 s _ wsX5_raise RX5)
  have hS : va_S (tbA a b) s.heap s.heap [] := va_S.rf
  have hl := lv_entry ([.ref a, .int x1, .int x2]) (n := 3) (Nat.le_of_ble_eq_true rfl)
  rw [lg_entry_eq]
  generalize (lg_sl ([.ref a, .int x1, .int x2]) ++ List.replicate (3 - (lg_sl ([.ref a, .int x1, .int x2])).length) Slot.unset).toArray = ls at hl ⊢
  have hl : lv_has ls 3 [(0, .ref a), (1, .int x1), (2, .int x2)] := hl
  have hD : va_D (tbA a b) (tbW y.1 a b lim col n rows f) := tb_D hne
  refine lv_aload_n hx hb dX5_raise_0 rfl (lv_at hl 0 rfl) ?_
  refine lv_iload_n hx hb dX5_raise_1 rfl (lv_at hl 1 rfl) ?_
  refine lv_iload_n hx hb dX5_raise_2 rfl (lv_at hl 2 rfl) ?_
  refine lv_aload_n hx hb dX5_raise_3 rfl (lv_at hl 0 rfl) ?_
  refine lv_iload_n hx hb dX5_raise_4 rfl (lv_at hl 1 rfl) ?_
  refine lv_iload_n hx hb dX5_raise_5 rfl (lv_at hl 2 rfl) ?_
  refine kX5_at (x1 := x1) (x2 := x2) (hn := hn) hF (cwV 2 hts gX5_raise_X5_at rfl rfl rfl hdX5_at ⟨Nat.le_of_ble_eq_true rfl, Nat.le_of_ble_eq_true rfl⟩) hC hP hl.1 (Nat.le_of_ble_eq_true rfl) dX5_raise_6 ⟨Nat.zero_le _, Nat.zero_le _⟩ ?_
  refine lv_iconst (v := 1) hx hb dX5_raise_9 (by decide) ?_
  refine lv_iadd hx hb dX5_raise_10 ?_
  refine kX5_store (hn := hn) hF (cwV 3 hts gX5_raise_X5_store rfl rfl rfl hdX5_store ⟨Nat.le_of_ble_eq_true rfl, Nat.le_of_ble_eq_true rfl⟩) hC hP hne hS (fun _ h => h) hl.1 (Nat.le_of_ble_eq_true rfl) dX5_raise_11 ⟨Nat.zero_le _, Nat.zero_le _⟩ (fun H locs hP _ _ hS => ?_)
  exact W.vret hx hb hr (fun t ht hW => ⟨⟨zX5_store col n f x1 x2 ((zX5_at col n f x1 x2) + 1), rfl, rfl, by dsimp only; rw [ht]; exact hP⟩, hS.F ht⟩) hS.2.2 dX5_raise_14
set_option maxHeartbeats 4000000 in
set_option maxRecDepth 100000 in
theorem kX5_raise {p : Program} {l : Launch} {e : Env} {R : Room} {s : State} {m : MethodId} {args : Array Value} {below : List Frame} {meth : Method} {c : Code} {H : Heap} {locs : List Loc} {cells slots : Nat} {Q : State → Prop} {cc : ByteArray} {nL : Nat} {Ts : List Cond} {own : String} {index pc : Nat} {ls : Array Slot} {rest : List Value} {D : va_G} {y : Y3} {a b : Nat} {lim col : Int32} {n : Nat} {rows : Int32} {f : Nat → Int32} {hn : n < 2 ^ 31} {x1 : Int32} {x2 : Int32} {A0 : Nat → Prop} {H0 : Heap} (hF : CallFix p m c cc nL s args Ts own) (cw : CallW R s args own RX5 index yX5_raise cX5_raise 3 none wsX5_raise ({ frames := 1, cells := 0, slots := 0, locals := 24 } : Room) 0 0 2) (hC : CK D y s) (hP : va_P D vwCl (tbW y.1 a b lim col n rows f) H) (hne : a ≠ b) (hS : va_S A0 H0 H locs) (hA : ∀ q, (tbA a b) q → A0 q) (hsz : ls.size = nL) (hW : (rest.map fun v => v.category).sum ≤ 8) (hdg : decode cc pc = .ok (.invokevirtual index, 3)) (hf : cells ≤ R.cells ∧ slots ≤ R.slots)
    (k : ∀ (H1 : Heap) (locs1 : List Loc), va_P D vwCl (tbW y.1 a b lim col n rows (zX5_raise col n f x1 x2)) H1 → H.size ≤ H1.size → (∀ q : Nat, q < H.size → ¬ (tbA a b) q → H1[q]? = H[q]?) → va_S A0 H0 H1 locs1 → W p l e R s m args below meth c H1 locs1 cells slots Q (F0 m (pc + 3) ls (rest))) : W p l e R s m args below meth c H locs cells slots Q (F0 m pc ls (.int x2 :: .int x1 :: .ref a :: rest)) := by
  refine va_callv (va_runV (As := [.int x1, .int x2]) (rest := rest) hF (mX5_raise l D y a b lim col n rows f hn x1 x2) cw ⟨fun a U g mk q => by obtain ⟨q0, q1, q2, q3⟩ := q; exact ⟨q0, q1.call g mk a, q2, q3⟩, va_recv hC.1 hP (ci := 5) (q0 := 0) rfl rfl, fun U hU hW => ⟨rfl, hC.warm hW, by rw [hU]; exact hP, hne⟩⟩ rfl rfl hsz rfl (lv_room hW) hdg ⟨hf.1, hf.2⟩) hS (fun q _ h => hA q h) hA (fun u t H1 locs1 ht hvm hp hB hz1 hk1 hS1 => ?_)
  subst hp
  rw [ht] at hB
  exact k H1 locs1 hB hz1 hk1 hS1
theorem arrV_cong (cA : ClassId) (n : Nat) (f g : Nat → Value) (h : ∀ j, j < n → f j = g j) : arrV cA n f = arrV cA n g := by
  unfold arrV
  congr 1
  apply Array.ext
  · simp
  · intro i h1 h2
    simp at h1
    simp [h i h1]
theorem tb_cong {D : va_G} {cI : ClassId} {a b : Nat} {lim col : Int32} {n : Nat} {rows : Int32} {f g : Nat → Int32} {H : Heap} (h : va_P D vwCl (tbW cI a b lim col n rows f) H) (hfg : ∀ j, j < n → f j = g j) : va_P D vwCl (tbW cI a b lim col n rows g) H := by
  intro k q hk
  match k, hk with
  | 0, hk => cases hk; exact h 0 _ rfl
  | 1, hk =>
    cases hk
    have h1 := h 1 _ rfl
    show H[b]? = some (vp_cell cI (n, .inl g))
    rw [vp_cell_i, ← arrV_cong cI n (fun j => .int (f j)) (fun j => .int (g j)) (fun j hj => by rw [hfg j hj])]
    exact h1
  | k + 2, hk => simp [tbW] at hk
theorem tb2_kept {D : va_G} {cI : ClassId} {a b a2 b2 : Nat} {lim col : Int32} {n : Nat} {rows : Int32} {f : Nat → Int32} {H0 H : Heap} {locs : List Loc} (hS : va_S (tbA a b) H0 H locs) (h : va_P D vwCl (tbW cI a2 b2 lim col n rows f) H0) (hna : a2 ≠ a ∧ a2 ≠ b ∧ b2 ≠ a ∧ b2 ≠ b) : va_P D vwCl (tbW cI a2 b2 lim col n rows f) H :=
  va_P.kept h (fun k q hk => by
    have hl := (h k q hk).lt
    match k, hk with
    | 0, hk => cases hk; exact hS.2.1 _ hl (fun z => z.elim hna.1 hna.2.1)
    | 1, hk => cases hk; exact hS.2.1 _ hl (fun z => z.elim hna.2.2.1 hna.2.2.2)
    | k + 2, hk => simp [tbW] at hk)
theorem cpy_step (f f2 : Nat → Int32) (i k : Nat) : upd (fun k => if k < i then f2 k else f k) i (f2 i) k = (if k < i + 1 then f2 k else f k) := by
  unfold upd
  by_cases h : k = i
  · subst h; simp
  · rw [if_neg h]
    dsimp only
    by_cases h2 : k < i
    · rw [if_pos h2, if_pos (by omega)]
    · rw [if_neg h2, if_neg (by omega)]
theorem iwX5_copyFrom_X5 : ∀ w ∈ wsX50, w ∈ wsX5_copyFrom := fun _ h => List.mem_cons_of_mem _ (List.mem_append_right _ h)
theorem hdX5_copyFrom : yX5_copyFrom.cls = RX5 ∧ yX5_copyFrom.cls ≠ "java/lang/invoke/MethodHandle" ∧ yX5_copyFrom.cls ≠ "java/lang/invoke/VarHandle" ∧ (parseMethodDescriptor yX5_copyFrom.desc).map (fun d => d.parameters.length) = some 1 := by decide +kernel
set_option maxHeartbeats 4000000 in
set_option maxRecDepth 100000 in
theorem lpX5_copyFrom {p : Program} {l : Launch} {e : Env} {s : State} {m : MethodId} {args : Array Value} {below : List Frame} {meth : Method} {c : Code} {Q : State → Prop} {D : va_G} {y : Y3} {a b a2 b2 : Nat} {lim col : Int32} {n : Nat} {rows2 : Int32} {f f2 : Nat → Int32} (hx : p.tables.exec = Jvm.exec) (hb : c.code = cX5_copyFrom) (hml : c.maxLocals = 3) (hown : s.vm.findClass RX5 = some m.cls) (hts : ∀ w ∈ wsX5_copyFrom, w.before args s = true) (hC : CK D y s) (hn : n < 2 ^ 31) (hne : a ≠ b) (hna : a2 ≠ a ∧ a2 ≠ b ∧ b2 ≠ a ∧ b2 ≠ b) (hP20 : va_P D vwCl (tbW y.1 a2 b2 lim col n rows2 f2) s.heap)
    (K : ∀ (i : Nat) (H : Heap) (locs : List Loc) (ls : Array Slot), va_P D vwCl (tbW y.1 a b lim col n rows2 f2) H → va_S (tbA a b) s.heap H locs → lv_has ls 3 [(2, .int (nI i)), (0, .ref a), (1, .ref a2)] → W p l e (headSpec wsX5_copyFrom ({ frames := 0, cells := 0, slots := 0, locals := 0 } : Room)).room s m args below meth c H locs 0 0 Q (F0 m 46 ls [])) :
    ∀ (j i : Nat), i + j = n → ∀ (H : Heap) (locs : List Loc), va_P D vwCl (tbW y.1 a b lim col n rows2 (fun k => if k < i then f2 k else f k)) H → va_S (tbA a b) s.heap H locs → ∀ ls : Array Slot, lv_has ls 3 [(2, .int (nI i)), (0, .ref a), (1, .ref a2)] → W p l e (headSpec wsX5_copyFrom ({ frames := 0, cells := 0, slots := 0, locals := 0 } : Room)).room s m args below meth c H locs 0 0 Q (F0 m 10 ls []) := by
  have hF := (⟨hx, hb, hml, hown, hts⟩ : CallFix p m c cX5_copyFrom 3 s args wsX5_copyFrom RX5)
  intro j
  induction j with
  | zero =>
    intro i hin H locs hP hS ls hl
    have hP2 := tb2_kept hS hP20 hna
    have hD : va_D (tbA a b) (tbW y.1 a b lim col n rows2 (fun k => if k < i then f2 k else f k)) := tb_D hne
    refine lv_iload_n hx hb dX5_copyFrom_10 rfl (lv_at hl 0 rfl) ?_
    refine lv_aload_n hx hb dX5_copyFrom_11 rfl (lv_at hl 1 rfl) ?_
    refine va_get (D := D) (ci := 5) (v := .ref b) (C := RX5) (T := TX5) (N := 4) hx hb hts iwX5_copyFrom_X5 hown hC.1 hP 0 rfl rfl 2 (by decide) (hts (.fieldLink RX5 22 "MealLockers$Table" "cells" "[I") (List.mem_of_getElem? (i := 2) rfl)) (fun _ h9 => h9) rfl dX5_copyFrom_12 ?_
    refine va_alen (v := Int32.ofNat n) hx hb hC.1 hP 1 0 rfl rfl rfl dX5_copyFrom_15 ?_
    refine lv_icmp_ge (tgt := 46) hx hb dX5_copyFrom_16 (by decide) (fun _ => ?_) (fun c_1 => absurd (by rw [show i = n by omega]; exact nI_le (Nat.le_refl n) hn) c_1)
    exact K i H locs ls (tb_cong (g := f2) hP (fun k hk => by show (if k < i then f2 k else f k) = f2 k; rw [if_pos (by omega)])) hS (lv_sub hl [0, 1, 2] rfl)
  | succ j ih =>
    intro i hin H locs hP hS ls hl
    have hP2 := tb2_kept hS hP20 hna
    have hD : va_D (tbA a b) (tbW y.1 a b lim col n rows2 (fun k => if k < i then f2 k else f k)) := tb_D hne
    refine lv_iload_n hx hb dX5_copyFrom_10 rfl (lv_at hl 0 rfl) ?_
    refine lv_aload_n hx hb dX5_copyFrom_11 rfl (lv_at hl 1 rfl) ?_
    refine va_get (D := D) (ci := 5) (v := .ref b) (C := RX5) (T := TX5) (N := 4) hx hb hts iwX5_copyFrom_X5 hown hC.1 hP 0 rfl rfl 2 (by decide) (hts (.fieldLink RX5 22 "MealLockers$Table" "cells" "[I") (List.mem_of_getElem? (i := 2) rfl)) (fun _ h9 => h9) rfl dX5_copyFrom_12 ?_
    refine va_alen (v := Int32.ofNat n) hx hb hC.1 hP 1 0 rfl rfl rfl dX5_copyFrom_15 ?_
    refine lv_icmp_ge (tgt := 46) hx hb dX5_copyFrom_16 (by decide) (fun c_2 => absurd c_2 (nI_ge (by omega) hn)) (fun _ => ?_)
    refine lv_iload_n hx hb dX5_copyFrom_19 rfl (lv_at hl 0 rfl) ?_
    refine lv_aload_n hx hb dX5_copyFrom_20 rfl (lv_at hl 2 rfl) ?_
    refine va_get (D := D) (ci := 5) (v := .ref b2) (C := RX5) (T := TX5) (N := 4) hx hb hts iwX5_copyFrom_X5 hown hC.1 hP2 0 rfl rfl 2 (by decide) (hts (.fieldLink RX5 22 "MealLockers$Table" "cells" "[I") (List.mem_of_getElem? (i := 2) rfl)) (fun _ h9 => h9) rfl dX5_copyFrom_21 ?_
    refine va_alen (v := Int32.ofNat n) hx hb hC.1 hP2 1 0 rfl rfl rfl dX5_copyFrom_24 ?_
    refine lv_icmp_ge (tgt := 46) hx hb dX5_copyFrom_25 (by decide) (fun c_3 => absurd c_3 (nI_ge (by omega) hn)) (fun _ => ?_)
    refine lv_aload_n hx hb dX5_copyFrom_28 rfl (lv_at hl 1 rfl) ?_
    refine va_get (D := D) (ci := 5) (v := .ref b) (C := RX5) (T := TX5) (N := 4) hx hb hts iwX5_copyFrom_X5 hown hC.1 hP 0 rfl rfl 2 (by decide) (hts (.fieldLink RX5 22 "MealLockers$Table" "cells" "[I") (List.mem_of_getElem? (i := 2) rfl)) (fun _ h9 => h9) rfl dX5_copyFrom_29 ?_
    refine lv_iload_n hx hb dX5_copyFrom_32 rfl (lv_at hl 0 rfl) ?_
    refine lv_aload_n hx hb dX5_copyFrom_33 rfl (lv_at hl 2 rfl) ?_
    refine va_get (D := D) (ci := 5) (v := .ref b2) (C := RX5) (T := TX5) (N := 4) hx hb hts iwX5_copyFrom_X5 hown hC.1 hP2 0 rfl rfl 2 (by decide) (hts (.fieldLink RX5 22 "MealLockers$Table" "cells" "[I") (List.mem_of_getElem? (i := 2) rfl)) (fun _ h9 => h9) rfl dX5_copyFrom_34 ?_
    refine lv_iload_n hx hb dX5_copyFrom_37 rfl (lv_at hl 0 rfl) ?_
    refine va_iald hx hb hC.1 hP2 1 0 rfl rfl (vp_in_nI (show i < n by omega) hn) dX5_copyFrom_38 ?_
    refine va_iast hx hb hC.1 hP hD hS 1 0 rfl rfl (vp_in_nI (show i < n by omega) hn) dX5_copyFrom_39 (fun H1 locs1 hP1 hD1 hS1 => ?_)
    rw [nI_clamp (show i < 2 ^ 31 by omega)] at hP1
    have hP1 : va_P D vwCl (tbW y.1 a b lim col n rows2 (upd (fun k => if k < i then f2 k else f k) i (f2 i))) H1 := hP1
    have hP1 := tb_cong (g := fun k => if k < i + 1 then f2 k else f k) hP1 (fun k _ => cpy_step f f2 i k)
    refine lv_iinc (v := (nI (i + 1))) (lv' := [(2, .int (nI (i + 1))), (0, .ref a), (1, .ref a2)]) hx hb dX5_copyFrom_40 hl (k := 0) rfl (by rw [nI_succ]; rfl) (by decide) rfl (fun ls hl => ?_)
    refine lv_goto (tgt := 10) hx hb dX5_copyFrom_43 (by decide) ?_
    exact ih (i + 1) (by omega) H1 locs1 hP1 hS1 ls (lv_sub hl [0, 1, 2] rfl)
set_option maxHeartbeats 4000000 in
set_option maxRecDepth 100000 in
theorem mX5_copyFrom (l : Launch) (D : va_G) (y : Y3) (a b a2 b2 : Nat) (lim col : Int32) (n : Nat) (rows rows2 : Int32) (f f2 : Nat → Int32) (hn : n < 2 ^ 31) : Met l yX5_copyFrom wsX5_copyFrom ({ frames := 0, cells := 0, slots := 0, locals := 0 } : Room) (va_Pc [.ref a, .ref a2] (fun U => CK D y U ∧ va_P D vwCl (tbW y.1 a b lim col n rows f) U.heap ∧ va_P D vwCl (tbW y.1 a2 b2 lim col n rows2 f2) U.heap ∧ a ≠ b ∧ a2 ≠ a ∧ a2 ≠ b ∧ b2 ≠ a ∧ b2 ≠ b)) (va_Qv (fun _ : Unit => True) (fun u t => va_P D vwCl (tbW y.1 a b lim col n rows2 f2) t.heap) (tbA a b)) 0 0 (tbA a b) := by
  refine Met.ofW (cc := cX5_copyFrom) (maxL := 3) (ret := none) (by decide) rfl ?_
  intro p e s m args below meth c s₁ B hml hv
  obtain ⟨rfl, hC, hP, hP2, hne, hna⟩ := hv
  have hP20 := hP2
  have hx := B.exec
  have hb := B.bytes
  have hr := B.returns
  have hts := atoms_spec (ws := wsX5_copyFrom) B.pre
  have hown : s.vm.findClass RX5 = some m.cls := findClass_of_methodNamed B.named
  have hlocks := B.notSynchronized
  have hF := (⟨hx, hb, hml, hown, hts⟩ : CallFix p m c cX5_copyFrom 3 s _ wsX5_copyFrom RX5)
  have hS : va_S (tbA a b) s.heap s.heap [] := va_S.rf
  have hl := lv_entry ([.ref a, .ref a2]) (n := 3) (Nat.le_of_ble_eq_true rfl)
  rw [lg_entry_eq]
  generalize (lg_sl ([.ref a, .ref a2]) ++ List.replicate (3 - (lg_sl ([.ref a, .ref a2])).length) Slot.unset).toArray = ls at hl ⊢
  have hl : lv_has ls 3 [(0, .ref a), (1, .ref a2)] := hl
  have hD : va_D (tbA a b) (tbW y.1 a b lim col n rows f) := tb_D hne
  refine lv_aload_n hx hb dX5_copyFrom_0 rfl (lv_at hl 0 rfl) ?_
  refine lv_aload_n hx hb dX5_copyFrom_1 rfl (lv_at hl 1 rfl) ?_
  refine va_get (D := D) (ci := 5) (v := .int rows2) (C := RX5) (T := TX5) (N := 4) hx hb hts iwX5_copyFrom_X5 hown hC.1 hP2 0 rfl rfl 3 (by decide) (hts (.fieldLink RX5 26 "MealLockers$Table" "rows" "I") (List.mem_of_getElem? (i := 1) rfl)) (fun _ h9 => h9) rfl dX5_copyFrom_2 ?_
  refine va_put (D := D) (ci := 5) (v := .int rows2) (ty := .int) (C := RX5) (T := TX5) (N := 4) hx hb hts iwX5_copyFrom_X5 tyX5 tyX5_ok nmX5 hown hC.1 hP hD hS 0 rfl rfl 3 (by decide) (hts (.fieldLink RX5 26 "MealLockers$Table" "rows" "I") (List.mem_of_getElem? (i := 1) rfl)) (fun _ h9 => h9) rfl (by decide +kernel) rfl rfl (Nat.le_of_ble_eq_true rfl) dX5_copyFrom_5 (fun H locs hP hD hS => ?_)
  have hP : va_P D vwCl (tbW y.1 a b lim col n rows2 f) H := hP
  have hD : va_D (tbA a b) (tbW y.1 a b lim col n rows2 f) := tb_D hne
  refine lv_iconst (v := 0) hx hb dX5_copyFrom_8 (by decide) ?_
  refine lv_istore_n (lv' := [(2, .int 0), (0, .ref a), (1, .ref a2)]) hx hb dX5_copyFrom_9 rfl hl (by decide) rfl (fun ls hl => ?_)
  refine lpX5_copyFrom hx hb hml hown hts hC hn hne hna hP20 (fun i H locs ls hP hS hl => ?_) n 0 (by omega) _ _ (tb_cong hP (fun j _ => by rw [if_neg (by omega)])) hS ls hl
  exact W.vret hx hb hr (fun t ht hW => ⟨⟨(), rfl, trivial, by dsimp only; rw [ht]; exact hP⟩, hS.F ht⟩) hS.2.2 dX5_copyFrom_46
set_option maxHeartbeats 4000000 in
set_option maxRecDepth 100000 in
theorem kX5_copyFrom {p : Program} {l : Launch} {e : Env} {R : Room} {s : State} {m : MethodId} {args : Array Value} {below : List Frame} {meth : Method} {c : Code} {H : Heap} {locs : List Loc} {cells slots : Nat} {Q : State → Prop} {cc : ByteArray} {nL : Nat} {Ts : List Cond} {own : String} {index pc : Nat} {ls : Array Slot} {rest : List Value} {D : va_G} {y : Y3} {a b a2 b2 : Nat} {lim col : Int32} {n : Nat} {rows rows2 : Int32} {f f2 : Nat → Int32} {hn : n < 2 ^ 31} {A0 : Nat → Prop} {H0 : Heap} (hF : CallFix p m c cc nL s args Ts own) (cw : CallW R s args own RX5 index yX5_copyFrom cX5_copyFrom 3 none wsX5_copyFrom ({ frames := 0, cells := 0, slots := 0, locals := 0 } : Room) 0 0 1) (hC : CK D y s) (hP : va_P D vwCl (tbW y.1 a b lim col n rows f) H) (hP2 : va_P D vwCl (tbW y.1 a2 b2 lim col n rows2 f2) H) (hne : a ≠ b) (hna : a2 ≠ a ∧ a2 ≠ b ∧ b2 ≠ a ∧ b2 ≠ b) (hS : va_S A0 H0 H locs) (hA : ∀ q, (tbA a b) q → A0 q) (hsz : ls.size = nL) (hW : (rest.map fun v => v.category).sum ≤ 8) (hdg : decode cc pc = .ok (.invokevirtual index, 3)) (hf : cells ≤ R.cells ∧ slots ≤ R.slots)
    (k : ∀ (H1 : Heap) (locs1 : List Loc), va_P D vwCl (tbW y.1 a b lim col n rows2 f2) H1 → H.size ≤ H1.size → (∀ q : Nat, q < H.size → ¬ (tbA a b) q → H1[q]? = H[q]?) → va_S A0 H0 H1 locs1 → W p l e R s m args below meth c H1 locs1 cells slots Q (F0 m (pc + 3) ls (rest))) : W p l e R s m args below meth c H locs cells slots Q (F0 m pc ls (.ref a2 :: .ref a :: rest)) := by
  refine va_callv (va_runV (As := [.ref a2]) (rest := rest) hF (mX5_copyFrom l D y a b a2 b2 lim col n rows rows2 f f2 hn) cw ⟨fun a U g mk q => by obtain ⟨q0, q1, q2, q3, q4, q5⟩ := q; exact ⟨q0, q1.call g mk a, q2, q3, q4, q5⟩, va_recv hC.1 hP (ci := 5) (q0 := 0) rfl rfl, fun U hU hW => ⟨rfl, hC.warm hW, by rw [hU]; exact hP, by rw [hU]; exact hP2, hne, hna⟩⟩ rfl rfl hsz rfl (lv_room hW) hdg ⟨hf.1, hf.2⟩) hS (fun q _ h => hA q h) hA (fun u t H1 locs1 ht hvm hp hB hz1 hk1 hS1 => ?_)
  rw [ht] at hB
  exact k H1 locs1 hB hz1 hk1 hS1
