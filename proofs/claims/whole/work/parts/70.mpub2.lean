def zX8_reserve (μ : Sg) (x1 : Int32) (x2 : Int32) : Int32 × Sg := ((zX8_acted ((zX8_reserves (zX8_begins μ) x1 x2).2) ((zX8_reserves (zX8_begins μ) x1 x2).1)).1, (zX8_acted ((zX8_reserves (zX8_begins μ) x1 x2).2) ((zX8_reserves (zX8_begins μ) x1 x2).1)).2)
theorem hdX8_reserve : yX8_reserve.cls = RX8 ∧ yX8_reserve.cls ≠ "java/lang/invoke/MethodHandle" ∧ yX8_reserve.cls ≠ "java/lang/invoke/VarHandle" ∧ (parseMethodDescriptor yX8_reserve.desc).map (fun d => d.parameters.length) = some 2 := by decide +kernel
set_option maxHeartbeats 4000000 in
set_option maxRecDepth 100000 in
theorem mX8_reserve (l : Launch) (D : va_G) (y : Y3) (mo : Nat → Nat) (μ : Sg) (x1 : Int32) (x2 : Int32) : Met l yX8_reserve wsX8_reserve ({ frames := 3, cells := 0, slots := 0, locals := 68 } : Room) (va_Pc [.ref (mo 0), .int x1, .int x2] (fun U => CK D y U ∧ MoH D y mo μ U.heap ∧ moI mo ∧ InvM μ ∧ rg (μ 4 0) 5)) (va_Qi (fun (r : Int32) (u : Sg) => r = (zX8_reserve μ x1 x2).1 ∧ u = (zX8_reserve μ x1 x2).2) (fun u t => MoH D y mo u t.heap) (moA mo)) 0 0 (moA mo) := by
  refine Met.ofW (cc := cX8_reserve) (maxL := 3) (ret := (some .int)) (by decide) rfl ?_
  intro p e s m args below meth c s₁ B hml hv
  obtain ⟨rfl, hC, hMo, hi, hInv, r_h⟩ := hv
  have hx := B.exec
  have hb := B.bytes
  have hr := B.returns
  have hts := atoms_spec (ws := wsX8_reserve) B.pre
  have hown : s.vm.findClass RX8 = some m.cls := findClass_of_methodNamed B.named
  have hlocks := B.notSynchronized
  have hF := (⟨hx, hb, hml, hown, hts⟩ : CallFix p m c cX8_reserve 3 s _ wsX8_reserve RX8)
  have hS : va_S (moA mo) s.heap s.heap [] := va_S.rf
  have hl := lv_entry ([.ref (mo 0), .int x1, .int x2]) (n := 3) (Nat.le_of_ble_eq_true rfl)
  rw [lg_entry_eq]
  generalize (lg_sl ([.ref (mo 0), .int x1, .int x2]) ++ List.replicate (3 - (lg_sl ([.ref (mo 0), .int x1, .int x2])).length) Slot.unset).toArray = ls at hl ⊢
  have hl : lv_has ls 3 [(0, .ref (mo 0)), (1, .int x1), (2, .int x2)] := hl
  refine lv_aload_n hx hb dX8_reserve_0 rfl (lv_at hl 0 rfl) ?_
  refine kX8_begins hF (cwV 0 hts gX8_reserve_X8_begins rfl rfl rfl hdX8_begins ⟨Nat.le_of_ble_eq_true rfl, Nat.le_of_ble_eq_true rfl⟩) hC hMo hi  hS (fun _ h => h) hl.1 (Nat.le_of_ble_eq_true rfl) dX8_reserve_1 ⟨Nat.zero_le _, Nat.zero_le _⟩ (fun H locs hMo _ _ hS => ?_)
  have hInv := inv_begins hInv
  refine lv_aload_n hx hb dX8_reserve_4 rfl (lv_at hl 0 rfl) ?_
  refine lv_aload_n hx hb dX8_reserve_5 rfl (lv_at hl 0 rfl) ?_
  refine lv_iload_n hx hb dX8_reserve_6 rfl (lv_at hl 1 rfl) ?_
  refine lv_iload_n hx hb dX8_reserve_7 rfl (lv_at hl 2 rfl) ?_
  have hgd := gd_X8_reserves hInv x1 x2
  refine kX8_reserves hF (cwV 2 hts gX8_reserve_X8_reserves rfl rfl rfl hdX8_reserves ⟨Nat.le_of_ble_eq_true rfl, Nat.le_of_ble_eq_true rfl⟩) hC hMo hi hInv  hS (fun _ h => h) hl.1 (Nat.le_of_ble_eq_true rfl) dX8_reserve_8 ⟨Nat.zero_le _, Nat.zero_le _⟩ (fun H locs hMo _ _ hS => ?_)
  have hInv := (gd_X8_reserves hInv x1 x2).1
  have r_h : rg (((zX8_reserves (zX8_begins μ) x1 x2).2) 4 0) 5 := (r_eq (hgd.2.2 4 (by decide)) r_h)
  refine kX8_acted hF (cwV 1 hts gX8_reserve_X8_acted rfl rfl rfl hdX8_acted ⟨Nat.le_of_ble_eq_true rfl, Nat.le_of_ble_eq_true rfl⟩) hC hMo hi r_h  hS (fun _ h => h) hl.1 (Nat.le_of_ble_eq_true rfl) dX8_reserve_11 ⟨Nat.zero_le _, Nat.zero_le _⟩ (fun H locs hMo _ _ hS => ?_)
  exact W.iret (v := (zX8_acted ((zX8_reserves (zX8_begins μ) x1 x2).2) ((zX8_reserves (zX8_begins μ) x1 x2).1)).1) hx hb hr (fun t ht hW => ⟨⟨(zX8_acted ((zX8_reserves (zX8_begins μ) x1 x2).2) ((zX8_reserves (zX8_begins μ) x1 x2).1)).1, (zX8_acted ((zX8_reserves (zX8_begins μ) x1 x2).2) ((zX8_reserves (zX8_begins μ) x1 x2).1)).2, rfl, ⟨rfl, rfl⟩, by dsimp only; rw [ht]; exact hMo⟩, hS.F ht⟩) hS.2.2 dX8_reserve_14
set_option maxHeartbeats 4000000 in
set_option maxRecDepth 100000 in
theorem kX8_reserve {p : Program} {l : Launch} {e : Env} {R : Room} {s : State} {m : MethodId} {args : Array Value} {below : List Frame} {meth : Method} {c : Code} {H : Heap} {locs : List Loc} {cells slots : Nat} {Q : State → Prop} {cc : ByteArray} {nL : Nat} {Ts : List Cond} {own : String} {index pc : Nat} {ls : Array Slot} {rest : List Value} {D : va_G} {y : Y3} {mo : Nat → Nat} {μ : Sg} {x1 : Int32} {x2 : Int32} {A0 : Nat → Prop} {H0 : Heap} (hF : CallFix p m c cc nL s args Ts own) (cw : CallW R s args own RX8 index yX8_reserve cX8_reserve 3 (some .int) wsX8_reserve ({ frames := 3, cells := 0, slots := 0, locals := 68 } : Room) 0 0 2) (hC : CK D y s) (hMo : MoH D y mo μ H) (hi : moI mo) (hInv : InvM μ) (r_h : rg (μ 4 0) 5) (hS : va_S A0 H0 H locs) (hA : ∀ q, (moA mo) q → A0 q) (hsz : ls.size = nL) (hW : (rest.map fun v => v.category).sum ≤ 8) (hdg : decode cc pc = .ok (.invokevirtual index, 3)) (hf : cells ≤ R.cells ∧ slots ≤ R.slots)
    (k : ∀ (H1 : Heap) (locs1 : List Loc), MoH D y mo (zX8_reserve μ x1 x2).2 H1 → H.size ≤ H1.size → (∀ q : Nat, q < H.size → ¬ (moA mo) q → H1[q]? = H[q]?) → va_S A0 H0 H1 locs1 → W p l e R s m args below meth c H1 locs1 cells slots Q (F0 m (pc + 3) ls (.int ((zX8_reserve μ x1 x2).1) :: rest))) : W p l e R s m args below meth c H locs cells slots Q (F0 m pc ls (.int x2 :: .int x1 :: .ref (mo 0) :: rest)) := by
  refine va_calli (va_runV (As := [.int x1, .int x2]) (rest := rest) hF (mX8_reserve l D y mo μ x1 x2) cw ⟨fun a U g mk q => by obtain ⟨q0, q1, q2, q3, q4, q5⟩ := q; exact ⟨q0, q1.call g mk a, q2, q3, q4, q5⟩, va_recv hC.1 hMo (ci := 8) (q0 := 0) rfl rfl, fun U hU hW => ⟨rfl, hC.warm hW, by rw [hU]; exact hMo, hi, hInv, r_h⟩⟩ rfl rfl hsz rfl (lv_room hW) hdg ⟨hf.1, hf.2⟩) hS (fun q _ h => hA q h) hA (fun r u t H1 locs1 ht hvm hp hB hz1 hk1 hS1 => ?_)
  obtain ⟨hp1, hp2⟩ := hp
  subst hp1; subst hp2
  rw [ht] at hB
  exact k H1 locs1 hB hz1 hk1 hS1
def zX8_fetch (μ : Sg) (x1 : Int32) (x2 : Int32) (x3 : Int32) : Int32 × Sg := ((zX8_acted ((zX8_fetches (zX8_begins μ) x1 x2 x3).2) ((zX8_fetches (zX8_begins μ) x1 x2 x3).1)).1, (zX8_acted ((zX8_fetches (zX8_begins μ) x1 x2 x3).2) ((zX8_fetches (zX8_begins μ) x1 x2 x3).1)).2)
theorem hdX8_fetch : yX8_fetch.cls = RX8 ∧ yX8_fetch.cls ≠ "java/lang/invoke/MethodHandle" ∧ yX8_fetch.cls ≠ "java/lang/invoke/VarHandle" ∧ (parseMethodDescriptor yX8_fetch.desc).map (fun d => d.parameters.length) = some 3 := by decide +kernel
set_option maxHeartbeats 4000000 in
set_option maxRecDepth 100000 in
theorem mX8_fetch (l : Launch) (D : va_G) (y : Y3) (mo : Nat → Nat) (μ : Sg) (x1 : Int32) (x2 : Int32) (x3 : Int32) : Met l yX8_fetch wsX8_fetch ({ frames := 3, cells := 0, slots := 0, locals := 69 } : Room) (va_Pc [.ref (mo 0), .int x1, .int x2, .int x3] (fun U => CK D y U ∧ MoH D y mo μ U.heap ∧ moI mo ∧ InvM μ ∧ rg (μ 4 0) 5)) (va_Qi (fun (r : Int32) (u : Sg) => r = (zX8_fetch μ x1 x2 x3).1 ∧ u = (zX8_fetch μ x1 x2 x3).2) (fun u t => MoH D y mo u t.heap) (moA mo)) 0 0 (moA mo) := by
  refine Met.ofW (cc := cX8_fetch) (maxL := 4) (ret := (some .int)) (by decide) rfl ?_
  intro p e s m args below meth c s₁ B hml hv
  obtain ⟨rfl, hC, hMo, hi, hInv, r_h⟩ := hv
  have hx := B.exec
  have hb := B.bytes
  have hr := B.returns
  have hts := atoms_spec (ws := wsX8_fetch) B.pre
  have hown : s.vm.findClass RX8 = some m.cls := findClass_of_methodNamed B.named
  have hlocks := B.notSynchronized
  have hF := (⟨hx, hb, hml, hown, hts⟩ : CallFix p m c cX8_fetch 4 s _ wsX8_fetch RX8)
  have hS : va_S (moA mo) s.heap s.heap [] := va_S.rf
  have hl := lv_entry ([.ref (mo 0), .int x1, .int x2, .int x3]) (n := 4) (Nat.le_of_ble_eq_true rfl)
  rw [lg_entry_eq]
  generalize (lg_sl ([.ref (mo 0), .int x1, .int x2, .int x3]) ++ List.replicate (4 - (lg_sl ([.ref (mo 0), .int x1, .int x2, .int x3])).length) Slot.unset).toArray = ls at hl ⊢
  have hl : lv_has ls 4 [(0, .ref (mo 0)), (1, .int x1), (2, .int x2), (3, .int x3)] := hl
  refine lv_aload_n hx hb dX8_fetch_0 rfl (lv_at hl 0 rfl) ?_
  refine kX8_begins hF (cwV 0 hts gX8_fetch_X8_begins rfl rfl rfl hdX8_begins ⟨Nat.le_of_ble_eq_true rfl, Nat.le_of_ble_eq_true rfl⟩) hC hMo hi  hS (fun _ h => h) hl.1 (Nat.le_of_ble_eq_true rfl) dX8_fetch_1 ⟨Nat.zero_le _, Nat.zero_le _⟩ (fun H locs hMo _ _ hS => ?_)
  have hInv := inv_begins hInv
  refine lv_aload_n hx hb dX8_fetch_4 rfl (lv_at hl 0 rfl) ?_
  refine lv_aload_n hx hb dX8_fetch_5 rfl (lv_at hl 0 rfl) ?_
  refine lv_iload_n hx hb dX8_fetch_6 rfl (lv_at hl 1 rfl) ?_
  refine lv_iload_n hx hb dX8_fetch_7 rfl (lv_at hl 2 rfl) ?_
  refine lv_iload_n hx hb dX8_fetch_8 rfl (lv_at hl 3 rfl) ?_
  have hgd := gd_X8_fetches hInv x1 x2 x3
  refine kX8_fetches hF (cwV 3 hts gX8_fetch_X8_fetches rfl rfl rfl hdX8_fetches ⟨Nat.le_of_ble_eq_true rfl, Nat.le_of_ble_eq_true rfl⟩) hC hMo hi hInv  hS (fun _ h => h) hl.1 (Nat.le_of_ble_eq_true rfl) dX8_fetch_9 ⟨Nat.zero_le _, Nat.zero_le _⟩ (fun H locs hMo _ _ hS => ?_)
  have hInv := (gd_X8_fetches hInv x1 x2 x3).1
  have r_h : rg (((zX8_fetches (zX8_begins μ) x1 x2 x3).2) 4 0) 5 := (r_eq (hgd.2.2 4 (by decide)) r_h)
  refine kX8_acted hF (cwV 1 hts gX8_fetch_X8_acted rfl rfl rfl hdX8_acted ⟨Nat.le_of_ble_eq_true rfl, Nat.le_of_ble_eq_true rfl⟩) hC hMo hi r_h  hS (fun _ h => h) hl.1 (Nat.le_of_ble_eq_true rfl) dX8_fetch_12 ⟨Nat.zero_le _, Nat.zero_le _⟩ (fun H locs hMo _ _ hS => ?_)
  exact W.iret (v := (zX8_acted ((zX8_fetches (zX8_begins μ) x1 x2 x3).2) ((zX8_fetches (zX8_begins μ) x1 x2 x3).1)).1) hx hb hr (fun t ht hW => ⟨⟨(zX8_acted ((zX8_fetches (zX8_begins μ) x1 x2 x3).2) ((zX8_fetches (zX8_begins μ) x1 x2 x3).1)).1, (zX8_acted ((zX8_fetches (zX8_begins μ) x1 x2 x3).2) ((zX8_fetches (zX8_begins μ) x1 x2 x3).1)).2, rfl, ⟨rfl, rfl⟩, by dsimp only; rw [ht]; exact hMo⟩, hS.F ht⟩) hS.2.2 dX8_fetch_15
set_option maxHeartbeats 4000000 in
set_option maxRecDepth 100000 in
theorem kX8_fetch {p : Program} {l : Launch} {e : Env} {R : Room} {s : State} {m : MethodId} {args : Array Value} {below : List Frame} {meth : Method} {c : Code} {H : Heap} {locs : List Loc} {cells slots : Nat} {Q : State → Prop} {cc : ByteArray} {nL : Nat} {Ts : List Cond} {own : String} {index pc : Nat} {ls : Array Slot} {rest : List Value} {D : va_G} {y : Y3} {mo : Nat → Nat} {μ : Sg} {x1 : Int32} {x2 : Int32} {x3 : Int32} {A0 : Nat → Prop} {H0 : Heap} (hF : CallFix p m c cc nL s args Ts own) (cw : CallW R s args own RX8 index yX8_fetch cX8_fetch 4 (some .int) wsX8_fetch ({ frames := 3, cells := 0, slots := 0, locals := 69 } : Room) 0 0 3) (hC : CK D y s) (hMo : MoH D y mo μ H) (hi : moI mo) (hInv : InvM μ) (r_h : rg (μ 4 0) 5) (hS : va_S A0 H0 H locs) (hA : ∀ q, (moA mo) q → A0 q) (hsz : ls.size = nL) (hW : (rest.map fun v => v.category).sum ≤ 8) (hdg : decode cc pc = .ok (.invokevirtual index, 3)) (hf : cells ≤ R.cells ∧ slots ≤ R.slots)
    (k : ∀ (H1 : Heap) (locs1 : List Loc), MoH D y mo (zX8_fetch μ x1 x2 x3).2 H1 → H.size ≤ H1.size → (∀ q : Nat, q < H.size → ¬ (moA mo) q → H1[q]? = H[q]?) → va_S A0 H0 H1 locs1 → W p l e R s m args below meth c H1 locs1 cells slots Q (F0 m (pc + 3) ls (.int ((zX8_fetch μ x1 x2 x3).1) :: rest))) : W p l e R s m args below meth c H locs cells slots Q (F0 m pc ls (.int x3 :: .int x2 :: .int x1 :: .ref (mo 0) :: rest)) := by
  refine va_calli (va_runV (As := [.int x1, .int x2, .int x3]) (rest := rest) hF (mX8_fetch l D y mo μ x1 x2 x3) cw ⟨fun a U g mk q => by obtain ⟨q0, q1, q2, q3, q4, q5⟩ := q; exact ⟨q0, q1.call g mk a, q2, q3, q4, q5⟩, va_recv hC.1 hMo (ci := 8) (q0 := 0) rfl rfl, fun U hU hW => ⟨rfl, hC.warm hW, by rw [hU]; exact hMo, hi, hInv, r_h⟩⟩ rfl rfl hsz rfl (lv_room hW) hdg ⟨hf.1, hf.2⟩) hS (fun q _ h => hA q h) hA (fun r u t H1 locs1 ht hvm hp hB hz1 hk1 hS1 => ?_)
  obtain ⟨hp1, hp2⟩ := hp
  subst hp1; subst hp2
  rw [ht] at hB
  exact k H1 locs1 hB hz1 hk1 hS1
def zX8_take (μ : Sg) (x1 : Int32) (x2 : Int32) : Int32 × Sg := ((zX8_acted ((zX8_takes (zX8_begins μ) x1 x2).2) ((zX8_takes (zX8_begins μ) x1 x2).1)).1, (zX8_acted ((zX8_takes (zX8_begins μ) x1 x2).2) ((zX8_takes (zX8_begins μ) x1 x2).1)).2)
theorem hdX8_take : yX8_take.cls = RX8 ∧ yX8_take.cls ≠ "java/lang/invoke/MethodHandle" ∧ yX8_take.cls ≠ "java/lang/invoke/VarHandle" ∧ (parseMethodDescriptor yX8_take.desc).map (fun d => d.parameters.length) = some 2 := by decide +kernel
set_option maxHeartbeats 4000000 in
set_option maxRecDepth 100000 in
theorem mX8_take (l : Launch) (D : va_G) (y : Y3) (mo : Nat → Nat) (μ : Sg) (x1 : Int32) (x2 : Int32) : Met l yX8_take wsX8_take ({ frames := 4, cells := 0, slots := 0, locals := 93 } : Room) (va_Pc [.ref (mo 0), .int x1, .int x2] (fun U => CK D y U ∧ MoH D y mo μ U.heap ∧ moI mo ∧ InvM μ ∧ rg (μ 4 0) 5)) (va_Qi (fun (r : Int32) (u : Sg) => r = (zX8_take μ x1 x2).1 ∧ u = (zX8_take μ x1 x2).2) (fun u t => MoH D y mo u t.heap) (moA mo)) 0 0 (moA mo) := by
  refine Met.ofW (cc := cX8_take) (maxL := 3) (ret := (some .int)) (by decide) rfl ?_
  intro p e s m args below meth c s₁ B hml hv
  obtain ⟨rfl, hC, hMo, hi, hInv, r_h⟩ := hv
  have hx := B.exec
  have hb := B.bytes
  have hr := B.returns
  have hts := atoms_spec (ws := wsX8_take) B.pre
  have hown : s.vm.findClass RX8 = some m.cls := findClass_of_methodNamed B.named
  have hlocks := B.notSynchronized
  have hF := (⟨hx, hb, hml, hown, hts⟩ : CallFix p m c cX8_take 3 s _ wsX8_take RX8)
  have hS : va_S (moA mo) s.heap s.heap [] := va_S.rf
  have hl := lv_entry ([.ref (mo 0), .int x1, .int x2]) (n := 3) (Nat.le_of_ble_eq_true rfl)
  rw [lg_entry_eq]
  generalize (lg_sl ([.ref (mo 0), .int x1, .int x2]) ++ List.replicate (3 - (lg_sl ([.ref (mo 0), .int x1, .int x2])).length) Slot.unset).toArray = ls at hl ⊢
  have hl : lv_has ls 3 [(0, .ref (mo 0)), (1, .int x1), (2, .int x2)] := hl
  refine lv_aload_n hx hb dX8_take_0 rfl (lv_at hl 0 rfl) ?_
  refine kX8_begins hF (cwV 0 hts gX8_take_X8_begins rfl rfl rfl hdX8_begins ⟨Nat.le_of_ble_eq_true rfl, Nat.le_of_ble_eq_true rfl⟩) hC hMo hi  hS (fun _ h => h) hl.1 (Nat.le_of_ble_eq_true rfl) dX8_take_1 ⟨Nat.zero_le _, Nat.zero_le _⟩ (fun H locs hMo _ _ hS => ?_)
  have hInv := inv_begins hInv
  refine lv_aload_n hx hb dX8_take_4 rfl (lv_at hl 0 rfl) ?_
  refine lv_aload_n hx hb dX8_take_5 rfl (lv_at hl 0 rfl) ?_
  refine lv_iload_n hx hb dX8_take_6 rfl (lv_at hl 1 rfl) ?_
  refine lv_iload_n hx hb dX8_take_7 rfl (lv_at hl 2 rfl) ?_
  have hgd := gd_X8_takes hInv x1 x2
  refine kX8_takes hF (cwV 2 hts gX8_take_X8_takes rfl rfl rfl hdX8_takes ⟨Nat.le_of_ble_eq_true rfl, Nat.le_of_ble_eq_true rfl⟩) hC hMo hi hInv  hS (fun _ h => h) hl.1 (Nat.le_of_ble_eq_true rfl) dX8_take_8 ⟨Nat.zero_le _, Nat.zero_le _⟩ (fun H locs hMo _ _ hS => ?_)
  have hInv := (gd_X8_takes hInv x1 x2).1
  have r_h : rg (((zX8_takes (zX8_begins μ) x1 x2).2) 4 0) 5 := (r_eq (hgd.2.2 4 (by decide)) r_h)
  refine kX8_acted hF (cwV 1 hts gX8_take_X8_acted rfl rfl rfl hdX8_acted ⟨Nat.le_of_ble_eq_true rfl, Nat.le_of_ble_eq_true rfl⟩) hC hMo hi r_h  hS (fun _ h => h) hl.1 (Nat.le_of_ble_eq_true rfl) dX8_take_11 ⟨Nat.zero_le _, Nat.zero_le _⟩ (fun H locs hMo _ _ hS => ?_)
  exact W.iret (v := (zX8_acted ((zX8_takes (zX8_begins μ) x1 x2).2) ((zX8_takes (zX8_begins μ) x1 x2).1)).1) hx hb hr (fun t ht hW => ⟨⟨(zX8_acted ((zX8_takes (zX8_begins μ) x1 x2).2) ((zX8_takes (zX8_begins μ) x1 x2).1)).1, (zX8_acted ((zX8_takes (zX8_begins μ) x1 x2).2) ((zX8_takes (zX8_begins μ) x1 x2).1)).2, rfl, ⟨rfl, rfl⟩, by dsimp only; rw [ht]; exact hMo⟩, hS.F ht⟩) hS.2.2 dX8_take_14
set_option maxHeartbeats 4000000 in
set_option maxRecDepth 100000 in
theorem kX8_take {p : Program} {l : Launch} {e : Env} {R : Room} {s : State} {m : MethodId} {args : Array Value} {below : List Frame} {meth : Method} {c : Code} {H : Heap} {locs : List Loc} {cells slots : Nat} {Q : State → Prop} {cc : ByteArray} {nL : Nat} {Ts : List Cond} {own : String} {index pc : Nat} {ls : Array Slot} {rest : List Value} {D : va_G} {y : Y3} {mo : Nat → Nat} {μ : Sg} {x1 : Int32} {x2 : Int32} {A0 : Nat → Prop} {H0 : Heap} (hF : CallFix p m c cc nL s args Ts own) (cw : CallW R s args own RX8 index yX8_take cX8_take 3 (some .int) wsX8_take ({ frames := 4, cells := 0, slots := 0, locals := 93 } : Room) 0 0 2) (hC : CK D y s) (hMo : MoH D y mo μ H) (hi : moI mo) (hInv : InvM μ) (r_h : rg (μ 4 0) 5) (hS : va_S A0 H0 H locs) (hA : ∀ q, (moA mo) q → A0 q) (hsz : ls.size = nL) (hW : (rest.map fun v => v.category).sum ≤ 8) (hdg : decode cc pc = .ok (.invokevirtual index, 3)) (hf : cells ≤ R.cells ∧ slots ≤ R.slots)
    (k : ∀ (H1 : Heap) (locs1 : List Loc), MoH D y mo (zX8_take μ x1 x2).2 H1 → H.size ≤ H1.size → (∀ q : Nat, q < H.size → ¬ (moA mo) q → H1[q]? = H[q]?) → va_S A0 H0 H1 locs1 → W p l e R s m args below meth c H1 locs1 cells slots Q (F0 m (pc + 3) ls (.int ((zX8_take μ x1 x2).1) :: rest))) : W p l e R s m args below meth c H locs cells slots Q (F0 m pc ls (.int x2 :: .int x1 :: .ref (mo 0) :: rest)) := by
  refine va_calli (va_runV (As := [.int x1, .int x2]) (rest := rest) hF (mX8_take l D y mo μ x1 x2) cw ⟨fun a U g mk q => by obtain ⟨q0, q1, q2, q3, q4, q5⟩ := q; exact ⟨q0, q1.call g mk a, q2, q3, q4, q5⟩, va_recv hC.1 hMo (ci := 8) (q0 := 0) rfl rfl, fun U hU hW => ⟨rfl, hC.warm hW, by rw [hU]; exact hMo, hi, hInv, r_h⟩⟩ rfl rfl hsz rfl (lv_room hW) hdg ⟨hf.1, hf.2⟩) hS (fun q _ h => hA q h) hA (fun r u t H1 locs1 ht hvm hp hB hz1 hk1 hS1 => ?_)
  obtain ⟨hp1, hp2⟩ := hp
  subst hp1; subst hp2
  rw [ht] at hB
  exact k H1 locs1 hB hz1 hk1 hS1
def zX8_go (μ : Sg) (x1 : Int32) (x2 : Int32) : Int32 × Sg := ((zX8_acted ((zX8_goes (zX8_begins μ) x1 x2).2) ((zX8_goes (zX8_begins μ) x1 x2).1)).1, (zX8_acted ((zX8_goes (zX8_begins μ) x1 x2).2) ((zX8_goes (zX8_begins μ) x1 x2).1)).2)
theorem hdX8_go : yX8_go.cls = RX8 ∧ yX8_go.cls ≠ "java/lang/invoke/MethodHandle" ∧ yX8_go.cls ≠ "java/lang/invoke/VarHandle" ∧ (parseMethodDescriptor yX8_go.desc).map (fun d => d.parameters.length) = some 2 := by decide +kernel
set_option maxHeartbeats 4000000 in
set_option maxRecDepth 100000 in
theorem mX8_go (l : Launch) (D : va_G) (y : Y3) (mo : Nat → Nat) (μ : Sg) (x1 : Int32) (x2 : Int32) : Met l yX8_go wsX8_go ({ frames := 3, cells := 0, slots := 0, locals := 65 } : Room) (va_Pc [.ref (mo 0), .int x1, .int x2] (fun U => CK D y U ∧ MoH D y mo μ U.heap ∧ moI mo ∧ InvM μ ∧ rg (μ 4 0) 5)) (va_Qi (fun (r : Int32) (u : Sg) => r = (zX8_go μ x1 x2).1 ∧ u = (zX8_go μ x1 x2).2) (fun u t => MoH D y mo u t.heap) (moA mo)) 0 0 (moA mo) := by
  refine Met.ofW (cc := cX8_go) (maxL := 3) (ret := (some .int)) (by decide) rfl ?_
  intro p e s m args below meth c s₁ B hml hv
  obtain ⟨rfl, hC, hMo, hi, hInv, r_h⟩ := hv
  have hx := B.exec
  have hb := B.bytes
  have hr := B.returns
  have hts := atoms_spec (ws := wsX8_go) B.pre
  have hown : s.vm.findClass RX8 = some m.cls := findClass_of_methodNamed B.named
  have hlocks := B.notSynchronized
  have hF := (⟨hx, hb, hml, hown, hts⟩ : CallFix p m c cX8_go 3 s _ wsX8_go RX8)
  have hS : va_S (moA mo) s.heap s.heap [] := va_S.rf
  have hl := lv_entry ([.ref (mo 0), .int x1, .int x2]) (n := 3) (Nat.le_of_ble_eq_true rfl)
  rw [lg_entry_eq]
  generalize (lg_sl ([.ref (mo 0), .int x1, .int x2]) ++ List.replicate (3 - (lg_sl ([.ref (mo 0), .int x1, .int x2])).length) Slot.unset).toArray = ls at hl ⊢
  have hl : lv_has ls 3 [(0, .ref (mo 0)), (1, .int x1), (2, .int x2)] := hl
  refine lv_aload_n hx hb dX8_go_0 rfl (lv_at hl 0 rfl) ?_
  refine kX8_begins hF (cwV 0 hts gX8_go_X8_begins rfl rfl rfl hdX8_begins ⟨Nat.le_of_ble_eq_true rfl, Nat.le_of_ble_eq_true rfl⟩) hC hMo hi  hS (fun _ h => h) hl.1 (Nat.le_of_ble_eq_true rfl) dX8_go_1 ⟨Nat.zero_le _, Nat.zero_le _⟩ (fun H locs hMo _ _ hS => ?_)
  have hInv := inv_begins hInv
  refine lv_aload_n hx hb dX8_go_4 rfl (lv_at hl 0 rfl) ?_
  refine lv_aload_n hx hb dX8_go_5 rfl (lv_at hl 0 rfl) ?_
  refine lv_iload_n hx hb dX8_go_6 rfl (lv_at hl 1 rfl) ?_
  refine lv_iload_n hx hb dX8_go_7 rfl (lv_at hl 2 rfl) ?_
  have hgd := gd_X8_goes hInv x1 x2
  refine kX8_goes hF (cwV 2 hts gX8_go_X8_goes rfl rfl rfl hdX8_goes ⟨Nat.le_of_ble_eq_true rfl, Nat.le_of_ble_eq_true rfl⟩) hC hMo hi hInv  hS (fun _ h => h) hl.1 (Nat.le_of_ble_eq_true rfl) dX8_go_8 ⟨Nat.zero_le _, Nat.zero_le _⟩ (fun H locs hMo _ _ hS => ?_)
  have hInv := (gd_X8_goes hInv x1 x2).1
  have r_h : rg (((zX8_goes (zX8_begins μ) x1 x2).2) 4 0) 5 := (r_eq (hgd.2.2 4 (by decide)) r_h)
  refine kX8_acted hF (cwV 1 hts gX8_go_X8_acted rfl rfl rfl hdX8_acted ⟨Nat.le_of_ble_eq_true rfl, Nat.le_of_ble_eq_true rfl⟩) hC hMo hi r_h  hS (fun _ h => h) hl.1 (Nat.le_of_ble_eq_true rfl) dX8_go_11 ⟨Nat.zero_le _, Nat.zero_le _⟩ (fun H locs hMo _ _ hS => ?_)
  exact W.iret (v := (zX8_acted ((zX8_goes (zX8_begins μ) x1 x2).2) ((zX8_goes (zX8_begins μ) x1 x2).1)).1) hx hb hr (fun t ht hW => ⟨⟨(zX8_acted ((zX8_goes (zX8_begins μ) x1 x2).2) ((zX8_goes (zX8_begins μ) x1 x2).1)).1, (zX8_acted ((zX8_goes (zX8_begins μ) x1 x2).2) ((zX8_goes (zX8_begins μ) x1 x2).1)).2, rfl, ⟨rfl, rfl⟩, by dsimp only; rw [ht]; exact hMo⟩, hS.F ht⟩) hS.2.2 dX8_go_14
set_option maxHeartbeats 4000000 in
set_option maxRecDepth 100000 in
theorem kX8_go {p : Program} {l : Launch} {e : Env} {R : Room} {s : State} {m : MethodId} {args : Array Value} {below : List Frame} {meth : Method} {c : Code} {H : Heap} {locs : List Loc} {cells slots : Nat} {Q : State → Prop} {cc : ByteArray} {nL : Nat} {Ts : List Cond} {own : String} {index pc : Nat} {ls : Array Slot} {rest : List Value} {D : va_G} {y : Y3} {mo : Nat → Nat} {μ : Sg} {x1 : Int32} {x2 : Int32} {A0 : Nat → Prop} {H0 : Heap} (hF : CallFix p m c cc nL s args Ts own) (cw : CallW R s args own RX8 index yX8_go cX8_go 3 (some .int) wsX8_go ({ frames := 3, cells := 0, slots := 0, locals := 65 } : Room) 0 0 2) (hC : CK D y s) (hMo : MoH D y mo μ H) (hi : moI mo) (hInv : InvM μ) (r_h : rg (μ 4 0) 5) (hS : va_S A0 H0 H locs) (hA : ∀ q, (moA mo) q → A0 q) (hsz : ls.size = nL) (hW : (rest.map fun v => v.category).sum ≤ 8) (hdg : decode cc pc = .ok (.invokevirtual index, 3)) (hf : cells ≤ R.cells ∧ slots ≤ R.slots)
    (k : ∀ (H1 : Heap) (locs1 : List Loc), MoH D y mo (zX8_go μ x1 x2).2 H1 → H.size ≤ H1.size → (∀ q : Nat, q < H.size → ¬ (moA mo) q → H1[q]? = H[q]?) → va_S A0 H0 H1 locs1 → W p l e R s m args below meth c H1 locs1 cells slots Q (F0 m (pc + 3) ls (.int ((zX8_go μ x1 x2).1) :: rest))) : W p l e R s m args below meth c H locs cells slots Q (F0 m pc ls (.int x2 :: .int x1 :: .ref (mo 0) :: rest)) := by
  refine va_calli (va_runV (As := [.int x1, .int x2]) (rest := rest) hF (mX8_go l D y mo μ x1 x2) cw ⟨fun a U g mk q => by obtain ⟨q0, q1, q2, q3, q4, q5⟩ := q; exact ⟨q0, q1.call g mk a, q2, q3, q4, q5⟩, va_recv hC.1 hMo (ci := 8) (q0 := 0) rfl rfl, fun U hU hW => ⟨rfl, hC.warm hW, by rw [hU]; exact hMo, hi, hInv, r_h⟩⟩ rfl rfl hsz rfl (lv_room hW) hdg ⟨hf.1, hf.2⟩) hS (fun q _ h => hA q h) hA (fun r u t H1 locs1 ht hvm hp hB hz1 hk1 hS1 => ?_)
  obtain ⟨hp1, hp2⟩ := hp
  subst hp1; subst hp2
  rw [ht] at hB
  exact k H1 locs1 hB hz1 hk1 hS1
def zX8_put (μ : Sg) (x1 : Int32) : Int32 × Sg := ((zX8_acted ((zX8_puts (zX8_begins μ) x1).2) ((zX8_puts (zX8_begins μ) x1).1)).1, (zX8_acted ((zX8_puts (zX8_begins μ) x1).2) ((zX8_puts (zX8_begins μ) x1).1)).2)
theorem hdX8_put : yX8_put.cls = RX8 ∧ yX8_put.cls ≠ "java/lang/invoke/MethodHandle" ∧ yX8_put.cls ≠ "java/lang/invoke/VarHandle" ∧ (parseMethodDescriptor yX8_put.desc).map (fun d => d.parameters.length) = some 1 := by decide +kernel
set_option maxHeartbeats 4000000 in
set_option maxRecDepth 100000 in
theorem mX8_put (l : Launch) (D : va_G) (y : Y3) (mo : Nat → Nat) (μ : Sg) (x1 : Int32) : Met l yX8_put wsX8_put ({ frames := 6, cells := 0, slots := 0, locals := 136 } : Room) (va_Pc [.ref (mo 0), .int x1] (fun U => CK D y U ∧ MoH D y mo μ U.heap ∧ moI mo ∧ InvM μ ∧ rg (μ 4 0) 5)) (va_Qi (fun (r : Int32) (u : Sg) => r = (zX8_put μ x1).1 ∧ u = (zX8_put μ x1).2) (fun u t => MoH D y mo u t.heap) (moA mo)) 0 0 (moA mo) := by
  refine Met.ofW (cc := cX8_put) (maxL := 2) (ret := (some .int)) (by decide) rfl ?_
  intro p e s m args below meth c s₁ B hml hv
  obtain ⟨rfl, hC, hMo, hi, hInv, r_h⟩ := hv
  have hx := B.exec
  have hb := B.bytes
  have hr := B.returns
  have hts := atoms_spec (ws := wsX8_put) B.pre
  have hown : s.vm.findClass RX8 = some m.cls := findClass_of_methodNamed B.named
  have hlocks := B.notSynchronized
  have hF := (⟨hx, hb, hml, hown, hts⟩ : CallFix p m c cX8_put 2 s _ wsX8_put RX8)
  have hS : va_S (moA mo) s.heap s.heap [] := va_S.rf
  have hl := lv_entry ([.ref (mo 0), .int x1]) (n := 2) (Nat.le_of_ble_eq_true rfl)
  rw [lg_entry_eq]
  generalize (lg_sl ([.ref (mo 0), .int x1]) ++ List.replicate (2 - (lg_sl ([.ref (mo 0), .int x1])).length) Slot.unset).toArray = ls at hl ⊢
  have hl : lv_has ls 2 [(0, .ref (mo 0)), (1, .int x1)] := hl
  refine lv_aload_n hx hb dX8_put_0 rfl (lv_at hl 0 rfl) ?_
  refine kX8_begins hF (cwV 0 hts gX8_put_X8_begins rfl rfl rfl hdX8_begins ⟨Nat.le_of_ble_eq_true rfl, Nat.le_of_ble_eq_true rfl⟩) hC hMo hi  hS (fun _ h => h) hl.1 (Nat.le_of_ble_eq_true rfl) dX8_put_1 ⟨Nat.zero_le _, Nat.zero_le _⟩ (fun H locs hMo _ _ hS => ?_)
  have hInv := inv_begins hInv
  refine lv_aload_n hx hb dX8_put_4 rfl (lv_at hl 0 rfl) ?_
  refine lv_aload_n hx hb dX8_put_5 rfl (lv_at hl 0 rfl) ?_
  refine lv_iload_n hx hb dX8_put_6 rfl (lv_at hl 1 rfl) ?_
  have hgd := gd_X8_puts hInv x1
  refine kX8_puts hF (cwV 1 hts gX8_put_X8_puts rfl rfl rfl hdX8_puts ⟨Nat.le_of_ble_eq_true rfl, Nat.le_of_ble_eq_true rfl⟩) hC hMo hi hInv  hS (fun _ h => h) hl.1 (Nat.le_of_ble_eq_true rfl) dX8_put_7 ⟨Nat.zero_le _, Nat.zero_le _⟩ (fun H locs hMo _ _ hS => ?_)
  have hInv := (gd_X8_puts hInv x1).1
  have r_h : rg (((zX8_puts (zX8_begins μ) x1).2) 4 0) 5 := (r_eq (hgd.2.2 4 (by decide)) r_h)
  refine kX8_acted hF (cwV 1 hts gX8_put_X8_acted rfl rfl rfl hdX8_acted ⟨Nat.le_of_ble_eq_true rfl, Nat.le_of_ble_eq_true rfl⟩) hC hMo hi r_h  hS (fun _ h => h) hl.1 (Nat.le_of_ble_eq_true rfl) dX8_put_10 ⟨Nat.zero_le _, Nat.zero_le _⟩ (fun H locs hMo _ _ hS => ?_)
  exact W.iret (v := (zX8_acted ((zX8_puts (zX8_begins μ) x1).2) ((zX8_puts (zX8_begins μ) x1).1)).1) hx hb hr (fun t ht hW => ⟨⟨(zX8_acted ((zX8_puts (zX8_begins μ) x1).2) ((zX8_puts (zX8_begins μ) x1).1)).1, (zX8_acted ((zX8_puts (zX8_begins μ) x1).2) ((zX8_puts (zX8_begins μ) x1).1)).2, rfl, ⟨rfl, rfl⟩, by dsimp only; rw [ht]; exact hMo⟩, hS.F ht⟩) hS.2.2 dX8_put_13
set_option maxHeartbeats 4000000 in
set_option maxRecDepth 100000 in
theorem kX8_put {p : Program} {l : Launch} {e : Env} {R : Room} {s : State} {m : MethodId} {args : Array Value} {below : List Frame} {meth : Method} {c : Code} {H : Heap} {locs : List Loc} {cells slots : Nat} {Q : State → Prop} {cc : ByteArray} {nL : Nat} {Ts : List Cond} {own : String} {index pc : Nat} {ls : Array Slot} {rest : List Value} {D : va_G} {y : Y3} {mo : Nat → Nat} {μ : Sg} {x1 : Int32} {A0 : Nat → Prop} {H0 : Heap} (hF : CallFix p m c cc nL s args Ts own) (cw : CallW R s args own RX8 index yX8_put cX8_put 2 (some .int) wsX8_put ({ frames := 6, cells := 0, slots := 0, locals := 136 } : Room) 0 0 1) (hC : CK D y s) (hMo : MoH D y mo μ H) (hi : moI mo) (hInv : InvM μ) (r_h : rg (μ 4 0) 5) (hS : va_S A0 H0 H locs) (hA : ∀ q, (moA mo) q → A0 q) (hsz : ls.size = nL) (hW : (rest.map fun v => v.category).sum ≤ 8) (hdg : decode cc pc = .ok (.invokevirtual index, 3)) (hf : cells ≤ R.cells ∧ slots ≤ R.slots)
    (k : ∀ (H1 : Heap) (locs1 : List Loc), MoH D y mo (zX8_put μ x1).2 H1 → H.size ≤ H1.size → (∀ q : Nat, q < H.size → ¬ (moA mo) q → H1[q]? = H[q]?) → va_S A0 H0 H1 locs1 → W p l e R s m args below meth c H1 locs1 cells slots Q (F0 m (pc + 3) ls (.int ((zX8_put μ x1).1) :: rest))) : W p l e R s m args below meth c H locs cells slots Q (F0 m pc ls (.int x1 :: .ref (mo 0) :: rest)) := by
  refine va_calli (va_runV (As := [.int x1]) (rest := rest) hF (mX8_put l D y mo μ x1) cw ⟨fun a U g mk q => by obtain ⟨q0, q1, q2, q3, q4, q5⟩ := q; exact ⟨q0, q1.call g mk a, q2, q3, q4, q5⟩, va_recv hC.1 hMo (ci := 8) (q0 := 0) rfl rfl, fun U hU hW => ⟨rfl, hC.warm hW, by rw [hU]; exact hMo, hi, hInv, r_h⟩⟩ rfl rfl hsz rfl (lv_room hW) hdg ⟨hf.1, hf.2⟩) hS (fun q _ h => hA q h) hA (fun r u t H1 locs1 ht hvm hp hB hz1 hk1 hS1 => ?_)
  obtain ⟨hp1, hp2⟩ := hp
  subst hp1; subst hp2
  rw [ht] at hB
  exact k H1 locs1 hB hz1 hk1 hS1
def zX8_pass (μ : Sg) (x1 : Int32) : Int32 × Sg := ((zX8_acted ((zX8_lets (zX8_begins μ) x1).2) ((zX8_lets (zX8_begins μ) x1).1)).1, (zX8_acted ((zX8_lets (zX8_begins μ) x1).2) ((zX8_lets (zX8_begins μ) x1).1)).2)
theorem hdX8_pass : yX8_pass.cls = RX8 ∧ yX8_pass.cls ≠ "java/lang/invoke/MethodHandle" ∧ yX8_pass.cls ≠ "java/lang/invoke/VarHandle" ∧ (parseMethodDescriptor yX8_pass.desc).map (fun d => d.parameters.length) = some 1 := by decide +kernel
set_option maxHeartbeats 4000000 in
set_option maxRecDepth 100000 in
theorem mX8_pass (l : Launch) (D : va_G) (y : Y3) (mo : Nat → Nat) (μ : Sg) (x1 : Int32) : Met l yX8_pass wsX8_pass ({ frames := 8, cells := 0, slots := 0, locals := 181 } : Room) (va_Pc [.ref (mo 0), .int x1] (fun U => CK D y U ∧ MoH D y mo μ U.heap ∧ moI mo ∧ InvM μ ∧ rg (μ 4 0) 5)) (va_Qi (fun (r : Int32) (u : Sg) => r = (zX8_pass μ x1).1 ∧ u = (zX8_pass μ x1).2) (fun u t => MoH D y mo u t.heap) (moA mo)) 0 0 (moA mo) := by
  refine Met.ofW (cc := cX8_pass) (maxL := 2) (ret := (some .int)) (by decide) rfl ?_
  intro p e s m args below meth c s₁ B hml hv
  obtain ⟨rfl, hC, hMo, hi, hInv, r_h⟩ := hv
  have hx := B.exec
  have hb := B.bytes
  have hr := B.returns
  have hts := atoms_spec (ws := wsX8_pass) B.pre
  have hown : s.vm.findClass RX8 = some m.cls := findClass_of_methodNamed B.named
  have hlocks := B.notSynchronized
  have hF := (⟨hx, hb, hml, hown, hts⟩ : CallFix p m c cX8_pass 2 s _ wsX8_pass RX8)
  have hS : va_S (moA mo) s.heap s.heap [] := va_S.rf
  have hl := lv_entry ([.ref (mo 0), .int x1]) (n := 2) (Nat.le_of_ble_eq_true rfl)
  rw [lg_entry_eq]
  generalize (lg_sl ([.ref (mo 0), .int x1]) ++ List.replicate (2 - (lg_sl ([.ref (mo 0), .int x1])).length) Slot.unset).toArray = ls at hl ⊢
  have hl : lv_has ls 2 [(0, .ref (mo 0)), (1, .int x1)] := hl
  refine lv_aload_n hx hb dX8_pass_0 rfl (lv_at hl 0 rfl) ?_
  refine kX8_begins hF (cwV 0 hts gX8_pass_X8_begins rfl rfl rfl hdX8_begins ⟨Nat.le_of_ble_eq_true rfl, Nat.le_of_ble_eq_true rfl⟩) hC hMo hi  hS (fun _ h => h) hl.1 (Nat.le_of_ble_eq_true rfl) dX8_pass_1 ⟨Nat.zero_le _, Nat.zero_le _⟩ (fun H locs hMo _ _ hS => ?_)
  have hInv := inv_begins hInv
  refine lv_aload_n hx hb dX8_pass_4 rfl (lv_at hl 0 rfl) ?_
  refine lv_aload_n hx hb dX8_pass_5 rfl (lv_at hl 0 rfl) ?_
  refine lv_iload_n hx hb dX8_pass_6 rfl (lv_at hl 1 rfl) ?_
  have hgd := gd_X8_lets hInv x1
  refine kX8_lets hF (cwV 1 hts gX8_pass_X8_lets rfl rfl rfl hdX8_lets ⟨Nat.le_of_ble_eq_true rfl, Nat.le_of_ble_eq_true rfl⟩) hC hMo hi hInv  hS (fun _ h => h) hl.1 (Nat.le_of_ble_eq_true rfl) dX8_pass_7 ⟨Nat.zero_le _, Nat.zero_le _⟩ (fun H locs hMo _ _ hS => ?_)
  have hInv := (gd_X8_lets hInv x1).1
  have r_h : rg (((zX8_lets (zX8_begins μ) x1).2) 4 0) 5 := (r_eq (hgd.2.2 4 (by decide)) r_h)
  refine kX8_acted hF (cwV 1 hts gX8_pass_X8_acted rfl rfl rfl hdX8_acted ⟨Nat.le_of_ble_eq_true rfl, Nat.le_of_ble_eq_true rfl⟩) hC hMo hi r_h  hS (fun _ h => h) hl.1 (Nat.le_of_ble_eq_true rfl) dX8_pass_10 ⟨Nat.zero_le _, Nat.zero_le _⟩ (fun H locs hMo _ _ hS => ?_)
  exact W.iret (v := (zX8_acted ((zX8_lets (zX8_begins μ) x1).2) ((zX8_lets (zX8_begins μ) x1).1)).1) hx hb hr (fun t ht hW => ⟨⟨(zX8_acted ((zX8_lets (zX8_begins μ) x1).2) ((zX8_lets (zX8_begins μ) x1).1)).1, (zX8_acted ((zX8_lets (zX8_begins μ) x1).2) ((zX8_lets (zX8_begins μ) x1).1)).2, rfl, ⟨rfl, rfl⟩, by dsimp only; rw [ht]; exact hMo⟩, hS.F ht⟩) hS.2.2 dX8_pass_13
set_option maxHeartbeats 4000000 in
set_option maxRecDepth 100000 in
theorem kX8_pass {p : Program} {l : Launch} {e : Env} {R : Room} {s : State} {m : MethodId} {args : Array Value} {below : List Frame} {meth : Method} {c : Code} {H : Heap} {locs : List Loc} {cells slots : Nat} {Q : State → Prop} {cc : ByteArray} {nL : Nat} {Ts : List Cond} {own : String} {index pc : Nat} {ls : Array Slot} {rest : List Value} {D : va_G} {y : Y3} {mo : Nat → Nat} {μ : Sg} {x1 : Int32} {A0 : Nat → Prop} {H0 : Heap} (hF : CallFix p m c cc nL s args Ts own) (cw : CallW R s args own RX8 index yX8_pass cX8_pass 2 (some .int) wsX8_pass ({ frames := 8, cells := 0, slots := 0, locals := 181 } : Room) 0 0 1) (hC : CK D y s) (hMo : MoH D y mo μ H) (hi : moI mo) (hInv : InvM μ) (r_h : rg (μ 4 0) 5) (hS : va_S A0 H0 H locs) (hA : ∀ q, (moA mo) q → A0 q) (hsz : ls.size = nL) (hW : (rest.map fun v => v.category).sum ≤ 8) (hdg : decode cc pc = .ok (.invokevirtual index, 3)) (hf : cells ≤ R.cells ∧ slots ≤ R.slots)
    (k : ∀ (H1 : Heap) (locs1 : List Loc), MoH D y mo (zX8_pass μ x1).2 H1 → H.size ≤ H1.size → (∀ q : Nat, q < H.size → ¬ (moA mo) q → H1[q]? = H[q]?) → va_S A0 H0 H1 locs1 → W p l e R s m args below meth c H1 locs1 cells slots Q (F0 m (pc + 3) ls (.int ((zX8_pass μ x1).1) :: rest))) : W p l e R s m args below meth c H locs cells slots Q (F0 m pc ls (.int x1 :: .ref (mo 0) :: rest)) := by
  refine va_calli (va_runV (As := [.int x1]) (rest := rest) hF (mX8_pass l D y mo μ x1) cw ⟨fun a U g mk q => by obtain ⟨q0, q1, q2, q3, q4, q5⟩ := q; exact ⟨q0, q1.call g mk a, q2, q3, q4, q5⟩, va_recv hC.1 hMo (ci := 8) (q0 := 0) rfl rfl, fun U hU hW => ⟨rfl, hC.warm hW, by rw [hU]; exact hMo, hi, hInv, r_h⟩⟩ rfl rfl hsz rfl (lv_room hW) hdg ⟨hf.1, hf.2⟩) hS (fun q _ h => hA q h) hA (fun r u t H1 locs1 ht hvm hp hB hz1 hk1 hS1 => ?_)
  obtain ⟨hp1, hp2⟩ := hp
  subst hp1; subst hp2
  rw [ht] at hB
  exact k H1 locs1 hB hz1 hk1 hS1
def zX8_set (μ : Sg) (x1 : Int32) (x2 : Int32) : Int32 × Sg := if x1 = 0 then (if (zX8_in x1 0 3) = 0 then ((-1), (zX8_begins μ))
    else (if (zX8_in x2 1 48) = 0 then ((-1), (zX8_begins μ))
      else ((zX8_acted (mU (zX8_begins μ) 0 (upd ((zX8_begins μ) 0) (5 + x1).toNatClampNeg x2)) ((zX8_begins μ) 0 (5 + x1).toNatClampNeg)).1, (zX8_acted (mU (zX8_begins μ) 0 (upd ((zX8_begins μ) 0) (5 + x1).toNatClampNeg x2)) ((zX8_begins μ) 0 (5 + x1).toNatClampNeg)).2)))
  else (if x1 = 2 then (if (zX8_in x1 0 3) = 0 then ((-1), (zX8_begins μ))
      else (if (zX8_in x2 1 99) = 0 then ((-1), (zX8_begins μ))
        else ((zX8_acted (mU (zX8_begins μ) 0 (upd ((zX8_begins μ) 0) (5 + x1).toNatClampNeg x2)) ((zX8_begins μ) 0 (5 + x1).toNatClampNeg)).1, (zX8_acted (mU (zX8_begins μ) 0 (upd ((zX8_begins μ) 0) (5 + x1).toNatClampNeg x2)) ((zX8_begins μ) 0 (5 + x1).toNatClampNeg)).2)))
    else (if (zX8_in x1 0 3) = 0 then ((-1), (zX8_begins μ))
      else (if (zX8_in x2 1 9) = 0 then ((-1), (zX8_begins μ))
        else ((zX8_acted (mU (zX8_begins μ) 0 (upd ((zX8_begins μ) 0) (5 + x1).toNatClampNeg x2)) ((zX8_begins μ) 0 (5 + x1).toNatClampNeg)).1, (zX8_acted (mU (zX8_begins μ) 0 (upd ((zX8_begins μ) 0) (5 + x1).toNatClampNeg x2)) ((zX8_begins μ) 0 (5 + x1).toNatClampNeg)).2))))
theorem iwX8_set_X8 : ∀ w ∈ wsX80, w ∈ wsX8_set := fun _ h => List.mem_cons_of_mem _ (List.mem_append_right _ h)
theorem hdX8_set : yX8_set.cls = RX8 ∧ yX8_set.cls ≠ "java/lang/invoke/MethodHandle" ∧ yX8_set.cls ≠ "java/lang/invoke/VarHandle" ∧ (parseMethodDescriptor yX8_set.desc).map (fun d => d.parameters.length) = some 2 := by decide +kernel
set_option maxHeartbeats 4000000 in
set_option maxRecDepth 100000 in
theorem mX8_set (l : Launch) (D : va_G) (y : Y3) (mo : Nat → Nat) (μ : Sg) (x1 : Int32) (x2 : Int32) : Met l yX8_set wsX8_set ({ frames := 2, cells := 0, slots := 0, locals := 43 } : Room) (va_Pc [.ref (mo 0), .int x1, .int x2] (fun U => CK D y U ∧ MoH D y mo μ U.heap ∧ moI mo ∧ InvM μ ∧ rg (μ 4 0) 5)) (va_Qi (fun (r : Int32) (u : Sg) => r = (zX8_set μ x1 x2).1 ∧ u = (zX8_set μ x1 x2).2) (fun u t => MoH D y mo u t.heap) (moA mo)) 0 0 (moA mo) := by
  refine Met.ofW (cc := cX8_set) (maxL := 5) (ret := (some .int)) (by decide) rfl ?_
  intro p e s m args below meth c s₁ B hml hv
  obtain ⟨rfl, hC, hMo, hi, hInv, r_h⟩ := hv
  have hx := B.exec
  have hb := B.bytes
  have hr := B.returns
  have hts := atoms_spec (ws := wsX8_set) B.pre
  have hown : s.vm.findClass RX8 = some m.cls := findClass_of_methodNamed B.named
  have hlocks := B.notSynchronized
  have hF := (⟨hx, hb, hml, hown, hts⟩ : CallFix p m c cX8_set 5 s _ wsX8_set RX8)
  have hS : va_S (moA mo) s.heap s.heap [] := va_S.rf
  have hl := lv_entry ([.ref (mo 0), .int x1, .int x2]) (n := 5) (Nat.le_of_ble_eq_true rfl)
  rw [lg_entry_eq]
  generalize (lg_sl ([.ref (mo 0), .int x1, .int x2]) ++ List.replicate (5 - (lg_sl ([.ref (mo 0), .int x1, .int x2])).length) Slot.unset).toArray = ls at hl ⊢
  have hl : lv_has ls 5 [(0, .ref (mo 0)), (1, .int x1), (2, .int x2)] := hl
  refine lv_aload_n hx hb dX8_set_0 rfl (lv_at hl 0 rfl) ?_
  refine kX8_begins hF (cwV 0 hts gX8_set_X8_begins rfl rfl rfl hdX8_begins ⟨Nat.le_of_ble_eq_true rfl, Nat.le_of_ble_eq_true rfl⟩) hC hMo hi  hS (fun _ h => h) hl.1 (Nat.le_of_ble_eq_true rfl) dX8_set_1 ⟨Nat.zero_le _, Nat.zero_le _⟩ (fun H locs hMo _ _ hS => ?_)
  have hInv := inv_begins hInv
  refine lv_iload_n hx hb dX8_set_4 rfl (lv_at hl 1 rfl) ?_
  refine lv_if_ne (tgt := 13) hx hb dX8_set_5 (by decide) (fun c_1 => ?_) (fun c_1 => ?_)
  · refine lv_iload_n hx hb dX8_set_13 rfl (lv_at hl 1 rfl) ?_
    refine lv_iconst (v := 2) hx hb dX8_set_14 (by decide) ?_
    refine lv_icmp_ne (tgt := 23) hx hb dX8_set_15 (by decide) (fun c_2 => ?_) (fun c_2 => ?_)
    · refine lv_bipush (v := 9) hx hb dX8_set_23 (by decide) ?_
      refine lv_istore_n (lv' := [(3, .int 9), (0, .ref (mo 0)), (1, .int x1), (2, .int x2)]) hx hb dX8_set_25 rfl hl (by decide) rfl (fun ls hl => ?_)
      refine lv_iload_n hx hb dX8_set_26 rfl (lv_at hl 2 rfl) ?_
      refine lv_iconst (v := 0) hx hb dX8_set_27 (by decide) ?_
      refine lv_iconst (v := 3) hx hb dX8_set_28 (by decide) ?_
      refine kX8_in hF (cwS 3 hts gX8_set_X8_in rfl rfl rfl (by decide +kernel) ⟨Nat.le_of_ble_eq_true rfl, Nat.le_of_ble_eq_true rfl⟩) hC hl.1 (Nat.le_of_ble_eq_true rfl) dX8_set_29 ⟨Nat.zero_le _, Nat.zero_le _⟩ ?_
      refine lv_if_eq (tgt := 44) hx hb dX8_set_32 (by decide) (fun c_3 => ?_) (fun c_3 => ?_)
      · refine lv_iconst (v := (-1)) hx hb dX8_set_44 (by decide) ?_
        exact W.iret (v := (-1)) hx hb hr (fun t ht hW => ⟨⟨(-1), (zX8_begins μ), rfl, ⟨(by unfold zX8_set; rw [if_neg c_1, if_neg c_2, if_pos c_3]), (by unfold zX8_set; rw [if_neg c_1, if_neg c_2, if_pos c_3])⟩, by dsimp only; rw [ht]; exact hMo⟩, hS.F ht⟩) hS.2.2 dX8_set_45
      · have f_4 : rg x1 4 := rg_in c_3
        refine lv_iload_n hx hb dX8_set_35 rfl (lv_at hl 3 rfl) ?_
        refine lv_iconst (v := 1) hx hb dX8_set_36 (by decide) ?_
        refine lv_iload_n hx hb dX8_set_37 rfl (lv_at hl 0 rfl) ?_
        refine kX8_in hF (cwS 3 hts gX8_set_X8_in rfl rfl rfl (by decide +kernel) ⟨Nat.le_of_ble_eq_true rfl, Nat.le_of_ble_eq_true rfl⟩) hC hl.1 (Nat.le_of_ble_eq_true rfl) dX8_set_38 ⟨Nat.zero_le _, Nat.zero_le _⟩ ?_
        refine lv_if_ne (tgt := 46) hx hb dX8_set_41 (by decide) (fun c_5 => ?_) (fun c_5 => ?_)
        · refine lv_aload_n hx hb dX8_set_46 rfl (lv_at hl 1 rfl) ?_
          refine va_get (D := D) (ci := 8) (v := .ref (mo 1)) (C := RX8) (T := TX8) (N := 10) hx hb hts iwX8_set_X8 hown hC.1 hMo 0 rfl rfl 0 (by decide) (hts (.fieldLink RX8 7 "MealLockersModel" "s" "[I") (List.mem_of_getElem? (i := 1) rfl)) (fun _ h9 => h9) rfl dX8_set_47 ?_
          refine lv_iconst (v := 5) hx hb dX8_set_50 (by decide) ?_
          refine lv_iload_n hx hb dX8_set_51 rfl (lv_at hl 2 rfl) ?_
          refine lv_iadd hx hb dX8_set_52 ?_
          refine va_iald hx hb hC.1 hMo 1 0 rfl rfl (vp_5 c_3) dX8_set_53 ?_
          refine lv_istore (lv' := [(4, .int ((zX8_begins μ) 0 (5 + x1).toNatClampNeg)), (3, .int 9), (0, .ref (mo 0)), (1, .int x1), (2, .int x2)]) hx hb dX8_set_54 hl (by decide) rfl (fun ls hl => ?_)
          refine lv_aload_n hx hb dX8_set_56 rfl (lv_at hl 2 rfl) ?_
          refine va_get (D := D) (ci := 8) (v := .ref (mo 1)) (C := RX8) (T := TX8) (N := 10) hx hb hts iwX8_set_X8 hown hC.1 hMo 0 rfl rfl 0 (by decide) (hts (.fieldLink RX8 7 "MealLockersModel" "s" "[I") (List.mem_of_getElem? (i := 1) rfl)) (fun _ h9 => h9) rfl dX8_set_57 ?_
          refine lv_iconst (v := 5) hx hb dX8_set_60 (by decide) ?_
          refine lv_iload_n hx hb dX8_set_61 rfl (lv_at hl 3 rfl) ?_
          refine lv_iadd hx hb dX8_set_62 ?_
          refine lv_iload_n hx hb dX8_set_63 rfl (lv_at hl 4 rfl) ?_
          refine va_iast hx hb hC.1 hMo (mo_D hi) hS 1 0 rfl rfl (vp_5 c_3) dX8_set_64 (fun H locs hMo _ hS => ?_)
          have hMo := mo_row1 hMo
          refine lv_aload_n hx hb dX8_set_65 rfl (lv_at hl 2 rfl) ?_
          refine lv_iload hx hb dX8_set_66 (lv_at hl 0 rfl) ?_
          have r_h : rg ((mU (zX8_begins μ) 0 (upd ((zX8_begins μ) 0) (5 + x1).toNatClampNeg x2)) 4 0) 5 := r_h
          refine kX8_acted hF (cwV 1 hts gX8_set_X8_acted rfl rfl rfl hdX8_acted ⟨Nat.le_of_ble_eq_true rfl, Nat.le_of_ble_eq_true rfl⟩) hC hMo hi r_h  hS (fun _ h => h) hl.1 (Nat.le_of_ble_eq_true rfl) dX8_set_68 ⟨Nat.zero_le _, Nat.zero_le _⟩ (fun H locs hMo _ _ hS => ?_)
          exact W.iret (v := (zX8_acted (mU (zX8_begins μ) 0 (upd ((zX8_begins μ) 0) (5 + x1).toNatClampNeg x2)) ((zX8_begins μ) 0 (5 + x1).toNatClampNeg)).1) hx hb hr (fun t ht hW => ⟨⟨(zX8_acted (mU (zX8_begins μ) 0 (upd ((zX8_begins μ) 0) (5 + x1).toNatClampNeg x2)) ((zX8_begins μ) 0 (5 + x1).toNatClampNeg)).1, (zX8_acted (mU (zX8_begins μ) 0 (upd ((zX8_begins μ) 0) (5 + x1).toNatClampNeg x2)) ((zX8_begins μ) 0 (5 + x1).toNatClampNeg)).2, rfl, ⟨(by unfold zX8_set; rw [if_neg c_1, if_neg c_2, if_neg c_3, if_neg c_5]), (by unfold zX8_set; rw [if_neg c_1, if_neg c_2, if_neg c_3, if_neg c_5])⟩, by dsimp only; rw [ht]; exact hMo⟩, hS.F ht⟩) hS.2.2 dX8_set_71
        · refine lv_iconst (v := (-1)) hx hb dX8_set_44 (by decide) ?_
          exact W.iret (v := (-1)) hx hb hr (fun t ht hW => ⟨⟨(-1), (zX8_begins μ), rfl, ⟨(by unfold zX8_set; rw [if_neg c_1, if_neg c_2, if_neg c_3, if_pos c_5]), (by unfold zX8_set; rw [if_neg c_1, if_neg c_2, if_neg c_3, if_pos c_5])⟩, by dsimp only; rw [ht]; exact hMo⟩, hS.F ht⟩) hS.2.2 dX8_set_45
    · refine lv_bipush (v := 99) hx hb dX8_set_18 (by decide) ?_
      refine lv_goto (tgt := 25) hx hb dX8_set_20 (by decide) ?_
      refine lv_istore_n (lv' := [(3, .int 99), (0, .ref (mo 0)), (1, .int x1), (2, .int x2)]) hx hb dX8_set_25 rfl hl (by decide) rfl (fun ls hl => ?_)
      refine lv_iload_n hx hb dX8_set_26 rfl (lv_at hl 2 rfl) ?_
      refine lv_iconst (v := 0) hx hb dX8_set_27 (by decide) ?_
      refine lv_iconst (v := 3) hx hb dX8_set_28 (by decide) ?_
      refine kX8_in hF (cwS 3 hts gX8_set_X8_in rfl rfl rfl (by decide +kernel) ⟨Nat.le_of_ble_eq_true rfl, Nat.le_of_ble_eq_true rfl⟩) hC hl.1 (Nat.le_of_ble_eq_true rfl) dX8_set_29 ⟨Nat.zero_le _, Nat.zero_le _⟩ ?_
      refine lv_if_eq (tgt := 44) hx hb dX8_set_32 (by decide) (fun c_6 => ?_) (fun c_6 => ?_)
      · refine lv_iconst (v := (-1)) hx hb dX8_set_44 (by decide) ?_
        exact W.iret (v := (-1)) hx hb hr (fun t ht hW => ⟨⟨(-1), (zX8_begins μ), rfl, ⟨(by unfold zX8_set; rw [if_neg c_1, if_pos c_2, if_pos c_6]), (by unfold zX8_set; rw [if_neg c_1, if_pos c_2, if_pos c_6])⟩, by dsimp only; rw [ht]; exact hMo⟩, hS.F ht⟩) hS.2.2 dX8_set_45
      · have f_7 : rg x1 4 := rg_in c_6
        refine lv_iload_n hx hb dX8_set_35 rfl (lv_at hl 3 rfl) ?_
        refine lv_iconst (v := 1) hx hb dX8_set_36 (by decide) ?_
        refine lv_iload_n hx hb dX8_set_37 rfl (lv_at hl 0 rfl) ?_
        refine kX8_in hF (cwS 3 hts gX8_set_X8_in rfl rfl rfl (by decide +kernel) ⟨Nat.le_of_ble_eq_true rfl, Nat.le_of_ble_eq_true rfl⟩) hC hl.1 (Nat.le_of_ble_eq_true rfl) dX8_set_38 ⟨Nat.zero_le _, Nat.zero_le _⟩ ?_
        refine lv_if_ne (tgt := 46) hx hb dX8_set_41 (by decide) (fun c_8 => ?_) (fun c_8 => ?_)
        · refine lv_aload_n hx hb dX8_set_46 rfl (lv_at hl 1 rfl) ?_
          refine va_get (D := D) (ci := 8) (v := .ref (mo 1)) (C := RX8) (T := TX8) (N := 10) hx hb hts iwX8_set_X8 hown hC.1 hMo 0 rfl rfl 0 (by decide) (hts (.fieldLink RX8 7 "MealLockersModel" "s" "[I") (List.mem_of_getElem? (i := 1) rfl)) (fun _ h9 => h9) rfl dX8_set_47 ?_
          refine lv_iconst (v := 5) hx hb dX8_set_50 (by decide) ?_
          refine lv_iload_n hx hb dX8_set_51 rfl (lv_at hl 2 rfl) ?_
          refine lv_iadd hx hb dX8_set_52 ?_
          refine va_iald hx hb hC.1 hMo 1 0 rfl rfl (vp_5 c_6) dX8_set_53 ?_
          refine lv_istore (lv' := [(4, .int ((zX8_begins μ) 0 (5 + x1).toNatClampNeg)), (3, .int 99), (0, .ref (mo 0)), (1, .int x1), (2, .int x2)]) hx hb dX8_set_54 hl (by decide) rfl (fun ls hl => ?_)
          refine lv_aload_n hx hb dX8_set_56 rfl (lv_at hl 2 rfl) ?_
          refine va_get (D := D) (ci := 8) (v := .ref (mo 1)) (C := RX8) (T := TX8) (N := 10) hx hb hts iwX8_set_X8 hown hC.1 hMo 0 rfl rfl 0 (by decide) (hts (.fieldLink RX8 7 "MealLockersModel" "s" "[I") (List.mem_of_getElem? (i := 1) rfl)) (fun _ h9 => h9) rfl dX8_set_57 ?_
          refine lv_iconst (v := 5) hx hb dX8_set_60 (by decide) ?_
          refine lv_iload_n hx hb dX8_set_61 rfl (lv_at hl 3 rfl) ?_
          refine lv_iadd hx hb dX8_set_62 ?_
          refine lv_iload_n hx hb dX8_set_63 rfl (lv_at hl 4 rfl) ?_
          refine va_iast hx hb hC.1 hMo (mo_D hi) hS 1 0 rfl rfl (vp_5 c_6) dX8_set_64 (fun H locs hMo _ hS => ?_)
          have hMo := mo_row1 hMo
          refine lv_aload_n hx hb dX8_set_65 rfl (lv_at hl 2 rfl) ?_
          refine lv_iload hx hb dX8_set_66 (lv_at hl 0 rfl) ?_
          have r_h : rg ((mU (zX8_begins μ) 0 (upd ((zX8_begins μ) 0) (5 + x1).toNatClampNeg x2)) 4 0) 5 := r_h
          refine kX8_acted hF (cwV 1 hts gX8_set_X8_acted rfl rfl rfl hdX8_acted ⟨Nat.le_of_ble_eq_true rfl, Nat.le_of_ble_eq_true rfl⟩) hC hMo hi r_h  hS (fun _ h => h) hl.1 (Nat.le_of_ble_eq_true rfl) dX8_set_68 ⟨Nat.zero_le _, Nat.zero_le _⟩ (fun H locs hMo _ _ hS => ?_)
          exact W.iret (v := (zX8_acted (mU (zX8_begins μ) 0 (upd ((zX8_begins μ) 0) (5 + x1).toNatClampNeg x2)) ((zX8_begins μ) 0 (5 + x1).toNatClampNeg)).1) hx hb hr (fun t ht hW => ⟨⟨(zX8_acted (mU (zX8_begins μ) 0 (upd ((zX8_begins μ) 0) (5 + x1).toNatClampNeg x2)) ((zX8_begins μ) 0 (5 + x1).toNatClampNeg)).1, (zX8_acted (mU (zX8_begins μ) 0 (upd ((zX8_begins μ) 0) (5 + x1).toNatClampNeg x2)) ((zX8_begins μ) 0 (5 + x1).toNatClampNeg)).2, rfl, ⟨(by unfold zX8_set; rw [if_neg c_1, if_pos c_2, if_neg c_6, if_neg c_8]), (by unfold zX8_set; rw [if_neg c_1, if_pos c_2, if_neg c_6, if_neg c_8])⟩, by dsimp only; rw [ht]; exact hMo⟩, hS.F ht⟩) hS.2.2 dX8_set_71
        · refine lv_iconst (v := (-1)) hx hb dX8_set_44 (by decide) ?_
          exact W.iret (v := (-1)) hx hb hr (fun t ht hW => ⟨⟨(-1), (zX8_begins μ), rfl, ⟨(by unfold zX8_set; rw [if_neg c_1, if_pos c_2, if_neg c_6, if_pos c_8]), (by unfold zX8_set; rw [if_neg c_1, if_pos c_2, if_neg c_6, if_pos c_8])⟩, by dsimp only; rw [ht]; exact hMo⟩, hS.F ht⟩) hS.2.2 dX8_set_45
  · refine lv_bipush (v := 48) hx hb dX8_set_8 (by decide) ?_
    refine lv_goto (tgt := 25) hx hb dX8_set_10 (by decide) ?_
    refine lv_istore_n (lv' := [(3, .int 48), (0, .ref (mo 0)), (1, .int x1), (2, .int x2)]) hx hb dX8_set_25 rfl hl (by decide) rfl (fun ls hl => ?_)
    refine lv_iload_n hx hb dX8_set_26 rfl (lv_at hl 2 rfl) ?_
    refine lv_iconst (v := 0) hx hb dX8_set_27 (by decide) ?_
    refine lv_iconst (v := 3) hx hb dX8_set_28 (by decide) ?_
    refine kX8_in hF (cwS 3 hts gX8_set_X8_in rfl rfl rfl (by decide +kernel) ⟨Nat.le_of_ble_eq_true rfl, Nat.le_of_ble_eq_true rfl⟩) hC hl.1 (Nat.le_of_ble_eq_true rfl) dX8_set_29 ⟨Nat.zero_le _, Nat.zero_le _⟩ ?_
    refine lv_if_eq (tgt := 44) hx hb dX8_set_32 (by decide) (fun c_9 => ?_) (fun c_9 => ?_)
    · refine lv_iconst (v := (-1)) hx hb dX8_set_44 (by decide) ?_
      exact W.iret (v := (-1)) hx hb hr (fun t ht hW => ⟨⟨(-1), (zX8_begins μ), rfl, ⟨(by unfold zX8_set; rw [if_pos c_1, if_pos c_9]), (by unfold zX8_set; rw [if_pos c_1, if_pos c_9])⟩, by dsimp only; rw [ht]; exact hMo⟩, hS.F ht⟩) hS.2.2 dX8_set_45
    · have f_10 : rg x1 4 := rg_in c_9
      refine lv_iload_n hx hb dX8_set_35 rfl (lv_at hl 3 rfl) ?_
      refine lv_iconst (v := 1) hx hb dX8_set_36 (by decide) ?_
      refine lv_iload_n hx hb dX8_set_37 rfl (lv_at hl 0 rfl) ?_
      refine kX8_in hF (cwS 3 hts gX8_set_X8_in rfl rfl rfl (by decide +kernel) ⟨Nat.le_of_ble_eq_true rfl, Nat.le_of_ble_eq_true rfl⟩) hC hl.1 (Nat.le_of_ble_eq_true rfl) dX8_set_38 ⟨Nat.zero_le _, Nat.zero_le _⟩ ?_
      refine lv_if_ne (tgt := 46) hx hb dX8_set_41 (by decide) (fun c_11 => ?_) (fun c_11 => ?_)
      · refine lv_aload_n hx hb dX8_set_46 rfl (lv_at hl 1 rfl) ?_
        refine va_get (D := D) (ci := 8) (v := .ref (mo 1)) (C := RX8) (T := TX8) (N := 10) hx hb hts iwX8_set_X8 hown hC.1 hMo 0 rfl rfl 0 (by decide) (hts (.fieldLink RX8 7 "MealLockersModel" "s" "[I") (List.mem_of_getElem? (i := 1) rfl)) (fun _ h9 => h9) rfl dX8_set_47 ?_
        refine lv_iconst (v := 5) hx hb dX8_set_50 (by decide) ?_
        refine lv_iload_n hx hb dX8_set_51 rfl (lv_at hl 2 rfl) ?_
        refine lv_iadd hx hb dX8_set_52 ?_
        refine va_iald hx hb hC.1 hMo 1 0 rfl rfl (vp_5 c_9) dX8_set_53 ?_
        refine lv_istore (lv' := [(4, .int ((zX8_begins μ) 0 (5 + x1).toNatClampNeg)), (3, .int 48), (0, .ref (mo 0)), (1, .int x1), (2, .int x2)]) hx hb dX8_set_54 hl (by decide) rfl (fun ls hl => ?_)
        refine lv_aload_n hx hb dX8_set_56 rfl (lv_at hl 2 rfl) ?_
        refine va_get (D := D) (ci := 8) (v := .ref (mo 1)) (C := RX8) (T := TX8) (N := 10) hx hb hts iwX8_set_X8 hown hC.1 hMo 0 rfl rfl 0 (by decide) (hts (.fieldLink RX8 7 "MealLockersModel" "s" "[I") (List.mem_of_getElem? (i := 1) rfl)) (fun _ h9 => h9) rfl dX8_set_57 ?_
        refine lv_iconst (v := 5) hx hb dX8_set_60 (by decide) ?_
        refine lv_iload_n hx hb dX8_set_61 rfl (lv_at hl 3 rfl) ?_
        refine lv_iadd hx hb dX8_set_62 ?_
        refine lv_iload_n hx hb dX8_set_63 rfl (lv_at hl 4 rfl) ?_
        refine va_iast hx hb hC.1 hMo (mo_D hi) hS 1 0 rfl rfl (vp_5 c_9) dX8_set_64 (fun H locs hMo _ hS => ?_)
        have hMo := mo_row1 hMo
        refine lv_aload_n hx hb dX8_set_65 rfl (lv_at hl 2 rfl) ?_
        refine lv_iload hx hb dX8_set_66 (lv_at hl 0 rfl) ?_
        have r_h : rg ((mU (zX8_begins μ) 0 (upd ((zX8_begins μ) 0) (5 + x1).toNatClampNeg x2)) 4 0) 5 := r_h
        refine kX8_acted hF (cwV 1 hts gX8_set_X8_acted rfl rfl rfl hdX8_acted ⟨Nat.le_of_ble_eq_true rfl, Nat.le_of_ble_eq_true rfl⟩) hC hMo hi r_h  hS (fun _ h => h) hl.1 (Nat.le_of_ble_eq_true rfl) dX8_set_68 ⟨Nat.zero_le _, Nat.zero_le _⟩ (fun H locs hMo _ _ hS => ?_)
        exact W.iret (v := (zX8_acted (mU (zX8_begins μ) 0 (upd ((zX8_begins μ) 0) (5 + x1).toNatClampNeg x2)) ((zX8_begins μ) 0 (5 + x1).toNatClampNeg)).1) hx hb hr (fun t ht hW => ⟨⟨(zX8_acted (mU (zX8_begins μ) 0 (upd ((zX8_begins μ) 0) (5 + x1).toNatClampNeg x2)) ((zX8_begins μ) 0 (5 + x1).toNatClampNeg)).1, (zX8_acted (mU (zX8_begins μ) 0 (upd ((zX8_begins μ) 0) (5 + x1).toNatClampNeg x2)) ((zX8_begins μ) 0 (5 + x1).toNatClampNeg)).2, rfl, ⟨(by unfold zX8_set; rw [if_pos c_1, if_neg c_9, if_neg c_11]), (by unfold zX8_set; rw [if_pos c_1, if_neg c_9, if_neg c_11])⟩, by dsimp only; rw [ht]; exact hMo⟩, hS.F ht⟩) hS.2.2 dX8_set_71
      · refine lv_iconst (v := (-1)) hx hb dX8_set_44 (by decide) ?_
        exact W.iret (v := (-1)) hx hb hr (fun t ht hW => ⟨⟨(-1), (zX8_begins μ), rfl, ⟨(by unfold zX8_set; rw [if_pos c_1, if_neg c_9, if_pos c_11]), (by unfold zX8_set; rw [if_pos c_1, if_neg c_9, if_pos c_11])⟩, by dsimp only; rw [ht]; exact hMo⟩, hS.F ht⟩) hS.2.2 dX8_set_45
set_option maxHeartbeats 4000000 in
set_option maxRecDepth 100000 in
theorem kX8_set {p : Program} {l : Launch} {e : Env} {R : Room} {s : State} {m : MethodId} {args : Array Value} {below : List Frame} {meth : Method} {c : Code} {H : Heap} {locs : List Loc} {cells slots : Nat} {Q : State → Prop} {cc : ByteArray} {nL : Nat} {Ts : List Cond} {own : String} {index pc : Nat} {ls : Array Slot} {rest : List Value} {D : va_G} {y : Y3} {mo : Nat → Nat} {μ : Sg} {x1 : Int32} {x2 : Int32} {A0 : Nat → Prop} {H0 : Heap} (hF : CallFix p m c cc nL s args Ts own) (cw : CallW R s args own RX8 index yX8_set cX8_set 5 (some .int) wsX8_set ({ frames := 2, cells := 0, slots := 0, locals := 43 } : Room) 0 0 2) (hC : CK D y s) (hMo : MoH D y mo μ H) (hi : moI mo) (hInv : InvM μ) (r_h : rg (μ 4 0) 5) (hS : va_S A0 H0 H locs) (hA : ∀ q, (moA mo) q → A0 q) (hsz : ls.size = nL) (hW : (rest.map fun v => v.category).sum ≤ 8) (hdg : decode cc pc = .ok (.invokevirtual index, 3)) (hf : cells ≤ R.cells ∧ slots ≤ R.slots)
    (k : ∀ (H1 : Heap) (locs1 : List Loc), MoH D y mo (zX8_set μ x1 x2).2 H1 → H.size ≤ H1.size → (∀ q : Nat, q < H.size → ¬ (moA mo) q → H1[q]? = H[q]?) → va_S A0 H0 H1 locs1 → W p l e R s m args below meth c H1 locs1 cells slots Q (F0 m (pc + 3) ls (.int ((zX8_set μ x1 x2).1) :: rest))) : W p l e R s m args below meth c H locs cells slots Q (F0 m pc ls (.int x2 :: .int x1 :: .ref (mo 0) :: rest)) := by
  refine va_calli (va_runV (As := [.int x1, .int x2]) (rest := rest) hF (mX8_set l D y mo μ x1 x2) cw ⟨fun a U g mk q => by obtain ⟨q0, q1, q2, q3, q4, q5⟩ := q; exact ⟨q0, q1.call g mk a, q2, q3, q4, q5⟩, va_recv hC.1 hMo (ci := 8) (q0 := 0) rfl rfl, fun U hU hW => ⟨rfl, hC.warm hW, by rw [hU]; exact hMo, hi, hInv, r_h⟩⟩ rfl rfl hsz rfl (lv_room hW) hdg ⟨hf.1, hf.2⟩) hS (fun q _ h => hA q h) hA (fun r u t H1 locs1 ht hvm hp hB hz1 hk1 hS1 => ?_)
  obtain ⟨hp1, hp2⟩ := hp
  subst hp1; subst hp2
  rw [ht] at hB
  exact k H1 locs1 hB hz1 hk1 hS1
def zX8_wouldSpoil (μ : Sg) (x1 : Int32) : Int32 × Sg := if (zX8_in x1 1 99) = 0 then ((-1), μ)
  else ((zX8_passes (zX8_begins μ) x1).1, (zX8_returns ((zX8_passes (zX8_begins μ) x1).2)))
theorem hdX8_wouldSpoil : yX8_wouldSpoil.cls = RX8 ∧ yX8_wouldSpoil.cls ≠ "java/lang/invoke/MethodHandle" ∧ yX8_wouldSpoil.cls ≠ "java/lang/invoke/VarHandle" ∧ (parseMethodDescriptor yX8_wouldSpoil.desc).map (fun d => d.parameters.length) = some 1 := by decide +kernel
set_option maxHeartbeats 4000000 in
set_option maxRecDepth 100000 in
theorem mX8_wouldSpoil (l : Launch) (D : va_G) (y : Y3) (mo : Nat → Nat) (μ : Sg) (x1 : Int32) : Met l yX8_wouldSpoil wsX8_wouldSpoil ({ frames := 7, cells := 0, slots := 0, locals := 160 } : Room) (va_Pc [.ref (mo 0), .int x1] (fun U => CK D y U ∧ MoH D y mo μ U.heap ∧ moI mo ∧ InvM μ)) (va_Qi (fun (r : Int32) (u : Sg) => r = (zX8_wouldSpoil μ x1).1 ∧ u = (zX8_wouldSpoil μ x1).2) (fun u t => MoH D y mo u t.heap) (moA mo)) 0 0 (moA mo) := by
  refine Met.ofW (cc := cX8_wouldSpoil) (maxL := 3) (ret := (some .int)) (by decide) rfl ?_
  intro p e s m args below meth c s₁ B hml hv
  obtain ⟨rfl, hC, hMo, hi, hInv⟩ := hv
  have hx := B.exec
  have hb := B.bytes
  have hr := B.returns
  have hts := atoms_spec (ws := wsX8_wouldSpoil) B.pre
  have hown : s.vm.findClass RX8 = some m.cls := findClass_of_methodNamed B.named
  have hlocks := B.notSynchronized
  have hF := (⟨hx, hb, hml, hown, hts⟩ : CallFix p m c cX8_wouldSpoil 3 s _ wsX8_wouldSpoil RX8)
  have hS : va_S (moA mo) s.heap s.heap [] := va_S.rf
  have hl := lv_entry ([.ref (mo 0), .int x1]) (n := 3) (Nat.le_of_ble_eq_true rfl)
  rw [lg_entry_eq]
  generalize (lg_sl ([.ref (mo 0), .int x1]) ++ List.replicate (3 - (lg_sl ([.ref (mo 0), .int x1])).length) Slot.unset).toArray = ls at hl ⊢
  have hl : lv_has ls 3 [(0, .ref (mo 0)), (1, .int x1)] := hl
  refine lv_iload_n hx hb dX8_wouldSpoil_0 rfl (lv_at hl 1 rfl) ?_
  refine lv_iconst (v := 1) hx hb dX8_wouldSpoil_1 (by decide) ?_
  refine lv_bipush (v := 99) hx hb dX8_wouldSpoil_2 (by decide) ?_
  refine kX8_in hF (cwS 3 hts gX8_wouldSpoil_X8_in rfl rfl rfl (by decide +kernel) ⟨Nat.le_of_ble_eq_true rfl, Nat.le_of_ble_eq_true rfl⟩) hC hl.1 (Nat.le_of_ble_eq_true rfl) dX8_wouldSpoil_4 ⟨Nat.zero_le _, Nat.zero_le _⟩ ?_
  refine lv_if_ne (tgt := 12) hx hb dX8_wouldSpoil_7 (by decide) (fun c_1 => ?_) (fun c_1 => ?_)
  · refine lv_aload_n hx hb dX8_wouldSpoil_12 rfl (lv_at hl 0 rfl) ?_
    refine kX8_begins hF (cwV 0 hts gX8_wouldSpoil_X8_begins rfl rfl rfl hdX8_begins ⟨Nat.le_of_ble_eq_true rfl, Nat.le_of_ble_eq_true rfl⟩) hC hMo hi  hS (fun _ h => h) hl.1 (Nat.le_of_ble_eq_true rfl) dX8_wouldSpoil_13 ⟨Nat.zero_le _, Nat.zero_le _⟩ (fun H locs hMo _ _ hS => ?_)
    have hInv := inv_begins hInv
    refine lv_aload_n hx hb dX8_wouldSpoil_16 rfl (lv_at hl 0 rfl) ?_
    refine lv_iload_n hx hb dX8_wouldSpoil_17 rfl (lv_at hl 1 rfl) ?_
    refine kX8_passes hF (cwV 1 hts gX8_wouldSpoil_X8_passes rfl rfl rfl hdX8_passes ⟨Nat.le_of_ble_eq_true rfl, Nat.le_of_ble_eq_true rfl⟩) hC hMo hi hInv  hS (fun _ h => h) hl.1 (Nat.le_of_ble_eq_true rfl) dX8_wouldSpoil_18 ⟨Nat.zero_le _, Nat.zero_le _⟩ (fun H locs hMo _ _ hS => ?_)
    have hInv := (gd_X8_passes hInv x1).1
    refine lv_istore_n (lv' := [(2, .int ((zX8_passes (zX8_begins μ) x1).1)), (0, .ref (mo 0)), (1, .int x1)]) hx hb dX8_wouldSpoil_21 rfl hl (by decide) rfl (fun ls hl => ?_)
    refine lv_aload_n hx hb dX8_wouldSpoil_22 rfl (lv_at hl 1 rfl) ?_
    refine kX8_returns hF (cwV 0 hts gX8_wouldSpoil_X8_returns rfl rfl rfl hdX8_returns ⟨Nat.le_of_ble_eq_true rfl, Nat.le_of_ble_eq_true rfl⟩) hC hMo hi  hS (fun _ h => h) hl.1 (Nat.le_of_ble_eq_true rfl) dX8_wouldSpoil_23 ⟨Nat.zero_le _, Nat.zero_le _⟩ (fun H locs hMo _ _ hS => ?_)
    refine lv_iload_n hx hb dX8_wouldSpoil_26 rfl (lv_at hl 0 rfl) ?_
    exact W.iret (v := (zX8_passes (zX8_begins μ) x1).1) hx hb hr (fun t ht hW => ⟨⟨(zX8_passes (zX8_begins μ) x1).1, (zX8_returns ((zX8_passes (zX8_begins μ) x1).2)), rfl, ⟨(by unfold zX8_wouldSpoil; rw [if_neg c_1]), (by unfold zX8_wouldSpoil; rw [if_neg c_1])⟩, by dsimp only; rw [ht]; exact hMo⟩, hS.F ht⟩) hS.2.2 dX8_wouldSpoil_27
  · refine lv_iconst (v := (-1)) hx hb dX8_wouldSpoil_10 (by decide) ?_
    exact W.iret (v := (-1)) hx hb hr (fun t ht hW => ⟨⟨(-1), μ, rfl, ⟨(by unfold zX8_wouldSpoil; rw [if_pos c_1]), (by unfold zX8_wouldSpoil; rw [if_pos c_1])⟩, by dsimp only; rw [ht]; exact hMo⟩, hS.F ht⟩) hS.2.2 dX8_wouldSpoil_11
set_option maxHeartbeats 4000000 in
set_option maxRecDepth 100000 in
theorem kX8_wouldSpoil {p : Program} {l : Launch} {e : Env} {R : Room} {s : State} {m : MethodId} {args : Array Value} {below : List Frame} {meth : Method} {c : Code} {H : Heap} {locs : List Loc} {cells slots : Nat} {Q : State → Prop} {cc : ByteArray} {nL : Nat} {Ts : List Cond} {own : String} {index pc : Nat} {ls : Array Slot} {rest : List Value} {D : va_G} {y : Y3} {mo : Nat → Nat} {μ : Sg} {x1 : Int32} {A0 : Nat → Prop} {H0 : Heap} (hF : CallFix p m c cc nL s args Ts own) (cw : CallW R s args own RX8 index yX8_wouldSpoil cX8_wouldSpoil 3 (some .int) wsX8_wouldSpoil ({ frames := 7, cells := 0, slots := 0, locals := 160 } : Room) 0 0 1) (hC : CK D y s) (hMo : MoH D y mo μ H) (hi : moI mo) (hInv : InvM μ) (hS : va_S A0 H0 H locs) (hA : ∀ q, (moA mo) q → A0 q) (hsz : ls.size = nL) (hW : (rest.map fun v => v.category).sum ≤ 8) (hdg : decode cc pc = .ok (.invokevirtual index, 3)) (hf : cells ≤ R.cells ∧ slots ≤ R.slots)
    (k : ∀ (H1 : Heap) (locs1 : List Loc), MoH D y mo (zX8_wouldSpoil μ x1).2 H1 → H.size ≤ H1.size → (∀ q : Nat, q < H.size → ¬ (moA mo) q → H1[q]? = H[q]?) → va_S A0 H0 H1 locs1 → W p l e R s m args below meth c H1 locs1 cells slots Q (F0 m (pc + 3) ls (.int ((zX8_wouldSpoil μ x1).1) :: rest))) : W p l e R s m args below meth c H locs cells slots Q (F0 m pc ls (.int x1 :: .ref (mo 0) :: rest)) := by
  refine va_calli (va_runV (As := [.int x1]) (rest := rest) hF (mX8_wouldSpoil l D y mo μ x1) cw ⟨fun a U g mk q => by obtain ⟨q0, q1, q2, q3, q4⟩ := q; exact ⟨q0, q1.call g mk a, q2, q3, q4⟩, va_recv hC.1 hMo (ci := 8) (q0 := 0) rfl rfl, fun U hU hW => ⟨rfl, hC.warm hW, by rw [hU]; exact hMo, hi, hInv⟩⟩ rfl rfl hsz rfl (lv_room hW) hdg ⟨hf.1, hf.2⟩) hS (fun q _ h => hA q h) hA (fun r u t H1 locs1 ht hvm hp hB hz1 hk1 hS1 => ?_)
  obtain ⟨hp1, hp2⟩ := hp
  subst hp1; subst hp2
  rw [ht] at hB
  exact k H1 locs1 hB hz1 hk1 hS1
