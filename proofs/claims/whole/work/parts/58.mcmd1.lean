theorem rg_ne24 {x : Int32} (h : rg x 25) (hc : ¬ x = 24) : rg x 24 := by
  have := lv_neT (a := 24) hc (by decide)
  exact ⟨h.1, by have := h.2; omega⟩
theorem rg_in01 {x : Int32} (h : rg x 2) : x = 0 ∨ x = 1 := by
  obtain ⟨e, h2⟩ := rg_nI h
  have h3 := h.1
  have h4 := h.2
  generalize x.toNatClampNeg = n at *
  match n, h2 with
  | 0, _ => exact Or.inl e
  | 1, _ => exact Or.inr e
  | n + 2, h2 => omega
theorem rg_45 {x : Int32} (h : rg x 2) : rg (4 + x) 8 := by
  rcases rg_in01 h with rfl | rfl <;> decide
theorem vp_9 {x : Int32} (h : rg x 2) : vp_in (9 + x) 299 := by
  rcases rg_in01 h with rfl | rfl
  · exact vpl (by decide)
  · exact vpl (by decide)
theorem cl_ne {x : Int32} {i : Nat} (h : i < x.toNatClampNeg) : ¬ nI i = x := by
  intro e
  have h0 : i < 2 ^ 31 := by have := clamp_lt x; omega
  rw [← e, nI_clamp h0] at h
  omega
def zX8_addsMeal (μ : Sg) (x1 : Int32) (x2 : Int32) (x3 : Int32) : Int32 × Sg := if (zX8_freeCells μ x1) = 0 then ((-2), μ)
  else (if (μ 0 1) = 24 then ((-3), μ)
    else ((μ 0 1), (zX8_moreOf (zX8_setMeal (zX8_setMeal (zX8_setMeal (zX8_setMeal (mU μ 0 (upd (μ 0) 1 ((μ 0 1) + 1))) (μ 0 1) 1 x1) (μ 0 1) 2 x2) (μ 0 1) 3 x3) (μ 0 1) 5 (-1)) x1 2)))
theorem iwX8_addsMeal_X8 : ∀ w ∈ wsX80, w ∈ wsX8_addsMeal := fun _ h => List.mem_cons_of_mem _ (List.mem_append_right _ h)
theorem hdX8_addsMeal : yX8_addsMeal.cls = RX8 ∧ yX8_addsMeal.cls ≠ "java/lang/invoke/MethodHandle" ∧ yX8_addsMeal.cls ≠ "java/lang/invoke/VarHandle" ∧ (parseMethodDescriptor yX8_addsMeal.desc).map (fun d => d.parameters.length) = some 3 := by decide +kernel
set_option maxHeartbeats 4000000 in
set_option maxRecDepth 100000 in
theorem mX8_addsMeal (l : Launch) (D : va_G) (y : Y3) (mo : Nat → Nat) (μ : Sg) (x1 : Int32) (x2 : Int32) (x3 : Int32) : Met l yX8_addsMeal wsX8_addsMeal ({ frames := 4, cells := 0, slots := 0, locals := 90 } : Room) (va_Pc [.ref (mo 0), .int x1, .int x2, .int x3] (fun U => CK D y U ∧ MoH D y mo μ U.heap ∧ moI mo ∧ InvM μ ∧ rg x1 5)) (va_Qi (fun (r : Int32) (u : Sg) => r = (zX8_addsMeal μ x1 x2 x3).1 ∧ u = (zX8_addsMeal μ x1 x2 x3).2) (fun u t => MoH D y mo u t.heap) (moA mo)) 0 0 (moA mo) := by
  refine Met.ofW (cc := cX8_addsMeal) (maxL := 5) (ret := (some .int)) (by decide) rfl ?_
  intro p e s m args below meth c s₁ B hml hv
  obtain ⟨rfl, hC, hMo, hi, hInv, r_x1⟩ := hv
  have hx := B.exec
  have hb := B.bytes
  have hr := B.returns
  have hts := atoms_spec (ws := wsX8_addsMeal) B.pre
  have hown : s.vm.findClass RX8 = some m.cls := findClass_of_methodNamed B.named
  have hlocks := B.notSynchronized
  have hF := (⟨hx, hb, hml, hown, hts⟩ : CallFix p m c cX8_addsMeal 5 s _ wsX8_addsMeal RX8)
  have hS : va_S (moA mo) s.heap s.heap [] := va_S.rf
  have hl := lv_entry ([.ref (mo 0), .int x1, .int x2, .int x3]) (n := 5) (Nat.le_of_ble_eq_true rfl)
  rw [lg_entry_eq]
  generalize (lg_sl ([.ref (mo 0), .int x1, .int x2, .int x3]) ++ List.replicate (5 - (lg_sl ([.ref (mo 0), .int x1, .int x2, .int x3])).length) Slot.unset).toArray = ls at hl ⊢
  have hl : lv_has ls 5 [(0, .ref (mo 0)), (1, .int x1), (2, .int x2), (3, .int x3)] := hl
  refine lv_aload_n hx hb dX8_addsMeal_0 rfl (lv_at hl 0 rfl) ?_
  refine lv_iload_n hx hb dX8_addsMeal_1 rfl (lv_at hl 1 rfl) ?_
  refine kX8_freeCells hF (cwV 1 hts gX8_addsMeal_X8_freeCells rfl rfl rfl hdX8_freeCells ⟨Nat.le_of_ble_eq_true rfl, Nat.le_of_ble_eq_true rfl⟩) hC hMo hInv r_x1 hl.1 (Nat.le_of_ble_eq_true rfl) dX8_addsMeal_2 ⟨Nat.zero_le _, Nat.zero_le _⟩ ?_
  refine lv_if_ne (tgt := 11) hx hb dX8_addsMeal_5 (by decide) (fun c_1 => ?_) (fun c_1 => ?_)
  · refine lv_aload_n hx hb dX8_addsMeal_11 rfl (lv_at hl 0 rfl) ?_
    refine va_get (D := D) (ci := 8) (v := .ref (mo 1)) (C := RX8) (T := TX8) (N := 10) hx hb hts iwX8_addsMeal_X8 hown hC.1 hMo 0 rfl rfl 0 (by decide) (hts (.fieldLink RX8 7 "MealLockersModel" "s" "[I") (List.mem_of_getElem? (i := 1) rfl)) (fun _ h9 => h9) rfl dX8_addsMeal_12 ?_
    refine lv_iconst (v := 1) hx hb dX8_addsMeal_15 (by decide) ?_
    refine va_iald hx hb hC.1 hMo 1 0 rfl rfl (vpl (by decide)) dX8_addsMeal_16 ?_
    rw [cl_1]
    refine lv_bipush (v := 24) hx hb dX8_addsMeal_17 (by decide) ?_
    refine lv_icmp_ne (tgt := 25) hx hb dX8_addsMeal_19 (by decide) (fun c_2 => ?_) (fun c_2 => ?_)
    · have f_3 : rg (μ 0 1) 24 := rg_ne24 hInv.2.1 c_2
      refine lv_aload_n hx hb dX8_addsMeal_25 rfl (lv_at hl 0 rfl) ?_
      refine va_get (D := D) (ci := 8) (v := .ref (mo 1)) (C := RX8) (T := TX8) (N := 10) hx hb hts iwX8_addsMeal_X8 hown hC.1 hMo 0 rfl rfl 0 (by decide) (hts (.fieldLink RX8 7 "MealLockersModel" "s" "[I") (List.mem_of_getElem? (i := 1) rfl)) (fun _ h9 => h9) rfl dX8_addsMeal_26 ?_
      refine lv_iconst (v := 1) hx hb dX8_addsMeal_29 (by decide) ?_
      refine va_iald hx hb hC.1 hMo 1 0 rfl rfl (vpl (by decide)) dX8_addsMeal_30 ?_
      rw [cl_1]
      refine lv_istore (lv' := [(4, .int (μ 0 1)), (0, .ref (mo 0)), (1, .int x1), (2, .int x2), (3, .int x3)]) hx hb dX8_addsMeal_31 hl (by decide) rfl (fun ls hl => ?_)
      refine lv_aload_n hx hb dX8_addsMeal_33 rfl (lv_at hl 1 rfl) ?_
      refine va_get (D := D) (ci := 8) (v := .ref (mo 1)) (C := RX8) (T := TX8) (N := 10) hx hb hts iwX8_addsMeal_X8 hown hC.1 hMo 0 rfl rfl 0 (by decide) (hts (.fieldLink RX8 7 "MealLockersModel" "s" "[I") (List.mem_of_getElem? (i := 1) rfl)) (fun _ h9 => h9) rfl dX8_addsMeal_34 ?_
      refine lv_iconst (v := 1) hx hb dX8_addsMeal_37 (by decide) ?_
      refine lv_dup2_11 hx hb dX8_addsMeal_38 rfl rfl ?_
      refine va_iald hx hb hC.1 hMo 1 0 rfl rfl (vpl (by decide)) dX8_addsMeal_39 ?_
      rw [cl_1]
      refine lv_iconst (v := 1) hx hb dX8_addsMeal_40 (by decide) ?_
      refine lv_iadd hx hb dX8_addsMeal_41 ?_
      refine va_iast hx hb hC.1 hMo (mo_D hi) hS 1 0 rfl rfl (vpl (by decide)) dX8_addsMeal_42 (fun H locs hMo _ hS => ?_)
      rw [cl_1] at hMo
      have hMo := mo_row1 hMo
      refine lv_aload_n hx hb dX8_addsMeal_43 rfl (lv_at hl 1 rfl) ?_
      refine lv_iload hx hb dX8_addsMeal_44 (lv_at hl 0 rfl) ?_
      refine lv_iconst (v := 1) hx hb dX8_addsMeal_46 (by decide) ?_
      refine lv_iload_n hx hb dX8_addsMeal_47 rfl (lv_at hl 2 rfl) ?_
      refine kX8_setMeal hF (cwV 3 hts gX8_addsMeal_X8_setMeal rfl rfl rfl hdX8_setMeal ⟨Nat.le_of_ble_eq_true rfl, Nat.le_of_ble_eq_true rfl⟩) hC hMo hi f_3 (by decide) hS (fun _ h => h) hl.1 (Nat.le_of_ble_eq_true rfl) dX8_addsMeal_48 ⟨Nat.zero_le _, Nat.zero_le _⟩ (fun H locs hMo _ _ hS => ?_)
      refine lv_aload_n hx hb dX8_addsMeal_51 rfl (lv_at hl 1 rfl) ?_
      refine lv_iload hx hb dX8_addsMeal_52 (lv_at hl 0 rfl) ?_
      refine lv_iconst (v := 2) hx hb dX8_addsMeal_54 (by decide) ?_
      refine lv_iload_n hx hb dX8_addsMeal_55 rfl (lv_at hl 3 rfl) ?_
      refine kX8_setMeal hF (cwV 3 hts gX8_addsMeal_X8_setMeal rfl rfl rfl hdX8_setMeal ⟨Nat.le_of_ble_eq_true rfl, Nat.le_of_ble_eq_true rfl⟩) hC hMo hi f_3 (by decide) hS (fun _ h => h) hl.1 (Nat.le_of_ble_eq_true rfl) dX8_addsMeal_56 ⟨Nat.zero_le _, Nat.zero_le _⟩ (fun H locs hMo _ _ hS => ?_)
      refine lv_aload_n hx hb dX8_addsMeal_59 rfl (lv_at hl 1 rfl) ?_
      refine lv_iload hx hb dX8_addsMeal_60 (lv_at hl 0 rfl) ?_
      refine lv_iconst (v := 3) hx hb dX8_addsMeal_62 (by decide) ?_
      refine lv_iload_n hx hb dX8_addsMeal_63 rfl (lv_at hl 4 rfl) ?_
      refine kX8_setMeal hF (cwV 3 hts gX8_addsMeal_X8_setMeal rfl rfl rfl hdX8_setMeal ⟨Nat.le_of_ble_eq_true rfl, Nat.le_of_ble_eq_true rfl⟩) hC hMo hi f_3 (by decide) hS (fun _ h => h) hl.1 (Nat.le_of_ble_eq_true rfl) dX8_addsMeal_64 ⟨Nat.zero_le _, Nat.zero_le _⟩ (fun H locs hMo _ _ hS => ?_)
      refine lv_aload_n hx hb dX8_addsMeal_67 rfl (lv_at hl 1 rfl) ?_
      refine lv_iload hx hb dX8_addsMeal_68 (lv_at hl 0 rfl) ?_
      refine lv_iconst (v := 5) hx hb dX8_addsMeal_70 (by decide) ?_
      refine lv_iconst (v := (-1)) hx hb dX8_addsMeal_71 (by decide) ?_
      refine kX8_setMeal hF (cwV 3 hts gX8_addsMeal_X8_setMeal rfl rfl rfl hdX8_setMeal ⟨Nat.le_of_ble_eq_true rfl, Nat.le_of_ble_eq_true rfl⟩) hC hMo hi f_3 (by decide) hS (fun _ h => h) hl.1 (Nat.le_of_ble_eq_true rfl) dX8_addsMeal_72 ⟨Nat.zero_le _, Nat.zero_le _⟩ (fun H locs hMo _ _ hS => ?_)
      refine lv_aload_n hx hb dX8_addsMeal_75 rfl (lv_at hl 1 rfl) ?_
      refine lv_iload_n hx hb dX8_addsMeal_76 rfl (lv_at hl 2 rfl) ?_
      refine lv_iconst (v := 2) hx hb dX8_addsMeal_77 (by decide) ?_
      refine kX8_moreOf hF (cwV 2 hts gX8_addsMeal_X8_moreOf rfl rfl rfl hdX8_moreOf ⟨Nat.le_of_ble_eq_true rfl, Nat.le_of_ble_eq_true rfl⟩) hC hMo hi r_x1 (by decide) hS (fun _ h => h) hl.1 (Nat.le_of_ble_eq_true rfl) dX8_addsMeal_78 ⟨Nat.zero_le _, Nat.zero_le _⟩ (fun H locs hMo _ _ hS => ?_)
      refine lv_iload hx hb dX8_addsMeal_81 (lv_at hl 0 rfl) ?_
      exact W.iret (v := (μ 0 1)) hx hb hr (fun t ht hW => ⟨⟨(μ 0 1), (zX8_moreOf (zX8_setMeal (zX8_setMeal (zX8_setMeal (zX8_setMeal (mU μ 0 (upd (μ 0) 1 ((μ 0 1) + 1))) (μ 0 1) 1 x1) (μ 0 1) 2 x2) (μ 0 1) 3 x3) (μ 0 1) 5 (-1)) x1 2), rfl, ⟨(by unfold zX8_addsMeal; rw [if_neg c_1, if_neg c_2]), (by unfold zX8_addsMeal; rw [if_neg c_1, if_neg c_2])⟩, by dsimp only; rw [ht]; exact hMo⟩, hS.F ht⟩) hS.2.2 dX8_addsMeal_83
    · refine lv_bipush (v := (-3)) hx hb dX8_addsMeal_22 (by decide) ?_
      exact W.iret (v := (-3)) hx hb hr (fun t ht hW => ⟨⟨(-3), μ, rfl, ⟨(by unfold zX8_addsMeal; rw [if_neg c_1, if_pos c_2]), (by unfold zX8_addsMeal; rw [if_neg c_1, if_pos c_2])⟩, by dsimp only; rw [ht]; exact hMo⟩, hS.F ht⟩) hS.2.2 dX8_addsMeal_24
  · refine lv_bipush (v := (-2)) hx hb dX8_addsMeal_8 (by decide) ?_
    exact W.iret (v := (-2)) hx hb hr (fun t ht hW => ⟨⟨(-2), μ, rfl, ⟨(by unfold zX8_addsMeal; rw [if_pos c_1]), (by unfold zX8_addsMeal; rw [if_pos c_1])⟩, by dsimp only; rw [ht]; exact hMo⟩, hS.F ht⟩) hS.2.2 dX8_addsMeal_10
set_option maxHeartbeats 4000000 in
set_option maxRecDepth 100000 in
theorem kX8_addsMeal {p : Program} {l : Launch} {e : Env} {R : Room} {s : State} {m : MethodId} {args : Array Value} {below : List Frame} {meth : Method} {c : Code} {H : Heap} {locs : List Loc} {cells slots : Nat} {Q : State → Prop} {cc : ByteArray} {nL : Nat} {Ts : List Cond} {own : String} {index pc : Nat} {ls : Array Slot} {rest : List Value} {D : va_G} {y : Y3} {mo : Nat → Nat} {μ : Sg} {x1 : Int32} {x2 : Int32} {x3 : Int32} {A0 : Nat → Prop} {H0 : Heap} (hF : CallFix p m c cc nL s args Ts own) (cw : CallW R s args own RX8 index yX8_addsMeal cX8_addsMeal 5 (some .int) wsX8_addsMeal ({ frames := 4, cells := 0, slots := 0, locals := 90 } : Room) 0 0 3) (hC : CK D y s) (hMo : MoH D y mo μ H) (hi : moI mo) (hInv : InvM μ) (r_x1 : rg x1 5) (hS : va_S A0 H0 H locs) (hA : ∀ q, (moA mo) q → A0 q) (hsz : ls.size = nL) (hW : (rest.map fun v => v.category).sum ≤ 8) (hdg : decode cc pc = .ok (.invokevirtual index, 3)) (hf : cells ≤ R.cells ∧ slots ≤ R.slots)
    (k : ∀ (H1 : Heap) (locs1 : List Loc), MoH D y mo (zX8_addsMeal μ x1 x2 x3).2 H1 → H.size ≤ H1.size → (∀ q : Nat, q < H.size → ¬ (moA mo) q → H1[q]? = H[q]?) → va_S A0 H0 H1 locs1 → W p l e R s m args below meth c H1 locs1 cells slots Q (F0 m (pc + 3) ls (.int ((zX8_addsMeal μ x1 x2 x3).1) :: rest))) : W p l e R s m args below meth c H locs cells slots Q (F0 m pc ls (.int x3 :: .int x2 :: .int x1 :: .ref (mo 0) :: rest)) := by
  refine va_calli (va_runV (As := [.int x1, .int x2, .int x3]) (rest := rest) hF (mX8_addsMeal l D y mo μ x1 x2 x3) cw ⟨fun a U g mk q => by obtain ⟨q0, q1, q2, q3, q4, q5⟩ := q; exact ⟨q0, q1.call g mk a, q2, q3, q4, q5⟩, va_recv hC.1 hMo (ci := 8) (q0 := 0) rfl rfl, fun U hU hW => ⟨rfl, hC.warm hW, by rw [hU]; exact hMo, hi, hInv, r_x1⟩⟩ rfl rfl hsz rfl (lv_room hW) hdg ⟨hf.1, hf.2⟩) hS (fun q _ h => hA q h) hA (fun r u t H1 locs1 ht hvm hp hB hz1 hk1 hS1 => ?_)
  obtain ⟨hp1, hp2⟩ := hp
  subst hp1; subst hp2
  rw [ht] at hB
  exact k H1 locs1 hB hz1 hk1 hS1
def zX8_reserves (μ : Sg) (x1 : Int32) (x2 : Int32) : Int32 × Sg := if (zX8_isPerson μ x1) = 0 then ((-1), μ)
  else (if (zX8_isMeal μ x2) = 0 then ((-1), μ)
    else (if (zX8_isBarred μ x1) = 0 then (if 0 ≤ (zX8_reservedBy μ x1) then ((-2), μ)
        else (if (zX8_mayHave μ x1 x2) = 0 then ((-2), μ)
          else ((1000 + ((((37 * x2) + (11 * (μ 0 4))) + (7 * x1)) - (((37 * x2) + (11 * (μ 0 4))) + (7 * x1)) / 9000 * 9000)), (zX8_setMeal (zX8_setMeal (zX8_setMeal (zX8_setMeal μ x2 0 1) x2 4 (1000 + ((((37 * x2) + (11 * (μ 0 4))) + (7 * x1)) - (((37 * x2) + (11 * (μ 0 4))) + (7 * x1)) / 9000 * 9000))) x2 5 x1) x2 6 ((zX8_setMeal (zX8_setMeal (zX8_setMeal μ x2 0 1) x2 4 (1000 + ((((37 * x2) + (11 * (μ 0 4))) + (7 * x1)) - (((37 * x2) + (11 * (μ 0 4))) + (7 * x1)) / 9000 * 9000))) x2 5 x1) 0 4)))))
      else ((-2), μ)))
theorem iwX8_reserves_X8 : ∀ w ∈ wsX80, w ∈ wsX8_reserves := fun _ h => List.mem_cons_of_mem _ (List.mem_append_right _ h)
theorem hdX8_reserves : yX8_reserves.cls = RX8 ∧ yX8_reserves.cls ≠ "java/lang/invoke/MethodHandle" ∧ yX8_reserves.cls ≠ "java/lang/invoke/VarHandle" ∧ (parseMethodDescriptor yX8_reserves.desc).map (fun d => d.parameters.length) = some 2 := by decide +kernel
set_option maxHeartbeats 4000000 in
set_option maxRecDepth 100000 in
theorem mX8_reserves (l : Launch) (D : va_G) (y : Y3) (mo : Nat → Nat) (μ : Sg) (x1 : Int32) (x2 : Int32) : Met l yX8_reserves wsX8_reserves ({ frames := 2, cells := 0, slots := 0, locals := 45 } : Room) (va_Pc [.ref (mo 0), .int x1, .int x2] (fun U => CK D y U ∧ MoH D y mo μ U.heap ∧ moI mo ∧ InvM μ)) (va_Qi (fun (r : Int32) (u : Sg) => r = (zX8_reserves μ x1 x2).1 ∧ u = (zX8_reserves μ x1 x2).2) (fun u t => MoH D y mo u t.heap) (moA mo)) 0 0 (moA mo) := by
  refine Met.ofW (cc := cX8_reserves) (maxL := 4) (ret := (some .int)) (by decide) rfl ?_
  intro p e s m args below meth c s₁ B hml hv
  obtain ⟨rfl, hC, hMo, hi, hInv⟩ := hv
  have hx := B.exec
  have hb := B.bytes
  have hr := B.returns
  have hts := atoms_spec (ws := wsX8_reserves) B.pre
  have hown : s.vm.findClass RX8 = some m.cls := findClass_of_methodNamed B.named
  have hlocks := B.notSynchronized
  have hF := (⟨hx, hb, hml, hown, hts⟩ : CallFix p m c cX8_reserves 4 s _ wsX8_reserves RX8)
  have hS : va_S (moA mo) s.heap s.heap [] := va_S.rf
  have hl := lv_entry ([.ref (mo 0), .int x1, .int x2]) (n := 4) (Nat.le_of_ble_eq_true rfl)
  rw [lg_entry_eq]
  generalize (lg_sl ([.ref (mo 0), .int x1, .int x2]) ++ List.replicate (4 - (lg_sl ([.ref (mo 0), .int x1, .int x2])).length) Slot.unset).toArray = ls at hl ⊢
  have hl : lv_has ls 4 [(0, .ref (mo 0)), (1, .int x1), (2, .int x2)] := hl
  refine lv_aload_n hx hb dX8_reserves_0 rfl (lv_at hl 0 rfl) ?_
  refine lv_iload_n hx hb dX8_reserves_1 rfl (lv_at hl 1 rfl) ?_
  refine kX8_isPerson hF (cwV 1 hts gX8_reserves_X8_isPerson rfl rfl rfl hdX8_isPerson ⟨Nat.le_of_ble_eq_true rfl, Nat.le_of_ble_eq_true rfl⟩) hC hMo  hl.1 (Nat.le_of_ble_eq_true rfl) dX8_reserves_2 ⟨Nat.zero_le _, Nat.zero_le _⟩ ?_
  refine lv_if_eq (tgt := 16) hx hb dX8_reserves_5 (by decide) (fun c_1 => ?_) (fun c_1 => ?_)
  · refine lv_iconst (v := (-1)) hx hb dX8_reserves_16 (by decide) ?_
    exact W.iret (v := (-1)) hx hb hr (fun t ht hW => ⟨⟨(-1), μ, rfl, ⟨(by unfold zX8_reserves; rw [if_pos c_1]), (by unfold zX8_reserves; rw [if_pos c_1])⟩, by dsimp only; rw [ht]; exact hMo⟩, hS.F ht⟩) hS.2.2 dX8_reserves_17
  · have f_2 : rg x1 8 := rg_isP hInv c_1
    refine lv_aload_n hx hb dX8_reserves_8 rfl (lv_at hl 0 rfl) ?_
    refine lv_iload_n hx hb dX8_reserves_9 rfl (lv_at hl 2 rfl) ?_
    refine kX8_isMeal hF (cwV 1 hts gX8_reserves_X8_isMeal rfl rfl rfl hdX8_isMeal ⟨Nat.le_of_ble_eq_true rfl, Nat.le_of_ble_eq_true rfl⟩) hC hMo  hl.1 (Nat.le_of_ble_eq_true rfl) dX8_reserves_10 ⟨Nat.zero_le _, Nat.zero_le _⟩ ?_
    refine lv_if_ne (tgt := 18) hx hb dX8_reserves_13 (by decide) (fun c_3 => ?_) (fun c_3 => ?_)
    · have f_4 : rg x2 24 := rg_isM hInv c_3
      refine lv_aload_n hx hb dX8_reserves_18 rfl (lv_at hl 0 rfl) ?_
      refine lv_iload_n hx hb dX8_reserves_19 rfl (lv_at hl 1 rfl) ?_
      refine kX8_isBarred hF (cwV 1 hts gX8_reserves_X8_isBarred rfl rfl rfl hdX8_isBarred ⟨Nat.le_of_ble_eq_true rfl, Nat.le_of_ble_eq_true rfl⟩) hC hMo f_2 hl.1 (Nat.le_of_ble_eq_true rfl) dX8_reserves_20 ⟨Nat.zero_le _, Nat.zero_le _⟩ ?_
      refine lv_if_ne (tgt := 43) hx hb dX8_reserves_23 (by decide) (fun c_5 => ?_) (fun c_5 => ?_)
      · refine lv_bipush (v := (-2)) hx hb dX8_reserves_43 (by decide) ?_
        exact W.iret (v := (-2)) hx hb hr (fun t ht hW => ⟨⟨(-2), μ, rfl, ⟨(by unfold zX8_reserves; rw [if_neg c_1, if_neg c_3, if_neg c_5]), (by unfold zX8_reserves; rw [if_neg c_1, if_neg c_3, if_neg c_5])⟩, by dsimp only; rw [ht]; exact hMo⟩, hS.F ht⟩) hS.2.2 dX8_reserves_45
      · refine lv_aload_n hx hb dX8_reserves_26 rfl (lv_at hl 0 rfl) ?_
        refine lv_iload_n hx hb dX8_reserves_27 rfl (lv_at hl 1 rfl) ?_
        refine kX8_reservedBy hF (cwV 1 hts gX8_reserves_X8_reservedBy rfl rfl rfl hdX8_reservedBy ⟨Nat.le_of_ble_eq_true rfl, Nat.le_of_ble_eq_true rfl⟩) hC hMo hInv  hl.1 (Nat.le_of_ble_eq_true rfl) dX8_reserves_28 ⟨Nat.zero_le _, Nat.zero_le _⟩ ?_
        refine lv_if_ge (tgt := 43) hx hb dX8_reserves_31 (by decide) (fun c_6 => ?_) (fun c_6 => ?_)
        · refine lv_bipush (v := (-2)) hx hb dX8_reserves_43 (by decide) ?_
          exact W.iret (v := (-2)) hx hb hr (fun t ht hW => ⟨⟨(-2), μ, rfl, ⟨(by unfold zX8_reserves; rw [if_neg c_1, if_neg c_3, if_pos c_5, if_pos c_6]), (by unfold zX8_reserves; rw [if_neg c_1, if_neg c_3, if_pos c_5, if_pos c_6])⟩, by dsimp only; rw [ht]; exact hMo⟩, hS.F ht⟩) hS.2.2 dX8_reserves_45
        · refine lv_aload_n hx hb dX8_reserves_34 rfl (lv_at hl 0 rfl) ?_
          refine lv_iload_n hx hb dX8_reserves_35 rfl (lv_at hl 1 rfl) ?_
          refine lv_iload_n hx hb dX8_reserves_36 rfl (lv_at hl 2 rfl) ?_
          refine kX8_mayHave hF (cwV 2 hts gX8_reserves_X8_mayHave rfl rfl rfl hdX8_mayHave ⟨Nat.le_of_ble_eq_true rfl, Nat.le_of_ble_eq_true rfl⟩) hC hMo f_2 f_4 hl.1 (Nat.le_of_ble_eq_true rfl) dX8_reserves_37 ⟨Nat.zero_le _, Nat.zero_le _⟩ ?_
          refine lv_if_ne (tgt := 46) hx hb dX8_reserves_40 (by decide) (fun c_7 => ?_) (fun c_7 => ?_)
          · refine lv_sipush (v := 1000) hx hb dX8_reserves_46 (by decide) ?_
            refine lv_bipush (v := 37) hx hb dX8_reserves_49 (by decide) ?_
            refine lv_iload_n hx hb dX8_reserves_51 rfl (lv_at hl 2 rfl) ?_
            refine lv_imul hx hb dX8_reserves_52 ?_
            refine lv_bipush (v := 11) hx hb dX8_reserves_53 (by decide) ?_
            refine lv_aload_n hx hb dX8_reserves_55 rfl (lv_at hl 0 rfl) ?_
            refine va_get (D := D) (ci := 8) (v := .ref (mo 1)) (C := RX8) (T := TX8) (N := 10) hx hb hts iwX8_reserves_X8 hown hC.1 hMo 0 rfl rfl 0 (by decide) (hts (.fieldLink RX8 7 "MealLockersModel" "s" "[I") (List.mem_of_getElem? (i := 1) rfl)) (fun _ h9 => h9) rfl dX8_reserves_56 ?_
            refine lv_iconst (v := 4) hx hb dX8_reserves_59 (by decide) ?_
            refine va_iald hx hb hC.1 hMo 1 0 rfl rfl (vpl (by decide)) dX8_reserves_60 ?_
            rw [cl_4]
            refine lv_imul hx hb dX8_reserves_61 ?_
            refine lv_iadd hx hb dX8_reserves_62 ?_
            refine lv_bipush (v := 7) hx hb dX8_reserves_63 (by decide) ?_
            refine lv_iload_n hx hb dX8_reserves_65 rfl (lv_at hl 1 rfl) ?_
            refine lv_imul hx hb dX8_reserves_66 ?_
            refine lv_iadd hx hb dX8_reserves_67 ?_
            refine lv_sipush (v := 9000) hx hb dX8_reserves_68 (by decide) ?_
            refine lv_irem hx hb dX8_reserves_71 (by decide) ?_
            refine lv_iadd hx hb dX8_reserves_72 ?_
            refine lv_istore_n (lv' := [(3, .int (1000 + ((((37 * x2) + (11 * (μ 0 4))) + (7 * x1)) - (((37 * x2) + (11 * (μ 0 4))) + (7 * x1)) / 9000 * 9000))), (0, .ref (mo 0)), (1, .int x1), (2, .int x2)]) hx hb dX8_reserves_73 rfl hl (by decide) rfl (fun ls hl => ?_)
            refine lv_aload_n hx hb dX8_reserves_74 rfl (lv_at hl 1 rfl) ?_
            refine lv_iload_n hx hb dX8_reserves_75 rfl (lv_at hl 3 rfl) ?_
            refine lv_iconst (v := 0) hx hb dX8_reserves_76 (by decide) ?_
            refine lv_iconst (v := 1) hx hb dX8_reserves_77 (by decide) ?_
            refine kX8_setMeal hF (cwV 3 hts gX8_reserves_X8_setMeal rfl rfl rfl hdX8_setMeal ⟨Nat.le_of_ble_eq_true rfl, Nat.le_of_ble_eq_true rfl⟩) hC hMo hi f_4 (by decide) hS (fun _ h => h) hl.1 (Nat.le_of_ble_eq_true rfl) dX8_reserves_78 ⟨Nat.zero_le _, Nat.zero_le _⟩ (fun H locs hMo _ _ hS => ?_)
            refine lv_aload_n hx hb dX8_reserves_81 rfl (lv_at hl 1 rfl) ?_
            refine lv_iload_n hx hb dX8_reserves_82 rfl (lv_at hl 3 rfl) ?_
            refine lv_iconst (v := 4) hx hb dX8_reserves_83 (by decide) ?_
            refine lv_iload_n hx hb dX8_reserves_84 rfl (lv_at hl 0 rfl) ?_
            refine kX8_setMeal hF (cwV 3 hts gX8_reserves_X8_setMeal rfl rfl rfl hdX8_setMeal ⟨Nat.le_of_ble_eq_true rfl, Nat.le_of_ble_eq_true rfl⟩) hC hMo hi f_4 (by decide) hS (fun _ h => h) hl.1 (Nat.le_of_ble_eq_true rfl) dX8_reserves_85 ⟨Nat.zero_le _, Nat.zero_le _⟩ (fun H locs hMo _ _ hS => ?_)
            refine lv_aload_n hx hb dX8_reserves_88 rfl (lv_at hl 1 rfl) ?_
            refine lv_iload_n hx hb dX8_reserves_89 rfl (lv_at hl 3 rfl) ?_
            refine lv_iconst (v := 5) hx hb dX8_reserves_90 (by decide) ?_
            refine lv_iload_n hx hb dX8_reserves_91 rfl (lv_at hl 2 rfl) ?_
            refine kX8_setMeal hF (cwV 3 hts gX8_reserves_X8_setMeal rfl rfl rfl hdX8_setMeal ⟨Nat.le_of_ble_eq_true rfl, Nat.le_of_ble_eq_true rfl⟩) hC hMo hi f_4 (by decide) hS (fun _ h => h) hl.1 (Nat.le_of_ble_eq_true rfl) dX8_reserves_92 ⟨Nat.zero_le _, Nat.zero_le _⟩ (fun H locs hMo _ _ hS => ?_)
            refine lv_aload_n hx hb dX8_reserves_95 rfl (lv_at hl 1 rfl) ?_
            refine lv_iload_n hx hb dX8_reserves_96 rfl (lv_at hl 3 rfl) ?_
            refine lv_bipush (v := 6) hx hb dX8_reserves_97 (by decide) ?_
            refine lv_aload_n hx hb dX8_reserves_99 rfl (lv_at hl 1 rfl) ?_
            refine va_get (D := D) (ci := 8) (v := .ref (mo 1)) (C := RX8) (T := TX8) (N := 10) hx hb hts iwX8_reserves_X8 hown hC.1 hMo 0 rfl rfl 0 (by decide) (hts (.fieldLink RX8 7 "MealLockersModel" "s" "[I") (List.mem_of_getElem? (i := 1) rfl)) (fun _ h9 => h9) rfl dX8_reserves_100 ?_
            refine lv_iconst (v := 4) hx hb dX8_reserves_103 (by decide) ?_
            refine va_iald hx hb hC.1 hMo 1 0 rfl rfl (vpl (by decide)) dX8_reserves_104 ?_
            rw [cl_4]
            refine kX8_setMeal hF (cwV 3 hts gX8_reserves_X8_setMeal rfl rfl rfl hdX8_setMeal ⟨Nat.le_of_ble_eq_true rfl, Nat.le_of_ble_eq_true rfl⟩) hC hMo hi f_4 (by decide) hS (fun _ h => h) hl.1 (Nat.le_of_ble_eq_true rfl) dX8_reserves_105 ⟨Nat.zero_le _, Nat.zero_le _⟩ (fun H locs hMo _ _ hS => ?_)
            refine lv_iload_n hx hb dX8_reserves_108 rfl (lv_at hl 0 rfl) ?_
            exact W.iret (v := (1000 + ((((37 * x2) + (11 * (μ 0 4))) + (7 * x1)) - (((37 * x2) + (11 * (μ 0 4))) + (7 * x1)) / 9000 * 9000))) hx hb hr (fun t ht hW => ⟨⟨(1000 + ((((37 * x2) + (11 * (μ 0 4))) + (7 * x1)) - (((37 * x2) + (11 * (μ 0 4))) + (7 * x1)) / 9000 * 9000)), (zX8_setMeal (zX8_setMeal (zX8_setMeal (zX8_setMeal μ x2 0 1) x2 4 (1000 + ((((37 * x2) + (11 * (μ 0 4))) + (7 * x1)) - (((37 * x2) + (11 * (μ 0 4))) + (7 * x1)) / 9000 * 9000))) x2 5 x1) x2 6 ((zX8_setMeal (zX8_setMeal (zX8_setMeal μ x2 0 1) x2 4 (1000 + ((((37 * x2) + (11 * (μ 0 4))) + (7 * x1)) - (((37 * x2) + (11 * (μ 0 4))) + (7 * x1)) / 9000 * 9000))) x2 5 x1) 0 4)), rfl, ⟨(by unfold zX8_reserves; rw [if_neg c_1, if_neg c_3, if_pos c_5, if_neg c_6, if_neg c_7]), (by unfold zX8_reserves; rw [if_neg c_1, if_neg c_3, if_pos c_5, if_neg c_6, if_neg c_7])⟩, by dsimp only; rw [ht]; exact hMo⟩, hS.F ht⟩) hS.2.2 dX8_reserves_109
          · refine lv_bipush (v := (-2)) hx hb dX8_reserves_43 (by decide) ?_
            exact W.iret (v := (-2)) hx hb hr (fun t ht hW => ⟨⟨(-2), μ, rfl, ⟨(by unfold zX8_reserves; rw [if_neg c_1, if_neg c_3, if_pos c_5, if_neg c_6, if_pos c_7]), (by unfold zX8_reserves; rw [if_neg c_1, if_neg c_3, if_pos c_5, if_neg c_6, if_pos c_7])⟩, by dsimp only; rw [ht]; exact hMo⟩, hS.F ht⟩) hS.2.2 dX8_reserves_45
    · refine lv_iconst (v := (-1)) hx hb dX8_reserves_16 (by decide) ?_
      exact W.iret (v := (-1)) hx hb hr (fun t ht hW => ⟨⟨(-1), μ, rfl, ⟨(by unfold zX8_reserves; rw [if_neg c_1, if_pos c_3]), (by unfold zX8_reserves; rw [if_neg c_1, if_pos c_3])⟩, by dsimp only; rw [ht]; exact hMo⟩, hS.F ht⟩) hS.2.2 dX8_reserves_17
set_option maxHeartbeats 4000000 in
set_option maxRecDepth 100000 in
theorem kX8_reserves {p : Program} {l : Launch} {e : Env} {R : Room} {s : State} {m : MethodId} {args : Array Value} {below : List Frame} {meth : Method} {c : Code} {H : Heap} {locs : List Loc} {cells slots : Nat} {Q : State → Prop} {cc : ByteArray} {nL : Nat} {Ts : List Cond} {own : String} {index pc : Nat} {ls : Array Slot} {rest : List Value} {D : va_G} {y : Y3} {mo : Nat → Nat} {μ : Sg} {x1 : Int32} {x2 : Int32} {A0 : Nat → Prop} {H0 : Heap} (hF : CallFix p m c cc nL s args Ts own) (cw : CallW R s args own RX8 index yX8_reserves cX8_reserves 4 (some .int) wsX8_reserves ({ frames := 2, cells := 0, slots := 0, locals := 45 } : Room) 0 0 2) (hC : CK D y s) (hMo : MoH D y mo μ H) (hi : moI mo) (hInv : InvM μ) (hS : va_S A0 H0 H locs) (hA : ∀ q, (moA mo) q → A0 q) (hsz : ls.size = nL) (hW : (rest.map fun v => v.category).sum ≤ 8) (hdg : decode cc pc = .ok (.invokevirtual index, 3)) (hf : cells ≤ R.cells ∧ slots ≤ R.slots)
    (k : ∀ (H1 : Heap) (locs1 : List Loc), MoH D y mo (zX8_reserves μ x1 x2).2 H1 → H.size ≤ H1.size → (∀ q : Nat, q < H.size → ¬ (moA mo) q → H1[q]? = H[q]?) → va_S A0 H0 H1 locs1 → W p l e R s m args below meth c H1 locs1 cells slots Q (F0 m (pc + 3) ls (.int ((zX8_reserves μ x1 x2).1) :: rest))) : W p l e R s m args below meth c H locs cells slots Q (F0 m pc ls (.int x2 :: .int x1 :: .ref (mo 0) :: rest)) := by
  refine va_calli (va_runV (As := [.int x1, .int x2]) (rest := rest) hF (mX8_reserves l D y mo μ x1 x2) cw ⟨fun a U g mk q => by obtain ⟨q0, q1, q2, q3, q4⟩ := q; exact ⟨q0, q1.call g mk a, q2, q3, q4⟩, va_recv hC.1 hMo (ci := 8) (q0 := 0) rfl rfl, fun U hU hW => ⟨rfl, hC.warm hW, by rw [hU]; exact hMo, hi, hInv⟩⟩ rfl rfl hsz rfl (lv_room hW) hdg ⟨hf.1, hf.2⟩) hS (fun q _ h => hA q h) hA (fun r u t H1 locs1 ht hvm hp hB hz1 hk1 hS1 => ?_)
  obtain ⟨hp1, hp2⟩ := hp
  subst hp1; subst hp2
  rw [ht] at hB
  exact k H1 locs1 hB hz1 hk1 hS1
