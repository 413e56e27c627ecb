def bX8_fetches (μ : Sg) (x1 x2 : Int32) (i : Nat) : Bool := if (zX8_ofMeal μ (nI i) 0) = 1 then (if (zX8_isIn μ (nI i) x1) = 0 then false
    else (if (zX8_ofMeal μ (nI i) 4) = x2 then true
      else false))
  else false
theorem fe_s1 {μ : Sg} {x1 x2 : Int32} {i : Nat} (h : bX8_fetches μ x1 x2 i = true) : zX8_ofMeal μ (nI i) 0 = 1 := by
  unfold bX8_fetches at h
  split at h
  · assumption
  · cases h
def zfe (μ : Sg) (x1 x3 : Int32) (i : Nat) : Int32 × Sg := ((nI i), (zX8_setPerson (mU (zX8_moreOf (zX8_setMeal μ (nI i) 0 (3 + x3)) x1 (4 + x3)) 0 (upd ((zX8_moreOf (zX8_setMeal μ (nI i) 0 (3 + x3)) x1 (4 + x3)) 0) (9 + x3).toNatClampNeg (((zX8_moreOf (zX8_setMeal μ (nI i) 0 (3 + x3)) x1 (4 + x3)) 0 (9 + x3).toNatClampNeg) + 1))) (zX8_ofMeal μ (nI i) 5) 3 (((zX8_ofPerson (mU (zX8_moreOf (zX8_setMeal μ (nI i) 0 (3 + x3)) x1 (4 + x3)) 0 (upd ((zX8_moreOf (zX8_setMeal μ (nI i) 0 (3 + x3)) x1 (4 + x3)) 0) (9 + x3).toNatClampNeg (((zX8_moreOf (zX8_setMeal μ (nI i) 0 (3 + x3)) x1 (4 + x3)) 0 (9 + x3).toNatClampNeg) + 1))) (zX8_ofMeal μ (nI i) 5) 3) + 1) - x3)))
def zX8_fetches (μ : Sg) (x1 : Int32) (x2 : Int32) (x3 : Int32) : Int32 × Sg := if (zX8_isLocker μ x1) = 0 then ((-1), μ)
  else (if (zX8_in x2 1000 9999) = 0 then ((-1), μ)
    else (if (zX8_in x3 0 1) = 0 then ((-1), μ)
      else (if fstK (bX8_fetches μ x1 x2) 0 (μ 0 1).toNatClampNeg < (μ 0 1).toNatClampNeg then zfe μ x1 x3 (fstK (bX8_fetches μ x1 x2) 0 (μ 0 1).toNatClampNeg) else (-2, μ))))
theorem iwX8_fetches_X8 : ∀ w ∈ wsX80, w ∈ wsX8_fetches := fun _ h => List.mem_cons_of_mem _ (List.mem_append_right _ h)
theorem hdX8_fetches : yX8_fetches.cls = RX8 ∧ yX8_fetches.cls ≠ "java/lang/invoke/MethodHandle" ∧ yX8_fetches.cls ≠ "java/lang/invoke/VarHandle" ∧ (parseMethodDescriptor yX8_fetches.desc).map (fun d => d.parameters.length) = some 3 := by decide +kernel
set_option maxHeartbeats 4000000 in
set_option maxRecDepth 100000 in
theorem lpX8_fetches {p : Program} {l : Launch} {e : Env} {s : State} {m : MethodId} {args : Array Value} {below : List Frame} {meth : Method} {c : Code} {Q : State → Prop} {D : va_G} {y : Y3} {mo : Nat → Nat} {μ : Sg} {x1 x2 x3 : Int32} {H : Heap} {locs : List Loc} (hx : p.tables.exec = Jvm.exec) (hb : c.code = cX8_fetches) (hml : c.maxLocals = 6) (hown : s.vm.findClass RX8 = some m.cls) (hts : ∀ w ∈ wsX8_fetches, w.before args s = true) (hC : CK D y s) (hMo : MoH D y mo μ H) (hInv : InvM μ)
    (K1 : fstK (bX8_fetches μ x1 x2) 0 (μ 0 1).toNatClampNeg = (μ 0 1).toNatClampNeg → ∀ ls : Array Slot, lv_has ls 6 [(4, .int (nI (μ 0 1).toNatClampNeg)), (0, .ref (mo 0)), (1, .int x1), (2, .int x2), (3, .int x3)] → W p l e (headSpec wsX8_fetches ({ frames := 2, cells := 0, slots := 0, locals := 44 } : Room)).room s m args below meth c H locs 0 0 Q (F0 m 84 ls []))
    (K2 : ∀ i : Nat, i < (μ 0 1).toNatClampNeg → fstK (bX8_fetches μ x1 x2) 0 (μ 0 1).toNatClampNeg = i → (bX8_fetches μ x1 x2) i = true → ∀ ls : Array Slot, lv_has ls 6 [(4, .int (nI i)), (0, .ref (mo 0)), (1, .int x1), (2, .int x2), (3, .int x3)] → W p l e (headSpec wsX8_fetches ({ frames := 2, cells := 0, slots := 0, locals := 44 } : Room)).room s m args below meth c H locs 0 0 Q (F0 m 84 ls [])) :
    ∀ (j i : Nat), i + j = (μ 0 1).toNatClampNeg → fstK (bX8_fetches μ x1 x2) 0 (μ 0 1).toNatClampNeg = fstK (bX8_fetches μ x1 x2) i j → ∀ ls : Array Slot, lv_has ls 6 [(4, .int (nI i)), (0, .ref (mo 0)), (1, .int x1), (2, .int x2), (3, .int x3)] → W p l e (headSpec wsX8_fetches ({ frames := 2, cells := 0, slots := 0, locals := 44 } : Room)).room s m args below meth c H locs 0 0 Q (F0 m 35 ls []) := by
  have hF := (⟨hx, hb, hml, hown, hts⟩ : CallFix p m c cX8_fetches 6 s args wsX8_fetches RX8)
  have hN := clamp_lt (μ 0 1)
  intro j
  induction j with
  | zero =>
    intro i hin hfst ls hl
    obtain rfl : i = (μ 0 1).toNatClampNeg := by omega
    refine lv_iload hx hb dX8_fetches_35 (lv_at hl 0 rfl) ?_
    refine lv_aload_n hx hb dX8_fetches_37 rfl (lv_at hl 1 rfl) ?_
    refine va_get (D := D) (ci := 8) (v := .ref (mo 1)) (C := RX8) (T := TX8) (N := 10) hx hb hts iwX8_fetches_X8 hown hC.1 hMo 0 rfl rfl 0 (by decide) (hts (.fieldLink RX8 7 "MealLockersModel" "s" "[I") (List.mem_of_getElem? (i := 1) rfl)) (fun _ h9 => h9) rfl dX8_fetches_38 ?_
    refine lv_iconst (v := 1) hx hb dX8_fetches_41 (by decide) ?_
    refine va_iald hx hb hC.1 hMo 1 0 rfl rfl (vpl (by decide)) dX8_fetches_42 ?_
    rw [cl_1]
    refine lv_icmp_ge (tgt := 84) hx hb dX8_fetches_43 (by decide) (fun _ => ?_) (fun c_1 => absurd (up_le _) c_1)
    exact K1 hfst ls (lv_sub hl [0, 1, 2, 3, 4] rfl)
  | succ j ih =>
    intro i hin hfst ls hl
    have f_2 : rg (nI i) 24 := inv_m hInv (by omega)
    refine lv_iload hx hb dX8_fetches_35 (lv_at hl 0 rfl) ?_
    refine lv_aload_n hx hb dX8_fetches_37 rfl (lv_at hl 1 rfl) ?_
    refine va_get (D := D) (ci := 8) (v := .ref (mo 1)) (C := RX8) (T := TX8) (N := 10) hx hb hts iwX8_fetches_X8 hown hC.1 hMo 0 rfl rfl 0 (by decide) (hts (.fieldLink RX8 7 "MealLockersModel" "s" "[I") (List.mem_of_getElem? (i := 1) rfl)) (fun _ h9 => h9) rfl dX8_fetches_38 ?_
    refine lv_iconst (v := 1) hx hb dX8_fetches_41 (by decide) ?_
    refine va_iald hx hb hC.1 hMo 1 0 rfl rfl (vpl (by decide)) dX8_fetches_42 ?_
    rw [cl_1]
    refine lv_icmp_ge (tgt := 84) hx hb dX8_fetches_43 (by decide) (fun c_3 => absurd c_3 (up_gt (by omega))) (fun _ => ?_)
    refine lv_aload_n hx hb dX8_fetches_46 rfl (lv_at hl 1 rfl) ?_
    refine lv_iload hx hb dX8_fetches_47 (lv_at hl 0 rfl) ?_
    refine lv_iconst (v := 0) hx hb dX8_fetches_49 (by decide) ?_
    refine kX8_ofMeal hF (cwV 2 hts gX8_fetches_X8_ofMeal rfl rfl rfl hdX8_ofMeal ⟨Nat.le_of_ble_eq_true rfl, Nat.le_of_ble_eq_true rfl⟩) hC hMo f_2 (by decide) hl.1 (Nat.le_of_ble_eq_true rfl) dX8_fetches_50 ⟨Nat.zero_le _, Nat.zero_le _⟩ ?_
    refine lv_iconst (v := 1) hx hb dX8_fetches_53 (by decide) ?_
    refine lv_icmp_ne (tgt := 78) hx hb dX8_fetches_54 (by decide) (fun c_4 => ?_) (fun c_4 => ?_)
    · refine lv_iinc (v := (nI (i + 1))) (lv' := [(4, .int (nI (i + 1))), (0, .ref (mo 0)), (1, .int x1), (2, .int x2), (3, .int x3)]) hx hb dX8_fetches_78 hl (k := 0) rfl (by rw [nI_succ]; rfl) (by decide) rfl (fun ls hl => ?_)
      refine lv_goto (tgt := 35) hx hb dX8_fetches_81 (by decide) ?_
      have e9 : bX8_fetches μ x1 x2 i = false := by unfold bX8_fetches; rw [if_neg c_4]
      exact ih (i + 1) (by omega) (hfst.trans (fstK_f e9)) ls (lv_sub hl [0, 1, 2, 3, 4] rfl)
    · refine lv_aload_n hx hb dX8_fetches_57 rfl (lv_at hl 1 rfl) ?_
      refine lv_iload hx hb dX8_fetches_58 (lv_at hl 0 rfl) ?_
      refine lv_iload_n hx hb dX8_fetches_60 rfl (lv_at hl 2 rfl) ?_
      refine kX8_isIn hF (cwV 2 hts gX8_fetches_X8_isIn rfl rfl rfl hdX8_isIn ⟨Nat.le_of_ble_eq_true rfl, Nat.le_of_ble_eq_true rfl⟩) hC hMo f_2 hl.1 (Nat.le_of_ble_eq_true rfl) dX8_fetches_61 ⟨Nat.zero_le _, Nat.zero_le _⟩ ?_
      refine lv_if_eq (tgt := 78) hx hb dX8_fetches_64 (by decide) (fun c_5 => ?_) (fun c_5 => ?_)
      · refine lv_iinc (v := (nI (i + 1))) (lv' := [(4, .int (nI (i + 1))), (0, .ref (mo 0)), (1, .int x1), (2, .int x2), (3, .int x3)]) hx hb dX8_fetches_78 hl (k := 0) rfl (by rw [nI_succ]; rfl) (by decide) rfl (fun ls hl => ?_)
        refine lv_goto (tgt := 35) hx hb dX8_fetches_81 (by decide) ?_
        have e9 : bX8_fetches μ x1 x2 i = false := by unfold bX8_fetches; rw [if_pos c_4, if_pos c_5]
        exact ih (i + 1) (by omega) (hfst.trans (fstK_f e9)) ls (lv_sub hl [0, 1, 2, 3, 4] rfl)
      · refine lv_aload_n hx hb dX8_fetches_67 rfl (lv_at hl 1 rfl) ?_
        refine lv_iload hx hb dX8_fetches_68 (lv_at hl 0 rfl) ?_
        refine lv_iconst (v := 4) hx hb dX8_fetches_70 (by decide) ?_
        refine kX8_ofMeal hF (cwV 2 hts gX8_fetches_X8_ofMeal rfl rfl rfl hdX8_ofMeal ⟨Nat.le_of_ble_eq_true rfl, Nat.le_of_ble_eq_true rfl⟩) hC hMo f_2 (by decide) hl.1 (Nat.le_of_ble_eq_true rfl) dX8_fetches_71 ⟨Nat.zero_le _, Nat.zero_le _⟩ ?_
        refine lv_iload_n hx hb dX8_fetches_74 rfl (lv_at hl 3 rfl) ?_
        refine lv_icmp_eq (tgt := 84) hx hb dX8_fetches_75 (by decide) (fun c_6 => ?_) (fun c_6 => ?_)
        · have e9 : bX8_fetches μ x1 x2 i = true := by unfold bX8_fetches; rw [if_pos c_4, if_neg c_5, if_pos c_6]
          exact K2 i (by omega) (hfst.trans (fstK_t e9)) e9 ls (lv_sub hl [0, 1, 2, 3, 4] rfl)
        · refine lv_iinc (v := (nI (i + 1))) (lv' := [(4, .int (nI (i + 1))), (0, .ref (mo 0)), (1, .int x1), (2, .int x2), (3, .int x3)]) hx hb dX8_fetches_78 hl (k := 0) rfl (by rw [nI_succ]; rfl) (by decide) rfl (fun ls hl => ?_)
          refine lv_goto (tgt := 35) hx hb dX8_fetches_81 (by decide) ?_
          have e9 : bX8_fetches μ x1 x2 i = false := by unfold bX8_fetches; rw [if_pos c_4, if_neg c_5, if_neg c_6]
          exact ih (i + 1) (by omega) (hfst.trans (fstK_f e9)) ls (lv_sub hl [0, 1, 2, 3, 4] rfl)
set_option maxHeartbeats 4000000 in
set_option maxRecDepth 100000 in
theorem mX8_fetches (l : Launch) (D : va_G) (y : Y3) (mo : Nat → Nat) (μ : Sg) (x1 : Int32) (x2 : Int32) (x3 : Int32) : Met l yX8_fetches wsX8_fetches ({ frames := 2, cells := 0, slots := 0, locals := 44 } : Room) (va_Pc [.ref (mo 0), .int x1, .int x2, .int x3] (fun U => CK D y U ∧ MoH D y mo μ U.heap ∧ moI mo ∧ InvM μ)) (va_Qi (fun (r : Int32) (u : Sg) => r = (zX8_fetches μ x1 x2 x3).1 ∧ u = (zX8_fetches μ x1 x2 x3).2) (fun u t => MoH D y mo u t.heap) (moA mo)) 0 0 (moA mo) := by
  refine Met.ofW (cc := cX8_fetches) (maxL := 6) (ret := (some .int)) (by decide) rfl ?_
  intro p e s m args below meth c s₁ B hml hv
  obtain ⟨rfl, hC, hMo, hi, hInv⟩ := hv
  have hx := B.exec
  have hb := B.bytes
  have hr := B.returns
  have hts := atoms_spec (ws := wsX8_fetches) B.pre
  have hown : s.vm.findClass RX8 = some m.cls := findClass_of_methodNamed B.named
  have hlocks := B.notSynchronized
  have hF := (⟨hx, hb, hml, hown, hts⟩ : CallFix p m c cX8_fetches 6 s _ wsX8_fetches RX8)
  have hS : va_S (moA mo) s.heap s.heap [] := va_S.rf
  have hl := lv_entry ([.ref (mo 0), .int x1, .int x2, .int x3]) (n := 6) (Nat.le_of_ble_eq_true rfl)
  rw [lg_entry_eq]
  generalize (lg_sl ([.ref (mo 0), .int x1, .int x2, .int x3]) ++ List.replicate (6 - (lg_sl ([.ref (mo 0), .int x1, .int x2, .int x3])).length) Slot.unset).toArray = ls at hl ⊢
  have hl : lv_has ls 6 [(0, .ref (mo 0)), (1, .int x1), (2, .int x2), (3, .int x3)] := hl
  refine lv_aload_n hx hb dX8_fetches_0 rfl (lv_at hl 0 rfl) ?_
  refine lv_iload_n hx hb dX8_fetches_1 rfl (lv_at hl 1 rfl) ?_
  refine kX8_isLocker hF (cwV 1 hts gX8_fetches_X8_isLocker rfl rfl rfl hdX8_isLocker ⟨Nat.le_of_ble_eq_true rfl, Nat.le_of_ble_eq_true rfl⟩) hC hMo  hl.1 (Nat.le_of_ble_eq_true rfl) dX8_fetches_2 ⟨Nat.zero_le _, Nat.zero_le _⟩ ?_
  refine lv_if_eq (tgt := 30) hx hb dX8_fetches_5 (by decide) (fun c_7 => ?_) (fun c_7 => ?_)
  · refine lv_iconst (v := (-1)) hx hb dX8_fetches_30 (by decide) ?_
    exact W.iret (v := (-1)) hx hb hr (fun t ht hW => ⟨⟨(-1), μ, rfl, ⟨(by unfold zX8_fetches; rw [if_pos c_7]), (by unfold zX8_fetches; rw [if_pos c_7])⟩, by dsimp only; rw [ht]; exact hMo⟩, hS.F ht⟩) hS.2.2 dX8_fetches_31
  · have f_8 : rg x1 5 := rg_isL hInv c_7
    refine lv_iload_n hx hb dX8_fetches_8 rfl (lv_at hl 2 rfl) ?_
    refine lv_sipush (v := 1000) hx hb dX8_fetches_9 (by decide) ?_
    refine lv_sipush (v := 9999) hx hb dX8_fetches_12 (by decide) ?_
    refine kX8_in hF (cwS 3 hts gX8_fetches_X8_in rfl rfl rfl (by decide +kernel) ⟨Nat.le_of_ble_eq_true rfl, Nat.le_of_ble_eq_true rfl⟩) hC hl.1 (Nat.le_of_ble_eq_true rfl) dX8_fetches_15 ⟨Nat.zero_le _, Nat.zero_le _⟩ ?_
    refine lv_if_eq (tgt := 30) hx hb dX8_fetches_18 (by decide) (fun c_9 => ?_) (fun c_9 => ?_)
    · refine lv_iconst (v := (-1)) hx hb dX8_fetches_30 (by decide) ?_
      exact W.iret (v := (-1)) hx hb hr (fun t ht hW => ⟨⟨(-1), μ, rfl, ⟨(by unfold zX8_fetches; rw [if_neg c_7, if_pos c_9]), (by unfold zX8_fetches; rw [if_neg c_7, if_pos c_9])⟩, by dsimp only; rw [ht]; exact hMo⟩, hS.F ht⟩) hS.2.2 dX8_fetches_31
    · refine lv_iload_n hx hb dX8_fetches_21 rfl (lv_at hl 3 rfl) ?_
      refine lv_iconst (v := 0) hx hb dX8_fetches_22 (by decide) ?_
      refine lv_iconst (v := 1) hx hb dX8_fetches_23 (by decide) ?_
      refine kX8_in hF (cwS 3 hts gX8_fetches_X8_in rfl rfl rfl (by decide +kernel) ⟨Nat.le_of_ble_eq_true rfl, Nat.le_of_ble_eq_true rfl⟩) hC hl.1 (Nat.le_of_ble_eq_true rfl) dX8_fetches_24 ⟨Nat.zero_le _, Nat.zero_le _⟩ ?_
      refine lv_if_ne (tgt := 32) hx hb dX8_fetches_27 (by decide) (fun c_10 => ?_) (fun c_10 => ?_)
      · have f_11 : rg x3 2 := rg_in c_10
        refine lv_iconst (v := 0) hx hb dX8_fetches_32 (by decide) ?_
        refine lv_istore (lv' := [(4, .int 0), (0, .ref (mo 0)), (1, .int x1), (2, .int x2), (3, .int x3)]) hx hb dX8_fetches_33 hl (by decide) rfl (fun ls hl => ?_)
        refine lpX8_fetches hx hb hml hown hts hC hMo hInv (fun hq ls hl => ?_) (fun i hi9 hq hb9 ls hl => ?_) _ 0 (Nat.zero_add _) rfl ls (lv_sub hl [0, 1, 2, 3, 4] rfl)
        · refine lv_iload hx hb dX8_fetches_84 (lv_at hl 0 rfl) ?_
          refine lv_aload_n hx hb dX8_fetches_86 rfl (lv_at hl 1 rfl) ?_
          refine va_get (D := D) (ci := 8) (v := .ref (mo 1)) (C := RX8) (T := TX8) (N := 10) hx hb hts iwX8_fetches_X8 hown hC.1 hMo 0 rfl rfl 0 (by decide) (hts (.fieldLink RX8 7 "MealLockersModel" "s" "[I") (List.mem_of_getElem? (i := 1) rfl)) (fun _ h9 => h9) rfl dX8_fetches_87 ?_
          refine lv_iconst (v := 1) hx hb dX8_fetches_90 (by decide) ?_
          refine va_iald hx hb hC.1 hMo 1 0 rfl rfl (vpl (by decide)) dX8_fetches_91 ?_
          rw [cl_1]
          refine lv_icmp_ne (tgt := 98) hx hb dX8_fetches_92 (by decide) (fun c_12 => absurd c_12 (fun z => z (nI_toNat hInv.2.1.1))) (fun _ => ?_)
          refine lv_bipush (v := (-2)) hx hb dX8_fetches_95 (by decide) ?_
          exact W.iret (v := (-2)) hx hb hr (fun t ht hW => ⟨⟨(-2), μ, rfl, ⟨(by unfold zX8_fetches; rw [if_neg c_7, if_neg c_9, if_neg c_10, hq, if_neg (Nat.lt_irrefl _)]), (by unfold zX8_fetches; rw [if_neg c_7, if_neg c_9, if_neg c_10, hq, if_neg (Nat.lt_irrefl _)])⟩, by dsimp only; rw [ht]; exact hMo⟩, hS.F ht⟩) hS.2.2 dX8_fetches_97
        · have hs1 := fe_s1 hb9
          have f_13 : rg (nI i) 24 := inv_m hInv hi9
          have f_14 : rg (4 + x3) 8 := rg_45 f_11
          refine lv_iload hx hb dX8_fetches_84 (lv_at hl 0 rfl) ?_
          refine lv_aload_n hx hb dX8_fetches_86 rfl (lv_at hl 1 rfl) ?_
          refine va_get (D := D) (ci := 8) (v := .ref (mo 1)) (C := RX8) (T := TX8) (N := 10) hx hb hts iwX8_fetches_X8 hown hC.1 hMo 0 rfl rfl 0 (by decide) (hts (.fieldLink RX8 7 "MealLockersModel" "s" "[I") (List.mem_of_getElem? (i := 1) rfl)) (fun _ h9 => h9) rfl dX8_fetches_87 ?_
          refine lv_iconst (v := 1) hx hb dX8_fetches_90 (by decide) ?_
          refine va_iald hx hb hC.1 hMo 1 0 rfl rfl (vpl (by decide)) dX8_fetches_91 ?_
          rw [cl_1]
          refine lv_icmp_ne (tgt := 98) hx hb dX8_fetches_92 (by decide) (fun _ => ?_) (fun c_15 => absurd c_15 (cl_ne hi9))
          refine lv_aload_n hx hb dX8_fetches_98 rfl (lv_at hl 1 rfl) ?_
          refine lv_iload hx hb dX8_fetches_99 (lv_at hl 0 rfl) ?_
          refine lv_iconst (v := 5) hx hb dX8_fetches_101 (by decide) ?_
          refine kX8_ofMeal hF (cwV 2 hts gX8_fetches_X8_ofMeal rfl rfl rfl hdX8_ofMeal ⟨Nat.le_of_ble_eq_true rfl, Nat.le_of_ble_eq_true rfl⟩) hC hMo f_13 (by decide) hl.1 (Nat.le_of_ble_eq_true rfl) dX8_fetches_102 ⟨Nat.zero_le _, Nat.zero_le _⟩ ?_
          have f_16 : rg (zX8_ofMeal μ (nI i) 5) 8 := inv_who hInv f_13 hs1
          refine lv_istore (lv' := [(5, .int (zX8_ofMeal μ (nI i) 5)), (4, .int (nI i)), (0, .ref (mo 0)), (1, .int x1), (2, .int x2), (3, .int x3)]) hx hb dX8_fetches_105 hl (by decide) rfl (fun ls hl => ?_)
          refine lv_aload_n hx hb dX8_fetches_107 rfl (lv_at hl 2 rfl) ?_
          refine lv_iload hx hb dX8_fetches_108 (lv_at hl 1 rfl) ?_
          refine lv_iconst (v := 0) hx hb dX8_fetches_110 (by decide) ?_
          refine lv_iconst (v := 3) hx hb dX8_fetches_111 (by decide) ?_
          refine lv_iload_n hx hb dX8_fetches_112 rfl (lv_at hl 5 rfl) ?_
          refine lv_iadd hx hb dX8_fetches_113 ?_
          refine kX8_setMeal hF (cwV 3 hts gX8_fetches_X8_setMeal rfl rfl rfl hdX8_setMeal ⟨Nat.le_of_ble_eq_true rfl, Nat.le_of_ble_eq_true rfl⟩) hC hMo hi f_13 (by decide) hS (fun _ h => h) hl.1 (Nat.le_of_ble_eq_true rfl) dX8_fetches_114 ⟨Nat.zero_le _, Nat.zero_le _⟩ (fun H locs hMo _ _ hS => ?_)
          refine lv_aload_n hx hb dX8_fetches_117 rfl (lv_at hl 2 rfl) ?_
          refine lv_iload_n hx hb dX8_fetches_118 rfl (lv_at hl 3 rfl) ?_
          refine lv_iconst (v := 4) hx hb dX8_fetches_119 (by decide) ?_
          refine lv_iload_n hx hb dX8_fetches_120 rfl (lv_at hl 5 rfl) ?_
          refine lv_iadd hx hb dX8_fetches_121 ?_
          refine kX8_moreOf hF (cwV 2 hts gX8_fetches_X8_moreOf rfl rfl rfl hdX8_moreOf ⟨Nat.le_of_ble_eq_true rfl, Nat.le_of_ble_eq_true rfl⟩) hC hMo hi f_8 f_14 hS (fun _ h => h) hl.1 (Nat.le_of_ble_eq_true rfl) dX8_fetches_122 ⟨Nat.zero_le _, Nat.zero_le _⟩ (fun H locs hMo _ _ hS => ?_)
          refine lv_aload_n hx hb dX8_fetches_125 rfl (lv_at hl 2 rfl) ?_
          refine va_get (D := D) (ci := 8) (v := .ref (mo 1)) (C := RX8) (T := TX8) (N := 10) hx hb hts iwX8_fetches_X8 hown hC.1 hMo 0 rfl rfl 0 (by decide) (hts (.fieldLink RX8 7 "MealLockersModel" "s" "[I") (List.mem_of_getElem? (i := 1) rfl)) (fun _ h9 => h9) rfl dX8_fetches_126 ?_
          refine lv_bipush (v := 9) hx hb dX8_fetches_129 (by decide) ?_
          refine lv_iload_n hx hb dX8_fetches_131 rfl (lv_at hl 5 rfl) ?_
          refine lv_iadd hx hb dX8_fetches_132 ?_
          refine lv_dup2_11 hx hb dX8_fetches_133 rfl rfl ?_
          refine va_iald hx hb hC.1 hMo 1 0 rfl rfl (vp_9 f_11) dX8_fetches_134 ?_
          refine lv_iconst (v := 1) hx hb dX8_fetches_135 (by decide) ?_
          refine lv_iadd hx hb dX8_fetches_136 ?_
          refine va_iast hx hb hC.1 hMo (mo_D hi) hS 1 0 rfl rfl (vp_9 f_11) dX8_fetches_137 (fun H locs hMo _ hS => ?_)
          have hMo := mo_row1 hMo
          refine lv_aload_n hx hb dX8_fetches_138 rfl (lv_at hl 2 rfl) ?_
          refine lv_iload hx hb dX8_fetches_139 (lv_at hl 0 rfl) ?_
          refine lv_iconst (v := 3) hx hb dX8_fetches_141 (by decide) ?_
          refine lv_aload_n hx hb dX8_fetches_142 rfl (lv_at hl 2 rfl) ?_
          refine lv_iload hx hb dX8_fetches_143 (lv_at hl 0 rfl) ?_
          refine lv_iconst (v := 3) hx hb dX8_fetches_145 (by decide) ?_
          refine kX8_ofPerson hF (cwV 2 hts gX8_fetches_X8_ofPerson rfl rfl rfl hdX8_ofPerson ⟨Nat.le_of_ble_eq_true rfl, Nat.le_of_ble_eq_true rfl⟩) hC hMo f_16 (by decide) hl.1 (Nat.le_of_ble_eq_true rfl) dX8_fetches_146 ⟨Nat.zero_le _, Nat.zero_le _⟩ ?_
          refine lv_iconst (v := 1) hx hb dX8_fetches_149 (by decide) ?_
          refine lv_iadd hx hb dX8_fetches_150 ?_
          refine lv_iload_n hx hb dX8_fetches_151 rfl (lv_at hl 5 rfl) ?_
          refine lv_isub hx hb dX8_fetches_152 ?_
          refine kX8_setPerson hF (cwV 3 hts gX8_fetches_X8_setPerson rfl rfl rfl hdX8_setPerson ⟨Nat.le_of_ble_eq_true rfl, Nat.le_of_ble_eq_true rfl⟩) hC hMo hi f_16 (by decide) hS (fun _ h => h) hl.1 (Nat.le_of_ble_eq_true rfl) dX8_fetches_153 ⟨Nat.zero_le _, Nat.zero_le _⟩ (fun H locs hMo _ _ hS => ?_)
          refine lv_iload hx hb dX8_fetches_156 (lv_at hl 1 rfl) ?_
          exact W.iret (v := (nI i)) hx hb hr (fun t ht hW => ⟨⟨(nI i), (zX8_setPerson (mU (zX8_moreOf (zX8_setMeal μ (nI i) 0 (3 + x3)) x1 (4 + x3)) 0 (upd ((zX8_moreOf (zX8_setMeal μ (nI i) 0 (3 + x3)) x1 (4 + x3)) 0) (9 + x3).toNatClampNeg (((zX8_moreOf (zX8_setMeal μ (nI i) 0 (3 + x3)) x1 (4 + x3)) 0 (9 + x3).toNatClampNeg) + 1))) (zX8_ofMeal μ (nI i) 5) 3 (((zX8_ofPerson (mU (zX8_moreOf (zX8_setMeal μ (nI i) 0 (3 + x3)) x1 (4 + x3)) 0 (upd ((zX8_moreOf (zX8_setMeal μ (nI i) 0 (3 + x3)) x1 (4 + x3)) 0) (9 + x3).toNatClampNeg (((zX8_moreOf (zX8_setMeal μ (nI i) 0 (3 + x3)) x1 (4 + x3)) 0 (9 + x3).toNatClampNeg) + 1))) (zX8_ofMeal μ (nI i) 5) 3) + 1) - x3)), rfl, ⟨(by unfold zX8_fetches; rw [if_neg c_7, if_neg c_9, if_neg c_10, hq, if_pos hi9]; rfl), (by unfold zX8_fetches; rw [if_neg c_7, if_neg c_9, if_neg c_10, hq, if_pos hi9]; rfl)⟩, by dsimp only; rw [ht]; exact hMo⟩, hS.F ht⟩) hS.2.2 dX8_fetches_158
      · refine lv_iconst (v := (-1)) hx hb dX8_fetches_30 (by decide) ?_
        exact W.iret (v := (-1)) hx hb hr (fun t ht hW => ⟨⟨(-1), μ, rfl, ⟨(by unfold zX8_fetches; rw [if_neg c_7, if_neg c_9, if_pos c_10]), (by unfold zX8_fetches; rw [if_neg c_7, if_neg c_9, if_pos c_10])⟩, by dsimp only; rw [ht]; exact hMo⟩, hS.F ht⟩) hS.2.2 dX8_fetches_31
set_option maxHeartbeats 4000000 in
set_option maxRecDepth 100000 in
theorem kX8_fetches {p : Program} {l : Launch} {e : Env} {R : Room} {s : State} {m : MethodId} {args : Array Value} {below : List Frame} {meth : Method} {c : Code} {H : Heap} {locs : List Loc} {cells slots : Nat} {Q : State → Prop} {cc : ByteArray} {nL : Nat} {Ts : List Cond} {own : String} {index pc : Nat} {ls : Array Slot} {rest : List Value} {D : va_G} {y : Y3} {mo : Nat → Nat} {μ : Sg} {x1 : Int32} {x2 : Int32} {x3 : Int32} {A0 : Nat → Prop} {H0 : Heap} (hF : CallFix p m c cc nL s args Ts own) (cw : CallW R s args own RX8 index yX8_fetches cX8_fetches 6 (some .int) wsX8_fetches ({ frames := 2, cells := 0, slots := 0, locals := 44 } : Room) 0 0 3) (hC : CK D y s) (hMo : MoH D y mo μ H) (hi : moI mo) (hInv : InvM μ) (hS : va_S A0 H0 H locs) (hA : ∀ q, (moA mo) q → A0 q) (hsz : ls.size = nL) (hW : (rest.map fun v => v.category).sum ≤ 8) (hdg : decode cc pc = .ok (.invokevirtual index, 3)) (hf : cells ≤ R.cells ∧ slots ≤ R.slots)
    (k : ∀ (H1 : Heap) (locs1 : List Loc), MoH D y mo (zX8_fetches μ x1 x2 x3).2 H1 → H.size ≤ H1.size → (∀ q : Nat, q < H.size → ¬ (moA mo) q → H1[q]? = H[q]?) → va_S A0 H0 H1 locs1 → W p l e R s m args below meth c H1 locs1 cells slots Q (F0 m (pc + 3) ls (.int ((zX8_fetches μ x1 x2 x3).1) :: rest))) : W p l e R s m args below meth c H locs cells slots Q (F0 m pc ls (.int x3 :: .int x2 :: .int x1 :: .ref (mo 0) :: rest)) := by
  refine va_calli (va_runV (As := [.int x1, .int x2, .int x3]) (rest := rest) hF (mX8_fetches l D y mo μ x1 x2 x3) cw ⟨fun a U g mk q => by obtain ⟨q0, q1, q2, q3, q4⟩ := q; exact ⟨q0, q1.call g mk a, q2, q3, q4⟩, va_recv hC.1 hMo (ci := 8) (q0 := 0) rfl rfl, fun U hU hW => ⟨rfl, hC.warm hW, by rw [hU]; exact hMo, hi, hInv⟩⟩ rfl rfl hsz rfl (lv_room hW) hdg ⟨hf.1, hf.2⟩) hS (fun q _ h => hA q h) hA (fun r u t H1 locs1 ht hvm hp hB hz1 hk1 hS1 => ?_)
  obtain ⟨hp1, hp2⟩ := hp
  subst hp1; subst hp2
  rw [ht] at hB
  exact k H1 locs1 hB hz1 hk1 hS1
