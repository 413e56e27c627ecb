/-- past by one state older: the oldest goes -/
def zshf (μ : Sg) : Sg := mU μ 2 (cpS μ 897)
def zkep (μ : Sg) : Sg := mU μ 2 (cpK μ (μ 4 0).toNatClampNeg 299)
theorem rg_ne4 {x : Int32} (h : rg x 5) (hc : ¬ x = 4) : rg x 4 := by
  have := lv_neT (a := 4) hc (by decide)
  exact ⟨h.1, by have := h.2; omega⟩
theorem rg_43 {x : Int32} (hc : x = 4) : rg (x - 1) 4 := by subst hc; decide
def zX8_acted (μ : Sg) (x1 : Int32) : Int32 × Sg := if 0 ≤ x1 then (if (μ 4 0) = 4 then (x1, mT (zkep (mT (zshf μ) 0 (((zshf μ) 4 0) - 1))) 0 (((zkep (mT (zshf μ) 0 (((zshf μ) 4 0) - 1))) 4 0) + 1))
    else (x1, mT (zkep μ) 0 (((zkep μ) 4 0) + 1)))
  else (x1, (zX8_returns μ))
theorem iwX8_acted_X8 : ∀ w ∈ wsX80, w ∈ wsX8_acted := fun _ h => List.mem_cons_of_mem _ (List.mem_append_right _ h)
theorem hdX8_acted : yX8_acted.cls = RX8 ∧ yX8_acted.cls ≠ "java/lang/invoke/MethodHandle" ∧ yX8_acted.cls ≠ "java/lang/invoke/VarHandle" ∧ (parseMethodDescriptor yX8_acted.desc).map (fun d => d.parameters.length) = some 1 := by decide +kernel
set_option maxHeartbeats 4000000 in
set_option maxRecDepth 100000 in
theorem lpX8_acted_s {p : Program} {l : Launch} {e : Env} {s : State} {m : MethodId} {args : Array Value} {below : List Frame} {meth : Method} {c : Code} {Q : State → Prop} {D : va_G} {y : Y3} {mo : Nat → Nat} {μ : Sg} {x1 : Int32} (hx : p.tables.exec = Jvm.exec) (hb : c.code = cX8_acted) (hml : c.maxLocals = 3) (hown : s.vm.findClass RX8 = some m.cls) (hts : ∀ w ∈ wsX8_acted, w.before args s = true) (hC : CK D y s) (hi9 : moI mo)
    (K : ∀ (H : Heap) (locs : List Loc) (ls : Array Slot), MoH D y mo (mU μ 2 (cpS μ 897)) H → va_S (moA mo) s.heap H locs → lv_has ls 3 [(2, .int (nI 897)), (0, .ref (mo 0)), (1, .int x1)] → W p l e (headSpec wsX8_acted ({ frames := 1, cells := 0, slots := 0, locals := 21 } : Room)).room s m args below meth c H locs 0 0 Q (F0 m 49 ls [])) :
    ∀ (j i : Nat), i + j = 897 → ∀ (H : Heap) (locs : List Loc), MoH D y mo (mU μ 2 (cpS μ i)) H → va_S (moA mo) s.heap H locs → ∀ ls : Array Slot, lv_has ls 3 [(2, .int (nI i)), (0, .ref (mo 0)), (1, .int x1)] → W p l e (headSpec wsX8_acted ({ frames := 1, cells := 0, slots := 0, locals := 21 } : Room)).room s m args below meth c H locs 0 0 Q (F0 m 20 ls []) := by
  have hF := (⟨hx, hb, hml, hown, hts⟩ : CallFix p m c cX8_acted 3 s args wsX8_acted RX8)
  have hi := hi9
  intro j
  induction j with
  | zero =>
    intro i hin H locs hMo hS ls hl
    obtain rfl : i = 897 := by omega
    refine lv_iload_n hx hb dX8_acted_20 rfl (lv_at hl 0 rfl) ?_
    refine lv_sipush (v := 897) hx hb dX8_acted_21 (by decide) ?_
    refine lv_icmp_ge (tgt := 49) hx hb dX8_acted_24 (by decide) (fun _ => ?_) (fun c_1 => absurd (by decide) c_1)
    exact K H locs ls hMo hS (lv_sub hl [0, 1, 2] rfl)
  | succ j ih =>
    intro i hin H locs hMo hS ls hl
    have hil : i < 897 := by omega
    refine lv_iload_n hx hb dX8_acted_20 rfl (lv_at hl 0 rfl) ?_
    refine lv_sipush (v := 897) hx hb dX8_acted_21 (by decide) ?_
    refine lv_icmp_ge (tgt := 49) hx hb dX8_acted_24 (by decide) (fun c_2 => absurd c_2 (nI_ge (a := i) (b := 897) (by omega) (by decide))) (fun _ => ?_)
    refine lv_aload_n hx hb dX8_acted_27 rfl (lv_at hl 1 rfl) ?_
    refine va_get (D := D) (ci := 8) (v := .ref (mo 3)) (C := RX8) (T := TX8) (N := 10) hx hb hts iwX8_acted_X8 hown hC.1 hMo 0 rfl rfl 2 (by decide) (hts (.fieldLink RX8 16 "MealLockersModel" "past" "[I") (List.mem_of_getElem? (i := 2) rfl)) (fun _ h9 => h9) rfl dX8_acted_28 ?_
    refine lv_iload_n hx hb dX8_acted_31 rfl (lv_at hl 0 rfl) ?_
    refine lv_aload_n hx hb dX8_acted_32 rfl (lv_at hl 1 rfl) ?_
    refine va_get (D := D) (ci := 8) (v := .ref (mo 3)) (C := RX8) (T := TX8) (N := 10) hx hb hts iwX8_acted_X8 hown hC.1 hMo 0 rfl rfl 2 (by decide) (hts (.fieldLink RX8 16 "MealLockersModel" "past" "[I") (List.mem_of_getElem? (i := 2) rfl)) (fun _ h9 => h9) rfl dX8_acted_33 ?_
    refine lv_iload_n hx hb dX8_acted_36 rfl (lv_at hl 0 rfl) ?_
    refine lv_sipush (v := 299) hx hb dX8_acted_37 (by decide) ?_
    refine lv_iadd hx hb dX8_acted_40 ?_
    refine va_iald hx hb hC.1 hMo 3 0 rfl rfl (by rw [nI_299, nI_add]; exact vp_in_nI (by omega) (by decide)) dX8_acted_41 ?_
    refine va_iast hx hb hC.1 hMo (mo_D hi) hS 3 0 rfl rfl (vp_in_nI (by omega) (by decide)) dX8_acted_42 (fun H locs hMo _ hS => ?_)
    have hMo := mo_row3 hMo
    refine lv_iinc (v := (nI (i + 1))) (lv' := [(2, .int (nI (i + 1))), (0, .ref (mo 0)), (1, .int x1)]) hx hb dX8_acted_43 hl (k := 0) rfl (by rw [nI_succ]; rfl) (by decide) rfl (fun ls hl => ?_)
    refine lv_goto (tgt := 20) hx hb dX8_acted_46 (by decide) ?_
    exact ih (i + 1) (by omega) H locs (cp_S hil hMo) hS ls (lv_sub hl [0, 1, 2] rfl)
set_option maxHeartbeats 4000000 in
set_option maxRecDepth 100000 in
theorem lpX8_acted_k {p : Program} {l : Launch} {e : Env} {s : State} {m : MethodId} {args : Array Value} {below : List Frame} {meth : Method} {c : Code} {Q : State → Prop} {D : va_G} {y : Y3} {mo : Nat → Nat} {μ : Sg} {x1 : Int32} (hx : p.tables.exec = Jvm.exec) (hb : c.code = cX8_acted) (hml : c.maxLocals = 3) (hown : s.vm.findClass RX8 = some m.cls) (hts : ∀ w ∈ wsX8_acted, w.before args s = true) (hC : CK D y s) (hi9 : moI mo) (hr4 : rg (μ 4 0) 4)
    (K : ∀ (H : Heap) (locs : List Loc) (ls : Array Slot), MoH D y mo (mU μ 2 (cpK μ (μ 4 0).toNatClampNeg 299)) H → va_S (moA mo) s.heap H locs → lv_has ls 3 [(2, .int (nI 299)), (0, .ref (mo 0)), (1, .int x1)] → W p l e (headSpec wsX8_acted ({ frames := 1, cells := 0, slots := 0, locals := 21 } : Room)).room s m args below meth c H locs 0 0 Q (F0 m 95 ls [])) :
    ∀ (j i : Nat), i + j = 299 → ∀ (H : Heap) (locs : List Loc), MoH D y mo (mU μ 2 (cpK μ (μ 4 0).toNatClampNeg i)) H → va_S (moA mo) s.heap H locs → ∀ ls : Array Slot, lv_has ls 3 [(2, .int (nI i)), (0, .ref (mo 0)), (1, .int x1)] → W p l e (headSpec wsX8_acted ({ frames := 1, cells := 0, slots := 0, locals := 21 } : Room)).room s m args below meth c H locs 0 0 Q (F0 m 61 ls []) := by
  have hF := (⟨hx, hb, hml, hown, hts⟩ : CallFix p m c cX8_acted 3 s args wsX8_acted RX8)
  have hi := hi9
  intro j
  induction j with
  | zero =>
    intro i hin H locs hMo hS ls hl
    obtain rfl : i = 299 := by omega
    refine lv_iload_n hx hb dX8_acted_61 rfl (lv_at hl 0 rfl) ?_
    refine lv_sipush (v := 299) hx hb dX8_acted_62 (by decide) ?_
    refine lv_icmp_ge (tgt := 95) hx hb dX8_acted_65 (by decide) (fun _ => ?_) (fun c_3 => absurd (by decide) c_3)
    exact K H locs ls hMo hS (lv_sub hl [0, 1, 2] rfl)
  | succ j ih =>
    intro i hin H locs hMo hS ls hl
    have hil : i < 299 := by omega
    refine lv_iload_n hx hb dX8_acted_61 rfl (lv_at hl 0 rfl) ?_
    refine lv_sipush (v := 299) hx hb dX8_acted_62 (by decide) ?_
    refine lv_icmp_ge (tgt := 95) hx hb dX8_acted_65 (by decide) (fun c_4 => absurd c_4 (nI_ge (a := i) (b := 299) (by omega) (by decide))) (fun _ => ?_)
    refine lv_aload_n hx hb dX8_acted_68 rfl (lv_at hl 1 rfl) ?_
    refine va_get (D := D) (ci := 8) (v := .ref (mo 3)) (C := RX8) (T := TX8) (N := 10) hx hb hts iwX8_acted_X8 hown hC.1 hMo 0 rfl rfl 2 (by decide) (hts (.fieldLink RX8 16 "MealLockersModel" "past" "[I") (List.mem_of_getElem? (i := 2) rfl)) (fun _ h9 => h9) rfl dX8_acted_69 ?_
    refine lv_sipush (v := 299) hx hb dX8_acted_72 (by decide) ?_
    refine lv_aload_n hx hb dX8_acted_75 rfl (lv_at hl 1 rfl) ?_
    refine va_get (D := D) (ci := 8) (v := .int ((mU μ 2 (cpK μ (μ 4 0).toNatClampNeg i)) 4 0)) (C := RX8) (T := TX8) (N := 10) hx hb hts iwX8_acted_X8 hown hC.1 hMo 0 rfl rfl 3 (by decide) (hts (.fieldLink RX8 25 "MealLockersModel" "states" "I") (List.mem_of_getElem? (i := 1) rfl)) (fun _ h9 => h9) rfl dX8_acted_76 ?_
    refine lv_imul hx hb dX8_acted_79 ?_
    refine lv_iload_n hx hb dX8_acted_80 rfl (lv_at hl 0 rfl) ?_
    refine lv_iadd hx hb dX8_acted_81 ?_
    refine lv_aload_n hx hb dX8_acted_82 rfl (lv_at hl 1 rfl) ?_
    refine va_get (D := D) (ci := 8) (v := .ref (mo 2)) (C := RX8) (T := TX8) (N := 10) hx hb hts iwX8_acted_X8 hown hC.1 hMo 0 rfl rfl 1 (by decide) (hts (.fieldLink RX8 13 "MealLockersModel" "begun" "[I") (List.mem_of_getElem? (i := 3) rfl)) (fun _ h9 => h9) rfl dX8_acted_83 ?_
    refine lv_iload_n hx hb dX8_acted_86 rfl (lv_at hl 0 rfl) ?_
    refine va_iald hx hb hC.1 hMo 2 0 rfl rfl (vp_in_nI (by omega) (by decide)) dX8_acted_87 ?_
    refine va_iast hx hb hC.1 hMo (mo_D hi) hS 3 0 rfl rfl (vp_Kk hr4 (by omega)) dX8_acted_88 (fun H locs hMo _ hS => ?_)
    have hMo := mo_row3 hMo
    refine lv_iinc (v := (nI (i + 1))) (lv' := [(2, .int (nI (i + 1))), (0, .ref (mo 0)), (1, .int x1)]) hx hb dX8_acted_89 hl (k := 0) rfl (by rw [nI_succ]; rfl) (by decide) rfl (fun ls hl => ?_)
    refine lv_goto (tgt := 61) hx hb dX8_acted_92 (by decide) ?_
    exact ih (i + 1) (by omega) H locs (cp_K hr4 hil hMo) hS ls (lv_sub hl [0, 1, 2] rfl)
set_option maxHeartbeats 4000000 in
set_option maxRecDepth 100000 in
theorem mX8_acted (l : Launch) (D : va_G) (y : Y3) (mo : Nat → Nat) (μ : Sg) (x1 : Int32) : Met l yX8_acted wsX8_acted ({ frames := 1, cells := 0, slots := 0, locals := 21 } : Room) (va_Pc [.ref (mo 0), .int x1] (fun U => CK D y U ∧ MoH D y mo μ U.heap ∧ moI mo ∧ rg (μ 4 0) 5)) (va_Qi (fun (r : Int32) (u : Sg) => r = (zX8_acted μ x1).1 ∧ u = (zX8_acted μ x1).2) (fun u t => MoH D y mo u t.heap) (moA mo)) 0 0 (moA mo) := by
  refine Met.ofW (cc := cX8_acted) (maxL := 3) (ret := (some .int)) (by decide) rfl ?_
  intro p e s m args below meth c s₁ B hml hv
  obtain ⟨rfl, hC, hMo, hi, r_h⟩ := hv
  have hx := B.exec
  have hb := B.bytes
  have hr := B.returns
  have hts := atoms_spec (ws := wsX8_acted) B.pre
  have hown : s.vm.findClass RX8 = some m.cls := findClass_of_methodNamed B.named
  have hlocks := B.notSynchronized
  have hF := (⟨hx, hb, hml, hown, hts⟩ : CallFix p m c cX8_acted 3 s _ wsX8_acted RX8)
  have hS : va_S (moA mo) s.heap s.heap [] := va_S.rf
  have hl := lv_entry ([.ref (mo 0), .int x1]) (n := 3) (Nat.le_of_ble_eq_true rfl)
  rw [lg_entry_eq]
  generalize (lg_sl ([.ref (mo 0), .int x1]) ++ List.replicate (3 - (lg_sl ([.ref (mo 0), .int x1])).length) Slot.unset).toArray = ls at hl ⊢
  have hl : lv_has ls 3 [(0, .ref (mo 0)), (1, .int x1)] := hl
  refine lv_iload_n hx hb dX8_acted_0 rfl (lv_at hl 1 rfl) ?_
  refine lv_if_ge (tgt := 10) hx hb dX8_acted_1 (by decide) (fun c_5 => ?_) (fun c_5 => ?_)
  · refine lv_aload_n hx hb dX8_acted_10 rfl (lv_at hl 0 rfl) ?_
    refine va_get (D := D) (ci := 8) (v := .int (μ 4 0)) (C := RX8) (T := TX8) (N := 10) hx hb hts iwX8_acted_X8 hown hC.1 hMo 0 rfl rfl 3 (by decide) (hts (.fieldLink RX8 25 "MealLockersModel" "states" "I") (List.mem_of_getElem? (i := 1) rfl)) (fun _ h9 => h9) rfl dX8_acted_11 ?_
    refine lv_iconst (v := 4) hx hb dX8_acted_14 (by decide) ?_
    refine lv_icmp_ne (tgt := 59) hx hb dX8_acted_15 (by decide) (fun c_6 => ?_) (fun c_6 => ?_)
    · refine lv_iconst (v := 0) hx hb dX8_acted_59 (by decide) ?_
      refine lv_istore_n (lv' := [(2, .int 0), (0, .ref (mo 0)), (1, .int x1)]) hx hb dX8_acted_60 rfl hl (by decide) rfl (fun ls hl => ?_)
      refine lpX8_acted_k (μ := μ) hx hb hml hown hts hC hi (rg_ne4 r_h c_6) (fun H locs ls hMo hS hl => ?_) _ 0 (Nat.zero_add _) _ _ (mo_cong hMo (fun _ _ => rfl) (fun _ _ => rfl) (fun k _ => (cpK_0 _ _ k).symm) (fun _ _ => rfl) rfl) hS ls (lv_sub hl [0, 1, 2] rfl)
      have hMo : MoH D y mo (zkep μ) H := hMo
      refine lv_aload_n hx hb dX8_acted_95 rfl (lv_at hl 1 rfl) ?_
      refine lv_dup hx hb dX8_acted_96 rfl ?_
      refine va_get (D := D) (ci := 8) (v := .int ((zkep μ) 4 0)) (C := RX8) (T := TX8) (N := 10) hx hb hts iwX8_acted_X8 hown hC.1 hMo 0 rfl rfl 3 (by decide) (hts (.fieldLink RX8 25 "MealLockersModel" "states" "I") (List.mem_of_getElem? (i := 1) rfl)) (fun _ h9 => h9) rfl dX8_acted_97 ?_
      refine lv_iconst (v := 1) hx hb dX8_acted_100 (by decide) ?_
      refine lv_iadd hx hb dX8_acted_101 ?_
      refine va_put (D := D) (ci := 8) (v := .int (((zkep μ) 4 0) + 1)) (ty := .int) (C := RX8) (T := TX8) (N := 10) hx hb hts iwX8_acted_X8 tyX8 tyX8_ok nmX8 hown hC.1 hMo (mo_D hi) hS 0 rfl rfl 3 (by decide) (hts (.fieldLink RX8 25 "MealLockersModel" "states" "I") (List.mem_of_getElem? (i := 1) rfl)) (fun _ h9 => h9) rfl (by decide +kernel) rfl rfl (Nat.le_of_ble_eq_true rfl) dX8_acted_102 (fun H locs hMo _ hS => ?_)
      have hMo := mo_put0 hMo
      refine lv_iload_n hx hb dX8_acted_105 rfl (lv_at hl 2 rfl) ?_
      exact W.iret (v := x1) hx hb hr (fun t ht hW => ⟨⟨x1, mT (zkep μ) 0 (((zkep μ) 4 0) + 1), rfl, ⟨(by unfold zX8_acted; rw [if_pos c_5, if_neg c_6]), (by unfold zX8_acted; rw [if_pos c_5, if_neg c_6])⟩, by dsimp only; rw [ht]; exact hMo⟩, hS.F ht⟩) hS.2.2 dX8_acted_106
    · refine lv_iconst (v := 0) hx hb dX8_acted_18 (by decide) ?_
      refine lv_istore_n (lv' := [(2, .int 0), (0, .ref (mo 0)), (1, .int x1)]) hx hb dX8_acted_19 rfl hl (by decide) rfl (fun ls hl => ?_)
      refine lpX8_acted_s (μ := μ) hx hb hml hown hts hC hi (fun H locs ls hMo hS hl => ?_) _ 0 (Nat.zero_add _) _ _ (mo_cong hMo (fun _ _ => rfl) (fun _ _ => rfl) (fun k _ => (cpS_0 _ k).symm) (fun _ _ => rfl) rfl) hS ls (lv_sub hl [0, 1, 2] rfl)
      have hMo : MoH D y mo (zshf μ) H := hMo
      refine lv_aload_n hx hb dX8_acted_49 rfl (lv_at hl 1 rfl) ?_
      refine lv_dup hx hb dX8_acted_50 rfl ?_
      refine va_get (D := D) (ci := 8) (v := .int ((zshf μ) 4 0)) (C := RX8) (T := TX8) (N := 10) hx hb hts iwX8_acted_X8 hown hC.1 hMo 0 rfl rfl 3 (by decide) (hts (.fieldLink RX8 25 "MealLockersModel" "states" "I") (List.mem_of_getElem? (i := 1) rfl)) (fun _ h9 => h9) rfl dX8_acted_51 ?_
      refine lv_iconst (v := 1) hx hb dX8_acted_54 (by decide) ?_
      refine lv_isub hx hb dX8_acted_55 ?_
      refine va_put (D := D) (ci := 8) (v := .int (((zshf μ) 4 0) - 1)) (ty := .int) (C := RX8) (T := TX8) (N := 10) hx hb hts iwX8_acted_X8 tyX8 tyX8_ok nmX8 hown hC.1 hMo (mo_D hi) hS 0 rfl rfl 3 (by decide) (hts (.fieldLink RX8 25 "MealLockersModel" "states" "I") (List.mem_of_getElem? (i := 1) rfl)) (fun _ h9 => h9) rfl (by decide +kernel) rfl rfl (Nat.le_of_ble_eq_true rfl) dX8_acted_56 (fun H locs hMo _ hS => ?_)
      have hMo := mo_put0 hMo
      refine lv_iconst (v := 0) hx hb dX8_acted_59 (by decide) ?_
      refine lv_istore_n (lv' := [(2, .int 0), (0, .ref (mo 0)), (1, .int x1)]) hx hb dX8_acted_60 rfl hl (by decide) rfl (fun ls hl => ?_)
      refine lpX8_acted_k (μ := mT (zshf μ) 0 (((zshf μ) 4 0) - 1)) hx hb hml hown hts hC hi (rg_43 c_6) (fun H locs ls hMo hS hl => ?_) _ 0 (Nat.zero_add _) _ _ (mo_cong hMo (fun _ _ => rfl) (fun _ _ => rfl) (fun k _ => (cpK_0 _ _ k).symm) (fun _ _ => rfl) rfl) hS ls (lv_sub hl [0, 1, 2] rfl)
      have hMo : MoH D y mo (zkep (mT (zshf μ) 0 (((zshf μ) 4 0) - 1))) H := hMo
      refine lv_aload_n hx hb dX8_acted_95 rfl (lv_at hl 1 rfl) ?_
      refine lv_dup hx hb dX8_acted_96 rfl ?_
      refine va_get (D := D) (ci := 8) (v := .int ((zkep (mT (zshf μ) 0 (((zshf μ) 4 0) - 1))) 4 0)) (C := RX8) (T := TX8) (N := 10) hx hb hts iwX8_acted_X8 hown hC.1 hMo 0 rfl rfl 3 (by decide) (hts (.fieldLink RX8 25 "MealLockersModel" "states" "I") (List.mem_of_getElem? (i := 1) rfl)) (fun _ h9 => h9) rfl dX8_acted_97 ?_
      refine lv_iconst (v := 1) hx hb dX8_acted_100 (by decide) ?_
      refine lv_iadd hx hb dX8_acted_101 ?_
      refine va_put (D := D) (ci := 8) (v := .int (((zkep (mT (zshf μ) 0 (((zshf μ) 4 0) - 1))) 4 0) + 1)) (ty := .int) (C := RX8) (T := TX8) (N := 10) hx hb hts iwX8_acted_X8 tyX8 tyX8_ok nmX8 hown hC.1 hMo (mo_D hi) hS 0 rfl rfl 3 (by decide) (hts (.fieldLink RX8 25 "MealLockersModel" "states" "I") (List.mem_of_getElem? (i := 1) rfl)) (fun _ h9 => h9) rfl (by decide +kernel) rfl rfl (Nat.le_of_ble_eq_true rfl) dX8_acted_102 (fun H locs hMo _ hS => ?_)
      have hMo := mo_put0 hMo
      refine lv_iload_n hx hb dX8_acted_105 rfl (lv_at hl 2 rfl) ?_
      exact W.iret (v := x1) hx hb hr (fun t ht hW => ⟨⟨x1, mT (zkep (mT (zshf μ) 0 (((zshf μ) 4 0) - 1))) 0 (((zkep (mT (zshf μ) 0 (((zshf μ) 4 0) - 1))) 4 0) + 1), rfl, ⟨(by unfold zX8_acted; rw [if_pos c_5, if_pos c_6]), (by unfold zX8_acted; rw [if_pos c_5, if_pos c_6])⟩, by dsimp only; rw [ht]; exact hMo⟩, hS.F ht⟩) hS.2.2 dX8_acted_106
  · refine lv_aload_n hx hb dX8_acted_4 rfl (lv_at hl 0 rfl) ?_
    refine kX8_returns hF (cwV 0 hts gX8_acted_X8_returns rfl rfl rfl hdX8_returns ⟨Nat.le_of_ble_eq_true rfl, Nat.le_of_ble_eq_true rfl⟩) hC hMo hi  hS (fun _ h => h) hl.1 (Nat.le_of_ble_eq_true rfl) dX8_acted_5 ⟨Nat.zero_le _, Nat.zero_le _⟩ (fun H locs hMo _ _ hS => ?_)
    refine lv_iload_n hx hb dX8_acted_8 rfl (lv_at hl 1 rfl) ?_
    exact W.iret (v := x1) hx hb hr (fun t ht hW => ⟨⟨x1, (zX8_returns μ), rfl, ⟨(by unfold zX8_acted; rw [if_neg c_5]), (by unfold zX8_acted; rw [if_neg c_5])⟩, by dsimp only; rw [ht]; exact hMo⟩, hS.F ht⟩) hS.2.2 dX8_acted_9
set_option maxHeartbeats 4000000 in
set_option maxRecDepth 100000 in
theorem kX8_acted {p : Program} {l : Launch} {e : Env} {R : Room} {s : State} {m : MethodId} {args : Array Value} {below : List Frame} {meth : Method} {c : Code} {H : Heap} {locs : List Loc} {cells slots : Nat} {Q : State → Prop} {cc : ByteArray} {nL : Nat} {Ts : List Cond} {own : String} {index pc : Nat} {ls : Array Slot} {rest : List Value} {D : va_G} {y : Y3} {mo : Nat → Nat} {μ : Sg} {x1 : Int32} {A0 : Nat → Prop} {H0 : Heap} (hF : CallFix p m c cc nL s args Ts own) (cw : CallW R s args own RX8 index yX8_acted cX8_acted 3 (some .int) wsX8_acted ({ frames := 1, cells := 0, slots := 0, locals := 21 } : Room) 0 0 1) (hC : CK D y s) (hMo : MoH D y mo μ H) (hi : moI mo) (r_h : rg (μ 4 0) 5) (hS : va_S A0 H0 H locs) (hA : ∀ q, (moA mo) q → A0 q) (hsz : ls.size = nL) (hW : (rest.map fun v => v.category).sum ≤ 8) (hdg : decode cc pc = .ok (.invokevirtual index, 3)) (hf : cells ≤ R.cells ∧ slots ≤ R.slots)
    (k : ∀ (H1 : Heap) (locs1 : List Loc), MoH D y mo (zX8_acted μ x1).2 H1 → H.size ≤ H1.size → (∀ q : Nat, q < H.size → ¬ (moA mo) q → H1[q]? = H[q]?) → va_S A0 H0 H1 locs1 → W p l e R s m args below meth c H1 locs1 cells slots Q (F0 m (pc + 3) ls (.int ((zX8_acted μ x1).1) :: rest))) : W p l e R s m args below meth c H locs cells slots Q (F0 m pc ls (.int x1 :: .ref (mo 0) :: rest)) := by
  refine va_calli (va_runV (As := [.int x1]) (rest := rest) hF (mX8_acted l D y mo μ x1) cw ⟨fun a U g mk q => by obtain ⟨q0, q1, q2, q3, q4⟩ := q; exact ⟨q0, q1.call g mk a, q2, q3, q4⟩, va_recv hC.1 hMo (ci := 8) (q0 := 0) rfl rfl, fun U hU hW => ⟨rfl, hC.warm hW, by rw [hU]; exact hMo, hi, r_h⟩⟩ rfl rfl hsz rfl (lv_room hW) hdg ⟨hf.1, hf.2⟩) hS (fun q _ h => hA q h) hA (fun r u t H1 locs1 ht hvm hp hB hz1 hk1 hS1 => ?_)
  obtain ⟨hp1, hp2⟩ := hp
  subst hp1; subst hp2
  rw [ht] at hB
  exact k H1 locs1 hB hz1 hk1 hS1
