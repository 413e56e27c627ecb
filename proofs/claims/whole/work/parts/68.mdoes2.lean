def zX8_does (μ : Sg) : Int32 × Sg := wdo 61 (mT (mT μ 2 0) 3 0)
theorem hdX8_does : yX8_does.cls = RX8 ∧ yX8_does.cls ≠ "java/lang/invoke/MethodHandle" ∧ yX8_does.cls ≠ "java/lang/invoke/VarHandle" ∧ (parseMethodDescriptor yX8_does.desc).map (fun d => d.parameters.length) = some 0 := by decide +kernel
set_option maxHeartbeats 4000000 in
set_option maxRecDepth 100000 in
theorem deX8_does {p : Program} {l : Launch} {e : Env} {s : State} {m : MethodId} {args : Array Value} {below : List Frame} {meth : Method} {c : Code} {Q : State → Prop} {D : va_G} {y : Y3} {mo : Nat → Nat} {μ : Sg} {x1 x2 x3 x4 : Int32} {H : Heap} {locs : List Loc} {ls : Array Slot} (hx : p.tables.exec = Jvm.exec) (hb : c.code = cX8_does) (hml : c.maxLocals = 6) (hown : s.vm.findClass RX8 = some m.cls) (hts : ∀ w ∈ wsX8_does, w.before args s = true) (hC : CK D y s) (hi9 : moI mo) (hMo : MoH D y mo μ H) (hS : va_S (moA mo) s.heap H locs) (hInv : InvM μ) (hT : InvT μ) (hl : lv_has ls 6 [(0, .ref (mo 0)), (1, .int x1), (2, .int x2), (3, .int x3), (4, .int x4)])
    (K0 : ∀ (ν : Sg) (H : Heap) (locs : List Loc) (ls : Array Slot), (0, ν) = zde μ x2 x3 x4 → MoH D y mo ν H → va_S (moA mo) s.heap H locs → lv_has ls 6 [(0, .ref (mo 0))] → W p l e (headSpec wsX8_does ({ frames := 9, cells := 0, slots := 0, locals := 204 } : Room)).room s m args below meth c H locs 0 0 Q (F0 m 10 ls []))
    (K1 : ∀ (ν : Sg) (H : Heap) (locs : List Loc) (ls : Array Slot), (1, ν) = zde μ x2 x3 x4 → MoH D y mo ν H → va_S (moA mo) s.heap H locs → lv_has ls 6 [(0, .ref (mo 0)), (1, .int x1)] → W p l e (headSpec wsX8_does ({ frames := 9, cells := 0, slots := 0, locals := 204 } : Room)).room s m args below meth c H locs 0 0 Q (F0 m 179 ls [])) :
    W p l e (headSpec wsX8_does ({ frames := 9, cells := 0, slots := 0, locals := 204 } : Room)).room s m args below meth c H locs 0 0 Q (F0 m 114 ls []) := by
  have hF := (⟨hx, hb, hml, hown, hts⟩ : CallFix p m c cX8_does 6 s args wsX8_does RX8)
  have hi := hi9
  refine lv_aload_n hx hb dX8_does_114 rfl (lv_at hl 0 rfl) ?_
  refine lv_bipush (v := 59) hx hb dX8_does_115 (by decide) ?_
  refine kX8_takesSign hF (cwV 1 hts gX8_does_X8_takesSign rfl rfl rfl hdX8_takesSign ⟨Nat.le_of_ble_eq_true rfl, Nat.le_of_ble_eq_true rfl⟩) hC hMo hi hT  hS (fun _ h => h) hl.1 (Nat.le_of_ble_eq_true rfl) dX8_does_117 ⟨Nat.zero_le _, Nat.zero_le _⟩ (fun H locs hMo _ _ hS => ?_)
  have hInv := i_eq (n_takesSign (x1 := 59) 0 (by decide)) hInv
  have hT := t_takesSign (x1 := 59) hT (by decide)
  refine lv_aload_n hx hb dX8_does_120 rfl (lv_at hl 0 rfl) ?_
  refine va_get (D := D) (ci := 8) (v := .int ((zX8_takesSign μ 59) 4 5)) (C := RX8) (T := TX8) (N := 10) hx hb hts iwX8_does_X8 hown hC.1 hMo 0 rfl rfl 9 (by decide) (hts (.fieldLink RX8 177 "MealLockersModel" "isForm" "Z") (List.mem_of_getElem? (i := 4) rfl)) (fun _ h9 => h9) rfl dX8_does_121 ?_
  refine lv_if_eq (tgt := 138) hx hb dX8_does_124 (by decide) (fun c_1 => ?_) (fun c_1 => ?_)
  · refine lv_iconst (v := 0) hx hb dX8_does_138 (by decide) ?_
    refine lv_istore (lv' := [(5, .int 0), (0, .ref (mo 0)), (1, .int x1), (2, .int x2), (3, .int x3), (4, .int x4)]) hx hb dX8_does_139 hl (by decide) rfl (fun ls hl => ?_)
    refine lv_aload_n hx hb dX8_does_141 rfl (lv_at hl 1 rfl) ?_
    refine lv_aload_n hx hb dX8_does_142 rfl (lv_at hl 1 rfl) ?_
    refine va_get (D := D) (ci := 8) (v := .int ((zX8_takesSign μ 59) 4 5)) (C := RX8) (T := TX8) (N := 10) hx hb hts iwX8_does_X8 hown hC.1 hMo 0 rfl rfl 9 (by decide) (hts (.fieldLink RX8 177 "MealLockersModel" "isForm" "Z") (List.mem_of_getElem? (i := 4) rfl)) (fun _ h9 => h9) rfl dX8_does_143 ?_
    refine lv_if_ne (tgt := 153) hx hb dX8_does_146 (by decide) (fun c_2 => absurd c_2 (fun z => z c_1)) (fun _ => ?_)
    refine lv_iconst (v := 1) hx hb dX8_does_149 (by decide) ?_
    refine lv_goto (tgt := 164) hx hb dX8_does_150 (by decide) ?_
    refine va_put (D := D) (ci := 8) (v := .int 1) (ty := .int) (C := RX8) (T := TX8) (N := 10) hx hb hts iwX8_does_X8 tyX8 tyX8_ok nmX8 hown hC.1 hMo (mo_D hi) hS 0 rfl rfl 8 (by decide) (hts (.fieldLink RX8 200 "MealLockersModel" "reason" "I") (List.mem_of_getElem? (i := 5) rfl)) (fun _ h9 => h9) rfl (by decide +kernel) rfl rfl (Nat.le_of_ble_eq_true rfl) dX8_does_164 (fun H locs hMo _ hS => ?_)
    have hMo := mo_put4 hMo
    have hInv := inv_mT (k := 4) (v := 1) hInv
    have hT := t_mT (k := 4) (v := 1) (by decide) (by decide) hT
    refine lv_aload_n hx hb dX8_does_167 rfl (lv_at hl 1 rfl) ?_
    refine va_get (D := D) (ci := 8) (v := .int ((mT (zX8_takesSign μ 59) 4 1) 4 5)) (C := RX8) (T := TX8) (N := 10) hx hb hts iwX8_does_X8 hown hC.1 hMo 0 rfl rfl 9 (by decide) (hts (.fieldLink RX8 177 "MealLockersModel" "isForm" "Z") (List.mem_of_getElem? (i := 4) rfl)) (fun _ h9 => h9) rfl dX8_does_168 ?_
    refine lv_if_eq (tgt := 179) hx hb dX8_does_171 (by decide) (fun _ => ?_) (fun c_3 => absurd c_1 c_3)
    exact K1 _ H locs ls (by unfold zde; rw [if_pos c_1]) hMo hS (lv_sub hl [1, 2] rfl)
  · refine lv_aload_n hx hb dX8_does_127 rfl (lv_at hl 0 rfl) ?_
    refine lv_iload_n hx hb dX8_does_128 rfl (lv_at hl 2 rfl) ?_
    refine lv_iload_n hx hb dX8_does_129 rfl (lv_at hl 3 rfl) ?_
    refine lv_iload hx hb dX8_does_130 (lv_at hl 4 rfl) ?_
    refine kX8_called hF (cwV 3 hts gX8_does_X8_called rfl rfl rfl hdX8_called ⟨Nat.le_of_ble_eq_true rfl, Nat.le_of_ble_eq_true rfl⟩) hC hMo hi hInv  hS (fun _ h => h) hl.1 (Nat.le_of_ble_eq_true rfl) dX8_does_132 ⟨Nat.zero_le _, Nat.zero_le _⟩ (fun H locs hMo _ _ hS => ?_)
    have hgd := gd_X8_called hInv x2 x3 x4
    have hInv := hgd.1
    have hT := t_eq (hgd.2.2 4 (by decide)) hT
    refine lv_goto (tgt := 139) hx hb dX8_does_135 (by decide) ?_
    refine lv_istore (lv' := [(5, .int ((zX8_called (zX8_takesSign μ 59) x2 x3 x4).1)), (0, .ref (mo 0)), (1, .int x1), (2, .int x2), (3, .int x3), (4, .int x4)]) hx hb dX8_does_139 hl (by decide) rfl (fun ls hl => ?_)
    refine lv_aload_n hx hb dX8_does_141 rfl (lv_at hl 1 rfl) ?_
    refine lv_aload_n hx hb dX8_does_142 rfl (lv_at hl 1 rfl) ?_
    refine va_get (D := D) (ci := 8) (v := .int (((zX8_called (zX8_takesSign μ 59) x2 x3 x4).2) 4 5)) (C := RX8) (T := TX8) (N := 10) hx hb hts iwX8_does_X8 hown hC.1 hMo 0 rfl rfl 9 (by decide) (hts (.fieldLink RX8 177 "MealLockersModel" "isForm" "Z") (List.mem_of_getElem? (i := 4) rfl)) (fun _ h9 => h9) rfl dX8_does_143 ?_
    refine lv_if_ne (tgt := 153) hx hb dX8_does_146 (by decide) (fun _ => ?_) (fun c_4 => absurd c_4 (fun z => c_1 ((show (zX8_takesSign μ 59) 4 5 = _ from (congrFun (hgd.2.2 4 (by decide)) 5).symm).trans z)))
    refine lv_iload hx hb dX8_does_153 (lv_at hl 0 rfl) ?_
    refine lv_iconst (v := (-1)) hx hb dX8_does_155 (by decide) ?_
    refine lv_icmp_ne (tgt := 163) hx hb dX8_does_156 (by decide) (fun c_5 => ?_) (fun c_5 => ?_)
    · refine lv_iconst (v := 3) hx hb dX8_does_163 (by decide) ?_
      refine va_put (D := D) (ci := 8) (v := .int 3) (ty := .int) (C := RX8) (T := TX8) (N := 10) hx hb hts iwX8_does_X8 tyX8 tyX8_ok nmX8 hown hC.1 hMo (mo_D hi) hS 0 rfl rfl 8 (by decide) (hts (.fieldLink RX8 200 "MealLockersModel" "reason" "I") (List.mem_of_getElem? (i := 5) rfl)) (fun _ h9 => h9) rfl (by decide +kernel) rfl rfl (Nat.le_of_ble_eq_true rfl) dX8_does_164 (fun H locs hMo _ hS => ?_)
      have hMo := mo_put4 hMo
      have hInv := inv_mT (k := 4) (v := 3) hInv
      have hT := t_mT (k := 4) (v := 3) (by decide) (by decide) hT
      refine lv_aload_n hx hb dX8_does_167 rfl (lv_at hl 1 rfl) ?_
      refine va_get (D := D) (ci := 8) (v := .int ((mT ((zX8_called (zX8_takesSign μ 59) x2 x3 x4).2) 4 3) 4 5)) (C := RX8) (T := TX8) (N := 10) hx hb hts iwX8_does_X8 hown hC.1 hMo 0 rfl rfl 9 (by decide) (hts (.fieldLink RX8 177 "MealLockersModel" "isForm" "Z") (List.mem_of_getElem? (i := 4) rfl)) (fun _ h9 => h9) rfl dX8_does_168 ?_
      refine lv_if_eq (tgt := 179) hx hb dX8_does_171 (by decide) (fun c_6 => absurd c_6 (fun z => c_1 ((show (zX8_takesSign μ 59) 4 5 = _ from (congrFun (hgd.2.2 4 (by decide)) 5).symm).trans z))) (fun _ => ?_)
      refine lv_iload hx hb dX8_does_174 (lv_at hl 0 rfl) ?_
      refine lv_if_ge (tgt := 181) hx hb dX8_does_176 (by decide) (fun c_7 => ?_) (fun c_7 => ?_)
      · refine lv_aload_n hx hb dX8_does_181 rfl (lv_at hl 1 rfl) ?_
        refine lv_dup hx hb dX8_does_182 rfl ?_
        refine va_get (D := D) (ci := 8) (v := .int ((mT ((zX8_called (zX8_takesSign μ 59) x2 x3 x4).2) 4 3) 4 3)) (C := RX8) (T := TX8) (N := 10) hx hb hts iwX8_does_X8 hown hC.1 hMo 0 rfl rfl 7 (by decide) (hts (.fieldLink RX8 185 "MealLockersModel" "done" "I") (List.mem_of_getElem? (i := 2) rfl)) (fun _ h9 => h9) rfl dX8_does_183 ?_
        refine lv_iconst (v := 1) hx hb dX8_does_186 (by decide) ?_
        refine lv_iadd hx hb dX8_does_187 ?_
        refine va_put (D := D) (ci := 8) (v := .int (((mT ((zX8_called (zX8_takesSign μ 59) x2 x3 x4).2) 4 3) 4 3) + 1)) (ty := .int) (C := RX8) (T := TX8) (N := 10) hx hb hts iwX8_does_X8 tyX8 tyX8_ok nmX8 hown hC.1 hMo (mo_D hi) hS 0 rfl rfl 7 (by decide) (hts (.fieldLink RX8 185 "MealLockersModel" "done" "I") (List.mem_of_getElem? (i := 2) rfl)) (fun _ h9 => h9) rfl (by decide +kernel) rfl rfl (Nat.le_of_ble_eq_true rfl) dX8_does_188 (fun H locs hMo _ hS => ?_)
        have hMo := mo_put3 hMo
        have hInv := inv_mT (k := 3) (v := (((mT ((zX8_called (zX8_takesSign μ 59) x2 x3 x4).2) 4 3) 4 3) + 1)) hInv
        have hT := t_mT (k := 3) (v := (((mT ((zX8_called (zX8_takesSign μ 59) x2 x3 x4).2) 4 3) 4 3) + 1)) (by decide) (by decide) hT
        refine lv_goto (tgt := 10) hx hb dX8_does_191 (by decide) ?_
        exact K0 _ H locs ls (by unfold zde; rw [if_neg c_1, if_neg c_5, if_pos c_7]) hMo hS (lv_sub hl [1] rfl)
      · exact K1 _ H locs ls (by unfold zde; rw [if_neg c_1, if_neg c_5, if_neg c_7]) hMo hS (lv_sub hl [1, 2] rfl)
    · refine lv_iconst (v := 2) hx hb dX8_does_159 (by decide) ?_
      refine lv_goto (tgt := 164) hx hb dX8_does_160 (by decide) ?_
      refine va_put (D := D) (ci := 8) (v := .int 2) (ty := .int) (C := RX8) (T := TX8) (N := 10) hx hb hts iwX8_does_X8 tyX8 tyX8_ok nmX8 hown hC.1 hMo (mo_D hi) hS 0 rfl rfl 8 (by decide) (hts (.fieldLink RX8 200 "MealLockersModel" "reason" "I") (List.mem_of_getElem? (i := 5) rfl)) (fun _ h9 => h9) rfl (by decide +kernel) rfl rfl (Nat.le_of_ble_eq_true rfl) dX8_does_164 (fun H locs hMo _ hS => ?_)
      have hMo := mo_put4 hMo
      have hInv := inv_mT (k := 4) (v := 2) hInv
      have hT := t_mT (k := 4) (v := 2) (by decide) (by decide) hT
      refine lv_aload_n hx hb dX8_does_167 rfl (lv_at hl 1 rfl) ?_
      refine va_get (D := D) (ci := 8) (v := .int ((mT ((zX8_called (zX8_takesSign μ 59) x2 x3 x4).2) 4 2) 4 5)) (C := RX8) (T := TX8) (N := 10) hx hb hts iwX8_does_X8 hown hC.1 hMo 0 rfl rfl 9 (by decide) (hts (.fieldLink RX8 177 "MealLockersModel" "isForm" "Z") (List.mem_of_getElem? (i := 4) rfl)) (fun _ h9 => h9) rfl dX8_does_168 ?_
      refine lv_if_eq (tgt := 179) hx hb dX8_does_171 (by decide) (fun c_8 => absurd c_8 (fun z => c_1 ((show (zX8_takesSign μ 59) 4 5 = _ from (congrFun (hgd.2.2 4 (by decide)) 5).symm).trans z))) (fun _ => ?_)
      refine lv_iload hx hb dX8_does_174 (lv_at hl 0 rfl) ?_
      refine lv_if_ge (tgt := 181) hx hb dX8_does_176 (by decide) (fun c_9 => absurd c_9 (by rw [c_5]; decide)) (fun _ => ?_)
      exact K1 _ H locs ls (by unfold zde; rw [if_neg c_1, if_pos c_5]) hMo hS (lv_sub hl [1, 2] rfl)
set_option maxHeartbeats 4000000 in
set_option maxRecDepth 100000 in
theorem dtX8_does {p : Program} {l : Launch} {e : Env} {s : State} {m : MethodId} {args : Array Value} {below : List Frame} {meth : Method} {c : Code} {Q : State → Prop} {D : va_G} {y : Y3} {mo : Nat → Nat} {μ : Sg} {x1 x2 : Int32} {H : Heap} {locs : List Loc} {ls : Array Slot} (hx : p.tables.exec = Jvm.exec) (hb : c.code = cX8_does) (hml : c.maxLocals = 6) (hown : s.vm.findClass RX8 = some m.cls) (hts : ∀ w ∈ wsX8_does, w.before args s = true) (hC : CK D y s) (hi9 : moI mo) (hMo : MoH D y mo μ H) (hS : va_S (moA mo) s.heap H locs) (hInv : InvM μ) (hT : InvT μ) (hl : lv_has ls 6 [(0, .ref (mo 0)), (1, .int x1), (2, .int x2)])
    (K0 : ∀ (ν : Sg) (H : Heap) (locs : List Loc) (ls : Array Slot), (0, ν) = zdt μ x2 → MoH D y mo ν H → va_S (moA mo) s.heap H locs → lv_has ls 6 [(0, .ref (mo 0))] → W p l e (headSpec wsX8_does ({ frames := 9, cells := 0, slots := 0, locals := 204 } : Room)).room s m args below meth c H locs 0 0 Q (F0 m 10 ls []))
    (K1 : ∀ (ν : Sg) (H : Heap) (locs : List Loc) (ls : Array Slot), (1, ν) = zdt μ x2 → MoH D y mo ν H → va_S (moA mo) s.heap H locs → lv_has ls 6 [(0, .ref (mo 0)), (1, .int x1)] → W p l e (headSpec wsX8_does ({ frames := 9, cells := 0, slots := 0, locals := 204 } : Room)).room s m args below meth c H locs 0 0 Q (F0 m 179 ls [])) :
    W p l e (headSpec wsX8_does ({ frames := 9, cells := 0, slots := 0, locals := 204 } : Room)).room s m args below meth c H locs 0 0 Q (F0 m 80 ls []) := by
  have hF := (⟨hx, hb, hml, hown, hts⟩ : CallFix p m c cX8_does 6 s args wsX8_does RX8)
  have hi := hi9
  refine lv_aload_n hx hb dX8_does_80 rfl (lv_at hl 0 rfl) ?_
  refine kX8_number hF (cwV 0 hts gX8_does_X8_number rfl rfl rfl hdX8_number ⟨Nat.le_of_ble_eq_true rfl, Nat.le_of_ble_eq_true rfl⟩) hC hMo hi hT  hS (fun _ h => h) hl.1 (Nat.le_of_ble_eq_true rfl) dX8_does_81 ⟨Nat.zero_le _, Nat.zero_le _⟩ (fun H locs hMo _ _ hS => ?_)
  have hInv := i_eq (nt_number hT 0 (by decide)) hInv
  have hT := t_number hT
  refine lv_istore_n (lv' := [(3, .int ((zX8_number μ).1)), (0, .ref (mo 0)), (1, .int x1), (2, .int x2)]) hx hb dX8_does_84 rfl hl (by decide) rfl (fun ls hl => ?_)
  refine lv_iconst (v := 0) hx hb dX8_does_85 (by decide) ?_
  refine lv_istore (lv' := [(4, .int 0), (3, .int ((zX8_number μ).1)), (0, .ref (mo 0)), (1, .int x1), (2, .int x2)]) hx hb dX8_does_86 hl (by decide) rfl (fun ls hl => ?_)
  refine lv_aload_n hx hb dX8_does_88 rfl (lv_at hl 2 rfl) ?_
  refine va_get (D := D) (ci := 8) (v := .int (((zX8_number μ).2) 4 5)) (C := RX8) (T := TX8) (N := 10) hx hb hts iwX8_does_X8 hown hC.1 hMo 0 rfl rfl 9 (by decide) (hts (.fieldLink RX8 177 "MealLockersModel" "isForm" "Z") (List.mem_of_getElem? (i := 4) rfl)) (fun _ h9 => h9) rfl dX8_does_89 ?_
  refine lv_if_eq (tgt := 114) hx hb dX8_does_92 (by decide) (fun c_10 => ?_) (fun c_10 => ?_)
  · have e9 : zdt μ x2 = zde ((zX8_number μ).2) x2 ((zX8_number μ).1) 0 := by unfold zdt; rw [if_pos c_10]
    exact deX8_does hx hb hml hown hts hC hi hMo hS hInv hT (lv_sub hl [2, 3, 4, 1, 0] rfl) (fun ν H locs ls he => K0 ν H locs ls (he.trans e9.symm)) (fun ν H locs ls he => K1 ν H locs ls (he.trans e9.symm))
  · refine lv_iload_n hx hb dX8_does_95 rfl (lv_at hl 4 rfl) ?_
    refine kX8_hasTwo hF (cwS 1 hts gX8_does_X8_hasTwo rfl rfl rfl (by decide +kernel) ⟨Nat.le_of_ble_eq_true rfl, Nat.le_of_ble_eq_true rfl⟩) hC hl.1 (Nat.le_of_ble_eq_true rfl) dX8_does_96 ⟨Nat.zero_le _, Nat.zero_le _⟩ ?_
    refine lv_if_eq (tgt := 114) hx hb dX8_does_99 (by decide) (fun c_11 => ?_) (fun c_11 => ?_)
    · have e9 : zdt μ x2 = zde ((zX8_number μ).2) x2 ((zX8_number μ).1) 0 := by unfold zdt; rw [if_neg c_10, if_pos c_11]
      exact deX8_does hx hb hml hown hts hC hi hMo hS hInv hT (lv_sub hl [2, 3, 4, 1, 0] rfl) (fun ν H locs ls he => K0 ν H locs ls (he.trans e9.symm)) (fun ν H locs ls he => K1 ν H locs ls (he.trans e9.symm))
    · refine lv_aload_n hx hb dX8_does_102 rfl (lv_at hl 2 rfl) ?_
      refine lv_bipush (v := 44) hx hb dX8_does_103 (by decide) ?_
      refine kX8_takesSign hF (cwV 1 hts gX8_does_X8_takesSign rfl rfl rfl hdX8_takesSign ⟨Nat.le_of_ble_eq_true rfl, Nat.le_of_ble_eq_true rfl⟩) hC hMo hi hT  hS (fun _ h => h) hl.1 (Nat.le_of_ble_eq_true rfl) dX8_does_105 ⟨Nat.zero_le _, Nat.zero_le _⟩ (fun H locs hMo _ _ hS => ?_)
      have hInv := i_eq (n_takesSign (x1 := 44) 0 (by decide)) hInv
      have hT := t_takesSign (x1 := 44) hT (by decide)
      refine lv_aload_n hx hb dX8_does_108 rfl (lv_at hl 2 rfl) ?_
      refine kX8_number hF (cwV 0 hts gX8_does_X8_number rfl rfl rfl hdX8_number ⟨Nat.le_of_ble_eq_true rfl, Nat.le_of_ble_eq_true rfl⟩) hC hMo hi hT  hS (fun _ h => h) hl.1 (Nat.le_of_ble_eq_true rfl) dX8_does_109 ⟨Nat.zero_le _, Nat.zero_le _⟩ (fun H locs hMo _ _ hS => ?_)
      have hInv := i_eq (nt_number hT 0 (by decide)) hInv
      have hT := t_number hT
      refine lv_istore (lv' := [(4, .int ((zX8_number (zX8_takesSign ((zX8_number μ).2) 44)).1)), (3, .int ((zX8_number μ).1)), (0, .ref (mo 0)), (1, .int x1), (2, .int x2)]) hx hb dX8_does_112 hl (by decide) rfl (fun ls hl => ?_)
      have e9 : zdt μ x2 = zde ((zX8_number (zX8_takesSign ((zX8_number μ).2) 44)).2) x2 ((zX8_number μ).1) ((zX8_number (zX8_takesSign ((zX8_number μ).2) 44)).1) := by unfold zdt; rw [if_neg c_10, if_neg c_11]
      exact deX8_does hx hb hml hown hts hC hi hMo hS hInv hT (lv_sub hl [2, 3, 4, 1, 0] rfl) (fun ν H locs ls he => K0 ν H locs ls (he.trans e9.symm)) (fun ν H locs ls he => K1 ν H locs ls (he.trans e9.symm))
set_option maxHeartbeats 4000000 in
set_option maxRecDepth 100000 in
theorem lpX8_does {p : Program} {l : Launch} {e : Env} {s : State} {m : MethodId} {args : Array Value} {below : List Frame} {meth : Method} {c : Code} {Q : State → Prop} {D : va_G} {y : Y3} {mo : Nat → Nat} {μ0 : Sg} (hx : p.tables.exec = Jvm.exec) (hb : c.code = cX8_does) (hml : c.maxLocals = 6) (hown : s.vm.findClass RX8 = some m.cls) (hts : ∀ w ∈ wsX8_does, w.before args s = true) (hC : CK D y s) (hi9 : moI mo) (hno : True)
    (K0 : ∀ (ν : Sg) (H : Heap) (locs : List Loc) (ls : Array Slot), (-1, ν) = wdo 61 μ0 → MoH D y mo ν H → va_S (moA mo) s.heap H locs → lv_has ls 6 [(0, .ref (mo 0))] → W p l e (headSpec wsX8_does ({ frames := 9, cells := 0, slots := 0, locals := 204 } : Room)).room s m args below meth c H locs 0 0 Q (F0 m 194 ls []))
    (K1 : ∀ (x1 : Int32) (ν : Sg) (H : Heap) (locs : List Loc) (ls : Array Slot), (x1, ν) = wdo 61 μ0 → MoH D y mo ν H → va_S (moA mo) s.heap H locs → lv_has ls 6 [(0, .ref (mo 0)), (1, .int x1)] → W p l e (headSpec wsX8_does ({ frames := 9, cells := 0, slots := 0, locals := 204 } : Room)).room s m args below meth c H locs 0 0 Q (F0 m 179 ls [])) :
    ∀ (j : Nat) (μ : Sg), 61 ≤ j + (μ 4 2).toNatClampNeg → wdo 61 μ0 = wdo j μ → InvM μ → InvT μ → ∀ (H : Heap) (locs : List Loc), MoH D y mo μ H → va_S (moA mo) s.heap H locs → ∀ ls : Array Slot, lv_has ls 6 [(0, .ref (mo 0))] → W p l e (headSpec wsX8_does ({ frames := 9, cells := 0, slots := 0, locals := 204 } : Room)).room s m args below meth c H locs 0 0 Q (F0 m 10 ls []) := by
  have hF := (⟨hx, hb, hml, hown, hts⟩ : CallFix p m c cX8_does 6 s args wsX8_does RX8)
  have hi := hi9
  intro j
  induction j with
  | zero => intro μ hf hv hInv hT; exact absurd hf (by have := rg_lt (n := 61) hT.2; omega)
  | succ j ih =>
    intro μ hf hv hInv hT H locs hMo hS ls hl
    have hInv0 := hInv
    have hT0 := hT
    refine lv_aload_n hx hb dX8_does_10 rfl (lv_at hl 0 rfl) ?_
    refine va_get (D := D) (ci := 8) (v := .int (μ 4 2)) (C := RX8) (T := TX8) (N := 10) hx hb hts iwX8_does_X8 hown hC.1 hMo 0 rfl rfl 6 (by decide) (hts (.fieldLink RX8 171 "MealLockersModel" "at" "I") (List.mem_of_getElem? (i := 1) rfl)) (fun _ h9 => h9) rfl dX8_does_11 ?_
    refine lv_aload_n hx hb dX8_does_14 rfl (lv_at hl 0 rfl) ?_
    refine va_get (D := D) (ci := 8) (v := .int (μ 4 1)) (C := RX8) (T := TX8) (N := 10) hx hb hts iwX8_does_X8 hown hC.1 hMo 0 rfl rfl 5 (by decide) (hts (.fieldLink RX8 159 "MealLockersModel" "length" "I") (List.mem_of_getElem? (i := 3) rfl)) (fun _ h9 => h9) rfl dX8_does_15 ?_
    refine lv_icmp_ge (tgt := 194) hx hb dX8_does_18 (by decide) (fun c_12 => ?_) (fun c_12 => ?_)
    · exact K0 _ H locs ls (hv.trans (by rw [wdo]; rw [if_pos c_12])).symm hMo hS (lv_sub hl [0] rfl)
    · refine lv_aload_n hx hb dX8_does_21 rfl (lv_at hl 0 rfl) ?_
      refine va_get (D := D) (ci := 8) (v := .int (μ 4 2)) (C := RX8) (T := TX8) (N := 10) hx hb hts iwX8_does_X8 hown hC.1 hMo 0 rfl rfl 6 (by decide) (hts (.fieldLink RX8 171 "MealLockersModel" "at" "I") (List.mem_of_getElem? (i := 1) rfl)) (fun _ h9 => h9) rfl dX8_does_22 ?_
      refine lv_istore_n (lv' := [(1, .int (μ 4 2)), (0, .ref (mo 0))]) hx hb dX8_does_25 rfl hl (by decide) rfl (fun ls hl => ?_)
      refine lv_aload_n hx hb dX8_does_26 rfl (lv_at hl 1 rfl) ?_
      refine kX8_here hF (cwV 0 hts gX8_does_X8_here rfl rfl rfl hdX8_here ⟨Nat.le_of_ble_eq_true rfl, Nat.le_of_ble_eq_true rfl⟩) hC hMo hT  hl.1 (Nat.le_of_ble_eq_true rfl) dX8_does_27 ⟨Nat.zero_le _, Nat.zero_le _⟩ ?_
      refine lv_istore_n (lv' := [(2, .int (zX8_here μ)), (1, .int (μ 4 2)), (0, .ref (mo 0))]) hx hb dX8_does_30 rfl hl (by decide) rfl (fun ls hl => ?_)
      refine lv_aload_n hx hb dX8_does_31 rfl (lv_at hl 2 rfl) ?_
      refine lv_iload_n hx hb dX8_does_32 rfl (lv_at hl 0 rfl) ?_
      refine kX8_hasTwo hF (cwS 1 hts gX8_does_X8_hasTwo rfl rfl rfl (by decide +kernel) ⟨Nat.le_of_ble_eq_true rfl, Nat.le_of_ble_eq_true rfl⟩) hC hl.1 (Nat.le_of_ble_eq_true rfl) dX8_does_33 ⟨Nat.zero_le _, Nat.zero_le _⟩ ?_
      refine lv_if_ne (tgt := 51) hx hb dX8_does_36 (by decide) (fun c_13 => ?_) (fun c_13 => ?_)
      · refine lv_iconst (v := 1) hx hb dX8_does_51 (by decide) ?_
        refine lv_goto (tgt := 56) hx hb dX8_does_52 (by decide) ?_
        refine va_put (D := D) (ci := 8) (v := .int 1) (ty := .boolean) (C := RX8) (T := TX8) (N := 10) hx hb hts iwX8_does_X8 tyX8 tyX8_ok nmX8 hown hC.1 hMo (mo_D hi) hS 0 rfl rfl 9 (by decide) (hts (.fieldLink RX8 177 "MealLockersModel" "isForm" "Z") (List.mem_of_getElem? (i := 4) rfl)) (fun _ h9 => h9) rfl (by decide +kernel) rfl rfl (Nat.le_of_ble_eq_true rfl) dX8_does_56 (fun H locs hMo _ hS => ?_)
        have hMo := mo_put5 hMo
        have hInv := inv_mT (k := 5) (v := 1) hInv
        have hT := t_mT (k := 5) (v := 1) (by decide) (by decide) hT
        refine lv_aload_n hx hb dX8_does_59 rfl (lv_at hl 2 rfl) ?_
        refine lv_dup hx hb dX8_does_60 rfl ?_
        refine va_get (D := D) (ci := 8) (v := .int ((mT μ 5 1) 4 2)) (C := RX8) (T := TX8) (N := 10) hx hb hts iwX8_does_X8 hown hC.1 hMo 0 rfl rfl 6 (by decide) (hts (.fieldLink RX8 171 "MealLockersModel" "at" "I") (List.mem_of_getElem? (i := 1) rfl)) (fun _ h9 => h9) rfl dX8_does_61 ?_
        refine lv_aload_n hx hb dX8_does_64 rfl (lv_at hl 2 rfl) ?_
        refine va_get (D := D) (ci := 8) (v := .int 1) (C := RX8) (T := TX8) (N := 10) hx hb hts iwX8_does_X8 hown hC.1 hMo 0 rfl rfl 9 (by decide) (hts (.fieldLink RX8 177 "MealLockersModel" "isForm" "Z") (List.mem_of_getElem? (i := 4) rfl)) (fun _ h9 => h9) rfl dX8_does_65 ?_
        refine lv_if_eq (tgt := 75) hx hb dX8_does_68 (by decide) (fun c_14 => absurd c_14 (by decide)) (fun _ => ?_)
        refine lv_iconst (v := 1) hx hb dX8_does_71 (by decide) ?_
        refine lv_goto (tgt := 76) hx hb dX8_does_72 (by decide) ?_
        refine lv_iadd hx hb dX8_does_76 ?_
        refine va_put (D := D) (ci := 8) (v := .int (((mT μ 5 1) 4 2) + 1)) (ty := .int) (C := RX8) (T := TX8) (N := 10) hx hb hts iwX8_does_X8 tyX8 tyX8_ok nmX8 hown hC.1 hMo (mo_D hi) hS 0 rfl rfl 6 (by decide) (hts (.fieldLink RX8 171 "MealLockersModel" "at" "I") (List.mem_of_getElem? (i := 1) rfl)) (fun _ h9 => h9) rfl (by decide +kernel) rfl rfl (Nat.le_of_ble_eq_true rfl) dX8_does_77 (fun H locs hMo _ hS => ?_)
        have hMo := mo_put2 hMo
        have hInv := inv_mT (k := 2) (v := (((mT μ 5 1) 4 2) + 1)) hInv
        have hT := t_at hT (rg_inc hT.1 hT.2 c_12)
        have hp : zdp μ = mT (mT μ 5 1) 2 (((mT μ 5 1) 4 2) + 1) := by unfold zdp; rw [if_neg c_13]
        refine dtX8_does hx hb hml hown hts hC hi hMo hS hInv hT (lv_sub hl [2, 1, 0] rfl) (fun ν H locs ls he hMo hS hl => ?_) (fun ν H locs ls he hMo hS hl => ?_)
        · rw [← hp] at he
          obtain ⟨hI2, hT2, hlt⟩ := dt_go hInv0 hT0 c_12 he
          exact ih ν (by omega) (hv.trans (wdo_go c_12 he)) hI2 hT2 H locs hMo hS ls hl
        · rw [← hp] at he
          exact K1 _ ν H locs ls (hv.trans (wdo_stop c_12 he)).symm hMo hS hl
      · refine lv_iload_n hx hb dX8_does_39 rfl (lv_at hl 0 rfl) ?_
        refine lv_bipush (v := 112) hx hb dX8_does_40 (by decide) ?_
        refine lv_icmp_eq (tgt := 51) hx hb dX8_does_42 (by decide) (fun c_15 => ?_) (fun c_15 => ?_)
        · refine lv_iconst (v := 1) hx hb dX8_does_51 (by decide) ?_
          refine lv_goto (tgt := 56) hx hb dX8_does_52 (by decide) ?_
          refine va_put (D := D) (ci := 8) (v := .int 1) (ty := .boolean) (C := RX8) (T := TX8) (N := 10) hx hb hts iwX8_does_X8 tyX8 tyX8_ok nmX8 hown hC.1 hMo (mo_D hi) hS 0 rfl rfl 9 (by decide) (hts (.fieldLink RX8 177 "MealLockersModel" "isForm" "Z") (List.mem_of_getElem? (i := 4) rfl)) (fun _ h9 => h9) rfl (by decide +kernel) rfl rfl (Nat.le_of_ble_eq_true rfl) dX8_does_56 (fun H locs hMo _ hS => ?_)
          have hMo := mo_put5 hMo
          have hInv := inv_mT (k := 5) (v := 1) hInv
          have hT := t_mT (k := 5) (v := 1) (by decide) (by decide) hT
          refine lv_aload_n hx hb dX8_does_59 rfl (lv_at hl 2 rfl) ?_
          refine lv_dup hx hb dX8_does_60 rfl ?_
          refine va_get (D := D) (ci := 8) (v := .int ((mT μ 5 1) 4 2)) (C := RX8) (T := TX8) (N := 10) hx hb hts iwX8_does_X8 hown hC.1 hMo 0 rfl rfl 6 (by decide) (hts (.fieldLink RX8 171 "MealLockersModel" "at" "I") (List.mem_of_getElem? (i := 1) rfl)) (fun _ h9 => h9) rfl dX8_does_61 ?_
          refine lv_aload_n hx hb dX8_does_64 rfl (lv_at hl 2 rfl) ?_
          refine va_get (D := D) (ci := 8) (v := .int 1) (C := RX8) (T := TX8) (N := 10) hx hb hts iwX8_does_X8 hown hC.1 hMo 0 rfl rfl 9 (by decide) (hts (.fieldLink RX8 177 "MealLockersModel" "isForm" "Z") (List.mem_of_getElem? (i := 4) rfl)) (fun _ h9 => h9) rfl dX8_does_65 ?_
          refine lv_if_eq (tgt := 75) hx hb dX8_does_68 (by decide) (fun c_16 => absurd c_16 (by decide)) (fun _ => ?_)
          refine lv_iconst (v := 1) hx hb dX8_does_71 (by decide) ?_
          refine lv_goto (tgt := 76) hx hb dX8_does_72 (by decide) ?_
          refine lv_iadd hx hb dX8_does_76 ?_
          refine va_put (D := D) (ci := 8) (v := .int (((mT μ 5 1) 4 2) + 1)) (ty := .int) (C := RX8) (T := TX8) (N := 10) hx hb hts iwX8_does_X8 tyX8 tyX8_ok nmX8 hown hC.1 hMo (mo_D hi) hS 0 rfl rfl 6 (by decide) (hts (.fieldLink RX8 171 "MealLockersModel" "at" "I") (List.mem_of_getElem? (i := 1) rfl)) (fun _ h9 => h9) rfl (by decide +kernel) rfl rfl (Nat.le_of_ble_eq_true rfl) dX8_does_77 (fun H locs hMo _ hS => ?_)
          have hMo := mo_put2 hMo
          have hInv := inv_mT (k := 2) (v := (((mT μ 5 1) 4 2) + 1)) hInv
          have hT := t_at hT (rg_inc hT.1 hT.2 c_12)
          have hp : zdp μ = mT (mT μ 5 1) 2 (((mT μ 5 1) 4 2) + 1) := by unfold zdp; rw [if_pos c_13, if_pos c_15]
          refine dtX8_does hx hb hml hown hts hC hi hMo hS hInv hT (lv_sub hl [2, 1, 0] rfl) (fun ν H locs ls he hMo hS hl => ?_) (fun ν H locs ls he hMo hS hl => ?_)
          · rw [← hp] at he
            obtain ⟨hI2, hT2, hlt⟩ := dt_go hInv0 hT0 c_12 he
            exact ih ν (by omega) (hv.trans (wdo_go c_12 he)) hI2 hT2 H locs hMo hS ls hl
          · rw [← hp] at he
            exact K1 _ ν H locs ls (hv.trans (wdo_stop c_12 he)).symm hMo hS hl
        · refine lv_iload_n hx hb dX8_does_45 rfl (lv_at hl 0 rfl) ?_
          refine lv_bipush (v := 104) hx hb dX8_does_46 (by decide) ?_
          refine lv_icmp_ne (tgt := 55) hx hb dX8_does_48 (by decide) (fun c_17 => ?_) (fun c_17 => ?_)
          · refine lv_iconst (v := 0) hx hb dX8_does_55 (by decide) ?_
            refine va_put (D := D) (ci := 8) (v := .int 0) (ty := .boolean) (C := RX8) (T := TX8) (N := 10) hx hb hts iwX8_does_X8 tyX8 tyX8_ok nmX8 hown hC.1 hMo (mo_D hi) hS 0 rfl rfl 9 (by decide) (hts (.fieldLink RX8 177 "MealLockersModel" "isForm" "Z") (List.mem_of_getElem? (i := 4) rfl)) (fun _ h9 => h9) rfl (by decide +kernel) rfl rfl (Nat.le_of_ble_eq_true rfl) dX8_does_56 (fun H locs hMo _ hS => ?_)
            have hMo := mo_put5 hMo
            have hInv := inv_mT (k := 5) (v := 0) hInv
            have hT := t_mT (k := 5) (v := 0) (by decide) (by decide) hT
            refine lv_aload_n hx hb dX8_does_59 rfl (lv_at hl 2 rfl) ?_
            refine lv_dup hx hb dX8_does_60 rfl ?_
            refine va_get (D := D) (ci := 8) (v := .int ((mT μ 5 0) 4 2)) (C := RX8) (T := TX8) (N := 10) hx hb hts iwX8_does_X8 hown hC.1 hMo 0 rfl rfl 6 (by decide) (hts (.fieldLink RX8 171 "MealLockersModel" "at" "I") (List.mem_of_getElem? (i := 1) rfl)) (fun _ h9 => h9) rfl dX8_does_61 ?_
            refine lv_aload_n hx hb dX8_does_64 rfl (lv_at hl 2 rfl) ?_
            refine va_get (D := D) (ci := 8) (v := .int 0) (C := RX8) (T := TX8) (N := 10) hx hb hts iwX8_does_X8 hown hC.1 hMo 0 rfl rfl 9 (by decide) (hts (.fieldLink RX8 177 "MealLockersModel" "isForm" "Z") (List.mem_of_getElem? (i := 4) rfl)) (fun _ h9 => h9) rfl dX8_does_65 ?_
            refine lv_if_eq (tgt := 75) hx hb dX8_does_68 (by decide) (fun _ => ?_) (fun c_18 => absurd (by decide) c_18)
            refine lv_iconst (v := 0) hx hb dX8_does_75 (by decide) ?_
            refine lv_iadd hx hb dX8_does_76 ?_
            refine va_put (D := D) (ci := 8) (v := .int (((mT μ 5 0) 4 2) + 0)) (ty := .int) (C := RX8) (T := TX8) (N := 10) hx hb hts iwX8_does_X8 tyX8 tyX8_ok nmX8 hown hC.1 hMo (mo_D hi) hS 0 rfl rfl 6 (by decide) (hts (.fieldLink RX8 171 "MealLockersModel" "at" "I") (List.mem_of_getElem? (i := 1) rfl)) (fun _ h9 => h9) rfl (by decide +kernel) rfl rfl (Nat.le_of_ble_eq_true rfl) dX8_does_77 (fun H locs hMo _ hS => ?_)
            have hMo := mo_put2 hMo
            have hInv := inv_mT (k := 2) (v := (((mT μ 5 0) 4 2) + 0)) hInv
            have hT := t_at0 hT
            have hp : zdp μ = mT (mT μ 5 0) 2 (((mT μ 5 0) 4 2) + 0) := by unfold zdp; rw [if_pos c_13, if_neg c_15, if_neg c_17]
            refine dtX8_does hx hb hml hown hts hC hi hMo hS hInv hT (lv_sub hl [2, 1, 0] rfl) (fun ν H locs ls he hMo hS hl => ?_) (fun ν H locs ls he hMo hS hl => ?_)
            · rw [← hp] at he
              obtain ⟨hI2, hT2, hlt⟩ := dt_go hInv0 hT0 c_12 he
              exact ih ν (by omega) (hv.trans (wdo_go c_12 he)) hI2 hT2 H locs hMo hS ls hl
            · rw [← hp] at he
              exact K1 _ ν H locs ls (hv.trans (wdo_stop c_12 he)).symm hMo hS hl
          · refine lv_iconst (v := 1) hx hb dX8_does_51 (by decide) ?_
            refine lv_goto (tgt := 56) hx hb dX8_does_52 (by decide) ?_
            refine va_put (D := D) (ci := 8) (v := .int 1) (ty := .boolean) (C := RX8) (T := TX8) (N := 10) hx hb hts iwX8_does_X8 tyX8 tyX8_ok nmX8 hown hC.1 hMo (mo_D hi) hS 0 rfl rfl 9 (by decide) (hts (.fieldLink RX8 177 "MealLockersModel" "isForm" "Z") (List.mem_of_getElem? (i := 4) rfl)) (fun _ h9 => h9) rfl (by decide +kernel) rfl rfl (Nat.le_of_ble_eq_true rfl) dX8_does_56 (fun H locs hMo _ hS => ?_)
            have hMo := mo_put5 hMo
            have hInv := inv_mT (k := 5) (v := 1) hInv
            have hT := t_mT (k := 5) (v := 1) (by decide) (by decide) hT
            refine lv_aload_n hx hb dX8_does_59 rfl (lv_at hl 2 rfl) ?_
            refine lv_dup hx hb dX8_does_60 rfl ?_
            refine va_get (D := D) (ci := 8) (v := .int ((mT μ 5 1) 4 2)) (C := RX8) (T := TX8) (N := 10) hx hb hts iwX8_does_X8 hown hC.1 hMo 0 rfl rfl 6 (by decide) (hts (.fieldLink RX8 171 "MealLockersModel" "at" "I") (List.mem_of_getElem? (i := 1) rfl)) (fun _ h9 => h9) rfl dX8_does_61 ?_
            refine lv_aload_n hx hb dX8_does_64 rfl (lv_at hl 2 rfl) ?_
            refine va_get (D := D) (ci := 8) (v := .int 1) (C := RX8) (T := TX8) (N := 10) hx hb hts iwX8_does_X8 hown hC.1 hMo 0 rfl rfl 9 (by decide) (hts (.fieldLink RX8 177 "MealLockersModel" "isForm" "Z") (List.mem_of_getElem? (i := 4) rfl)) (fun _ h9 => h9) rfl dX8_does_65 ?_
            refine lv_if_eq (tgt := 75) hx hb dX8_does_68 (by decide) (fun c_19 => absurd c_19 (by decide)) (fun _ => ?_)
            refine lv_iconst (v := 1) hx hb dX8_does_71 (by decide) ?_
            refine lv_goto (tgt := 76) hx hb dX8_does_72 (by decide) ?_
            refine lv_iadd hx hb dX8_does_76 ?_
            refine va_put (D := D) (ci := 8) (v := .int (((mT μ 5 1) 4 2) + 1)) (ty := .int) (C := RX8) (T := TX8) (N := 10) hx hb hts iwX8_does_X8 tyX8 tyX8_ok nmX8 hown hC.1 hMo (mo_D hi) hS 0 rfl rfl 6 (by decide) (hts (.fieldLink RX8 171 "MealLockersModel" "at" "I") (List.mem_of_getElem? (i := 1) rfl)) (fun _ h9 => h9) rfl (by decide +kernel) rfl rfl (Nat.le_of_ble_eq_true rfl) dX8_does_77 (fun H locs hMo _ hS => ?_)
            have hMo := mo_put2 hMo
            have hInv := inv_mT (k := 2) (v := (((mT μ 5 1) 4 2) + 1)) hInv
            have hT := t_at hT (rg_inc hT.1 hT.2 c_12)
            have hp : zdp μ = mT (mT μ 5 1) 2 (((mT μ 5 1) 4 2) + 1) := by unfold zdp; rw [if_pos c_13, if_neg c_15, if_pos c_17]
            refine dtX8_does hx hb hml hown hts hC hi hMo hS hInv hT (lv_sub hl [2, 1, 0] rfl) (fun ν H locs ls he hMo hS hl => ?_) (fun ν H locs ls he hMo hS hl => ?_)
            · rw [← hp] at he
              obtain ⟨hI2, hT2, hlt⟩ := dt_go hInv0 hT0 c_12 he
              exact ih ν (by omega) (hv.trans (wdo_go c_12 he)) hI2 hT2 H locs hMo hS ls hl
            · rw [← hp] at he
              exact K1 _ ν H locs ls (hv.trans (wdo_stop c_12 he)).symm hMo hS hl
set_option maxHeartbeats 4000000 in
set_option maxRecDepth 100000 in
theorem mX8_does (l : Launch) (D : va_G) (y : Y3) (mo : Nat → Nat) (μ : Sg) : Met l yX8_does wsX8_does ({ frames := 9, cells := 0, slots := 0, locals := 204 } : Room) (va_Pc [.ref (mo 0)] (fun U => CK D y U ∧ MoH D y mo μ U.heap ∧ moI mo ∧ InvM μ ∧ InvT μ)) (va_Qi (fun (r : Int32) (u : Sg) => r = (zX8_does μ).1 ∧ u = (zX8_does μ).2) (fun u t => MoH D y mo u t.heap) (moA mo)) 0 0 (moA mo) := by
  refine Met.ofW (cc := cX8_does) (maxL := 6) (ret := (some .int)) (by decide) rfl ?_
  intro p e s m args below meth c s₁ B hml hv
  obtain ⟨rfl, hC, hMo, hi, hInv, hT⟩ := hv
  have hx := B.exec
  have hb := B.bytes
  have hr := B.returns
  have hts := atoms_spec (ws := wsX8_does) B.pre
  have hown : s.vm.findClass RX8 = some m.cls := findClass_of_methodNamed B.named
  have hlocks := B.notSynchronized
  have hF := (⟨hx, hb, hml, hown, hts⟩ : CallFix p m c cX8_does 6 s _ wsX8_does RX8)
  have hS : va_S (moA mo) s.heap s.heap [] := va_S.rf
  have hl := lv_entry ([.ref (mo 0)]) (n := 6) (Nat.le_of_ble_eq_true rfl)
  rw [lg_entry_eq]
  generalize (lg_sl ([.ref (mo 0)]) ++ List.replicate (6 - (lg_sl ([.ref (mo 0)])).length) Slot.unset).toArray = ls at hl ⊢
  have hl : lv_has ls 6 [(0, .ref (mo 0))] := hl
  refine lv_aload_n hx hb dX8_does_0 rfl (lv_at hl 0 rfl) ?_
  refine lv_iconst (v := 0) hx hb dX8_does_1 (by decide) ?_
  refine va_put (D := D) (ci := 8) (v := .int 0) (ty := .int) (C := RX8) (T := TX8) (N := 10) hx hb hts iwX8_does_X8 tyX8 tyX8_ok nmX8 hown hC.1 hMo (mo_D hi) hS 0 rfl rfl 6 (by decide) (hts (.fieldLink RX8 171 "MealLockersModel" "at" "I") (List.mem_of_getElem? (i := 1) rfl)) (fun _ h9 => h9) rfl (by decide +kernel) rfl rfl (Nat.le_of_ble_eq_true rfl) dX8_does_2 (fun H locs hMo _ hS => ?_)
  have hMo := mo_put2 hMo
  have hInv := inv_mT (k := 2) (v := 0) hInv
  have hT := t_at (v := 0) hT (by decide)
  refine lv_aload_n hx hb dX8_does_5 rfl (lv_at hl 0 rfl) ?_
  refine lv_iconst (v := 0) hx hb dX8_does_6 (by decide) ?_
  refine va_put (D := D) (ci := 8) (v := .int 0) (ty := .int) (C := RX8) (T := TX8) (N := 10) hx hb hts iwX8_does_X8 tyX8 tyX8_ok nmX8 hown hC.1 hMo (mo_D hi) hS 0 rfl rfl 7 (by decide) (hts (.fieldLink RX8 185 "MealLockersModel" "done" "I") (List.mem_of_getElem? (i := 2) rfl)) (fun _ h9 => h9) rfl (by decide +kernel) rfl rfl (Nat.le_of_ble_eq_true rfl) dX8_does_7 (fun H locs hMo _ hS => ?_)
  have hMo := mo_put3 hMo
  have hInv := inv_mT (k := 3) (v := 0) hInv
  have hT := t_mT (k := 3) (v := 0) (by decide) (by decide) hT
  refine lpX8_does (μ0 := mT (mT μ 2 0) 3 0) hx hb hml hown hts hC hi trivial (fun ν H locs ls hv hMo hS hl => ?_) (fun x1 ν H locs ls hv hMo hS hl => ?_) 61 _ (by omega) rfl hInv hT _ _ hMo hS ls (lv_sub hl [0] rfl)
  · refine lv_iconst (v := (-1)) hx hb dX8_does_194 (by decide) ?_
    exact W.iret (v := (-1)) hx hb hr (fun t ht hW => ⟨⟨(-1), ν, rfl, ⟨(by unfold zX8_does; rw [← hv]), (by unfold zX8_does; rw [← hv])⟩, by dsimp only; rw [ht]; exact hMo⟩, hS.F ht⟩) hS.2.2 dX8_does_195
  · refine lv_iload_n hx hb dX8_does_179 rfl (lv_at hl 1 rfl) ?_
    exact W.iret (v := x1) hx hb hr (fun t ht hW => ⟨⟨x1, ν, rfl, ⟨(by unfold zX8_does; rw [← hv]), (by unfold zX8_does; rw [← hv])⟩, by dsimp only; rw [ht]; exact hMo⟩, hS.F ht⟩) hS.2.2 dX8_does_180
set_option maxHeartbeats 4000000 in
set_option maxRecDepth 100000 in
theorem kX8_does {p : Program} {l : Launch} {e : Env} {R : Room} {s : State} {m : MethodId} {args : Array Value} {below : List Frame} {meth : Method} {c : Code} {H : Heap} {locs : List Loc} {cells slots : Nat} {Q : State → Prop} {cc : ByteArray} {nL : Nat} {Ts : List Cond} {own : String} {index pc : Nat} {ls : Array Slot} {rest : List Value} {D : va_G} {y : Y3} {mo : Nat → Nat} {μ : Sg} {A0 : Nat → Prop} {H0 : Heap} (hF : CallFix p m c cc nL s args Ts own) (cw : CallW R s args own RX8 index yX8_does cX8_does 6 (some .int) wsX8_does ({ frames := 9, cells := 0, slots := 0, locals := 204 } : Room) 0 0 0) (hC : CK D y s) (hMo : MoH D y mo μ H) (hi : moI mo) (hInv : InvM μ) (hT : InvT μ) (hS : va_S A0 H0 H locs) (hA : ∀ q, (moA mo) q → A0 q) (hsz : ls.size = nL) (hW : (rest.map fun v => v.category).sum ≤ 8) (hdg : decode cc pc = .ok (.invokevirtual index, 3)) (hf : cells ≤ R.cells ∧ slots ≤ R.slots)
    (k : ∀ (H1 : Heap) (locs1 : List Loc), MoH D y mo (zX8_does μ).2 H1 → H.size ≤ H1.size → (∀ q : Nat, q < H.size → ¬ (moA mo) q → H1[q]? = H[q]?) → va_S A0 H0 H1 locs1 → W p l e R s m args below meth c H1 locs1 cells slots Q (F0 m (pc + 3) ls (.int ((zX8_does μ).1) :: rest))) : W p l e R s m args below meth c H locs cells slots Q (F0 m pc ls (.ref (mo 0) :: rest)) := by
  refine va_calli (va_runV (As := []) (rest := rest) hF (mX8_does l D y mo μ) cw ⟨fun a U g mk q => by obtain ⟨q0, q1, q2, q3, q4, q5⟩ := q; exact ⟨q0, q1.call g mk a, q2, q3, q4, q5⟩, va_recv hC.1 hMo (ci := 8) (q0 := 0) rfl rfl, fun U hU hW => ⟨rfl, hC.warm hW, by rw [hU]; exact hMo, hi, hInv, hT⟩⟩ rfl rfl hsz rfl (lv_room hW) hdg ⟨hf.1, hf.2⟩) hS (fun q _ h => hA q h) hA (fun r u t H1 locs1 ht hvm hp hB hz1 hk1 hS1 => ?_)
  obtain ⟨hp1, hp2⟩ := hp
  subst hp1; subst hp2
  rw [ht] at hB
  exact k H1 locs1 hB hz1 hk1 hS1
theorem kt_does {μ : Sg} (h : InvM μ) (t : InvT μ) : Kt μ (zX8_does μ).2 := kt_wdo 61 (((Kt.rf h t).rd (v := 0) (by decide)).put (by decide) (by decide) (by decide))
