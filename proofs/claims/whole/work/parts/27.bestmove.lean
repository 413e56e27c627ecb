def bX3_moveIn (σ : Sg) (x5 : Int32) (i : Nat) (v : Int32 × Int32 × Int32) : Int32 × Int32 × Int32 := if (zX3_savesByMove σ x5 (nI i)) = 0 then (v.1, v.2.1, v.2.2)
  else (if (zX3_hoursOnArriving σ x5 (nI i)) ≤ v.2.2 then (v.1, v.2.1, v.2.2)
    else (x5, (nI i), (zX3_hoursOnArriving σ x5 (nI i))))
def zX3_moveIn (σ : Sg) (x5 : Int32) (v0 : Int32 × Int32 × Int32) : Int32 × Int32 × Int32 := upTo (bX3_moveIn σ x5) v0 (σ 5 0).toNatClampNeg
def bX3_moveOut (σ : Sg) (i : Nat) (v : Int32 × Int32 × Int32) : Int32 × Int32 × Int32 := ((zX3_moveIn σ (nI i) v).1, (zX3_moveIn σ (nI i) v).2.1, (zX3_moveIn σ (nI i) v).2.2)
def zX3_ofBestMove (σ : Sg) (x1 : Int32) : Int32 := if (zX7_isWithin x1 0 2) = 0 then (-1)
  else (if (upTo (bX3_moveOut σ) (-4, -4, 0) (σ 5 1).toNatClampNeg).1 < 0 then (upTo (bX3_moveOut σ) (-4, -4, 0) (σ 5 1).toNatClampNeg).1
    else (if x1 = 0 then (upTo (bX3_moveOut σ) (-4, -4, 0) (σ 5 1).toNatClampNeg).1
      else (if x1 = 1 then (upTo (bX3_moveOut σ) (-4, -4, 0) (σ 5 1).toNatClampNeg).2.1
        else (upTo (bX3_moveOut σ) (-4, -4, 0) (σ 5 1).toNatClampNeg).2.2)))
theorem iwX3_ofBestMove_X3 : ∀ w ∈ wsX30, w ∈ wsX3_ofBestMove := fun _ h => List.mem_cons_of_mem _ (List.mem_append_left _ (List.mem_append_left _ (List.mem_append_right _ h)))
theorem hdX3_ofBestMove : yX3_ofBestMove.cls = RX3 ∧ yX3_ofBestMove.cls ≠ "java/lang/invoke/MethodHandle" ∧ yX3_ofBestMove.cls ≠ "java/lang/invoke/VarHandle" ∧ (parseMethodDescriptor yX3_ofBestMove.desc).map (fun d => d.parameters.length) = some 1 := by decide +kernel
set_option maxHeartbeats 4000000 in
set_option maxRecDepth 100000 in
theorem lpX3_moveIn {p : Program} {l : Launch} {e : Env} {s : State} {m : MethodId} {args : Array Value} {below : List Frame} {meth : Method} {c : Code} {Q : State → Prop} {D : va_G} {y : Y3} {h : Nat} {ad : Nat → Nat} {σ : Sg} {x1 x5 : Int32} {v0 : Int32 × Int32 × Int32} {H : Heap} {locs : List Loc} (hx : p.tables.exec = Jvm.exec) (hb : c.code = cX3_ofBestMove) (hml : c.maxLocals = 7) (hown : s.vm.findClass RX3 = some m.cls) (hts : ∀ w ∈ wsX3_ofBestMove, w.before args s = true) (hC : CK D y s) (hCh : qoH D 3 h ad H) (hSt : StH D y ad σ H)
    (K : ∀ ls : Array Slot, lv_has ls 7 [(6, .int (nI (σ 5 0).toNatClampNeg)), (2, .int ((upTo (bX3_moveIn σ x5) v0 ((σ 5 0).toNatClampNeg)).1)), (3, .int ((upTo (bX3_moveIn σ x5) v0 ((σ 5 0).toNatClampNeg)).2.1)), (4, .int ((upTo (bX3_moveIn σ x5) v0 ((σ 5 0).toNatClampNeg)).2.2)), (0, .ref h), (1, .int x1), (5, .int x5)] → W p l e (headSpec wsX3_ofBestMove ({ frames := 4, cells := 0, slots := 0, locals := 89 } : Room)).room s m args below meth c H locs 0 0 Q (F0 m 96 ls [])) :
    ∀ (j i : Nat), i + j = (σ 5 0).toNatClampNeg → ∀ ls : Array Slot, lv_has ls 7 [(6, .int (nI i)), (2, .int ((upTo (bX3_moveIn σ x5) v0 i).1)), (3, .int ((upTo (bX3_moveIn σ x5) v0 i).2.1)), (4, .int ((upTo (bX3_moveIn σ x5) v0 i).2.2)), (0, .ref h), (1, .int x1), (5, .int x5)] → W p l e (headSpec wsX3_ofBestMove ({ frames := 4, cells := 0, slots := 0, locals := 89 } : Room)).room s m args below meth c H locs 0 0 Q (F0 m 38 ls []) := by
  have hF := (⟨hx, hb, hml, hown, hts⟩ : CallFix p m c cX3_ofBestMove 7 s args wsX3_ofBestMove RX3)
  have hN := clamp_lt (σ 5 0)
  intro j
  induction j with
  | zero =>
    intro i hin ls hl
    obtain rfl : i = (σ 5 0).toNatClampNeg := by omega
    refine lv_iload hx hb dX3_ofBestMove_38 (lv_at hl 0 rfl) ?_
    refine lv_aload_n hx hb dX3_ofBestMove_40 rfl (lv_at hl 4 rfl) ?_
    refine va_get (D := D) (ci := 3) (v := .ref (ad 1)) (C := RX3) (T := TX3) (N := 5) hx hb hts iwX3_ofBestMove_X3 hown hC.1 hCh 0 rfl rfl 1 (by decide) (hts (.fieldLink RX3 21 "MealLockers$Questions" "lockers" "LMealLockers$Table;") (List.mem_of_getElem? (i := 2) rfl)) (fun _ h9 => h9) rfl dX3_ofBestMove_41 ?_
    refine sX5_size (k := 0) hF (cwV 0 hts gX3_ofBestMove_X5_size rfl rfl rfl hdX5_size ⟨Nat.le_of_ble_eq_true rfl, Nat.le_of_ble_eq_true rfl⟩) hC hSt (by decide) hl.1 (Nat.le_of_ble_eq_true rfl) dX3_ofBestMove_44 ⟨Nat.zero_le _, Nat.zero_le _⟩ ?_
    refine lv_icmp_ge (tgt := 96) hx hb dX3_ofBestMove_47 (by decide) (fun _ => ?_) (fun c_1 => absurd (up_le _) c_1)
    exact K ls hl
  | succ j ih =>
    intro i hin ls hl
    obtain ⟨v, hv⟩ : ∃ v, v = (upTo (bX3_moveIn σ x5) v0 i) := ⟨_, rfl⟩
    rw [← hv] at hl
    refine lv_iload hx hb dX3_ofBestMove_38 (lv_at hl 0 rfl) ?_
    refine lv_aload_n hx hb dX3_ofBestMove_40 rfl (lv_at hl 4 rfl) ?_
    refine va_get (D := D) (ci := 3) (v := .ref (ad 1)) (C := RX3) (T := TX3) (N := 5) hx hb hts iwX3_ofBestMove_X3 hown hC.1 hCh 0 rfl rfl 1 (by decide) (hts (.fieldLink RX3 21 "MealLockers$Questions" "lockers" "LMealLockers$Table;") (List.mem_of_getElem? (i := 2) rfl)) (fun _ h9 => h9) rfl dX3_ofBestMove_41 ?_
    refine sX5_size (k := 0) hF (cwV 0 hts gX3_ofBestMove_X5_size rfl rfl rfl hdX5_size ⟨Nat.le_of_ble_eq_true rfl, Nat.le_of_ble_eq_true rfl⟩) hC hSt (by decide) hl.1 (Nat.le_of_ble_eq_true rfl) dX3_ofBestMove_44 ⟨Nat.zero_le _, Nat.zero_le _⟩ ?_
    refine lv_icmp_ge (tgt := 96) hx hb dX3_ofBestMove_47 (by decide) (fun c_2 => absurd c_2 (up_gt (by omega))) (fun _ => ?_)
    refine lv_aload_n hx hb dX3_ofBestMove_50 rfl (lv_at hl 4 rfl) ?_
    refine lv_iload hx hb dX3_ofBestMove_51 (lv_at hl 6 rfl) ?_
    refine lv_iload hx hb dX3_ofBestMove_53 (lv_at hl 0 rfl) ?_
    refine kX3_savesByMove hF (cwV 2 hts gX3_ofBestMove_X3_savesByMove rfl rfl rfl hdX3_savesByMove ⟨Nat.le_of_ble_eq_true rfl, Nat.le_of_ble_eq_true rfl⟩) hC hCh hSt hl.1 (Nat.le_of_ble_eq_true rfl) dX3_ofBestMove_55 ⟨Nat.zero_le _, Nat.zero_le _⟩ ?_
    refine lv_if_eq (tgt := 90) hx hb dX3_ofBestMove_58 (by decide) (fun c_3 => ?_) (fun c_3 => ?_)
    · refine lv_iinc (v := (nI (i + 1))) (lv' := [(6, .int (nI (i + 1))), (2, .int v.1), (3, .int v.2.1), (4, .int v.2.2), (0, .ref h), (1, .int x1), (5, .int x5)]) hx hb dX3_ofBestMove_90 hl (k := 0) rfl (by rw [nI_succ]; rfl) (by decide) rfl (fun ls hl => ?_)
      refine lv_goto (tgt := 38) hx hb dX3_ofBestMove_93 (by decide) ?_
      have e9 : (upTo (bX3_moveIn σ x5) v0 (i + 1)) = (v.1, v.2.1, v.2.2) := by show bX3_moveIn σ x5 i (upTo (bX3_moveIn σ x5) v0 i) = _; rw [← hv]; unfold bX3_moveIn; rw [if_pos c_3]
      exact ih (i + 1) (by omega) ls (by rw [e9]; exact lv_sub hl [0, 1, 2, 3, 4, 5, 6] rfl)
    · refine lv_aload_n hx hb dX3_ofBestMove_61 rfl (lv_at hl 4 rfl) ?_
      refine lv_iload hx hb dX3_ofBestMove_62 (lv_at hl 6 rfl) ?_
      refine lv_iload hx hb dX3_ofBestMove_64 (lv_at hl 0 rfl) ?_
      refine kX3_hoursOnArriving hF (cwV 2 hts gX3_ofBestMove_X3_hoursOnArriving rfl rfl rfl hdX3_hoursOnArriving ⟨Nat.le_of_ble_eq_true rfl, Nat.le_of_ble_eq_true rfl⟩) hC hCh hSt hl.1 (Nat.le_of_ble_eq_true rfl) dX3_ofBestMove_66 ⟨Nat.zero_le _, Nat.zero_le _⟩ ?_
      refine lv_iload hx hb dX3_ofBestMove_69 (lv_at hl 3 rfl) ?_
      refine lv_icmp_le (tgt := 90) hx hb dX3_ofBestMove_71 (by decide) (fun c_4 => ?_) (fun c_4 => ?_)
      · refine lv_iinc (v := (nI (i + 1))) (lv' := [(6, .int (nI (i + 1))), (2, .int v.1), (3, .int v.2.1), (4, .int v.2.2), (0, .ref h), (1, .int x1), (5, .int x5)]) hx hb dX3_ofBestMove_90 hl (k := 0) rfl (by rw [nI_succ]; rfl) (by decide) rfl (fun ls hl => ?_)
        refine lv_goto (tgt := 38) hx hb dX3_ofBestMove_93 (by decide) ?_
        have e9 : (upTo (bX3_moveIn σ x5) v0 (i + 1)) = (v.1, v.2.1, v.2.2) := by show bX3_moveIn σ x5 i (upTo (bX3_moveIn σ x5) v0 i) = _; rw [← hv]; unfold bX3_moveIn; rw [if_neg c_3, if_pos c_4]
        exact ih (i + 1) (by omega) ls (by rw [e9]; exact lv_sub hl [0, 1, 2, 3, 4, 5, 6] rfl)
      · refine lv_iload hx hb dX3_ofBestMove_74 (lv_at hl 6 rfl) ?_
        refine lv_istore_n (lv' := [(2, .int x5), (6, .int (nI i)), (3, .int v.2.1), (4, .int v.2.2), (0, .ref h), (1, .int x1), (5, .int x5)]) hx hb dX3_ofBestMove_76 rfl hl (by decide) rfl (fun ls hl => ?_)
        refine lv_iload hx hb dX3_ofBestMove_77 (lv_at hl 1 rfl) ?_
        refine lv_istore_n (lv' := [(3, .int (nI i)), (2, .int x5), (6, .int (nI i)), (4, .int v.2.2), (0, .ref h), (1, .int x1), (5, .int x5)]) hx hb dX3_ofBestMove_79 rfl hl (by decide) rfl (fun ls hl => ?_)
        refine lv_aload_n hx hb dX3_ofBestMove_80 rfl (lv_at hl 4 rfl) ?_
        refine lv_iload hx hb dX3_ofBestMove_81 (lv_at hl 6 rfl) ?_
        refine lv_iload hx hb dX3_ofBestMove_83 (lv_at hl 2 rfl) ?_
        refine kX3_hoursOnArriving hF (cwV 2 hts gX3_ofBestMove_X3_hoursOnArriving rfl rfl rfl hdX3_hoursOnArriving ⟨Nat.le_of_ble_eq_true rfl, Nat.le_of_ble_eq_true rfl⟩) hC hCh hSt hl.1 (Nat.le_of_ble_eq_true rfl) dX3_ofBestMove_85 ⟨Nat.zero_le _, Nat.zero_le _⟩ ?_
        refine lv_istore (lv' := [(4, .int (zX3_hoursOnArriving σ x5 (nI i))), (3, .int (nI i)), (2, .int x5), (6, .int (nI i)), (0, .ref h), (1, .int x1), (5, .int x5)]) hx hb dX3_ofBestMove_88 hl (by decide) rfl (fun ls hl => ?_)
        refine lv_iinc (v := (nI (i + 1))) (lv' := [(6, .int (nI (i + 1))), (4, .int (zX3_hoursOnArriving σ x5 (nI i))), (3, .int (nI i)), (2, .int x5), (0, .ref h), (1, .int x1), (5, .int x5)]) hx hb dX3_ofBestMove_90 hl (k := 3) rfl (by rw [nI_succ]; rfl) (by decide) rfl (fun ls hl => ?_)
        refine lv_goto (tgt := 38) hx hb dX3_ofBestMove_93 (by decide) ?_
        have e9 : (upTo (bX3_moveIn σ x5) v0 (i + 1)) = (x5, (nI i), (zX3_hoursOnArriving σ x5 (nI i))) := by show bX3_moveIn σ x5 i (upTo (bX3_moveIn σ x5) v0 i) = _; rw [← hv]; unfold bX3_moveIn; rw [if_neg c_3, if_neg c_4]
        exact ih (i + 1) (by omega) ls (by rw [e9]; exact lv_sub hl [0, 3, 2, 1, 4, 5, 6] rfl)
set_option maxHeartbeats 4000000 in
set_option maxRecDepth 100000 in
theorem lpX3_moveOut {p : Program} {l : Launch} {e : Env} {s : State} {m : MethodId} {args : Array Value} {below : List Frame} {meth : Method} {c : Code} {Q : State → Prop} {D : va_G} {y : Y3} {h : Nat} {ad : Nat → Nat} {σ : Sg} {x1 : Int32} {H : Heap} {locs : List Loc} (hx : p.tables.exec = Jvm.exec) (hb : c.code = cX3_ofBestMove) (hml : c.maxLocals = 7) (hown : s.vm.findClass RX3 = some m.cls) (hts : ∀ w ∈ wsX3_ofBestMove, w.before args s = true) (hC : CK D y s) (hCh : qoH D 3 h ad H) (hSt : StH D y ad σ H)
    (K : ∀ ls : Array Slot, lv_has ls 7 [(5, .int (nI (σ 5 1).toNatClampNeg)), (2, .int ((upTo (bX3_moveOut σ) (-4, -4, 0) ((σ 5 1).toNatClampNeg)).1)), (3, .int ((upTo (bX3_moveOut σ) (-4, -4, 0) ((σ 5 1).toNatClampNeg)).2.1)), (4, .int ((upTo (bX3_moveOut σ) (-4, -4, 0) ((σ 5 1).toNatClampNeg)).2.2)), (0, .ref h), (1, .int x1)] → W p l e (headSpec wsX3_ofBestMove ({ frames := 4, cells := 0, slots := 0, locals := 89 } : Room)).room s m args below meth c H locs 0 0 Q (F0 m 102 ls [])) :
    ∀ (j i : Nat), i + j = (σ 5 1).toNatClampNeg → ∀ ls : Array Slot, lv_has ls 7 [(5, .int (nI i)), (2, .int ((upTo (bX3_moveOut σ) (-4, -4, 0) i).1)), (3, .int ((upTo (bX3_moveOut σ) (-4, -4, 0) i).2.1)), (4, .int ((upTo (bX3_moveOut σ) (-4, -4, 0) i).2.2)), (0, .ref h), (1, .int x1)] → W p l e (headSpec wsX3_ofBestMove ({ frames := 4, cells := 0, slots := 0, locals := 89 } : Room)).room s m args below meth c H locs 0 0 Q (F0 m 23 ls []) := by
  have hF := (⟨hx, hb, hml, hown, hts⟩ : CallFix p m c cX3_ofBestMove 7 s args wsX3_ofBestMove RX3)
  have hN := clamp_lt (σ 5 1)
  intro j
  induction j with
  | zero =>
    intro i hin ls hl
    obtain rfl : i = (σ 5 1).toNatClampNeg := by omega
    refine lv_iload hx hb dX3_ofBestMove_23 (lv_at hl 0 rfl) ?_
    refine lv_aload_n hx hb dX3_ofBestMove_25 rfl (lv_at hl 4 rfl) ?_
    refine va_get (D := D) (ci := 3) (v := .ref (ad 3)) (C := RX3) (T := TX3) (N := 5) hx hb hts iwX3_ofBestMove_X3 hown hC.1 hCh 0 rfl rfl 2 (by decide) (hts (.fieldLink RX3 25 "MealLockers$Questions" "meals" "LMealLockers$Table;") (List.mem_of_getElem? (i := 1) rfl)) (fun _ h9 => h9) rfl dX3_ofBestMove_26 ?_
    refine sX5_size (k := 1) hF (cwV 0 hts gX3_ofBestMove_X5_size rfl rfl rfl hdX5_size ⟨Nat.le_of_ble_eq_true rfl, Nat.le_of_ble_eq_true rfl⟩) hC hSt (by decide) hl.1 (Nat.le_of_ble_eq_true rfl) dX3_ofBestMove_29 ⟨Nat.zero_le _, Nat.zero_le _⟩ ?_
    refine lv_icmp_ge (tgt := 102) hx hb dX3_ofBestMove_32 (by decide) (fun _ => ?_) (fun c_5 => absurd (up_le _) c_5)
    exact K ls hl
  | succ j ih =>
    intro i hin ls hl
    obtain ⟨v, hv⟩ : ∃ v, v = (upTo (bX3_moveOut σ) (-4, -4, 0) i) := ⟨_, rfl⟩
    rw [← hv] at hl
    refine lv_iload hx hb dX3_ofBestMove_23 (lv_at hl 0 rfl) ?_
    refine lv_aload_n hx hb dX3_ofBestMove_25 rfl (lv_at hl 4 rfl) ?_
    refine va_get (D := D) (ci := 3) (v := .ref (ad 3)) (C := RX3) (T := TX3) (N := 5) hx hb hts iwX3_ofBestMove_X3 hown hC.1 hCh 0 rfl rfl 2 (by decide) (hts (.fieldLink RX3 25 "MealLockers$Questions" "meals" "LMealLockers$Table;") (List.mem_of_getElem? (i := 1) rfl)) (fun _ h9 => h9) rfl dX3_ofBestMove_26 ?_
    refine sX5_size (k := 1) hF (cwV 0 hts gX3_ofBestMove_X5_size rfl rfl rfl hdX5_size ⟨Nat.le_of_ble_eq_true rfl, Nat.le_of_ble_eq_true rfl⟩) hC hSt (by decide) hl.1 (Nat.le_of_ble_eq_true rfl) dX3_ofBestMove_29 ⟨Nat.zero_le _, Nat.zero_le _⟩ ?_
    refine lv_icmp_ge (tgt := 102) hx hb dX3_ofBestMove_32 (by decide) (fun c_6 => absurd c_6 (up_gt (by omega))) (fun _ => ?_)
    refine lv_iconst (v := 0) hx hb dX3_ofBestMove_35 (by decide) ?_
    refine lv_istore (lv' := [(6, .int 0), (5, .int (nI i)), (2, .int v.1), (3, .int v.2.1), (4, .int v.2.2), (0, .ref h), (1, .int x1)]) hx hb dX3_ofBestMove_36 hl (by decide) rfl (fun ls hl => ?_)
    refine lpX3_moveIn (v0 := v) (x5 := (nI i)) hx hb hml hown hts hC hCh hSt (fun ls hl => ?_) _ 0 (Nat.zero_add _) ls (lv_sub hl [0, 2, 3, 4, 5, 6, 1] rfl)
    have hl : lv_has ls 7 [(6, .int (nI (σ 5 0).toNatClampNeg)), (2, .int ((zX3_moveIn σ (nI i) v).1)), (3, .int ((zX3_moveIn σ (nI i) v).2.1)), (4, .int ((zX3_moveIn σ (nI i) v).2.2)), (0, .ref h), (1, .int x1), (5, .int (nI i))] := hl
    refine lv_iinc (v := (nI (i + 1))) (lv' := [(5, .int (nI (i + 1))), (6, .int (nI (σ 5 0).toNatClampNeg)), (2, .int ((zX3_moveIn σ (nI i) v).1)), (3, .int ((zX3_moveIn σ (nI i) v).2.1)), (4, .int ((zX3_moveIn σ (nI i) v).2.2)), (0, .ref h), (1, .int x1)]) hx hb dX3_ofBestMove_96 hl (k := 6) rfl (by rw [nI_succ]; rfl) (by decide) rfl (fun ls hl => ?_)
    refine lv_goto (tgt := 23) hx hb dX3_ofBestMove_99 (by decide) ?_
    have e9 : (upTo (bX3_moveOut σ) (-4, -4, 0) (i + 1)) = ((zX3_moveIn σ (nI i) v).1, (zX3_moveIn σ (nI i) v).2.1, (zX3_moveIn σ (nI i) v).2.2) := by show bX3_moveOut σ i (upTo (bX3_moveOut σ) (-4, -4, 0) i) = _; rw [← hv]; unfold bX3_moveOut; rfl
    exact ih (i + 1) (by omega) ls (by rw [e9]; exact lv_sub hl [0, 2, 3, 4, 5, 6] rfl)
set_option maxHeartbeats 4000000 in
set_option maxRecDepth 100000 in
theorem mX3_ofBestMove (l : Launch) (D : va_G) (y : Y3) (h : Nat) (ad : Nat → Nat) (σ : Sg) (x1 : Int32) : Met l yX3_ofBestMove wsX3_ofBestMove ({ frames := 4, cells := 0, slots := 0, locals := 89 } : Room) (va_Pc [.ref h, .int x1] (fun U => CK D y U ∧ qoH D 3 h ad U.heap ∧ StH D y ad σ U.heap)) (vp_Si (fun r => r = zX3_ofBestMove σ x1)) 0 0 (fun _ => False) := by
  refine Met.ofW (cc := cX3_ofBestMove) (maxL := 7) (ret := (some .int)) (by decide) rfl ?_
  intro p e s m args below meth c s₁ B hml hv
  obtain ⟨rfl, hC, hCh, hSt⟩ := hv
  have hx := B.exec
  have hb := B.bytes
  have hr := B.returns
  have hts := atoms_spec (ws := wsX3_ofBestMove) B.pre
  have hown : s.vm.findClass RX3 = some m.cls := findClass_of_methodNamed B.named
  have hlocks := B.notSynchronized
  have hF := (⟨hx, hb, hml, hown, hts⟩ : CallFix p m c cX3_ofBestMove 7 s _ wsX3_ofBestMove RX3)
  have hl := lv_entry ([.ref h, .int x1]) (n := 7) (Nat.le_of_ble_eq_true rfl)
  rw [lg_entry_eq]
  generalize (lg_sl ([.ref h, .int x1]) ++ List.replicate (7 - (lg_sl ([.ref h, .int x1])).length) Slot.unset).toArray = ls at hl ⊢
  have hl : lv_has ls 7 [(0, .ref h), (1, .int x1)] := hl
  refine lv_iload_n hx hb dX3_ofBestMove_0 rfl (lv_at hl 1 rfl) ?_
  refine lv_iconst (v := 0) hx hb dX3_ofBestMove_1 (by decide) ?_
  refine lv_iconst (v := 2) hx hb dX3_ofBestMove_2 (by decide) ?_
  refine kX7_isWithinN hF ⟨va_cnB 3 hts gX3_ofBestMove_X7_isWithin_n40 rfl rfl rfl (nw_m1 hC) (hts (.initialized RX7) (List.mem_of_getElem? (i := 4) rfl)) hdX7_isWithin ⟨Nat.le_of_ble_eq_true rfl, Nat.le_of_ble_eq_true rfl⟩, (hts (.static yX7_isWithin) (List.mem_of_getElem? (i := 3) rfl)), trivial⟩ hC hl.1 (Nat.le_of_ble_eq_true rfl) dX3_ofBestMove_3 ⟨Nat.zero_le _, Nat.zero_le _⟩ ?_
  refine lv_if_ne (tgt := 11) hx hb dX3_ofBestMove_6 (by decide) (fun c_7 => ?_) (fun c_7 => ?_)
  · refine lv_bipush (v := (-4)) hx hb dX3_ofBestMove_11 (by decide) ?_
    refine lv_istore_n (lv' := [(2, .int (-4)), (0, .ref h), (1, .int x1)]) hx hb dX3_ofBestMove_13 rfl hl (by decide) rfl (fun ls hl => ?_)
    refine lv_bipush (v := (-4)) hx hb dX3_ofBestMove_14 (by decide) ?_
    refine lv_istore_n (lv' := [(3, .int (-4)), (2, .int (-4)), (0, .ref h), (1, .int x1)]) hx hb dX3_ofBestMove_16 rfl hl (by decide) rfl (fun ls hl => ?_)
    refine lv_iconst (v := 0) hx hb dX3_ofBestMove_17 (by decide) ?_
    refine lv_istore (lv' := [(4, .int 0), (3, .int (-4)), (2, .int (-4)), (0, .ref h), (1, .int x1)]) hx hb dX3_ofBestMove_18 hl (by decide) rfl (fun ls hl => ?_)
    refine lv_iconst (v := 0) hx hb dX3_ofBestMove_20 (by decide) ?_
    refine lv_istore (lv' := [(5, .int 0), (4, .int 0), (3, .int (-4)), (2, .int (-4)), (0, .ref h), (1, .int x1)]) hx hb dX3_ofBestMove_21 hl (by decide) rfl (fun ls hl => ?_)
    refine lpX3_moveOut hx hb hml hown hts hC hCh hSt (fun ls hl => ?_) _ 0 (Nat.zero_add _) ls (lv_sub hl [0, 3, 2, 1, 4, 5] rfl)
    refine lv_iload_n hx hb dX3_ofBestMove_102 rfl (lv_at hl 1 rfl) ?_
    refine lv_if_lt (tgt := 110) hx hb dX3_ofBestMove_103 (by decide) (fun c_8 => ?_) (fun c_8 => ?_)
    · refine lv_iload_n hx hb dX3_ofBestMove_110 rfl (lv_at hl 1 rfl) ?_
      exact W.iret (v := (upTo (bX3_moveOut σ) (-4, -4, 0) (σ 5 1).toNatClampNeg).1) hx hb hr (fun t ht hW => ⟨(upTo (bX3_moveOut σ) (-4, -4, 0) (σ 5 1).toNatClampNeg).1, rfl, (by unfold zX3_ofBestMove; rw [if_neg c_7, if_pos c_8]), ht⟩) (fun q hq => absurd hq List.not_mem_nil) dX3_ofBestMove_111
    · refine lv_iload_n hx hb dX3_ofBestMove_106 rfl (lv_at hl 5 rfl) ?_
      refine lv_if_ne (tgt := 112) hx hb dX3_ofBestMove_107 (by decide) (fun c_9 => ?_) (fun c_9 => ?_)
      · refine lv_iload_n hx hb dX3_ofBestMove_112 rfl (lv_at hl 5 rfl) ?_
        refine lv_iconst (v := 1) hx hb dX3_ofBestMove_113 (by decide) ?_
        refine lv_icmp_ne (tgt := 121) hx hb dX3_ofBestMove_114 (by decide) (fun c_10 => ?_) (fun c_10 => ?_)
        · refine lv_iload hx hb dX3_ofBestMove_121 (lv_at hl 3 rfl) ?_
          exact W.iret (v := (upTo (bX3_moveOut σ) (-4, -4, 0) (σ 5 1).toNatClampNeg).2.2) hx hb hr (fun t ht hW => ⟨(upTo (bX3_moveOut σ) (-4, -4, 0) (σ 5 1).toNatClampNeg).2.2, rfl, (by unfold zX3_ofBestMove; rw [if_neg c_7, if_neg c_8, if_neg c_9, if_neg c_10]), ht⟩) (fun q hq => absurd hq List.not_mem_nil) dX3_ofBestMove_123
        · refine lv_iload_n hx hb dX3_ofBestMove_117 rfl (lv_at hl 2 rfl) ?_
          refine lv_goto (tgt := 123) hx hb dX3_ofBestMove_118 (by decide) ?_
          exact W.iret (v := (upTo (bX3_moveOut σ) (-4, -4, 0) (σ 5 1).toNatClampNeg).2.1) hx hb hr (fun t ht hW => ⟨(upTo (bX3_moveOut σ) (-4, -4, 0) (σ 5 1).toNatClampNeg).2.1, rfl, (by unfold zX3_ofBestMove; rw [if_neg c_7, if_neg c_8, if_neg c_9, if_pos c_10]), ht⟩) (fun q hq => absurd hq List.not_mem_nil) dX3_ofBestMove_123
      · refine lv_iload_n hx hb dX3_ofBestMove_110 rfl (lv_at hl 1 rfl) ?_
        exact W.iret (v := (upTo (bX3_moveOut σ) (-4, -4, 0) (σ 5 1).toNatClampNeg).1) hx hb hr (fun t ht hW => ⟨(upTo (bX3_moveOut σ) (-4, -4, 0) (σ 5 1).toNatClampNeg).1, rfl, (by unfold zX3_ofBestMove; rw [if_neg c_7, if_neg c_8, if_pos c_9]), ht⟩) (fun q hq => absurd hq List.not_mem_nil) dX3_ofBestMove_111
  · refine lv_iconst (v := (-1)) hx hb dX3_ofBestMove_9 (by decide) ?_
    exact W.iret (v := (-1)) hx hb hr (fun t ht hW => ⟨(-1), rfl, (by unfold zX3_ofBestMove; rw [if_pos c_7]), ht⟩) (fun q hq => absurd hq List.not_mem_nil) dX3_ofBestMove_10
set_option maxHeartbeats 4000000 in
set_option maxRecDepth 100000 in
theorem kX3_ofBestMove {p : Program} {l : Launch} {e : Env} {R : Room} {s : State} {m : MethodId} {args : Array Value} {below : List Frame} {meth : Method} {c : Code} {H : Heap} {locs : List Loc} {cells slots : Nat} {Q : State → Prop} {cc : ByteArray} {nL : Nat} {Ts : List Cond} {own : String} {index pc : Nat} {ls : Array Slot} {rest : List Value} {D : va_G} {y : Y3} {h : Nat} {ad : Nat → Nat} {σ : Sg} {x1 : Int32} (hF : CallFix p m c cc nL s args Ts own) (cw : CallW R s args own RX3 index yX3_ofBestMove cX3_ofBestMove 7 (some .int) wsX3_ofBestMove ({ frames := 4, cells := 0, slots := 0, locals := 89 } : Room) 0 0 1) (hC : CK D y s) (hCh : qoH D 3 h ad H) (hSt : StH D y ad σ H) (hsz : ls.size = nL) (hW : (rest.map fun v => v.category).sum ≤ 8) (hdg : decode cc pc = .ok (.invokevirtual index, 3)) (hf : cells ≤ R.cells ∧ slots ≤ R.slots)
    (k : W p l e R s m args below meth c H locs cells slots Q (F0 m (pc + 3) ls (.int (zX3_ofBestMove σ x1) :: rest))) : W p l e R s m args below meth c H locs cells slots Q (F0 m pc ls (.int x1 :: .ref h :: rest)) := by
  refine vp_callSi (W.runV (As := [.int x1]) (rest := rest) hF (mX3_ofBestMove l D y h ad σ x1) cw ⟨fun a U g mk q => by obtain ⟨q0, q1, q2, q3⟩ := q; exact ⟨q0, q1.call g mk a, q2, q3⟩, va_recv hC.1 hCh (ci := 3) (q0 := 0) rfl rfl, fun U hU hW => ⟨rfl, hC.warm hW, by rw [hU]; exact hCh, by rw [hU]; exact hSt⟩⟩ rfl rfl hsz rfl (lv_room hW) hdg ⟨hf.1, hf.2⟩) (fun r hr => ?_)
  subst hr
  exact k
