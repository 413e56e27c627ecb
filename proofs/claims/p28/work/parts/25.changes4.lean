def bX0_passIn  (i : Nat) (v : Sg) : Sg := if (zatt (zX0_walkAnHour v (nI i)) 3 (nI i) 3) = ((zX0_walkAnHour v (nI i)) 5 5) then (zX0_stowMeals (zX0_walkAnHour v (nI i)) (nI i)).2
  else (zX0_walkAnHour v (nI i))
theorem r5X0_bpassIn (i : Nat) (v : Sg) : bX0_passIn i v 5 = v 5 := by
  unfold bX0_passIn
  (repeat' split) <;> first | (rw [r5X0_walkAnHour]; done) | (rw [r5X0_stowMeals, r5X0_walkAnHour]; done)
theorem r5X0_upassIn (σ : Sg) (n : Nat) : upTo bX0_passIn σ n 5 = σ 5 := upTo_inv (fun v : Sg => v 5 = σ 5) rfl (fun i v h => (r5X0_bpassIn i v).trans h) n
def zpassIn (σ : Sg) : Sg := upTo bX0_passIn σ (σ 5 3).toNatClampNeg
def bX0_passHours  (i : Nat) (v : Int32 × Sg) : Int32 × Sg := ((v.1 + ((zX0_spoilMealsOfThisHour (sgR v.2 5 ((v.2 5 5) + 1))).1)), (zX0_lapseReservations (zpassIn ((zX0_spoilMealsOfThisHour (sgR v.2 5 ((v.2 5 5) + 1))).2))))
def zX0_passHours (σ : Sg) (x1 : Int32) (x2 : Int32) : Int32 × Sg := if (zX7_isWithin x1 1 99) = 0 then ((-1), σ)
  else (if ((σ 5 5) + x1) ≤ x2 then (upTo bX0_passHours (0, σ) x1.toNatClampNeg)
    else ((-3), σ))
theorem iwX0_passHours_X0 : ∀ w ∈ wsX00, w ∈ wsX0_passHours := fun _ h => List.mem_cons_of_mem _ (List.mem_append_left _ (List.mem_append_left _ (List.mem_append_right _ h)))
theorem iwX0_passHours_X4 : ∀ w ∈ wsX40, w ∈ wsX0_passHours := fun _ h => List.mem_cons_of_mem _ (List.mem_append_left _ (List.mem_append_right _ h))
theorem hdX0_passHours : yX0_passHours.cls = RX0 ∧ yX0_passHours.cls ≠ "java/lang/invoke/MethodHandle" ∧ yX0_passHours.cls ≠ "java/lang/invoke/VarHandle" ∧ (parseMethodDescriptor yX0_passHours.desc).map (fun d => d.parameters.length) = some 2 := by decide +kernel
set_option maxHeartbeats 4000000 in
set_option maxRecDepth 100000 in
theorem lpX0_passIn {p : Program} {l : Launch} {e : Env} {s : State} {m : MethodId} {args : Array Value} {below : List Frame} {meth : Method} {c : Code} {Q : State → Prop} {D : va_G} {y : Y3} {h : Nat} {ad : Nat → Nat} {σ : Sg} {x1 x2 x3 x4 : Int32} (hx : p.tables.exec = Jvm.exec) (hb : c.code = cX0_passHours) (hml : c.maxLocals = 6) (hown : s.vm.findClass RX0 = some m.cls) (hts : ∀ w ∈ wsX0_passHours, w.before args s = true) (hC : CK D y s) (hCh0 : qoH D 0 h ad s.heap) (hi : adI ad) (hdj : ∀ k, k < 11 → ad k ≠ h) (hrow : ∀ i : Nat, (upTo (bX0_passIn) σ i) 5 = σ 5)
    (K : ∀ (H : Heap) (locs : List Loc) (ls : Array Slot), StH D y ad (upTo (bX0_passIn) σ ((σ 5 3).toNatClampNeg)) H → va_S (stA ad) s.heap H locs → lv_has ls 6 [(5, .int (nI (σ 5 3).toNatClampNeg)), (0, .ref h), (1, .int x1), (2, .int x2), (3, .int x3), (4, .int x4)] → W p l e (headSpec wsX0_passHours ({ frames := 4, cells := 0, slots := 0, locals := 92 } : Room)).room s m args below meth c H locs 0 0 Q (F0 m 113 ls [])) :
    ∀ (j i : Nat), i + j = (σ 5 3).toNatClampNeg → ∀ (H : Heap) (locs : List Loc), StH D y ad (upTo (bX0_passIn) σ i) H → va_S (stA ad) s.heap H locs → ∀ ls : Array Slot, lv_has ls 6 [(5, .int (nI i)), (0, .ref h), (1, .int x1), (2, .int x2), (3, .int x3), (4, .int x4)] → W p l e (headSpec wsX0_passHours ({ frames := 4, cells := 0, slots := 0, locals := 92 } : Room)).room s m args below meth c H locs 0 0 Q (F0 m 62 ls []) := by
  have hF := (⟨hx, hb, hml, hown, hts⟩ : CallFix p m c cX0_passHours 6 s args wsX0_passHours RX0)
  have hN := clamp_lt (σ 5 3)
  intro j
  induction j with
  | zero =>
    intro i hin H locs hSt hS ls hl
    have hCh := qo_at hS hCh0 hdj
    obtain rfl : i = (σ 5 3).toNatClampNeg := by omega
    have hw := hrow ((σ 5 3).toNatClampNeg)
    refine lv_iload hx hb dX0_passHours_62 (lv_at hl 0 rfl) ?_
    refine lv_aload_n hx hb dX0_passHours_64 rfl (lv_at hl 1 rfl) ?_
    refine va_get (D := D) (ci := 0) (v := .ref (ad 7)) (C := RX0) (T := TX0) (N := 5) hx hb hts iwX0_passHours_X0 hown hC.1 hCh 0 rfl rfl 4 (by decide) (hts (.fieldLink RX0 33 "MealLockers$Changes" "volunteers" "LMealLockers$Table;") (List.mem_of_getElem? (i := 2) rfl)) (fun _ h9 => h9) rfl dX0_passHours_65 ?_
    refine sX5_size (k := 3) hF (cwV 0 hts gX0_passHours_X5_size rfl rfl rfl hdX5_size ⟨Nat.le_of_ble_eq_true rfl, Nat.le_of_ble_eq_true rfl⟩) hC hSt (by decide) hl.1 (Nat.le_of_ble_eq_true rfl) dX0_passHours_68 ⟨Nat.zero_le _, Nat.zero_le _⟩ ?_
    refine lv_icmp_ge (tgt := 113) hx hb dX0_passHours_71 (by decide) (fun _ => ?_) (fun c_1 => absurd (by rw [hw]; exact up_le _) c_1)
    exact K H locs ls hSt hS (lv_sub hl [0, 1, 2, 3, 4, 5] rfl)
  | succ j ih =>
    intro i hin H locs hSt hS ls hl
    have hCh := qo_at hS hCh0 hdj
    have hw := hrow i
    obtain ⟨v, hv⟩ : ∃ v, v = (upTo (bX0_passIn) σ i) := ⟨_, rfl⟩
    rw [← hv] at hSt hw
    refine lv_iload hx hb dX0_passHours_62 (lv_at hl 0 rfl) ?_
    refine lv_aload_n hx hb dX0_passHours_64 rfl (lv_at hl 1 rfl) ?_
    refine va_get (D := D) (ci := 0) (v := .ref (ad 7)) (C := RX0) (T := TX0) (N := 5) hx hb hts iwX0_passHours_X0 hown hC.1 hCh 0 rfl rfl 4 (by decide) (hts (.fieldLink RX0 33 "MealLockers$Changes" "volunteers" "LMealLockers$Table;") (List.mem_of_getElem? (i := 2) rfl)) (fun _ h9 => h9) rfl dX0_passHours_65 ?_
    refine sX5_size (k := 3) hF (cwV 0 hts gX0_passHours_X5_size rfl rfl rfl hdX5_size ⟨Nat.le_of_ble_eq_true rfl, Nat.le_of_ble_eq_true rfl⟩) hC hSt (by decide) hl.1 (Nat.le_of_ble_eq_true rfl) dX0_passHours_68 ⟨Nat.zero_le _, Nat.zero_le _⟩ ?_
    refine lv_icmp_ge (tgt := 113) hx hb dX0_passHours_71 (by decide) (fun c_2 => absurd c_2 (by rw [hw]; exact up_gt (by omega))) (fun _ => ?_)
    refine lv_aload_n hx hb dX0_passHours_74 rfl (lv_at hl 1 rfl) ?_
    refine lv_iload hx hb dX0_passHours_75 (lv_at hl 0 rfl) ?_
    refine kX0_walkAnHour hF (cwV 1 hts gX0_passHours_X0_walkAnHour rfl rfl rfl hdX0_walkAnHour ⟨Nat.le_of_ble_eq_true rfl, Nat.le_of_ble_eq_true rfl⟩) hC hCh hSt hi hdj hS (fun _ h => h) hl.1 (Nat.le_of_ble_eq_true rfl) dX0_passHours_77 ⟨Nat.zero_le _, Nat.zero_le _⟩ (fun H locs hSt _ _ hS => ?_)
    have hCh := qo_at hS hCh0 hdj
    refine lv_aload_n hx hb dX0_passHours_80 rfl (lv_at hl 1 rfl) ?_
    refine va_get (D := D) (ci := 0) (v := .ref (ad 7)) (C := RX0) (T := TX0) (N := 5) hx hb hts iwX0_passHours_X0 hown hC.1 hCh 0 rfl rfl 4 (by decide) (hts (.fieldLink RX0 33 "MealLockers$Changes" "volunteers" "LMealLockers$Table;") (List.mem_of_getElem? (i := 2) rfl)) (fun _ h9 => h9) rfl dX0_passHours_81 ?_
    refine lv_iload hx hb dX0_passHours_84 (lv_at hl 0 rfl) ?_
    refine lv_iconst (v := 3) hx hb dX0_passHours_86 (by decide) ?_
    refine sX5_at (k := 3) hF (cwV 2 hts gX0_passHours_X5_at rfl rfl rfl hdX5_at ⟨Nat.le_of_ble_eq_true rfl, Nat.le_of_ble_eq_true rfl⟩) hC hSt (by decide) hl.1 (Nat.le_of_ble_eq_true rfl) dX0_passHours_87 ⟨Nat.zero_le _, Nat.zero_le _⟩ ?_
    refine lv_aload_n hx hb dX0_passHours_90 rfl (lv_at hl 1 rfl) ?_
    refine va_get (D := D) (ci := 0) (v := .ref (ad 0)) (C := RX0) (T := TX0) (N := 5) hx hb hts iwX0_passHours_X0 hown hC.1 hCh 0 rfl rfl 0 (by decide) (hts (.fieldLink RX0 9 "MealLockers$Changes" "state" "LMealLockers$State;") (List.mem_of_getElem? (i := 1) rfl)) (fun _ h9 => h9) rfl dX0_passHours_91 ?_
    refine va_getN (D := D) (ci := 4) (v := .int ((zX0_walkAnHour v (nI i)) 5 5)) (C := RX4) (T := TX4) (N := 6) hx hb hts iwX0_passHours_X4 hown hC.1 hSt 0 rfl rfl 5 (by decide) (nw_f10 hC) (fun _ h9 => h9) rfl dX0_passHours_94 ?_
    refine lv_icmp_ne (tgt := 107) hx hb dX0_passHours_97 (by decide) (fun c_3 => ?_) (fun c_3 => ?_)
    · refine lv_iinc (v := (nI (i + 1))) (lv' := [(5, .int (nI (i + 1))), (0, .ref h), (1, .int x1), (2, .int x2), (3, .int x3), (4, .int x4)]) hx hb dX0_passHours_107 hl (k := 0) rfl (by rw [nI_succ]; rfl) (by decide) rfl (fun ls hl => ?_)
      refine lv_goto (tgt := 62) hx hb dX0_passHours_110 (by decide) ?_
      have e9 : (upTo (bX0_passIn) σ (i + 1)) = (zX0_walkAnHour v (nI i)) := by show bX0_passIn i (upTo (bX0_passIn) σ i) = _; rw [← hv]; unfold bX0_passIn; rw [if_neg c_3]
      exact ih (i + 1) (by omega) H locs (by rw [e9]; exact hSt) hS ls (lv_sub hl [0, 1, 2, 3, 4, 5] rfl)
    · refine lv_aload_n hx hb dX0_passHours_100 rfl (lv_at hl 1 rfl) ?_
      refine lv_iload hx hb dX0_passHours_101 (lv_at hl 0 rfl) ?_
      refine kX0_stowMeals hF (cwV 1 hts gX0_passHours_X0_stowMeals rfl rfl rfl hdX0_stowMeals ⟨Nat.le_of_ble_eq_true rfl, Nat.le_of_ble_eq_true rfl⟩) hC hCh hSt hi hdj hS (fun _ h => h) hl.1 (Nat.le_of_ble_eq_true rfl) dX0_passHours_103 ⟨Nat.zero_le _, Nat.zero_le _⟩ (fun H locs hSt _ _ hS => ?_)
      have hCh := qo_at hS hCh0 hdj
      refine lv_pop hx hb dX0_passHours_106 rfl ?_
      refine lv_iinc (v := (nI (i + 1))) (lv' := [(5, .int (nI (i + 1))), (0, .ref h), (1, .int x1), (2, .int x2), (3, .int x3), (4, .int x4)]) hx hb dX0_passHours_107 hl (k := 0) rfl (by rw [nI_succ]; rfl) (by decide) rfl (fun ls hl => ?_)
      refine lv_goto (tgt := 62) hx hb dX0_passHours_110 (by decide) ?_
      have e9 : (upTo (bX0_passIn) σ (i + 1)) = (zX0_stowMeals (zX0_walkAnHour v (nI i)) (nI i)).2 := by show bX0_passIn i (upTo (bX0_passIn) σ i) = _; rw [← hv]; unfold bX0_passIn; rw [if_pos c_3]
      exact ih (i + 1) (by omega) H locs (by rw [e9]; exact hSt) hS ls (lv_sub hl [0, 1, 2, 3, 4, 5] rfl)
set_option maxHeartbeats 4000000 in
set_option maxRecDepth 100000 in
theorem lpX0_passHours {p : Program} {l : Launch} {e : Env} {s : State} {m : MethodId} {args : Array Value} {below : List Frame} {meth : Method} {c : Code} {Q : State → Prop} {D : va_G} {y : Y3} {h : Nat} {ad : Nat → Nat} {σ : Sg} {x1 x2 : Int32} (hx : p.tables.exec = Jvm.exec) (hb : c.code = cX0_passHours) (hml : c.maxLocals = 6) (hown : s.vm.findClass RX0 = some m.cls) (hts : ∀ w ∈ wsX0_passHours, w.before args s = true) (hC : CK D y s) (hCh0 : qoH D 0 h ad s.heap) (hi : adI ad) (hdj : ∀ k, k < 11 → ad k ≠ h)
    (K : ∀ (H : Heap) (locs : List Loc) (ls : Array Slot), StH D y ad ((upTo (bX0_passHours) (0, σ) x1.toNatClampNeg).2) H → va_S (stA ad) s.heap H locs → lv_has ls 6 [(4, .int (nI x1.toNatClampNeg)), (3, .int ((upTo (bX0_passHours) (0, σ) x1.toNatClampNeg).1)), (0, .ref h), (1, .int x1), (2, .int x2)] → W p l e (headSpec wsX0_passHours ({ frames := 4, cells := 0, slots := 0, locals := 92 } : Room)).room s m args below meth c H locs 0 0 Q (F0 m 123 ls [])) :
    ∀ (j i : Nat), i + j = x1.toNatClampNeg → ∀ (H : Heap) (locs : List Loc), StH D y ad ((upTo (bX0_passHours) (0, σ) i).2) H → va_S (stA ad) s.heap H locs → ∀ ls : Array Slot, lv_has ls 6 [(4, .int (nI i)), (3, .int ((upTo (bX0_passHours) (0, σ) i).1)), (0, .ref h), (1, .int x1), (2, .int x2)] → W p l e (headSpec wsX0_passHours ({ frames := 4, cells := 0, slots := 0, locals := 92 } : Room)).room s m args below meth c H locs 0 0 Q (F0 m 33 ls []) := by
  have hF := (⟨hx, hb, hml, hown, hts⟩ : CallFix p m c cX0_passHours 6 s args wsX0_passHours RX0)
  have hN := clamp_lt x1
  intro j
  induction j with
  | zero =>
    intro i hin H locs hSt hS ls hl
    have hCh := qo_at hS hCh0 hdj
    obtain rfl : i = x1.toNatClampNeg := by omega
    refine lv_iload hx hb dX0_passHours_33 (lv_at hl 0 rfl) ?_
    refine lv_iload_n hx hb dX0_passHours_35 rfl (lv_at hl 3 rfl) ?_
    refine lv_icmp_ge (tgt := 123) hx hb dX0_passHours_36 (by decide) (fun _ => ?_) (fun c_4 => absurd (up_le _) c_4)
    exact K H locs ls hSt hS (lv_sub hl [0, 1, 2, 3, 4] rfl)
  | succ j ih =>
    intro i hin H locs hSt hS ls hl
    have hCh := qo_at hS hCh0 hdj
    obtain ⟨v, hv⟩ : ∃ v, v = (upTo (bX0_passHours) (0, σ) i) := ⟨_, rfl⟩
    rw [← hv] at hSt hl
    refine lv_iload hx hb dX0_passHours_33 (lv_at hl 0 rfl) ?_
    refine lv_iload_n hx hb dX0_passHours_35 rfl (lv_at hl 3 rfl) ?_
    refine lv_icmp_ge (tgt := 123) hx hb dX0_passHours_36 (by decide) (fun c_5 => absurd c_5 (up_gt (by omega))) (fun _ => ?_)
    refine lv_aload_n hx hb dX0_passHours_39 rfl (lv_at hl 2 rfl) ?_
    refine va_get (D := D) (ci := 0) (v := .ref (ad 0)) (C := RX0) (T := TX0) (N := 5) hx hb hts iwX0_passHours_X0 hown hC.1 hCh 0 rfl rfl 0 (by decide) (hts (.fieldLink RX0 9 "MealLockers$Changes" "state" "LMealLockers$State;") (List.mem_of_getElem? (i := 1) rfl)) (fun _ h9 => h9) rfl dX0_passHours_40 ?_
    refine lv_dup hx hb dX0_passHours_43 rfl ?_
    refine va_getN (D := D) (ci := 4) (v := .int (v.2 5 5)) (C := RX4) (T := TX4) (N := 6) hx hb hts iwX0_passHours_X4 hown hC.1 hSt 0 rfl rfl 5 (by decide) (nw_f10 hC) (fun _ h9 => h9) rfl dX0_passHours_44 ?_
    refine lv_iconst (v := 1) hx hb dX0_passHours_47 (by decide) ?_
    refine lv_iadd hx hb dX0_passHours_48 ?_
    refine va_putN (D := D) (ci := 4) (v := .int ((v.2 5 5) + 1)) (ty := .int) (C := RX4) (T := TX4) (N := 6) hx hb hts iwX0_passHours_X4 tyX4 tyX4_ok nmX4 hown hC.1 hSt (st_D hi) hS 0 rfl rfl 5 (by decide) (nw_f10 hC) (fun _ h9 => h9) rfl (by decide +kernel) rfl rfl (Nat.le_of_ble_eq_true rfl) dX0_passHours_49 (fun H locs hP1 _ hS => ?_)
    have hSt : StH D y ad (sgR v.2 5 ((v.2 5 5) + 1)) H := st_time hP1
    have hCh := qo_at hS hCh0 hdj
    refine lv_iload_n hx hb dX0_passHours_52 rfl (lv_at hl 1 rfl) ?_
    refine lv_aload_n hx hb dX0_passHours_53 rfl (lv_at hl 2 rfl) ?_
    refine kX0_spoilMealsOfThisHour hF (cwV 0 hts gX0_passHours_X0_spoilMealsOfThisHour rfl rfl rfl hdX0_spoilMealsOfThisHour ⟨Nat.le_of_ble_eq_true rfl, Nat.le_of_ble_eq_true rfl⟩) hC hCh hSt hi hdj hS (fun _ h => h) hl.1 (Nat.le_of_ble_eq_true rfl) dX0_passHours_54 ⟨Nat.zero_le _, Nat.zero_le _⟩ (fun H locs hSt _ _ hS => ?_)
    have hCh := qo_at hS hCh0 hdj
    refine lv_iadd hx hb dX0_passHours_57 ?_
    refine lv_istore_n (lv' := [(3, .int (v.1 + ((zX0_spoilMealsOfThisHour (sgR v.2 5 ((v.2 5 5) + 1))).1))), (4, .int (nI i)), (0, .ref h), (1, .int x1), (2, .int x2)]) hx hb dX0_passHours_58 rfl hl (by decide) rfl (fun ls hl => ?_)
    refine lv_iconst (v := 0) hx hb dX0_passHours_59 (by decide) ?_
    refine lv_istore (lv' := [(5, .int 0), (3, .int (v.1 + ((zX0_spoilMealsOfThisHour (sgR v.2 5 ((v.2 5 5) + 1))).1))), (4, .int (nI i)), (0, .ref h), (1, .int x1), (2, .int x2)]) hx hb dX0_passHours_60 hl (by decide) rfl (fun ls hl => ?_)
    refine lpX0_passIn (σ := (zX0_spoilMealsOfThisHour (sgR v.2 5 ((v.2 5 5) + 1))).2) hx hb hml hown hts hC hCh0 hi hdj (r5X0_upassIn _) (fun H locs ls hSt hS hl => ?_) _ 0 (Nat.zero_add _) _ _ hSt hS ls (lv_sub hl [0, 3, 4, 5, 1, 2] rfl)
    have hSt : StH D y ad (zpassIn ((zX0_spoilMealsOfThisHour (sgR v.2 5 ((v.2 5 5) + 1))).2)) H := hSt
    have hCh := qo_at hS hCh0 hdj
    refine lv_aload_n hx hb dX0_passHours_113 rfl (lv_at hl 1 rfl) ?_
    refine kX0_lapseReservations hF (cwV 0 hts gX0_passHours_X0_lapseReservations rfl rfl rfl hdX0_lapseReservations ⟨Nat.le_of_ble_eq_true rfl, Nat.le_of_ble_eq_true rfl⟩) hC hCh hSt hi hdj hS (fun _ h => h) hl.1 (Nat.le_of_ble_eq_true rfl) dX0_passHours_114 ⟨Nat.zero_le _, Nat.zero_le _⟩ (fun H locs hSt _ _ hS => ?_)
    have hCh := qo_at hS hCh0 hdj
    refine lv_iinc (v := (nI (i + 1))) (lv' := [(4, .int (nI (i + 1))), (5, .int (nI (((zX0_spoilMealsOfThisHour (sgR v.2 5 ((v.2 5 5) + 1))).2) 5 3).toNatClampNeg)), (0, .ref h), (1, .int x1), (2, .int x2), (3, .int (v.1 + ((zX0_spoilMealsOfThisHour (sgR v.2 5 ((v.2 5 5) + 1))).1)))]) hx hb dX0_passHours_117 hl (k := 5) rfl (by rw [nI_succ]; rfl) (by decide) rfl (fun ls hl => ?_)
    refine lv_goto (tgt := 33) hx hb dX0_passHours_120 (by decide) ?_
    have e9 : (upTo (bX0_passHours) (0, σ) (i + 1)) = ((v.1 + ((zX0_spoilMealsOfThisHour (sgR v.2 5 ((v.2 5 5) + 1))).1)), (zX0_lapseReservations (zpassIn ((zX0_spoilMealsOfThisHour (sgR v.2 5 ((v.2 5 5) + 1))).2)))) := by show bX0_passHours i (upTo (bX0_passHours) (0, σ) i) = _; rw [← hv]; unfold bX0_passHours; rfl
    exact ih (i + 1) (by omega) H locs (by rw [e9]; exact hSt) hS ls (by rw [e9]; exact lv_sub hl [0, 5, 2, 3, 4] rfl)
set_option maxHeartbeats 4000000 in
set_option maxRecDepth 100000 in
theorem mX0_passHours (l : Launch) (D : va_G) (y : Y3) (h : Nat) (ad : Nat → Nat) (σ : Sg) (x1 : Int32) (x2 : Int32) : Met l yX0_passHours wsX0_passHours ({ frames := 4, cells := 0, slots := 0, locals := 92 } : Room) (va_Pc [.ref h, .int x1, .int x2] (fun U => CK D y U ∧ qoH D 0 h ad U.heap ∧ StH D y ad σ U.heap ∧ adI ad ∧ (∀ k, k < 11 → ad k ≠ h))) (va_Qi (fun (r : Int32) (u : Sg) => r = (zX0_passHours σ x1 x2).1 ∧ u = (zX0_passHours σ x1 x2).2) (fun u t => StH D y ad u t.heap) (stA ad)) 0 0 (stA ad) := by
  refine Met.ofW (cc := cX0_passHours) (maxL := 6) (ret := (some .int)) (by decide) rfl ?_
  intro p e s m args below meth c s₁ B hml hv
  obtain ⟨rfl, hC, hCh, hSt, hi, hdj⟩ := hv
  have hx := B.exec
  have hb := B.bytes
  have hr := B.returns
  have hts := atoms_spec (ws := wsX0_passHours) B.pre
  have hown : s.vm.findClass RX0 = some m.cls := findClass_of_methodNamed B.named
  have hlocks := B.notSynchronized
  have hF := (⟨hx, hb, hml, hown, hts⟩ : CallFix p m c cX0_passHours 6 s _ wsX0_passHours RX0)
  have hS : va_S (stA ad) s.heap s.heap [] := va_S.rf
  have hl := lv_entry ([.ref h, .int x1, .int x2]) (n := 6) (Nat.le_of_ble_eq_true rfl)
  rw [lg_entry_eq]
  generalize (lg_sl ([.ref h, .int x1, .int x2]) ++ List.replicate (6 - (lg_sl ([.ref h, .int x1, .int x2])).length) Slot.unset).toArray = ls at hl ⊢
  have hl : lv_has ls 6 [(0, .ref h), (1, .int x1), (2, .int x2)] := hl
  have hCh0 := hCh
  refine lv_iload_n hx hb dX0_passHours_0 rfl (lv_at hl 1 rfl) ?_
  refine lv_iconst (v := 1) hx hb dX0_passHours_1 (by decide) ?_
  refine lv_bipush (v := 99) hx hb dX0_passHours_2 (by decide) ?_
  refine kX7_isWithinN hF ⟨va_cnB 3 hts gX0_passHours_X7_isWithin_n34 rfl rfl rfl (nw_m0 hC) (hts (.initialized RX7) (List.mem_of_getElem? (i := 4) rfl)) hdX7_isWithin ⟨Nat.le_of_ble_eq_true rfl, Nat.le_of_ble_eq_true rfl⟩, (hts (.static yX7_isWithin) (List.mem_of_getElem? (i := 3) rfl)), trivial⟩ hC hl.1 (Nat.le_of_ble_eq_true rfl) dX0_passHours_4 ⟨Nat.zero_le _, Nat.zero_le _⟩ ?_
  refine lv_if_ne (tgt := 12) hx hb dX0_passHours_7 (by decide) (fun c_6 => ?_) (fun c_6 => ?_)
  · refine lv_aload_n hx hb dX0_passHours_12 rfl (lv_at hl 0 rfl) ?_
    refine va_get (D := D) (ci := 0) (v := .ref (ad 0)) (C := RX0) (T := TX0) (N := 5) hx hb hts iwX0_passHours_X0 hown hC.1 hCh 0 rfl rfl 0 (by decide) (hts (.fieldLink RX0 9 "MealLockers$Changes" "state" "LMealLockers$State;") (List.mem_of_getElem? (i := 1) rfl)) (fun _ h9 => h9) rfl dX0_passHours_13 ?_
    refine va_getN (D := D) (ci := 4) (v := .int (σ 5 5)) (C := RX4) (T := TX4) (N := 6) hx hb hts iwX0_passHours_X4 hown hC.1 hSt 0 rfl rfl 5 (by decide) (nw_f10 hC) (fun _ h9 => h9) rfl dX0_passHours_16 ?_
    refine lv_iload_n hx hb dX0_passHours_19 rfl (lv_at hl 1 rfl) ?_
    refine lv_iadd hx hb dX0_passHours_20 ?_
    refine lv_iload_n hx hb dX0_passHours_21 rfl (lv_at hl 2 rfl) ?_
    refine lv_icmp_le (tgt := 28) hx hb dX0_passHours_22 (by decide) (fun c_7 => ?_) (fun c_7 => ?_)
    · refine lv_iconst (v := 0) hx hb dX0_passHours_28 (by decide) ?_
      refine lv_istore_n (lv' := [(3, .int 0), (0, .ref h), (1, .int x1), (2, .int x2)]) hx hb dX0_passHours_29 rfl hl (by decide) rfl (fun ls hl => ?_)
      refine lv_iconst (v := 0) hx hb dX0_passHours_30 (by decide) ?_
      refine lv_istore (lv' := [(4, .int 0), (3, .int 0), (0, .ref h), (1, .int x1), (2, .int x2)]) hx hb dX0_passHours_31 hl (by decide) rfl (fun ls hl => ?_)
      refine lpX0_passHours (σ := σ) hx hb hml hown hts hC hCh0 hi hdj (fun H locs ls hSt hS hl => ?_) _ 0 (Nat.zero_add _) _ _ hSt hS ls (lv_sub hl [0, 1, 2, 3, 4] rfl)
      refine lv_iload_n hx hb dX0_passHours_123 rfl (lv_at hl 1 rfl) ?_
      exact W.iret (v := (upTo bX0_passHours (0, σ) x1.toNatClampNeg).1) hx hb hr (fun t ht hW => ⟨⟨(upTo bX0_passHours (0, σ) x1.toNatClampNeg).1, (upTo bX0_passHours (0, σ) x1.toNatClampNeg).2, rfl, ⟨(by unfold zX0_passHours; rw [if_neg c_6, if_pos c_7]), (by unfold zX0_passHours; rw [if_neg c_6, if_pos c_7])⟩, by dsimp only; rw [ht]; exact hSt⟩, hS.F ht⟩) hS.2.2 dX0_passHours_124
    · refine lv_bipush (v := (-3)) hx hb dX0_passHours_25 (by decide) ?_
      exact W.iret (v := (-3)) hx hb hr (fun t ht hW => ⟨⟨(-3), σ, rfl, ⟨(by unfold zX0_passHours; rw [if_neg c_6, if_neg c_7]), (by unfold zX0_passHours; rw [if_neg c_6, if_neg c_7])⟩, by dsimp only; rw [ht]; exact hSt⟩, hS.F ht⟩) hS.2.2 dX0_passHours_27
  · refine lv_iconst (v := (-1)) hx hb dX0_passHours_10 (by decide) ?_
    exact W.iret (v := (-1)) hx hb hr (fun t ht hW => ⟨⟨(-1), σ, rfl, ⟨(by unfold zX0_passHours; rw [if_pos c_6]), (by unfold zX0_passHours; rw [if_pos c_6])⟩, by dsimp only; rw [ht]; exact hSt⟩, hS.F ht⟩) hS.2.2 dX0_passHours_11
set_option maxHeartbeats 4000000 in
set_option maxRecDepth 100000 in
theorem kX0_passHours {p : Program} {l : Launch} {e : Env} {R : Room} {s : State} {m : MethodId} {args : Array Value} {below : List Frame} {meth : Method} {c : Code} {H : Heap} {locs : List Loc} {cells slots : Nat} {Q : State → Prop} {cc : ByteArray} {nL : Nat} {Ts : List Cond} {own : String} {index pc : Nat} {ls : Array Slot} {rest : List Value} {D : va_G} {y : Y3} {h : Nat} {ad : Nat → Nat} {σ : Sg} {x1 : Int32} {x2 : Int32} {A0 : Nat → Prop} {H0 : Heap} (hF : CallFix p m c cc nL s args Ts own) (cw : CallW R s args own RX0 index yX0_passHours cX0_passHours 6 (some .int) wsX0_passHours ({ frames := 4, cells := 0, slots := 0, locals := 92 } : Room) 0 0 2) (hC : CK D y s) (hCh : qoH D 0 h ad H) (hSt : StH D y ad σ H) (hi : adI ad) (hdj : (∀ k, k < 11 → ad k ≠ h)) (hS : va_S A0 H0 H locs) (hA : ∀ q, (stA ad) q → A0 q) (hsz : ls.size = nL) (hW : (rest.map fun v => v.category).sum ≤ 8) (hdg : decode cc pc = .ok (.invokevirtual index, 3)) (hf : cells ≤ R.cells ∧ slots ≤ R.slots)
    (k : ∀ (H1 : Heap) (locs1 : List Loc), StH D y ad (zX0_passHours σ x1 x2).2 H1 → H.size ≤ H1.size → (∀ q : Nat, q < H.size → ¬ (stA ad) q → H1[q]? = H[q]?) → va_S A0 H0 H1 locs1 → W p l e R s m args below meth c H1 locs1 cells slots Q (F0 m (pc + 3) ls (.int ((zX0_passHours σ x1 x2).1) :: rest))) : W p l e R s m args below meth c H locs cells slots Q (F0 m pc ls (.int x2 :: .int x1 :: .ref h :: rest)) := by
  refine va_calli (va_runV (As := [.int x1, .int x2]) (rest := rest) hF (mX0_passHours l D y h ad σ x1 x2) cw ⟨fun a U g mk q => by obtain ⟨q0, q1, q2, q3, q4, q5⟩ := q; exact ⟨q0, q1.call g mk a, q2, q3, q4, q5⟩, va_recv hC.1 hCh (ci := 0) (q0 := 0) rfl rfl, fun U hU hW => ⟨rfl, hC.warm hW, by rw [hU]; exact hCh, by rw [hU]; exact hSt, hi, hdj⟩⟩ rfl rfl hsz rfl (lv_room hW) hdg ⟨hf.1, hf.2⟩) hS (fun q _ h => hA q h) hA (fun r u t H1 locs1 ht hvm hp hB hz1 hk1 hS1 => ?_)
  obtain ⟨hp1, hp2⟩ := hp
  subst hp1; subst hp2
  rw [ht] at hB
  exact k H1 locs1 hB hz1 hk1 hS1
