def zX0_spoil (σ : Sg) (x1 : Int32) : Sg := if 1 < (zatt σ 1 x1 0) then zsto σ 1 x1 0 5
  else zsto (zrai σ 0 (zatt σ 1 x1 1) 8) 1 x1 0 5
theorem iwX0_spoil_X0 : ∀ w ∈ wsX00, w ∈ wsX0_spoil := fun _ h => List.mem_cons_of_mem _ (List.mem_append_left _ (List.mem_append_right _ h))
theorem hdX0_spoil : yX0_spoil.cls = RX0 ∧ yX0_spoil.cls ≠ "java/lang/invoke/MethodHandle" ∧ yX0_spoil.cls ≠ "java/lang/invoke/VarHandle" ∧ (parseMethodDescriptor yX0_spoil.desc).map (fun d => d.parameters.length) = some 1 := by decide +kernel
set_option maxHeartbeats 4000000 in
set_option maxRecDepth 100000 in
theorem mX0_spoil (l : Launch) (D : va_G) (y : Y3) (h : Nat) (ad : Nat → Nat) (σ : Sg) (x1 : Int32) : Met l yX0_spoil wsX0_spoil ({ frames := 2, cells := 0, slots := 0, locals := 46 } : Room) (va_Pc [.ref h, .int x1] (fun U => CK D y U ∧ qoH D 0 h ad U.heap ∧ StH D y ad σ U.heap ∧ adI ad ∧ (∀ k, k < 11 → ad k ≠ h))) (va_Qv (fun u : Sg => u = zX0_spoil σ x1) (fun u t => StH D y ad u t.heap) (stA ad)) 0 0 (stA ad) := by
  refine Met.ofW (cc := cX0_spoil) (maxL := 2) (ret := none) (by decide) rfl ?_
  intro p e s m args below meth c s₁ B hml hv
  obtain ⟨rfl, hC, hCh, hSt, hi, hdj⟩ := hv
  have hx := B.exec
  have hb := B.bytes
  have hr := B.returns
  have hts := atoms_spec (ws := wsX0_spoil) B.pre
  have hown : s.vm.findClass RX0 = some m.cls := findClass_of_methodNamed B.named
  have hlocks := B.notSynchronized
  have hF := (⟨hx, hb, hml, hown, hts⟩ : CallFix p m c cX0_spoil 2 s _ wsX0_spoil RX0)
  have hS : va_S (stA ad) s.heap s.heap [] := va_S.rf
  have hl := lv_entry ([.ref h, .int x1]) (n := 2) (Nat.le_of_ble_eq_true rfl)
  rw [lg_entry_eq]
  generalize (lg_sl ([.ref h, .int x1]) ++ List.replicate (2 - (lg_sl ([.ref h, .int x1])).length) Slot.unset).toArray = ls at hl ⊢
  have hl : lv_has ls 2 [(0, .ref h), (1, .int x1)] := hl
  have hCh0 := hCh
  refine lv_aload_n hx hb dX0_spoil_0 rfl (lv_at hl 0 rfl) ?_
  refine va_get (D := D) (ci := 0) (v := .ref (ad 3)) (C := RX0) (T := TX0) (N := 5) hx hb hts iwX0_spoil_X0 hown hC.1 hCh 0 rfl rfl 2 (by decide) (hts (.fieldLink RX0 25 "MealLockers$Changes" "meals" "LMealLockers$Table;") (List.mem_of_getElem? (i := 1) rfl)) (fun _ h9 => h9) rfl dX0_spoil_1 ?_
  refine lv_iload_n hx hb dX0_spoil_4 rfl (lv_at hl 1 rfl) ?_
  refine lv_iconst (v := 0) hx hb dX0_spoil_5 (by decide) ?_
  refine sX5_at (k := 1) hF (cwV 2 hts gX0_spoil_X5_at rfl rfl rfl hdX5_at ⟨Nat.le_of_ble_eq_true rfl, Nat.le_of_ble_eq_true rfl⟩) hC hSt (by decide) hl.1 (Nat.le_of_ble_eq_true rfl) dX0_spoil_6 ⟨Nat.zero_le _, Nat.zero_le _⟩ ?_
  refine lv_iconst (v := 1) hx hb dX0_spoil_9 (by decide) ?_
  refine lv_icmp_gt (tgt := 31) hx hb dX0_spoil_10 (by decide) (fun c_1 => ?_) (fun c_1 => ?_)
  · refine lv_aload_n hx hb dX0_spoil_31 rfl (lv_at hl 0 rfl) ?_
    refine va_get (D := D) (ci := 0) (v := .ref (ad 3)) (C := RX0) (T := TX0) (N := 5) hx hb hts iwX0_spoil_X0 hown hC.1 hCh 0 rfl rfl 2 (by decide) (hts (.fieldLink RX0 25 "MealLockers$Changes" "meals" "LMealLockers$Table;") (List.mem_of_getElem? (i := 1) rfl)) (fun _ h9 => h9) rfl dX0_spoil_32 ?_
    refine lv_iload_n hx hb dX0_spoil_35 rfl (lv_at hl 1 rfl) ?_
    refine lv_iconst (v := 0) hx hb dX0_spoil_36 (by decide) ?_
    refine lv_iconst (v := 5) hx hb dX0_spoil_37 (by decide) ?_
    refine sX5_store (k := 1) hF (cwV 3 hts gX0_spoil_X5_store rfl rfl rfl hdX5_store ⟨Nat.le_of_ble_eq_true rfl, Nat.le_of_ble_eq_true rfl⟩) hC hSt hi (by decide) hS (fun _ h => h) hl.1 (Nat.le_of_ble_eq_true rfl) dX0_spoil_38 ⟨Nat.zero_le _, Nat.zero_le _⟩ (fun H locs hSt _ _ hS => ?_)
    have hCh := qo_at hS hCh0 hdj
    exact W.vret hx hb hr (fun t ht hW => ⟨⟨zsto σ 1 x1 0 5, rfl, (by unfold zX0_spoil; rw [if_pos c_1]), by dsimp only; rw [ht]; exact hSt⟩, hS.F ht⟩) hS.2.2 dX0_spoil_41
  · refine lv_aload_n hx hb dX0_spoil_13 rfl (lv_at hl 0 rfl) ?_
    refine va_get (D := D) (ci := 0) (v := .ref (ad 1)) (C := RX0) (T := TX0) (N := 5) hx hb hts iwX0_spoil_X0 hown hC.1 hCh 0 rfl rfl 1 (by decide) (hts (.fieldLink RX0 21 "MealLockers$Changes" "lockers" "LMealLockers$Table;") (List.mem_of_getElem? (i := 2) rfl)) (fun _ h9 => h9) rfl dX0_spoil_14 ?_
    refine lv_aload_n hx hb dX0_spoil_17 rfl (lv_at hl 0 rfl) ?_
    refine va_get (D := D) (ci := 0) (v := .ref (ad 3)) (C := RX0) (T := TX0) (N := 5) hx hb hts iwX0_spoil_X0 hown hC.1 hCh 0 rfl rfl 2 (by decide) (hts (.fieldLink RX0 25 "MealLockers$Changes" "meals" "LMealLockers$Table;") (List.mem_of_getElem? (i := 1) rfl)) (fun _ h9 => h9) rfl dX0_spoil_18 ?_
    refine lv_iload_n hx hb dX0_spoil_21 rfl (lv_at hl 1 rfl) ?_
    refine lv_iconst (v := 1) hx hb dX0_spoil_22 (by decide) ?_
    refine sX5_at (k := 1) hF (cwV 2 hts gX0_spoil_X5_at rfl rfl rfl hdX5_at ⟨Nat.le_of_ble_eq_true rfl, Nat.le_of_ble_eq_true rfl⟩) hC hSt (by decide) hl.1 (Nat.le_of_ble_eq_true rfl) dX0_spoil_23 ⟨Nat.zero_le _, Nat.zero_le _⟩ ?_
    refine lv_bipush (v := 8) hx hb dX0_spoil_26 (by decide) ?_
    refine sX5_raise (k := 0) hF (cwV 2 hts gX0_spoil_X5_raise rfl rfl rfl hdX5_raise ⟨Nat.le_of_ble_eq_true rfl, Nat.le_of_ble_eq_true rfl⟩) hC hSt hi (by decide) hS (fun _ h => h) hl.1 (Nat.le_of_ble_eq_true rfl) dX0_spoil_28 ⟨Nat.zero_le _, Nat.zero_le _⟩ (fun H locs hSt _ _ hS => ?_)
    have hCh := qo_at hS hCh0 hdj
    refine lv_aload_n hx hb dX0_spoil_31 rfl (lv_at hl 0 rfl) ?_
    refine va_get (D := D) (ci := 0) (v := .ref (ad 3)) (C := RX0) (T := TX0) (N := 5) hx hb hts iwX0_spoil_X0 hown hC.1 hCh 0 rfl rfl 2 (by decide) (hts (.fieldLink RX0 25 "MealLockers$Changes" "meals" "LMealLockers$Table;") (List.mem_of_getElem? (i := 1) rfl)) (fun _ h9 => h9) rfl dX0_spoil_32 ?_
    refine lv_iload_n hx hb dX0_spoil_35 rfl (lv_at hl 1 rfl) ?_
    refine lv_iconst (v := 0) hx hb dX0_spoil_36 (by decide) ?_
    refine lv_iconst (v := 5) hx hb dX0_spoil_37 (by decide) ?_
    refine sX5_store (k := 1) hF (cwV 3 hts gX0_spoil_X5_store rfl rfl rfl hdX5_store ⟨Nat.le_of_ble_eq_true rfl, Nat.le_of_ble_eq_true rfl⟩) hC hSt hi (by decide) hS (fun _ h => h) hl.1 (Nat.le_of_ble_eq_true rfl) dX0_spoil_38 ⟨Nat.zero_le _, Nat.zero_le _⟩ (fun H locs hSt _ _ hS => ?_)
    have hCh := qo_at hS hCh0 hdj
    exact W.vret hx hb hr (fun t ht hW => ⟨⟨zsto (zrai σ 0 (zatt σ 1 x1 1) 8) 1 x1 0 5, rfl, (by unfold zX0_spoil; rw [if_neg c_1]), by dsimp only; rw [ht]; exact hSt⟩, hS.F ht⟩) hS.2.2 dX0_spoil_41
set_option maxHeartbeats 4000000 in
set_option maxRecDepth 100000 in
theorem kX0_spoil {p : Program} {l : Launch} {e : Env} {R : Room} {s : State} {m : MethodId} {args : Array Value} {below : List Frame} {meth : Method} {c : Code} {H : Heap} {locs : List Loc} {cells slots : Nat} {Q : State → Prop} {cc : ByteArray} {nL : Nat} {Ts : List Cond} {own : String} {index pc : Nat} {ls : Array Slot} {rest : List Value} {D : va_G} {y : Y3} {h : Nat} {ad : Nat → Nat} {σ : Sg} {x1 : Int32} {A0 : Nat → Prop} {H0 : Heap} (hF : CallFix p m c cc nL s args Ts own) (cw : CallW R s args own RX0 index yX0_spoil cX0_spoil 2 none wsX0_spoil ({ frames := 2, cells := 0, slots := 0, locals := 46 } : Room) 0 0 1) (hC : CK D y s) (hCh : qoH D 0 h ad H) (hSt : StH D y ad σ H) (hi : adI ad) (hdj : (∀ k, k < 11 → ad k ≠ h)) (hS : va_S A0 H0 H locs) (hA : ∀ q, (stA ad) q → A0 q) (hsz : ls.size = nL) (hW : (rest.map fun v => v.category).sum ≤ 8) (hdg : decode cc pc = .ok (.invokevirtual index, 3)) (hf : cells ≤ R.cells ∧ slots ≤ R.slots)
    (k : ∀ (H1 : Heap) (locs1 : List Loc), StH D y ad (zX0_spoil σ x1) H1 → H.size ≤ H1.size → (∀ q : Nat, q < H.size → ¬ (stA ad) q → H1[q]? = H[q]?) → va_S A0 H0 H1 locs1 → W p l e R s m args below meth c H1 locs1 cells slots Q (F0 m (pc + 3) ls (rest))) : W p l e R s m args below meth c H locs cells slots Q (F0 m pc ls (.int x1 :: .ref h :: rest)) := by
  refine va_callv (va_runV (As := [.int x1]) (rest := rest) hF (mX0_spoil l D y h ad σ x1) cw ⟨fun a U g mk q => by obtain ⟨q0, q1, q2, q3, q4, q5⟩ := q; exact ⟨q0, q1.call g mk a, q2, q3, q4, q5⟩, va_recv hC.1 hCh (ci := 0) (q0 := 0) rfl rfl, fun U hU hW => ⟨rfl, hC.warm hW, by rw [hU]; exact hCh, by rw [hU]; exact hSt, hi, hdj⟩⟩ rfl rfl hsz rfl (lv_room hW) hdg ⟨hf.1, hf.2⟩) hS (fun q _ h => hA q h) hA (fun u t H1 locs1 ht hvm hp hB hz1 hk1 hS1 => ?_)
  subst hp
  rw [ht] at hB
  exact k H1 locs1 hB hz1 hk1 hS1
theorem r5X0_spoil (σ : Sg) (x1 : Int32) : zX0_spoil σ x1 5 = σ 5 := by
  unfold zX0_spoil
  (repeat' split) <;> rfl
theorem r5X0_bstow (x1 x2 x3 : Int32) (i : Nat) (v : Int32 × Sg) : (bX0_stowMeals x1 x2 x3 i v).2 5 = v.2 5 := by
  unfold bX0_stowMeals
  (repeat' split) <;> rfl
theorem r5X0_wstow (x1 x2 x3 : Int32) : ∀ (n i : Nat) (v : Int32 × Sg), (wX0_stowMeals x1 x2 x3 n i v).2 5 = v.2 5 := by
  intro n
  induction n with
  | zero => intro i v; rfl
  | succ n ih =>
    intro i v
    by_cases h : x3 ≤ v.1
    · rw [wX0_stop h]
    · rw [wX0_go h, ih, r5X0_bstow]
theorem r5X0_stowMeals (σ : Sg) (x1 : Int32) : (zX0_stowMeals σ x1).2 5 = σ 5 := r5X0_wstow _ _ _ _ _ _
def bX0_spoilMealsOfThisHour  (i : Nat) (v : Int32 × Sg) : Int32 × Sg := if (zatt v.2 1 (nI i) 0) ≤ 2 then (if 1 < (zatt v.2 1 (nI i) 0) then (if 0 < ((zatt v.2 1 (nI i) 2) - 2) then (v.1, zsto v.2 1 (nI i) 2 (zmax 0 ((zatt v.2 1 (nI i) 2) - 2)))
      else ((v.1 + 1), (zX0_spoil (zsto v.2 1 (nI i) 2 (zmax 0 ((zatt v.2 1 (nI i) 2) - 2))) (nI i))))
    else (if (zX4_isCold v.2 (zatt v.2 1 (nI i) 1)) = 0 then (if 0 < ((zatt v.2 1 (nI i) 2) - 2) then (v.1, zsto v.2 1 (nI i) 2 (zmax 0 ((zatt v.2 1 (nI i) 2) - 2)))
        else ((v.1 + 1), (zX0_spoil (zsto v.2 1 (nI i) 2 (zmax 0 ((zatt v.2 1 (nI i) 2) - 2))) (nI i))))
      else (if 0 < ((zatt v.2 1 (nI i) 2) - 1) then (v.1, zsto v.2 1 (nI i) 2 (zmax 0 ((zatt v.2 1 (nI i) 2) - 1)))
        else ((v.1 + 1), (zX0_spoil (zsto v.2 1 (nI i) 2 (zmax 0 ((zatt v.2 1 (nI i) 2) - 1))) (nI i))))))
  else (v.1, v.2)
theorem r5X0_blose (i : Nat) (v : Int32 × Sg) : (bX0_spoilMealsOfThisHour i v).2 5 = v.2 5 := by
  unfold bX0_spoilMealsOfThisHour
  (repeat' split) <;> first | rfl | (dsimp only; rw [r5X0_spoil]; rfl)
theorem r5X0_ulose (σ : Sg) (n : Nat) : (upTo bX0_spoilMealsOfThisHour (0, σ) n).2 5 = σ 5 := upTo_inv (fun v : Int32 × Sg => v.2 5 = σ 5) rfl (fun i v h => (r5X0_blose i v).trans h) n
def zX0_spoilMealsOfThisHour (σ : Sg) : Int32 × Sg := (upTo bX0_spoilMealsOfThisHour (0, σ) (σ 5 1).toNatClampNeg)
theorem iwX0_spoilMealsOfThisHour_X0 : ∀ w ∈ wsX00, w ∈ wsX0_spoilMealsOfThisHour := fun _ h => List.mem_cons_of_mem _ (List.mem_append_left _ (List.mem_append_left _ (List.mem_append_right _ h)))
theorem hdX0_spoilMealsOfThisHour : yX0_spoilMealsOfThisHour.cls = RX0 ∧ yX0_spoilMealsOfThisHour.cls ≠ "java/lang/invoke/MethodHandle" ∧ yX0_spoilMealsOfThisHour.cls ≠ "java/lang/invoke/VarHandle" ∧ (parseMethodDescriptor yX0_spoilMealsOfThisHour.desc).map (fun d => d.parameters.length) = some 0 := by decide +kernel
set_option maxHeartbeats 4000000 in
set_option maxRecDepth 100000 in
theorem lpX0_spoilMealsOfThisHour {p : Program} {l : Launch} {e : Env} {s : State} {m : MethodId} {args : Array Value} {below : List Frame} {meth : Method} {c : Code} {Q : State → Prop} {D : va_G} {y : Y3} {h : Nat} {ad : Nat → Nat} {σ : Sg} (hx : p.tables.exec = Jvm.exec) (hb : c.code = cX0_spoilMealsOfThisHour) (hml : c.maxLocals = 6) (hown : s.vm.findClass RX0 = some m.cls) (hts : ∀ w ∈ wsX0_spoilMealsOfThisHour, w.before args s = true) (hC : CK D y s) (hCh0 : qoH D 0 h ad s.heap) (hi : adI ad) (hdj : ∀ k, k < 11 → ad k ≠ h) (hrow : ∀ i : Nat, (upTo (bX0_spoilMealsOfThisHour) (0, σ) i).2 5 = σ 5)
    (K : ∀ (H : Heap) (locs : List Loc) (ls : Array Slot), StH D y ad ((upTo (bX0_spoilMealsOfThisHour) (0, σ) ((σ 5 1).toNatClampNeg)).2) H → va_S (stA ad) s.heap H locs → lv_has ls 6 [(2, .int (nI (σ 5 1).toNatClampNeg)), (1, .int ((upTo (bX0_spoilMealsOfThisHour) (0, σ) ((σ 5 1).toNatClampNeg)).1)), (0, .ref h)] → W p l e (headSpec wsX0_spoilMealsOfThisHour ({ frames := 3, cells := 0, slots := 0, locals := 67 } : Room)).room s m args below meth c H locs 0 0 Q (F0 m 120 ls [])) :
    ∀ (j i : Nat), i + j = (σ 5 1).toNatClampNeg → ∀ (H : Heap) (locs : List Loc), StH D y ad ((upTo (bX0_spoilMealsOfThisHour) (0, σ) i).2) H → va_S (stA ad) s.heap H locs → ∀ ls : Array Slot, lv_has ls 6 [(2, .int (nI i)), (1, .int ((upTo (bX0_spoilMealsOfThisHour) (0, σ) i).1)), (0, .ref h)] → W p l e (headSpec wsX0_spoilMealsOfThisHour ({ frames := 3, cells := 0, slots := 0, locals := 67 } : Room)).room s m args below meth c H locs 0 0 Q (F0 m 4 ls []) := by
  have hF := (⟨hx, hb, hml, hown, hts⟩ : CallFix p m c cX0_spoilMealsOfThisHour 6 s args wsX0_spoilMealsOfThisHour RX0)
  have hN := clamp_lt (σ 5 1)
  intro j
  induction j with
  | zero =>
    intro i hin H locs hSt hS ls hl
    have hCh := qo_at hS hCh0 hdj
    obtain rfl : i = (σ 5 1).toNatClampNeg := by omega
    have hw := hrow ((σ 5 1).toNatClampNeg)
    refine lv_iload_n hx hb dX0_spoilMealsOfThisHour_4 rfl (lv_at hl 0 rfl) ?_
    refine lv_aload_n hx hb dX0_spoilMealsOfThisHour_5 rfl (lv_at hl 2 rfl) ?_
    refine va_get (D := D) (ci := 0) (v := .ref (ad 3)) (C := RX0) (T := TX0) (N := 5) hx hb hts iwX0_spoilMealsOfThisHour_X0 hown hC.1 hCh 0 rfl rfl 2 (by decide) (hts (.fieldLink RX0 25 "MealLockers$Changes" "meals" "LMealLockers$Table;") (List.mem_of_getElem? (i := 1) rfl)) (fun _ h9 => h9) rfl dX0_spoilMealsOfThisHour_6 ?_
    refine sX5_size (k := 1) hF (cwV 0 hts gX0_spoilMealsOfThisHour_X5_size rfl rfl rfl hdX5_size ⟨Nat.le_of_ble_eq_true rfl, Nat.le_of_ble_eq_true rfl⟩) hC hSt (by decide) hl.1 (Nat.le_of_ble_eq_true rfl) dX0_spoilMealsOfThisHour_9 ⟨Nat.zero_le _, Nat.zero_le _⟩ ?_
    refine lv_icmp_ge (tgt := 120) hx hb dX0_spoilMealsOfThisHour_12 (by decide) (fun _ => ?_) (fun c_1 => absurd (by rw [hw]; exact up_le _) c_1)
    exact K H locs ls hSt hS (lv_sub hl [0, 1, 2] rfl)
  | succ j ih =>
    intro i hin H locs hSt hS ls hl
    have hCh := qo_at hS hCh0 hdj
    have hw := hrow i
    obtain ⟨v, hv⟩ : ∃ v, v = (upTo (bX0_spoilMealsOfThisHour) (0, σ) i) := ⟨_, rfl⟩
    rw [← hv] at hSt hl hw
    refine lv_iload_n hx hb dX0_spoilMealsOfThisHour_4 rfl (lv_at hl 0 rfl) ?_
    refine lv_aload_n hx hb dX0_spoilMealsOfThisHour_5 rfl (lv_at hl 2 rfl) ?_
    refine va_get (D := D) (ci := 0) (v := .ref (ad 3)) (C := RX0) (T := TX0) (N := 5) hx hb hts iwX0_spoilMealsOfThisHour_X0 hown hC.1 hCh 0 rfl rfl 2 (by decide) (hts (.fieldLink RX0 25 "MealLockers$Changes" "meals" "LMealLockers$Table;") (List.mem_of_getElem? (i := 1) rfl)) (fun _ h9 => h9) rfl dX0_spoilMealsOfThisHour_6 ?_
    refine sX5_size (k := 1) hF (cwV 0 hts gX0_spoilMealsOfThisHour_X5_size rfl rfl rfl hdX5_size ⟨Nat.le_of_ble_eq_true rfl, Nat.le_of_ble_eq_true rfl⟩) hC hSt (by decide) hl.1 (Nat.le_of_ble_eq_true rfl) dX0_spoilMealsOfThisHour_9 ⟨Nat.zero_le _, Nat.zero_le _⟩ ?_
    refine lv_icmp_ge (tgt := 120) hx hb dX0_spoilMealsOfThisHour_12 (by decide) (fun c_2 => absurd c_2 (by rw [hw]; exact up_gt (by omega))) (fun _ => ?_)
    refine lv_aload_n hx hb dX0_spoilMealsOfThisHour_15 rfl (lv_at hl 2 rfl) ?_
    refine va_get (D := D) (ci := 0) (v := .ref (ad 3)) (C := RX0) (T := TX0) (N := 5) hx hb hts iwX0_spoilMealsOfThisHour_X0 hown hC.1 hCh 0 rfl rfl 2 (by decide) (hts (.fieldLink RX0 25 "MealLockers$Changes" "meals" "LMealLockers$Table;") (List.mem_of_getElem? (i := 1) rfl)) (fun _ h9 => h9) rfl dX0_spoilMealsOfThisHour_16 ?_
    refine lv_iload_n hx hb dX0_spoilMealsOfThisHour_19 rfl (lv_at hl 0 rfl) ?_
    refine lv_iconst (v := 0) hx hb dX0_spoilMealsOfThisHour_20 (by decide) ?_
    refine sX5_at (k := 1) hF (cwV 2 hts gX0_spoilMealsOfThisHour_X5_at rfl rfl rfl hdX5_at ⟨Nat.le_of_ble_eq_true rfl, Nat.le_of_ble_eq_true rfl⟩) hC hSt (by decide) hl.1 (Nat.le_of_ble_eq_true rfl) dX0_spoilMealsOfThisHour_21 ⟨Nat.zero_le _, Nat.zero_le _⟩ ?_
    refine lv_istore_n (lv' := [(3, .int (zatt v.2 1 (nI i) 0)), (2, .int (nI i)), (1, .int v.1), (0, .ref h)]) hx hb dX0_spoilMealsOfThisHour_24 rfl hl (by decide) rfl (fun ls hl => ?_)
    refine lv_iload_n hx hb dX0_spoilMealsOfThisHour_25 rfl (lv_at hl 0 rfl) ?_
    refine lv_iconst (v := 2) hx hb dX0_spoilMealsOfThisHour_26 (by decide) ?_
    refine lv_icmp_le (tgt := 33) hx hb dX0_spoilMealsOfThisHour_27 (by decide) (fun c_3 => ?_) (fun c_3 => ?_)
    · refine lv_iload_n hx hb dX0_spoilMealsOfThisHour_33 rfl (lv_at hl 0 rfl) ?_
      refine lv_iconst (v := 1) hx hb dX0_spoilMealsOfThisHour_34 (by decide) ?_
      refine lv_icmp_gt (tgt := 61) hx hb dX0_spoilMealsOfThisHour_35 (by decide) (fun c_4 => ?_) (fun c_4 => ?_)
      · refine lv_iconst (v := 0) hx hb dX0_spoilMealsOfThisHour_61 (by decide) ?_
        refine lv_istore (lv' := [(4, .int 0), (3, .int (zatt v.2 1 (nI i) 0)), (2, .int (nI i)), (1, .int v.1), (0, .ref h)]) hx hb dX0_spoilMealsOfThisHour_62 hl (by decide) rfl (fun ls hl => ?_)
        refine lv_aload_n hx hb dX0_spoilMealsOfThisHour_64 rfl (lv_at hl 4 rfl) ?_
        refine va_get (D := D) (ci := 0) (v := .ref (ad 3)) (C := RX0) (T := TX0) (N := 5) hx hb hts iwX0_spoilMealsOfThisHour_X0 hown hC.1 hCh 0 rfl rfl 2 (by decide) (hts (.fieldLink RX0 25 "MealLockers$Changes" "meals" "LMealLockers$Table;") (List.mem_of_getElem? (i := 1) rfl)) (fun _ h9 => h9) rfl dX0_spoilMealsOfThisHour_65 ?_
        refine lv_iload_n hx hb dX0_spoilMealsOfThisHour_68 rfl (lv_at hl 2 rfl) ?_
        refine lv_iconst (v := 2) hx hb dX0_spoilMealsOfThisHour_69 (by decide) ?_
        refine sX5_at (k := 1) hF (cwV 2 hts gX0_spoilMealsOfThisHour_X5_at rfl rfl rfl hdX5_at ⟨Nat.le_of_ble_eq_true rfl, Nat.le_of_ble_eq_true rfl⟩) hC hSt (by decide) hl.1 (Nat.le_of_ble_eq_true rfl) dX0_spoilMealsOfThisHour_70 ⟨Nat.zero_le _, Nat.zero_le _⟩ ?_
        refine lv_iload hx hb dX0_spoilMealsOfThisHour_73 (lv_at hl 0 rfl) ?_
        refine lv_if_eq (tgt := 82) hx hb dX0_spoilMealsOfThisHour_75 (by decide) (fun _ => ?_) (fun c_5 => absurd (by decide) c_5)
        refine lv_iconst (v := 2) hx hb dX0_spoilMealsOfThisHour_82 (by decide) ?_
        refine lv_isub hx hb dX0_spoilMealsOfThisHour_83 ?_
        refine lv_istore (lv' := [(5, .int ((zatt v.2 1 (nI i) 2) - 2)), (4, .int 0), (3, .int (zatt v.2 1 (nI i) 0)), (2, .int (nI i)), (1, .int v.1), (0, .ref h)]) hx hb dX0_spoilMealsOfThisHour_84 hl (by decide) rfl (fun ls hl => ?_)
        refine lv_aload_n hx hb dX0_spoilMealsOfThisHour_86 rfl (lv_at hl 5 rfl) ?_
        refine va_get (D := D) (ci := 0) (v := .ref (ad 3)) (C := RX0) (T := TX0) (N := 5) hx hb hts iwX0_spoilMealsOfThisHour_X0 hown hC.1 hCh 0 rfl rfl 2 (by decide) (hts (.fieldLink RX0 25 "MealLockers$Changes" "meals" "LMealLockers$Table;") (List.mem_of_getElem? (i := 1) rfl)) (fun _ h9 => h9) rfl dX0_spoilMealsOfThisHour_87 ?_
        refine lv_iload_n hx hb dX0_spoilMealsOfThisHour_90 rfl (lv_at hl 3 rfl) ?_
        refine lv_iconst (v := 2) hx hb dX0_spoilMealsOfThisHour_91 (by decide) ?_
        refine lv_iconst (v := 0) hx hb dX0_spoilMealsOfThisHour_92 (by decide) ?_
        refine lv_iload hx hb dX0_spoilMealsOfThisHour_93 (lv_at hl 0 rfl) ?_
        refine va_mmax hx hb (hml.trans hl.1.symm) hown (hts (.methodLink RX0 118 Lib.Math.max.name) (List.mem_of_getElem? (i := 3) rfl)) (hts (.static Lib.Math.max.name) (List.mem_of_getElem? (i := 4) rfl)) (hts (.initialized "java/lang/Math") (List.mem_of_getElem? (i := 5) rfl)) (hts (.code Lib.Math.max.name Lib.Math.max.code 2 (some .int)) (List.mem_of_getElem? (i := 6) rfl)) (Nat.le_of_ble_eq_true rfl) (Nat.le_of_ble_eq_true rfl) (Nat.zero_le _) (Nat.zero_le _) dX0_spoilMealsOfThisHour_95 ?_
        refine sX5_store (k := 1) hF (cwV 3 hts gX0_spoilMealsOfThisHour_X5_store rfl rfl rfl hdX5_store ⟨Nat.le_of_ble_eq_true rfl, Nat.le_of_ble_eq_true rfl⟩) hC hSt hi (by decide) hS (fun _ h => h) hl.1 (Nat.le_of_ble_eq_true rfl) dX0_spoilMealsOfThisHour_98 ⟨Nat.zero_le _, Nat.zero_le _⟩ (fun H locs hSt _ _ hS => ?_)
        have hCh := qo_at hS hCh0 hdj
        refine lv_iload hx hb dX0_spoilMealsOfThisHour_101 (lv_at hl 0 rfl) ?_
        refine lv_if_gt (tgt := 114) hx hb dX0_spoilMealsOfThisHour_103 (by decide) (fun c_6 => ?_) (fun c_6 => ?_)
        · refine lv_iinc (v := (nI (i + 1))) (lv' := [(2, .int (nI (i + 1))), (5, .int ((zatt v.2 1 (nI i) 2) - 2)), (4, .int 0), (3, .int (zatt v.2 1 (nI i) 0)), (1, .int v.1), (0, .ref h)]) hx hb dX0_spoilMealsOfThisHour_114 hl (k := 3) rfl (by rw [nI_succ]; rfl) (by decide) rfl (fun ls hl => ?_)
          refine lv_goto (tgt := 4) hx hb dX0_spoilMealsOfThisHour_117 (by decide) ?_
          have e9 : (upTo (bX0_spoilMealsOfThisHour) (0, σ) (i + 1)) = (v.1, zsto v.2 1 (nI i) 2 (zmax 0 ((zatt v.2 1 (nI i) 2) - 2))) := by show bX0_spoilMealsOfThisHour i (upTo (bX0_spoilMealsOfThisHour) (0, σ) i) = _; rw [← hv]; unfold bX0_spoilMealsOfThisHour; rw [if_pos c_3, if_pos c_4, if_pos c_6]
          exact ih (i + 1) (by omega) H locs (by rw [e9]; exact hSt) hS ls (by rw [e9]; exact lv_sub hl [0, 4, 5] rfl)
        · refine lv_aload_n hx hb dX0_spoilMealsOfThisHour_106 rfl (lv_at hl 5 rfl) ?_
          refine lv_iload_n hx hb dX0_spoilMealsOfThisHour_107 rfl (lv_at hl 3 rfl) ?_
          refine kX0_spoil hF (cwV 1 hts gX0_spoilMealsOfThisHour_X0_spoil rfl rfl rfl hdX0_spoil ⟨Nat.le_of_ble_eq_true rfl, Nat.le_of_ble_eq_true rfl⟩) hC hCh hSt hi hdj hS (fun _ h => h) hl.1 (Nat.le_of_ble_eq_true rfl) dX0_spoilMealsOfThisHour_108 ⟨Nat.zero_le _, Nat.zero_le _⟩ (fun H locs hSt _ _ hS => ?_)
          have hCh := qo_at hS hCh0 hdj
          refine lv_iinc (v := (v.1 + 1)) (lv' := [(1, .int (v.1 + 1)), (5, .int ((zatt v.2 1 (nI i) 2) - 2)), (4, .int 0), (3, .int (zatt v.2 1 (nI i) 0)), (2, .int (nI i)), (0, .ref h)]) hx hb dX0_spoilMealsOfThisHour_111 hl (k := 4) rfl rfl (by decide) rfl (fun ls hl => ?_)
          refine lv_iinc (v := (nI (i + 1))) (lv' := [(2, .int (nI (i + 1))), (1, .int (v.1 + 1)), (5, .int ((zatt v.2 1 (nI i) 2) - 2)), (4, .int 0), (3, .int (zatt v.2 1 (nI i) 0)), (0, .ref h)]) hx hb dX0_spoilMealsOfThisHour_114 hl (k := 4) rfl (by rw [nI_succ]; rfl) (by decide) rfl (fun ls hl => ?_)
          refine lv_goto (tgt := 4) hx hb dX0_spoilMealsOfThisHour_117 (by decide) ?_
          have e9 : (upTo (bX0_spoilMealsOfThisHour) (0, σ) (i + 1)) = ((v.1 + 1), (zX0_spoil (zsto v.2 1 (nI i) 2 (zmax 0 ((zatt v.2 1 (nI i) 2) - 2))) (nI i))) := by show bX0_spoilMealsOfThisHour i (upTo (bX0_spoilMealsOfThisHour) (0, σ) i) = _; rw [← hv]; unfold bX0_spoilMealsOfThisHour; rw [if_pos c_3, if_pos c_4, if_neg c_6]
          exact ih (i + 1) (by omega) H locs (by rw [e9]; exact hSt) hS ls (by rw [e9]; exact lv_sub hl [0, 1, 5] rfl)
      · refine lv_aload_n hx hb dX0_spoilMealsOfThisHour_38 rfl (lv_at hl 3 rfl) ?_
        refine va_get (D := D) (ci := 0) (v := .ref (ad 0)) (C := RX0) (T := TX0) (N := 5) hx hb hts iwX0_spoilMealsOfThisHour_X0 hown hC.1 hCh 0 rfl rfl 0 (by decide) (hts (.fieldLink RX0 9 "MealLockers$Changes" "state" "LMealLockers$State;") (List.mem_of_getElem? (i := 2) rfl)) (fun _ h9 => h9) rfl dX0_spoilMealsOfThisHour_39 ?_
        refine lv_aload_n hx hb dX0_spoilMealsOfThisHour_42 rfl (lv_at hl 3 rfl) ?_
        refine va_get (D := D) (ci := 0) (v := .ref (ad 3)) (C := RX0) (T := TX0) (N := 5) hx hb hts iwX0_spoilMealsOfThisHour_X0 hown hC.1 hCh 0 rfl rfl 2 (by decide) (hts (.fieldLink RX0 25 "MealLockers$Changes" "meals" "LMealLockers$Table;") (List.mem_of_getElem? (i := 1) rfl)) (fun _ h9 => h9) rfl dX0_spoilMealsOfThisHour_43 ?_
        refine lv_iload_n hx hb dX0_spoilMealsOfThisHour_46 rfl (lv_at hl 1 rfl) ?_
        refine lv_iconst (v := 1) hx hb dX0_spoilMealsOfThisHour_47 (by decide) ?_
        refine sX5_at (k := 1) hF (cwV 2 hts gX0_spoilMealsOfThisHour_X5_at rfl rfl rfl hdX5_at ⟨Nat.le_of_ble_eq_true rfl, Nat.le_of_ble_eq_true rfl⟩) hC hSt (by decide) hl.1 (Nat.le_of_ble_eq_true rfl) dX0_spoilMealsOfThisHour_48 ⟨Nat.zero_le _, Nat.zero_le _⟩ ?_
        refine kX4_isCold hF (cwV 1 hts gX0_spoilMealsOfThisHour_X4_isCold rfl rfl rfl hdX4_isCold ⟨Nat.le_of_ble_eq_true rfl, Nat.le_of_ble_eq_true rfl⟩) hC hSt hl.1 (Nat.le_of_ble_eq_true rfl) dX0_spoilMealsOfThisHour_51 ⟨Nat.zero_le _, Nat.zero_le _⟩ ?_
        refine lv_if_eq (tgt := 61) hx hb dX0_spoilMealsOfThisHour_54 (by decide) (fun c_7 => ?_) (fun c_7 => ?_)
        · refine lv_iconst (v := 0) hx hb dX0_spoilMealsOfThisHour_61 (by decide) ?_
          refine lv_istore (lv' := [(4, .int 0), (3, .int (zatt v.2 1 (nI i) 0)), (2, .int (nI i)), (1, .int v.1), (0, .ref h)]) hx hb dX0_spoilMealsOfThisHour_62 hl (by decide) rfl (fun ls hl => ?_)
          refine lv_aload_n hx hb dX0_spoilMealsOfThisHour_64 rfl (lv_at hl 4 rfl) ?_
          refine va_get (D := D) (ci := 0) (v := .ref (ad 3)) (C := RX0) (T := TX0) (N := 5) hx hb hts iwX0_spoilMealsOfThisHour_X0 hown hC.1 hCh 0 rfl rfl 2 (by decide) (hts (.fieldLink RX0 25 "MealLockers$Changes" "meals" "LMealLockers$Table;") (List.mem_of_getElem? (i := 1) rfl)) (fun _ h9 => h9) rfl dX0_spoilMealsOfThisHour_65 ?_
          refine lv_iload_n hx hb dX0_spoilMealsOfThisHour_68 rfl (lv_at hl 2 rfl) ?_
          refine lv_iconst (v := 2) hx hb dX0_spoilMealsOfThisHour_69 (by decide) ?_
          refine sX5_at (k := 1) hF (cwV 2 hts gX0_spoilMealsOfThisHour_X5_at rfl rfl rfl hdX5_at ⟨Nat.le_of_ble_eq_true rfl, Nat.le_of_ble_eq_true rfl⟩) hC hSt (by decide) hl.1 (Nat.le_of_ble_eq_true rfl) dX0_spoilMealsOfThisHour_70 ⟨Nat.zero_le _, Nat.zero_le _⟩ ?_
          refine lv_iload hx hb dX0_spoilMealsOfThisHour_73 (lv_at hl 0 rfl) ?_
          refine lv_if_eq (tgt := 82) hx hb dX0_spoilMealsOfThisHour_75 (by decide) (fun _ => ?_) (fun c_8 => absurd (by decide) c_8)
          refine lv_iconst (v := 2) hx hb dX0_spoilMealsOfThisHour_82 (by decide) ?_
          refine lv_isub hx hb dX0_spoilMealsOfThisHour_83 ?_
          refine lv_istore (lv' := [(5, .int ((zatt v.2 1 (nI i) 2) - 2)), (4, .int 0), (3, .int (zatt v.2 1 (nI i) 0)), (2, .int (nI i)), (1, .int v.1), (0, .ref h)]) hx hb dX0_spoilMealsOfThisHour_84 hl (by decide) rfl (fun ls hl => ?_)
          refine lv_aload_n hx hb dX0_spoilMealsOfThisHour_86 rfl (lv_at hl 5 rfl) ?_
          refine va_get (D := D) (ci := 0) (v := .ref (ad 3)) (C := RX0) (T := TX0) (N := 5) hx hb hts iwX0_spoilMealsOfThisHour_X0 hown hC.1 hCh 0 rfl rfl 2 (by decide) (hts (.fieldLink RX0 25 "MealLockers$Changes" "meals" "LMealLockers$Table;") (List.mem_of_getElem? (i := 1) rfl)) (fun _ h9 => h9) rfl dX0_spoilMealsOfThisHour_87 ?_
          refine lv_iload_n hx hb dX0_spoilMealsOfThisHour_90 rfl (lv_at hl 3 rfl) ?_
          refine lv_iconst (v := 2) hx hb dX0_spoilMealsOfThisHour_91 (by decide) ?_
          refine lv_iconst (v := 0) hx hb dX0_spoilMealsOfThisHour_92 (by decide) ?_
          refine lv_iload hx hb dX0_spoilMealsOfThisHour_93 (lv_at hl 0 rfl) ?_
          refine va_mmax hx hb (hml.trans hl.1.symm) hown (hts (.methodLink RX0 118 Lib.Math.max.name) (List.mem_of_getElem? (i := 3) rfl)) (hts (.static Lib.Math.max.name) (List.mem_of_getElem? (i := 4) rfl)) (hts (.initialized "java/lang/Math") (List.mem_of_getElem? (i := 5) rfl)) (hts (.code Lib.Math.max.name Lib.Math.max.code 2 (some .int)) (List.mem_of_getElem? (i := 6) rfl)) (Nat.le_of_ble_eq_true rfl) (Nat.le_of_ble_eq_true rfl) (Nat.zero_le _) (Nat.zero_le _) dX0_spoilMealsOfThisHour_95 ?_
          refine sX5_store (k := 1) hF (cwV 3 hts gX0_spoilMealsOfThisHour_X5_store rfl rfl rfl hdX5_store ⟨Nat.le_of_ble_eq_true rfl, Nat.le_of_ble_eq_true rfl⟩) hC hSt hi (by decide) hS (fun _ h => h) hl.1 (Nat.le_of_ble_eq_true rfl) dX0_spoilMealsOfThisHour_98 ⟨Nat.zero_le _, Nat.zero_le _⟩ (fun H locs hSt _ _ hS => ?_)
          have hCh := qo_at hS hCh0 hdj
          refine lv_iload hx hb dX0_spoilMealsOfThisHour_101 (lv_at hl 0 rfl) ?_
          refine lv_if_gt (tgt := 114) hx hb dX0_spoilMealsOfThisHour_103 (by decide) (fun c_9 => ?_) (fun c_9 => ?_)
          · refine lv_iinc (v := (nI (i + 1))) (lv' := [(2, .int (nI (i + 1))), (5, .int ((zatt v.2 1 (nI i) 2) - 2)), (4, .int 0), (3, .int (zatt v.2 1 (nI i) 0)), (1, .int v.1), (0, .ref h)]) hx hb dX0_spoilMealsOfThisHour_114 hl (k := 3) rfl (by rw [nI_succ]; rfl) (by decide) rfl (fun ls hl => ?_)
            refine lv_goto (tgt := 4) hx hb dX0_spoilMealsOfThisHour_117 (by decide) ?_
            have e9 : (upTo (bX0_spoilMealsOfThisHour) (0, σ) (i + 1)) = (v.1, zsto v.2 1 (nI i) 2 (zmax 0 ((zatt v.2 1 (nI i) 2) - 2))) := by show bX0_spoilMealsOfThisHour i (upTo (bX0_spoilMealsOfThisHour) (0, σ) i) = _; rw [← hv]; unfold bX0_spoilMealsOfThisHour; rw [if_pos c_3, if_neg c_4, if_pos c_7, if_pos c_9]
            exact ih (i + 1) (by omega) H locs (by rw [e9]; exact hSt) hS ls (by rw [e9]; exact lv_sub hl [0, 4, 5] rfl)
          · refine lv_aload_n hx hb dX0_spoilMealsOfThisHour_106 rfl (lv_at hl 5 rfl) ?_
            refine lv_iload_n hx hb dX0_spoilMealsOfThisHour_107 rfl (lv_at hl 3 rfl) ?_
            refine kX0_spoil hF (cwV 1 hts gX0_spoilMealsOfThisHour_X0_spoil rfl rfl rfl hdX0_spoil ⟨Nat.le_of_ble_eq_true rfl, Nat.le_of_ble_eq_true rfl⟩) hC hCh hSt hi hdj hS (fun _ h => h) hl.1 (Nat.le_of_ble_eq_true rfl) dX0_spoilMealsOfThisHour_108 ⟨Nat.zero_le _, Nat.zero_le _⟩ (fun H locs hSt _ _ hS => ?_)
            have hCh := qo_at hS hCh0 hdj
            refine lv_iinc (v := (v.1 + 1)) (lv' := [(1, .int (v.1 + 1)), (5, .int ((zatt v.2 1 (nI i) 2) - 2)), (4, .int 0), (3, .int (zatt v.2 1 (nI i) 0)), (2, .int (nI i)), (0, .ref h)]) hx hb dX0_spoilMealsOfThisHour_111 hl (k := 4) rfl rfl (by decide) rfl (fun ls hl => ?_)
            refine lv_iinc (v := (nI (i + 1))) (lv' := [(2, .int (nI (i + 1))), (1, .int (v.1 + 1)), (5, .int ((zatt v.2 1 (nI i) 2) - 2)), (4, .int 0), (3, .int (zatt v.2 1 (nI i) 0)), (0, .ref h)]) hx hb dX0_spoilMealsOfThisHour_114 hl (k := 4) rfl (by rw [nI_succ]; rfl) (by decide) rfl (fun ls hl => ?_)
            refine lv_goto (tgt := 4) hx hb dX0_spoilMealsOfThisHour_117 (by decide) ?_
            have e9 : (upTo (bX0_spoilMealsOfThisHour) (0, σ) (i + 1)) = ((v.1 + 1), (zX0_spoil (zsto v.2 1 (nI i) 2 (zmax 0 ((zatt v.2 1 (nI i) 2) - 2))) (nI i))) := by show bX0_spoilMealsOfThisHour i (upTo (bX0_spoilMealsOfThisHour) (0, σ) i) = _; rw [← hv]; unfold bX0_spoilMealsOfThisHour; rw [if_pos c_3, if_neg c_4, if_pos c_7, if_neg c_9]
            exact ih (i + 1) (by omega) H locs (by rw [e9]; exact hSt) hS ls (by rw [e9]; exact lv_sub hl [0, 1, 5] rfl)
        · refine lv_iconst (v := 1) hx hb dX0_spoilMealsOfThisHour_57 (by decide) ?_
          refine lv_goto (tgt := 62) hx hb dX0_spoilMealsOfThisHour_58 (by decide) ?_
          refine lv_istore (lv' := [(4, .int 1), (3, .int (zatt v.2 1 (nI i) 0)), (2, .int (nI i)), (1, .int v.1), (0, .ref h)]) hx hb dX0_spoilMealsOfThisHour_62 hl (by decide) rfl (fun ls hl => ?_)
          refine lv_aload_n hx hb dX0_spoilMealsOfThisHour_64 rfl (lv_at hl 4 rfl) ?_
          refine va_get (D := D) (ci := 0) (v := .ref (ad 3)) (C := RX0) (T := TX0) (N := 5) hx hb hts iwX0_spoilMealsOfThisHour_X0 hown hC.1 hCh 0 rfl rfl 2 (by decide) (hts (.fieldLink RX0 25 "MealLockers$Changes" "meals" "LMealLockers$Table;") (List.mem_of_getElem? (i := 1) rfl)) (fun _ h9 => h9) rfl dX0_spoilMealsOfThisHour_65 ?_
          refine lv_iload_n hx hb dX0_spoilMealsOfThisHour_68 rfl (lv_at hl 2 rfl) ?_
          refine lv_iconst (v := 2) hx hb dX0_spoilMealsOfThisHour_69 (by decide) ?_
          refine sX5_at (k := 1) hF (cwV 2 hts gX0_spoilMealsOfThisHour_X5_at rfl rfl rfl hdX5_at ⟨Nat.le_of_ble_eq_true rfl, Nat.le_of_ble_eq_true rfl⟩) hC hSt (by decide) hl.1 (Nat.le_of_ble_eq_true rfl) dX0_spoilMealsOfThisHour_70 ⟨Nat.zero_le _, Nat.zero_le _⟩ ?_
          refine lv_iload hx hb dX0_spoilMealsOfThisHour_73 (lv_at hl 0 rfl) ?_
          refine lv_if_eq (tgt := 82) hx hb dX0_spoilMealsOfThisHour_75 (by decide) (fun c_10 => absurd c_10 (by decide)) (fun _ => ?_)
          refine lv_iconst (v := 1) hx hb dX0_spoilMealsOfThisHour_78 (by decide) ?_
          refine lv_goto (tgt := 83) hx hb dX0_spoilMealsOfThisHour_79 (by decide) ?_
          refine lv_isub hx hb dX0_spoilMealsOfThisHour_83 ?_
          refine lv_istore (lv' := [(5, .int ((zatt v.2 1 (nI i) 2) - 1)), (4, .int 1), (3, .int (zatt v.2 1 (nI i) 0)), (2, .int (nI i)), (1, .int v.1), (0, .ref h)]) hx hb dX0_spoilMealsOfThisHour_84 hl (by decide) rfl (fun ls hl => ?_)
          refine lv_aload_n hx hb dX0_spoilMealsOfThisHour_86 rfl (lv_at hl 5 rfl) ?_
          refine va_get (D := D) (ci := 0) (v := .ref (ad 3)) (C := RX0) (T := TX0) (N := 5) hx hb hts iwX0_spoilMealsOfThisHour_X0 hown hC.1 hCh 0 rfl rfl 2 (by decide) (hts (.fieldLink RX0 25 "MealLockers$Changes" "meals" "LMealLockers$Table;") (List.mem_of_getElem? (i := 1) rfl)) (fun _ h9 => h9) rfl dX0_spoilMealsOfThisHour_87 ?_
          refine lv_iload_n hx hb dX0_spoilMealsOfThisHour_90 rfl (lv_at hl 3 rfl) ?_
          refine lv_iconst (v := 2) hx hb dX0_spoilMealsOfThisHour_91 (by decide) ?_
          refine lv_iconst (v := 0) hx hb dX0_spoilMealsOfThisHour_92 (by decide) ?_
          refine lv_iload hx hb dX0_spoilMealsOfThisHour_93 (lv_at hl 0 rfl) ?_
          refine va_mmax hx hb (hml.trans hl.1.symm) hown (hts (.methodLink RX0 118 Lib.Math.max.name) (List.mem_of_getElem? (i := 3) rfl)) (hts (.static Lib.Math.max.name) (List.mem_of_getElem? (i := 4) rfl)) (hts (.initialized "java/lang/Math") (List.mem_of_getElem? (i := 5) rfl)) (hts (.code Lib.Math.max.name Lib.Math.max.code 2 (some .int)) (List.mem_of_getElem? (i := 6) rfl)) (Nat.le_of_ble_eq_true rfl) (Nat.le_of_ble_eq_true rfl) (Nat.zero_le _) (Nat.zero_le _) dX0_spoilMealsOfThisHour_95 ?_
          refine sX5_store (k := 1) hF (cwV 3 hts gX0_spoilMealsOfThisHour_X5_store rfl rfl rfl hdX5_store ⟨Nat.le_of_ble_eq_true rfl, Nat.le_of_ble_eq_true rfl⟩) hC hSt hi (by decide) hS (fun _ h => h) hl.1 (Nat.le_of_ble_eq_true rfl) dX0_spoilMealsOfThisHour_98 ⟨Nat.zero_le _, Nat.zero_le _⟩ (fun H locs hSt _ _ hS => ?_)
          have hCh := qo_at hS hCh0 hdj
          refine lv_iload hx hb dX0_spoilMealsOfThisHour_101 (lv_at hl 0 rfl) ?_
          refine lv_if_gt (tgt := 114) hx hb dX0_spoilMealsOfThisHour_103 (by decide) (fun c_11 => ?_) (fun c_11 => ?_)
          · refine lv_iinc (v := (nI (i + 1))) (lv' := [(2, .int (nI (i + 1))), (5, .int ((zatt v.2 1 (nI i) 2) - 1)), (4, .int 1), (3, .int (zatt v.2 1 (nI i) 0)), (1, .int v.1), (0, .ref h)]) hx hb dX0_spoilMealsOfThisHour_114 hl (k := 3) rfl (by rw [nI_succ]; rfl) (by decide) rfl (fun ls hl => ?_)
            refine lv_goto (tgt := 4) hx hb dX0_spoilMealsOfThisHour_117 (by decide) ?_
            have e9 : (upTo (bX0_spoilMealsOfThisHour) (0, σ) (i + 1)) = (v.1, zsto v.2 1 (nI i) 2 (zmax 0 ((zatt v.2 1 (nI i) 2) - 1))) := by show bX0_spoilMealsOfThisHour i (upTo (bX0_spoilMealsOfThisHour) (0, σ) i) = _; rw [← hv]; unfold bX0_spoilMealsOfThisHour; rw [if_pos c_3, if_neg c_4, if_neg c_7, if_pos c_11]
            exact ih (i + 1) (by omega) H locs (by rw [e9]; exact hSt) hS ls (by rw [e9]; exact lv_sub hl [0, 4, 5] rfl)
          · refine lv_aload_n hx hb dX0_spoilMealsOfThisHour_106 rfl (lv_at hl 5 rfl) ?_
            refine lv_iload_n hx hb dX0_spoilMealsOfThisHour_107 rfl (lv_at hl 3 rfl) ?_
            refine kX0_spoil hF (cwV 1 hts gX0_spoilMealsOfThisHour_X0_spoil rfl rfl rfl hdX0_spoil ⟨Nat.le_of_ble_eq_true rfl, Nat.le_of_ble_eq_true rfl⟩) hC hCh hSt hi hdj hS (fun _ h => h) hl.1 (Nat.le_of_ble_eq_true rfl) dX0_spoilMealsOfThisHour_108 ⟨Nat.zero_le _, Nat.zero_le _⟩ (fun H locs hSt _ _ hS => ?_)
            have hCh := qo_at hS hCh0 hdj
            refine lv_iinc (v := (v.1 + 1)) (lv' := [(1, .int (v.1 + 1)), (5, .int ((zatt v.2 1 (nI i) 2) - 1)), (4, .int 1), (3, .int (zatt v.2 1 (nI i) 0)), (2, .int (nI i)), (0, .ref h)]) hx hb dX0_spoilMealsOfThisHour_111 hl (k := 4) rfl rfl (by decide) rfl (fun ls hl => ?_)
            refine lv_iinc (v := (nI (i + 1))) (lv' := [(2, .int (nI (i + 1))), (1, .int (v.1 + 1)), (5, .int ((zatt v.2 1 (nI i) 2) - 1)), (4, .int 1), (3, .int (zatt v.2 1 (nI i) 0)), (0, .ref h)]) hx hb dX0_spoilMealsOfThisHour_114 hl (k := 4) rfl (by rw [nI_succ]; rfl) (by decide) rfl (fun ls hl => ?_)
            refine lv_goto (tgt := 4) hx hb dX0_spoilMealsOfThisHour_117 (by decide) ?_
            have e9 : (upTo (bX0_spoilMealsOfThisHour) (0, σ) (i + 1)) = ((v.1 + 1), (zX0_spoil (zsto v.2 1 (nI i) 2 (zmax 0 ((zatt v.2 1 (nI i) 2) - 1))) (nI i))) := by show bX0_spoilMealsOfThisHour i (upTo (bX0_spoilMealsOfThisHour) (0, σ) i) = _; rw [← hv]; unfold bX0_spoilMealsOfThisHour; rw [if_pos c_3, if_neg c_4, if_neg c_7, if_neg c_11]
            exact ih (i + 1) (by omega) H locs (by rw [e9]; exact hSt) hS ls (by rw [e9]; exact lv_sub hl [0, 1, 5] rfl)
    · refine lv_goto (tgt := 114) hx hb dX0_spoilMealsOfThisHour_30 (by decide) ?_
      refine lv_iinc (v := (nI (i + 1))) (lv' := [(2, .int (nI (i + 1))), (3, .int (zatt v.2 1 (nI i) 0)), (1, .int v.1), (0, .ref h)]) hx hb dX0_spoilMealsOfThisHour_114 hl (k := 1) rfl (by rw [nI_succ]; rfl) (by decide) rfl (fun ls hl => ?_)
      refine lv_goto (tgt := 4) hx hb dX0_spoilMealsOfThisHour_117 (by decide) ?_
      have e9 : (upTo (bX0_spoilMealsOfThisHour) (0, σ) (i + 1)) = (v.1, v.2) := by show bX0_spoilMealsOfThisHour i (upTo (bX0_spoilMealsOfThisHour) (0, σ) i) = _; rw [← hv]; unfold bX0_spoilMealsOfThisHour; rw [if_neg c_3]
      exact ih (i + 1) (by omega) H locs (by rw [e9]; exact hSt) hS ls (by rw [e9]; exact lv_sub hl [0, 2, 3] rfl)
set_option maxHeartbeats 4000000 in
set_option maxRecDepth 100000 in
theorem mX0_spoilMealsOfThisHour (l : Launch) (D : va_G) (y : Y3) (h : Nat) (ad : Nat → Nat) (σ : Sg) : Met l yX0_spoilMealsOfThisHour wsX0_spoilMealsOfThisHour ({ frames := 3, cells := 0, slots := 0, locals := 67 } : Room) (va_Pc [.ref h] (fun U => CK D y U ∧ qoH D 0 h ad U.heap ∧ StH D y ad σ U.heap ∧ adI ad ∧ (∀ k, k < 11 → ad k ≠ h))) (va_Qi (fun (r : Int32) (u : Sg) => r = (zX0_spoilMealsOfThisHour σ).1 ∧ u = (zX0_spoilMealsOfThisHour σ).2) (fun u t => StH D y ad u t.heap) (stA ad)) 0 0 (stA ad) := by
  refine Met.ofW (cc := cX0_spoilMealsOfThisHour) (maxL := 6) (ret := (some .int)) (by decide) rfl ?_
  intro p e s m args below meth c s₁ B hml hv
  obtain ⟨rfl, hC, hCh, hSt, hi, hdj⟩ := hv
  have hx := B.exec
  have hb := B.bytes
  have hr := B.returns
  have hts := atoms_spec (ws := wsX0_spoilMealsOfThisHour) B.pre
  have hown : s.vm.findClass RX0 = some m.cls := findClass_of_methodNamed B.named
  have hlocks := B.notSynchronized
  have hF := (⟨hx, hb, hml, hown, hts⟩ : CallFix p m c cX0_spoilMealsOfThisHour 6 s _ wsX0_spoilMealsOfThisHour RX0)
  have hS : va_S (stA ad) s.heap s.heap [] := va_S.rf
  have hl := lv_entry ([.ref h]) (n := 6) (Nat.le_of_ble_eq_true rfl)
  rw [lg_entry_eq]
  generalize (lg_sl ([.ref h]) ++ List.replicate (6 - (lg_sl ([.ref h])).length) Slot.unset).toArray = ls at hl ⊢
  have hl : lv_has ls 6 [(0, .ref h)] := hl
  have hCh0 := hCh
  refine lv_iconst (v := 0) hx hb dX0_spoilMealsOfThisHour_0 (by decide) ?_
  refine lv_istore_n (lv' := [(1, .int 0), (0, .ref h)]) hx hb dX0_spoilMealsOfThisHour_1 rfl hl (by decide) rfl (fun ls hl => ?_)
  refine lv_iconst (v := 0) hx hb dX0_spoilMealsOfThisHour_2 (by decide) ?_
  refine lv_istore_n (lv' := [(2, .int 0), (1, .int 0), (0, .ref h)]) hx hb dX0_spoilMealsOfThisHour_3 rfl hl (by decide) rfl (fun ls hl => ?_)
  refine lpX0_spoilMealsOfThisHour (σ := σ) hx hb hml hown hts hC hCh0 hi hdj (r5X0_ulose σ) (fun H locs ls hSt hS hl => ?_) _ 0 (Nat.zero_add _) _ _ hSt hS ls (lv_sub hl [0, 1, 2] rfl)
  refine lv_iload_n hx hb dX0_spoilMealsOfThisHour_120 rfl (lv_at hl 1 rfl) ?_
  exact W.iret (v := (upTo bX0_spoilMealsOfThisHour (0, σ) (σ 5 1).toNatClampNeg).1) hx hb hr (fun t ht hW => ⟨⟨(upTo bX0_spoilMealsOfThisHour (0, σ) (σ 5 1).toNatClampNeg).1, (upTo bX0_spoilMealsOfThisHour (0, σ) (σ 5 1).toNatClampNeg).2, rfl, ⟨rfl, rfl⟩, by dsimp only; rw [ht]; exact hSt⟩, hS.F ht⟩) hS.2.2 dX0_spoilMealsOfThisHour_121
set_option maxHeartbeats 4000000 in
set_option maxRecDepth 100000 in
theorem kX0_spoilMealsOfThisHour {p : Program} {l : Launch} {e : Env} {R : Room} {s : State} {m : MethodId} {args : Array Value} {below : List Frame} {meth : Method} {c : Code} {H : Heap} {locs : List Loc} {cells slots : Nat} {Q : State → Prop} {cc : ByteArray} {nL : Nat} {Ts : List Cond} {own : String} {index pc : Nat} {ls : Array Slot} {rest : List Value} {D : va_G} {y : Y3} {h : Nat} {ad : Nat → Nat} {σ : Sg} {A0 : Nat → Prop} {H0 : Heap} (hF : CallFix p m c cc nL s args Ts own) (cw : CallW R s args own RX0 index yX0_spoilMealsOfThisHour cX0_spoilMealsOfThisHour 6 (some .int) wsX0_spoilMealsOfThisHour ({ frames := 3, cells := 0, slots := 0, locals := 67 } : Room) 0 0 0) (hC : CK D y s) (hCh : qoH D 0 h ad H) (hSt : StH D y ad σ H) (hi : adI ad) (hdj : (∀ k, k < 11 → ad k ≠ h)) (hS : va_S A0 H0 H locs) (hA : ∀ q, (stA ad) q → A0 q) (hsz : ls.size = nL) (hW : (rest.map fun v => v.category).sum ≤ 8) (hdg : decode cc pc = .ok (.invokevirtual index, 3)) (hf : cells ≤ R.cells ∧ slots ≤ R.slots)
    (k : ∀ (H1 : Heap) (locs1 : List Loc), StH D y ad (zX0_spoilMealsOfThisHour σ).2 H1 → H.size ≤ H1.size → (∀ q : Nat, q < H.size → ¬ (stA ad) q → H1[q]? = H[q]?) → va_S A0 H0 H1 locs1 → W p l e R s m args below meth c H1 locs1 cells slots Q (F0 m (pc + 3) ls (.int ((zX0_spoilMealsOfThisHour σ).1) :: rest))) : W p l e R s m args below meth c H locs cells slots Q (F0 m pc ls (.ref h :: rest)) := by
  refine va_calli (va_runV (As := []) (rest := rest) hF (mX0_spoilMealsOfThisHour l D y h ad σ) cw ⟨fun a U g mk q => by obtain ⟨q0, q1, q2, q3, q4, q5⟩ := q; exact ⟨q0, q1.call g mk a, q2, q3, q4, q5⟩, va_recv hC.1 hCh (ci := 0) (q0 := 0) rfl rfl, fun U hU hW => ⟨rfl, hC.warm hW, by rw [hU]; exact hCh, by rw [hU]; exact hSt, hi, hdj⟩⟩ rfl rfl hsz rfl (lv_room hW) hdg ⟨hf.1, hf.2⟩) hS (fun q _ h => hA q h) hA (fun r u t H1 locs1 ht hvm hp hB hz1 hk1 hS1 => ?_)
  obtain ⟨hp1, hp2⟩ := hp
  subst hp1; subst hp2
  rw [ht] at hB
  exact k H1 locs1 hB hz1 hk1 hS1
theorem r5X0_spoilMealsOfThisHour (σ : Sg) : (zX0_spoilMealsOfThisHour σ).2 5 = σ 5 := r5X0_ulose σ _
def zX0_walkAnHour (σ : Sg) (x1 : Int32) : Sg := if (zatt σ 3 x1 3) < (σ 5 5) then σ
  else zrai σ 3 x1 4
theorem iwX0_walkAnHour_X0 : ∀ w ∈ wsX00, w ∈ wsX0_walkAnHour := fun _ h => List.mem_cons_of_mem _ (List.mem_append_left _ (List.mem_append_left _ (List.mem_append_right _ h)))
theorem iwX0_walkAnHour_X4 : ∀ w ∈ wsX40, w ∈ wsX0_walkAnHour := fun _ h => List.mem_cons_of_mem _ (List.mem_append_left _ (List.mem_append_right _ h))
theorem hdX0_walkAnHour : yX0_walkAnHour.cls = RX0 ∧ yX0_walkAnHour.cls ≠ "java/lang/invoke/MethodHandle" ∧ yX0_walkAnHour.cls ≠ "java/lang/invoke/VarHandle" ∧ (parseMethodDescriptor yX0_walkAnHour.desc).map (fun d => d.parameters.length) = some 1 := by decide +kernel
set_option maxHeartbeats 4000000 in
set_option maxRecDepth 100000 in
theorem mX0_walkAnHour (l : Launch) (D : va_G) (y : Y3) (h : Nat) (ad : Nat → Nat) (σ : Sg) (x1 : Int32) : Met l yX0_walkAnHour wsX0_walkAnHour ({ frames := 2, cells := 0, slots := 0, locals := 46 } : Room) (va_Pc [.ref h, .int x1] (fun U => CK D y U ∧ qoH D 0 h ad U.heap ∧ StH D y ad σ U.heap ∧ adI ad ∧ (∀ k, k < 11 → ad k ≠ h))) (va_Qv (fun u : Sg => u = zX0_walkAnHour σ x1) (fun u t => StH D y ad u t.heap) (stA ad)) 0 0 (stA ad) := by
  refine Met.ofW (cc := cX0_walkAnHour) (maxL := 2) (ret := none) (by decide) rfl ?_
  intro p e s m args below meth c s₁ B hml hv
  obtain ⟨rfl, hC, hCh, hSt, hi, hdj⟩ := hv
  have hx := B.exec
  have hb := B.bytes
  have hr := B.returns
  have hts := atoms_spec (ws := wsX0_walkAnHour) B.pre
  have hown : s.vm.findClass RX0 = some m.cls := findClass_of_methodNamed B.named
  have hlocks := B.notSynchronized
  have hF := (⟨hx, hb, hml, hown, hts⟩ : CallFix p m c cX0_walkAnHour 2 s _ wsX0_walkAnHour RX0)
  have hS : va_S (stA ad) s.heap s.heap [] := va_S.rf
  have hl := lv_entry ([.ref h, .int x1]) (n := 2) (Nat.le_of_ble_eq_true rfl)
  rw [lg_entry_eq]
  generalize (lg_sl ([.ref h, .int x1]) ++ List.replicate (2 - (lg_sl ([.ref h, .int x1])).length) Slot.unset).toArray = ls at hl ⊢
  have hl : lv_has ls 2 [(0, .ref h), (1, .int x1)] := hl
  have hCh0 := hCh
  refine lv_aload_n hx hb dX0_walkAnHour_0 rfl (lv_at hl 0 rfl) ?_
  refine va_get (D := D) (ci := 0) (v := .ref (ad 7)) (C := RX0) (T := TX0) (N := 5) hx hb hts iwX0_walkAnHour_X0 hown hC.1 hCh 0 rfl rfl 4 (by decide) (hts (.fieldLink RX0 33 "MealLockers$Changes" "volunteers" "LMealLockers$Table;") (List.mem_of_getElem? (i := 1) rfl)) (fun _ h9 => h9) rfl dX0_walkAnHour_1 ?_
  refine lv_iload_n hx hb dX0_walkAnHour_4 rfl (lv_at hl 1 rfl) ?_
  refine lv_iconst (v := 3) hx hb dX0_walkAnHour_5 (by decide) ?_
  refine sX5_at (k := 3) hF (cwV 2 hts gX0_walkAnHour_X5_at rfl rfl rfl hdX5_at ⟨Nat.le_of_ble_eq_true rfl, Nat.le_of_ble_eq_true rfl⟩) hC hSt (by decide) hl.1 (Nat.le_of_ble_eq_true rfl) dX0_walkAnHour_6 ⟨Nat.zero_le _, Nat.zero_le _⟩ ?_
  refine lv_aload_n hx hb dX0_walkAnHour_9 rfl (lv_at hl 0 rfl) ?_
  refine va_get (D := D) (ci := 0) (v := .ref (ad 0)) (C := RX0) (T := TX0) (N := 5) hx hb hts iwX0_walkAnHour_X0 hown hC.1 hCh 0 rfl rfl 0 (by decide) (hts (.fieldLink RX0 9 "MealLockers$Changes" "state" "LMealLockers$State;") (List.mem_of_getElem? (i := 2) rfl)) (fun _ h9 => h9) rfl dX0_walkAnHour_10 ?_
  refine va_getN (D := D) (ci := 4) (v := .int (σ 5 5)) (C := RX4) (T := TX4) (N := 6) hx hb hts iwX0_walkAnHour_X4 hown hC.1 hSt 0 rfl rfl 5 (by decide) (nw_f10 hC) (fun _ h9 => h9) rfl dX0_walkAnHour_13 ?_
  refine lv_icmp_lt (tgt := 28) hx hb dX0_walkAnHour_16 (by decide) (fun c_1 => ?_) (fun c_1 => ?_)
  · exact W.vret hx hb hr (fun t ht hW => ⟨⟨σ, rfl, (by unfold zX0_walkAnHour; rw [if_pos c_1]), by dsimp only; rw [ht]; exact hSt⟩, hS.F ht⟩) hS.2.2 dX0_walkAnHour_28
  · refine lv_aload_n hx hb dX0_walkAnHour_19 rfl (lv_at hl 0 rfl) ?_
    refine va_get (D := D) (ci := 0) (v := .ref (ad 7)) (C := RX0) (T := TX0) (N := 5) hx hb hts iwX0_walkAnHour_X0 hown hC.1 hCh 0 rfl rfl 4 (by decide) (hts (.fieldLink RX0 33 "MealLockers$Changes" "volunteers" "LMealLockers$Table;") (List.mem_of_getElem? (i := 1) rfl)) (fun _ h9 => h9) rfl dX0_walkAnHour_20 ?_
    refine lv_iload_n hx hb dX0_walkAnHour_23 rfl (lv_at hl 1 rfl) ?_
    refine lv_iconst (v := 4) hx hb dX0_walkAnHour_24 (by decide) ?_
    refine sX5_raise (k := 3) hF (cwV 2 hts gX0_walkAnHour_X5_raise rfl rfl rfl hdX5_raise ⟨Nat.le_of_ble_eq_true rfl, Nat.le_of_ble_eq_true rfl⟩) hC hSt hi (by decide) hS (fun _ h => h) hl.1 (Nat.le_of_ble_eq_true rfl) dX0_walkAnHour_25 ⟨Nat.zero_le _, Nat.zero_le _⟩ (fun H locs hSt _ _ hS => ?_)
    have hCh := qo_at hS hCh0 hdj
    exact W.vret hx hb hr (fun t ht hW => ⟨⟨zrai σ 3 x1 4, rfl, (by unfold zX0_walkAnHour; rw [if_neg c_1]), by dsimp only; rw [ht]; exact hSt⟩, hS.F ht⟩) hS.2.2 dX0_walkAnHour_28
set_option maxHeartbeats 4000000 in
set_option maxRecDepth 100000 in
theorem kX0_walkAnHour {p : Program} {l : Launch} {e : Env} {R : Room} {s : State} {m : MethodId} {args : Array Value} {below : List Frame} {meth : Method} {c : Code} {H : Heap} {locs : List Loc} {cells slots : Nat} {Q : State → Prop} {cc : ByteArray} {nL : Nat} {Ts : List Cond} {own : String} {index pc : Nat} {ls : Array Slot} {rest : List Value} {D : va_G} {y : Y3} {h : Nat} {ad : Nat → Nat} {σ : Sg} {x1 : Int32} {A0 : Nat → Prop} {H0 : Heap} (hF : CallFix p m c cc nL s args Ts own) (cw : CallW R s args own RX0 index yX0_walkAnHour cX0_walkAnHour 2 none wsX0_walkAnHour ({ frames := 2, cells := 0, slots := 0, locals := 46 } : Room) 0 0 1) (hC : CK D y s) (hCh : qoH D 0 h ad H) (hSt : StH D y ad σ H) (hi : adI ad) (hdj : (∀ k, k < 11 → ad k ≠ h)) (hS : va_S A0 H0 H locs) (hA : ∀ q, (stA ad) q → A0 q) (hsz : ls.size = nL) (hW : (rest.map fun v => v.category).sum ≤ 8) (hdg : decode cc pc = .ok (.invokevirtual index, 3)) (hf : cells ≤ R.cells ∧ slots ≤ R.slots)
    (k : ∀ (H1 : Heap) (locs1 : List Loc), StH D y ad (zX0_walkAnHour σ x1) H1 → H.size ≤ H1.size → (∀ q : Nat, q < H.size → ¬ (stA ad) q → H1[q]? = H[q]?) → va_S A0 H0 H1 locs1 → W p l e R s m args below meth c H1 locs1 cells slots Q (F0 m (pc + 3) ls (rest))) : W p l e R s m args below meth c H locs cells slots Q (F0 m pc ls (.int x1 :: .ref h :: rest)) := by
  refine va_callv (va_runV (As := [.int x1]) (rest := rest) hF (mX0_walkAnHour l D y h ad σ x1) cw ⟨fun a U g mk q => by obtain ⟨q0, q1, q2, q3, q4, q5⟩ := q; exact ⟨q0, q1.call g mk a, q2, q3, q4, q5⟩, va_recv hC.1 hCh (ci := 0) (q0 := 0) rfl rfl, fun U hU hW => ⟨rfl, hC.warm hW, by rw [hU]; exact hCh, by rw [hU]; exact hSt, hi, hdj⟩⟩ rfl rfl hsz rfl (lv_room hW) hdg ⟨hf.1, hf.2⟩) hS (fun q _ h => hA q h) hA (fun u t H1 locs1 ht hvm hp hB hz1 hk1 hS1 => ?_)
  subst hp
  rw [ht] at hB
  exact k H1 locs1 hB hz1 hk1 hS1
theorem r5X0_walkAnHour (σ : Sg) (x1 : Int32) : zX0_walkAnHour σ x1 5 = σ 5 := by
  unfold zX0_walkAnHour
  (repeat' split) <;> rfl
def zX0_strike (σ : Sg) (x1 : Int32) : Sg := if (zatt (zrai (zrai σ 2 x1 5) 2 x1 1) 2 x1 1) < (zX4_setting (zrai (zrai σ 2 x1 5) 2 x1 1) 1) then zrai (zrai σ 2 x1 5) 2 x1 1
  else zsto (zsto (zrai (zrai σ 2 x1 5) 2 x1 1) 2 x1 1 0) 2 x1 2 (((zsto (zrai (zrai σ 2 x1 5) 2 x1 1) 2 x1 1 0) 5 5) + (zX4_setting (zsto (zrai (zrai σ 2 x1 5) 2 x1 1) 2 x1 1 0) 2))
theorem iwX0_strike_X0 : ∀ w ∈ wsX00, w ∈ wsX0_strike := fun _ h => List.mem_cons_of_mem _ (List.mem_append_left _ (List.mem_append_left _ (List.mem_append_right _ h)))
theorem iwX0_strike_X4 : ∀ w ∈ wsX40, w ∈ wsX0_strike := fun _ h => List.mem_cons_of_mem _ (List.mem_append_left _ (List.mem_append_right _ h))
theorem hdX0_strike : yX0_strike.cls = RX0 ∧ yX0_strike.cls ≠ "java/lang/invoke/MethodHandle" ∧ yX0_strike.cls ≠ "java/lang/invoke/VarHandle" ∧ (parseMethodDescriptor yX0_strike.desc).map (fun d => d.parameters.length) = some 1 := by decide +kernel
set_option maxHeartbeats 4000000 in
set_option maxRecDepth 100000 in
theorem mX0_strike (l : Launch) (D : va_G) (y : Y3) (h : Nat) (ad : Nat → Nat) (σ : Sg) (x1 : Int32) : Met l yX0_strike wsX0_strike ({ frames := 2, cells := 0, slots := 0, locals := 46 } : Room) (va_Pc [.ref h, .int x1] (fun U => CK D y U ∧ qoH D 0 h ad U.heap ∧ StH D y ad σ U.heap ∧ adI ad ∧ (∀ k, k < 11 → ad k ≠ h))) (va_Qv (fun u : Sg => u = zX0_strike σ x1) (fun u t => StH D y ad u t.heap) (stA ad)) 0 0 (stA ad) := by
  refine Met.ofW (cc := cX0_strike) (maxL := 2) (ret := none) (by decide) rfl ?_
  intro p e s m args below meth c s₁ B hml hv
  obtain ⟨rfl, hC, hCh, hSt, hi, hdj⟩ := hv
  have hx := B.exec
  have hb := B.bytes
  have hr := B.returns
  have hts := atoms_spec (ws := wsX0_strike) B.pre
  have hown : s.vm.findClass RX0 = some m.cls := findClass_of_methodNamed B.named
  have hlocks := B.notSynchronized
  have hF := (⟨hx, hb, hml, hown, hts⟩ : CallFix p m c cX0_strike 2 s _ wsX0_strike RX0)
  have hS : va_S (stA ad) s.heap s.heap [] := va_S.rf
  have hl := lv_entry ([.ref h, .int x1]) (n := 2) (Nat.le_of_ble_eq_true rfl)
  rw [lg_entry_eq]
  generalize (lg_sl ([.ref h, .int x1]) ++ List.replicate (2 - (lg_sl ([.ref h, .int x1])).length) Slot.unset).toArray = ls at hl ⊢
  have hl : lv_has ls 2 [(0, .ref h), (1, .int x1)] := hl
  have hCh0 := hCh
  refine lv_aload_n hx hb dX0_strike_0 rfl (lv_at hl 0 rfl) ?_
  refine va_get (D := D) (ci := 0) (v := .ref (ad 5)) (C := RX0) (T := TX0) (N := 5) hx hb hts iwX0_strike_X0 hown hC.1 hCh 0 rfl rfl 3 (by decide) (hts (.fieldLink RX0 29 "MealLockers$Changes" "people" "LMealLockers$Table;") (List.mem_of_getElem? (i := 1) rfl)) (fun _ h9 => h9) rfl dX0_strike_1 ?_
  refine lv_iload_n hx hb dX0_strike_4 rfl (lv_at hl 1 rfl) ?_
  refine lv_iconst (v := 5) hx hb dX0_strike_5 (by decide) ?_
  refine sX5_raise (k := 2) hF (cwV 2 hts gX0_strike_X5_raise rfl rfl rfl hdX5_raise ⟨Nat.le_of_ble_eq_true rfl, Nat.le_of_ble_eq_true rfl⟩) hC hSt hi (by decide) hS (fun _ h => h) hl.1 (Nat.le_of_ble_eq_true rfl) dX0_strike_6 ⟨Nat.zero_le _, Nat.zero_le _⟩ (fun H locs hSt _ _ hS => ?_)
  have hCh := qo_at hS hCh0 hdj
  refine lv_aload_n hx hb dX0_strike_9 rfl (lv_at hl 0 rfl) ?_
  refine va_get (D := D) (ci := 0) (v := .ref (ad 5)) (C := RX0) (T := TX0) (N := 5) hx hb hts iwX0_strike_X0 hown hC.1 hCh 0 rfl rfl 3 (by decide) (hts (.fieldLink RX0 29 "MealLockers$Changes" "people" "LMealLockers$Table;") (List.mem_of_getElem? (i := 1) rfl)) (fun _ h9 => h9) rfl dX0_strike_10 ?_
  refine lv_iload_n hx hb dX0_strike_13 rfl (lv_at hl 1 rfl) ?_
  refine lv_iconst (v := 1) hx hb dX0_strike_14 (by decide) ?_
  refine sX5_raise (k := 2) hF (cwV 2 hts gX0_strike_X5_raise rfl rfl rfl hdX5_raise ⟨Nat.le_of_ble_eq_true rfl, Nat.le_of_ble_eq_true rfl⟩) hC hSt hi (by decide) hS (fun _ h => h) hl.1 (Nat.le_of_ble_eq_true rfl) dX0_strike_15 ⟨Nat.zero_le _, Nat.zero_le _⟩ (fun H locs hSt _ _ hS => ?_)
  have hCh := qo_at hS hCh0 hdj
  refine lv_aload_n hx hb dX0_strike_18 rfl (lv_at hl 0 rfl) ?_
  refine va_get (D := D) (ci := 0) (v := .ref (ad 5)) (C := RX0) (T := TX0) (N := 5) hx hb hts iwX0_strike_X0 hown hC.1 hCh 0 rfl rfl 3 (by decide) (hts (.fieldLink RX0 29 "MealLockers$Changes" "people" "LMealLockers$Table;") (List.mem_of_getElem? (i := 1) rfl)) (fun _ h9 => h9) rfl dX0_strike_19 ?_
  refine lv_iload_n hx hb dX0_strike_22 rfl (lv_at hl 1 rfl) ?_
  refine lv_iconst (v := 1) hx hb dX0_strike_23 (by decide) ?_
  refine sX5_at (k := 2) hF (cwV 2 hts gX0_strike_X5_at rfl rfl rfl hdX5_at ⟨Nat.le_of_ble_eq_true rfl, Nat.le_of_ble_eq_true rfl⟩) hC hSt (by decide) hl.1 (Nat.le_of_ble_eq_true rfl) dX0_strike_24 ⟨Nat.zero_le _, Nat.zero_le _⟩ ?_
  refine lv_aload_n hx hb dX0_strike_27 rfl (lv_at hl 0 rfl) ?_
  refine va_get (D := D) (ci := 0) (v := .ref (ad 0)) (C := RX0) (T := TX0) (N := 5) hx hb hts iwX0_strike_X0 hown hC.1 hCh 0 rfl rfl 0 (by decide) (hts (.fieldLink RX0 9 "MealLockers$Changes" "state" "LMealLockers$State;") (List.mem_of_getElem? (i := 2) rfl)) (fun _ h9 => h9) rfl dX0_strike_28 ?_
  refine lv_iconst (v := 1) hx hb dX0_strike_31 (by decide) ?_
  refine kX4_setting hF (cwV 1 hts gX0_strike_X4_setting rfl rfl rfl hdX4_setting ⟨Nat.le_of_ble_eq_true rfl, Nat.le_of_ble_eq_true rfl⟩) hC hSt hl.1 (Nat.le_of_ble_eq_true rfl) dX0_strike_32 ⟨Nat.zero_le _, Nat.zero_le _⟩ ?_
  refine lv_icmp_lt (tgt := 73) hx hb dX0_strike_35 (by decide) (fun c_1 => ?_) (fun c_1 => ?_)
  · exact W.vret hx hb hr (fun t ht hW => ⟨⟨zrai (zrai σ 2 x1 5) 2 x1 1, rfl, (by unfold zX0_strike; rw [if_pos c_1]), by dsimp only; rw [ht]; exact hSt⟩, hS.F ht⟩) hS.2.2 dX0_strike_73
  · refine lv_aload_n hx hb dX0_strike_38 rfl (lv_at hl 0 rfl) ?_
    refine va_get (D := D) (ci := 0) (v := .ref (ad 5)) (C := RX0) (T := TX0) (N := 5) hx hb hts iwX0_strike_X0 hown hC.1 hCh 0 rfl rfl 3 (by decide) (hts (.fieldLink RX0 29 "MealLockers$Changes" "people" "LMealLockers$Table;") (List.mem_of_getElem? (i := 1) rfl)) (fun _ h9 => h9) rfl dX0_strike_39 ?_
    refine lv_iload_n hx hb dX0_strike_42 rfl (lv_at hl 1 rfl) ?_
    refine lv_iconst (v := 1) hx hb dX0_strike_43 (by decide) ?_
    refine lv_iconst (v := 0) hx hb dX0_strike_44 (by decide) ?_
    refine sX5_store (k := 2) hF (cwV 3 hts gX0_strike_X5_store rfl rfl rfl hdX5_store ⟨Nat.le_of_ble_eq_true rfl, Nat.le_of_ble_eq_true rfl⟩) hC hSt hi (by decide) hS (fun _ h => h) hl.1 (Nat.le_of_ble_eq_true rfl) dX0_strike_45 ⟨Nat.zero_le _, Nat.zero_le _⟩ (fun H locs hSt _ _ hS => ?_)
    have hCh := qo_at hS hCh0 hdj
    refine lv_aload_n hx hb dX0_strike_48 rfl (lv_at hl 0 rfl) ?_
    refine va_get (D := D) (ci := 0) (v := .ref (ad 5)) (C := RX0) (T := TX0) (N := 5) hx hb hts iwX0_strike_X0 hown hC.1 hCh 0 rfl rfl 3 (by decide) (hts (.fieldLink RX0 29 "MealLockers$Changes" "people" "LMealLockers$Table;") (List.mem_of_getElem? (i := 1) rfl)) (fun _ h9 => h9) rfl dX0_strike_49 ?_
    refine lv_iload_n hx hb dX0_strike_52 rfl (lv_at hl 1 rfl) ?_
    refine lv_iconst (v := 2) hx hb dX0_strike_53 (by decide) ?_
    refine lv_aload_n hx hb dX0_strike_54 rfl (lv_at hl 0 rfl) ?_
    refine va_get (D := D) (ci := 0) (v := .ref (ad 0)) (C := RX0) (T := TX0) (N := 5) hx hb hts iwX0_strike_X0 hown hC.1 hCh 0 rfl rfl 0 (by decide) (hts (.fieldLink RX0 9 "MealLockers$Changes" "state" "LMealLockers$State;") (List.mem_of_getElem? (i := 2) rfl)) (fun _ h9 => h9) rfl dX0_strike_55 ?_
    refine va_getN (D := D) (ci := 4) (v := .int ((zsto (zrai (zrai σ 2 x1 5) 2 x1 1) 2 x1 1 0) 5 5)) (C := RX4) (T := TX4) (N := 6) hx hb hts iwX0_strike_X4 hown hC.1 hSt 0 rfl rfl 5 (by decide) (nw_f10 hC) (fun _ h9 => h9) rfl dX0_strike_58 ?_
    refine lv_aload_n hx hb dX0_strike_61 rfl (lv_at hl 0 rfl) ?_
    refine va_get (D := D) (ci := 0) (v := .ref (ad 0)) (C := RX0) (T := TX0) (N := 5) hx hb hts iwX0_strike_X0 hown hC.1 hCh 0 rfl rfl 0 (by decide) (hts (.fieldLink RX0 9 "MealLockers$Changes" "state" "LMealLockers$State;") (List.mem_of_getElem? (i := 2) rfl)) (fun _ h9 => h9) rfl dX0_strike_62 ?_
    refine lv_iconst (v := 2) hx hb dX0_strike_65 (by decide) ?_
    refine kX4_setting hF (cwV 1 hts gX0_strike_X4_setting rfl rfl rfl hdX4_setting ⟨Nat.le_of_ble_eq_true rfl, Nat.le_of_ble_eq_true rfl⟩) hC hSt hl.1 (Nat.le_of_ble_eq_true rfl) dX0_strike_66 ⟨Nat.zero_le _, Nat.zero_le _⟩ ?_
    refine lv_iadd hx hb dX0_strike_69 ?_
    refine sX5_store (k := 2) hF (cwV 3 hts gX0_strike_X5_store rfl rfl rfl hdX5_store ⟨Nat.le_of_ble_eq_true rfl, Nat.le_of_ble_eq_true rfl⟩) hC hSt hi (by decide) hS (fun _ h => h) hl.1 (Nat.le_of_ble_eq_true rfl) dX0_strike_70 ⟨Nat.zero_le _, Nat.zero_le _⟩ (fun H locs hSt _ _ hS => ?_)
    have hCh := qo_at hS hCh0 hdj
    exact W.vret hx hb hr (fun t ht hW => ⟨⟨zsto (zsto (zrai (zrai σ 2 x1 5) 2 x1 1) 2 x1 1 0) 2 x1 2 (((zsto (zrai (zrai σ 2 x1 5) 2 x1 1) 2 x1 1 0) 5 5) + (zX4_setting (zsto (zrai (zrai σ 2 x1 5) 2 x1 1) 2 x1 1 0) 2)), rfl, (by unfold zX0_strike; rw [if_neg c_1]), by dsimp only; rw [ht]; exact hSt⟩, hS.F ht⟩) hS.2.2 dX0_strike_73
set_option maxHeartbeats 4000000 in
set_option maxRecDepth 100000 in
theorem kX0_strike {p : Program} {l : Launch} {e : Env} {R : Room} {s : State} {m : MethodId} {args : Array Value} {below : List Frame} {meth : Method} {c : Code} {H : Heap} {locs : List Loc} {cells slots : Nat} {Q : State → Prop} {cc : ByteArray} {nL : Nat} {Ts : List Cond} {own : String} {index pc : Nat} {ls : Array Slot} {rest : List Value} {D : va_G} {y : Y3} {h : Nat} {ad : Nat → Nat} {σ : Sg} {x1 : Int32} {A0 : Nat → Prop} {H0 : Heap} (hF : CallFix p m c cc nL s args Ts own) (cw : CallW R s args own RX0 index yX0_strike cX0_strike 2 none wsX0_strike ({ frames := 2, cells := 0, slots := 0, locals := 46 } : Room) 0 0 1) (hC : CK D y s) (hCh : qoH D 0 h ad H) (hSt : StH D y ad σ H) (hi : adI ad) (hdj : (∀ k, k < 11 → ad k ≠ h)) (hS : va_S A0 H0 H locs) (hA : ∀ q, (stA ad) q → A0 q) (hsz : ls.size = nL) (hW : (rest.map fun v => v.category).sum ≤ 8) (hdg : decode cc pc = .ok (.invokevirtual index, 3)) (hf : cells ≤ R.cells ∧ slots ≤ R.slots)
    (k : ∀ (H1 : Heap) (locs1 : List Loc), StH D y ad (zX0_strike σ x1) H1 → H.size ≤ H1.size → (∀ q : Nat, q < H.size → ¬ (stA ad) q → H1[q]? = H[q]?) → va_S A0 H0 H1 locs1 → W p l e R s m args below meth c H1 locs1 cells slots Q (F0 m (pc + 3) ls (rest))) : W p l e R s m args below meth c H locs cells slots Q (F0 m pc ls (.int x1 :: .ref h :: rest)) := by
  refine va_callv (va_runV (As := [.int x1]) (rest := rest) hF (mX0_strike l D y h ad σ x1) cw ⟨fun a U g mk q => by obtain ⟨q0, q1, q2, q3, q4, q5⟩ := q; exact ⟨q0, q1.call g mk a, q2, q3, q4, q5⟩, va_recv hC.1 hCh (ci := 0) (q0 := 0) rfl rfl, fun U hU hW => ⟨rfl, hC.warm hW, by rw [hU]; exact hCh, by rw [hU]; exact hSt, hi, hdj⟩⟩ rfl rfl hsz rfl (lv_room hW) hdg ⟨hf.1, hf.2⟩) hS (fun q _ h => hA q h) hA (fun u t H1 locs1 ht hvm hp hB hz1 hk1 hS1 => ?_)
  subst hp
  rw [ht] at hB
  exact k H1 locs1 hB hz1 hk1 hS1
theorem r5X0_strike (σ : Sg) (x1 : Int32) : zX0_strike σ x1 5 = σ 5 := by
  unfold zX0_strike
  (repeat' split) <;> rfl
def bX0_lapseReservations  (i : Nat) (v : Sg) : Sg := if (zatt v 1 (nI i) 0) = 1 then (if ((v 5 5) - (zatt v 1 (nI i) 7)) < (zX4_setting v 0) then v
    else (zX0_strike (zsto v 1 (nI i) 0 0) (zatt (zsto v 1 (nI i) 0 0) 1 (nI i) 5)))
  else v
theorem r5X0_blapse (i : Nat) (v : Sg) : bX0_lapseReservations i v 5 = v 5 := by
  unfold bX0_lapseReservations
  (repeat' split) <;> first | rfl | (rw [r5X0_strike]; rfl)
theorem r5X0_ulapse (σ : Sg) (n : Nat) : upTo bX0_lapseReservations σ n 5 = σ 5 := upTo_inv (fun v : Sg => v 5 = σ 5) rfl (fun i v h => (r5X0_blapse i v).trans h) n
def zX0_lapseReservations (σ : Sg) : Sg := (upTo bX0_lapseReservations σ (σ 5 1).toNatClampNeg)
theorem iwX0_lapseReservations_X0 : ∀ w ∈ wsX00, w ∈ wsX0_lapseReservations := fun _ h => List.mem_cons_of_mem _ (List.mem_append_left _ (List.mem_append_left _ (List.mem_append_right _ h)))
theorem iwX0_lapseReservations_X4 : ∀ w ∈ wsX40, w ∈ wsX0_lapseReservations := fun _ h => List.mem_cons_of_mem _ (List.mem_append_left _ (List.mem_append_right _ h))
theorem hdX0_lapseReservations : yX0_lapseReservations.cls = RX0 ∧ yX0_lapseReservations.cls ≠ "java/lang/invoke/MethodHandle" ∧ yX0_lapseReservations.cls ≠ "java/lang/invoke/VarHandle" ∧ (parseMethodDescriptor yX0_lapseReservations.desc).map (fun d => d.parameters.length) = some 0 := by decide +kernel
set_option maxHeartbeats 4000000 in
set_option maxRecDepth 100000 in
theorem lpX0_lapseReservations {p : Program} {l : Launch} {e : Env} {s : State} {m : MethodId} {args : Array Value} {below : List Frame} {meth : Method} {c : Code} {Q : State → Prop} {D : va_G} {y : Y3} {h : Nat} {ad : Nat → Nat} {σ : Sg} (hx : p.tables.exec = Jvm.exec) (hb : c.code = cX0_lapseReservations) (hml : c.maxLocals = 3) (hown : s.vm.findClass RX0 = some m.cls) (hts : ∀ w ∈ wsX0_lapseReservations, w.before args s = true) (hC : CK D y s) (hCh0 : qoH D 0 h ad s.heap) (hi : adI ad) (hdj : ∀ k, k < 11 → ad k ≠ h) (hrow : ∀ i : Nat, (upTo (bX0_lapseReservations) σ i) 5 = σ 5)
    (K : ∀ (H : Heap) (locs : List Loc) (ls : Array Slot), StH D y ad (upTo (bX0_lapseReservations) σ ((σ 5 1).toNatClampNeg)) H → va_S (stA ad) s.heap H locs → lv_has ls 3 [(1, .int (nI (σ 5 1).toNatClampNeg)), (0, .ref h)] → W p l e (headSpec wsX0_lapseReservations ({ frames := 3, cells := 0, slots := 0, locals := 67 } : Room)).room s m args below meth c H locs 0 0 Q (F0 m 86 ls [])) :
    ∀ (j i : Nat), i + j = (σ 5 1).toNatClampNeg → ∀ (H : Heap) (locs : List Loc), StH D y ad (upTo (bX0_lapseReservations) σ i) H → va_S (stA ad) s.heap H locs → ∀ ls : Array Slot, lv_has ls 3 [(1, .int (nI i)), (0, .ref h)] → W p l e (headSpec wsX0_lapseReservations ({ frames := 3, cells := 0, slots := 0, locals := 67 } : Room)).room s m args below meth c H locs 0 0 Q (F0 m 2 ls []) := by
  have hF := (⟨hx, hb, hml, hown, hts⟩ : CallFix p m c cX0_lapseReservations 3 s args wsX0_lapseReservations RX0)
  have hN := clamp_lt (σ 5 1)
  intro j
  induction j with
  | zero =>
    intro i hin H locs hSt hS ls hl
    have hCh := qo_at hS hCh0 hdj
    obtain rfl : i = (σ 5 1).toNatClampNeg := by omega
    have hw := hrow ((σ 5 1).toNatClampNeg)
    refine lv_iload_n hx hb dX0_lapseReservations_2 rfl (lv_at hl 0 rfl) ?_
    refine lv_aload_n hx hb dX0_lapseReservations_3 rfl (lv_at hl 1 rfl) ?_
    refine va_get (D := D) (ci := 0) (v := .ref (ad 3)) (C := RX0) (T := TX0) (N := 5) hx hb hts iwX0_lapseReservations_X0 hown hC.1 hCh 0 rfl rfl 2 (by decide) (hts (.fieldLink RX0 25 "MealLockers$Changes" "meals" "LMealLockers$Table;") (List.mem_of_getElem? (i := 1) rfl)) (fun _ h9 => h9) rfl dX0_lapseReservations_4 ?_
    refine sX5_size (k := 1) hF (cwV 0 hts gX0_lapseReservations_X5_size rfl rfl rfl hdX5_size ⟨Nat.le_of_ble_eq_true rfl, Nat.le_of_ble_eq_true rfl⟩) hC hSt (by decide) hl.1 (Nat.le_of_ble_eq_true rfl) dX0_lapseReservations_7 ⟨Nat.zero_le _, Nat.zero_le _⟩ ?_
    refine lv_icmp_ge (tgt := 86) hx hb dX0_lapseReservations_10 (by decide) (fun _ => ?_) (fun c_1 => absurd (by rw [hw]; exact up_le _) c_1)
    exact K H locs ls hSt hS (lv_sub hl [0, 1] rfl)
  | succ j ih =>
    intro i hin H locs hSt hS ls hl
    have hCh := qo_at hS hCh0 hdj
    have hw := hrow i
    obtain ⟨v, hv⟩ : ∃ v, v = (upTo (bX0_lapseReservations) σ i) := ⟨_, rfl⟩
    rw [← hv] at hSt hw
    refine lv_iload_n hx hb dX0_lapseReservations_2 rfl (lv_at hl 0 rfl) ?_
    refine lv_aload_n hx hb dX0_lapseReservations_3 rfl (lv_at hl 1 rfl) ?_
    refine va_get (D := D) (ci := 0) (v := .ref (ad 3)) (C := RX0) (T := TX0) (N := 5) hx hb hts iwX0_lapseReservations_X0 hown hC.1 hCh 0 rfl rfl 2 (by decide) (hts (.fieldLink RX0 25 "MealLockers$Changes" "meals" "LMealLockers$Table;") (List.mem_of_getElem? (i := 1) rfl)) (fun _ h9 => h9) rfl dX0_lapseReservations_4 ?_
    refine sX5_size (k := 1) hF (cwV 0 hts gX0_lapseReservations_X5_size rfl rfl rfl hdX5_size ⟨Nat.le_of_ble_eq_true rfl, Nat.le_of_ble_eq_true rfl⟩) hC hSt (by decide) hl.1 (Nat.le_of_ble_eq_true rfl) dX0_lapseReservations_7 ⟨Nat.zero_le _, Nat.zero_le _⟩ ?_
    refine lv_icmp_ge (tgt := 86) hx hb dX0_lapseReservations_10 (by decide) (fun c_2 => absurd c_2 (by rw [hw]; exact up_gt (by omega))) (fun _ => ?_)
    refine lv_aload_n hx hb dX0_lapseReservations_13 rfl (lv_at hl 1 rfl) ?_
    refine va_get (D := D) (ci := 0) (v := .ref (ad 0)) (C := RX0) (T := TX0) (N := 5) hx hb hts iwX0_lapseReservations_X0 hown hC.1 hCh 0 rfl rfl 0 (by decide) (hts (.fieldLink RX0 9 "MealLockers$Changes" "state" "LMealLockers$State;") (List.mem_of_getElem? (i := 2) rfl)) (fun _ h9 => h9) rfl dX0_lapseReservations_14 ?_
    refine va_getN (D := D) (ci := 4) (v := .int (v 5 5)) (C := RX4) (T := TX4) (N := 6) hx hb hts iwX0_lapseReservations_X4 hown hC.1 hSt 0 rfl rfl 5 (by decide) (nw_f10 hC) (fun _ h9 => h9) rfl dX0_lapseReservations_17 ?_
    refine lv_aload_n hx hb dX0_lapseReservations_20 rfl (lv_at hl 1 rfl) ?_
    refine va_get (D := D) (ci := 0) (v := .ref (ad 3)) (C := RX0) (T := TX0) (N := 5) hx hb hts iwX0_lapseReservations_X0 hown hC.1 hCh 0 rfl rfl 2 (by decide) (hts (.fieldLink RX0 25 "MealLockers$Changes" "meals" "LMealLockers$Table;") (List.mem_of_getElem? (i := 1) rfl)) (fun _ h9 => h9) rfl dX0_lapseReservations_21 ?_
    refine lv_iload_n hx hb dX0_lapseReservations_24 rfl (lv_at hl 0 rfl) ?_
    refine lv_bipush (v := 7) hx hb dX0_lapseReservations_25 (by decide) ?_
    refine sX5_at (k := 1) hF (cwV 2 hts gX0_lapseReservations_X5_at rfl rfl rfl hdX5_at ⟨Nat.le_of_ble_eq_true rfl, Nat.le_of_ble_eq_true rfl⟩) hC hSt (by decide) hl.1 (Nat.le_of_ble_eq_true rfl) dX0_lapseReservations_27 ⟨Nat.zero_le _, Nat.zero_le _⟩ ?_
    refine lv_isub hx hb dX0_lapseReservations_30 ?_
    refine lv_istore_n (lv' := [(2, .int ((v 5 5) - (zatt v 1 (nI i) 7))), (1, .int (nI i)), (0, .ref h)]) hx hb dX0_lapseReservations_31 rfl hl (by decide) rfl (fun ls hl => ?_)
    refine lv_aload_n hx hb dX0_lapseReservations_32 rfl (lv_at hl 2 rfl) ?_
    refine va_get (D := D) (ci := 0) (v := .ref (ad 3)) (C := RX0) (T := TX0) (N := 5) hx hb hts iwX0_lapseReservations_X0 hown hC.1 hCh 0 rfl rfl 2 (by decide) (hts (.fieldLink RX0 25 "MealLockers$Changes" "meals" "LMealLockers$Table;") (List.mem_of_getElem? (i := 1) rfl)) (fun _ h9 => h9) rfl dX0_lapseReservations_33 ?_
    refine lv_iload_n hx hb dX0_lapseReservations_36 rfl (lv_at hl 1 rfl) ?_
    refine lv_iconst (v := 0) hx hb dX0_lapseReservations_37 (by decide) ?_
    refine sX5_at (k := 1) hF (cwV 2 hts gX0_lapseReservations_X5_at rfl rfl rfl hdX5_at ⟨Nat.le_of_ble_eq_true rfl, Nat.le_of_ble_eq_true rfl⟩) hC hSt (by decide) hl.1 (Nat.le_of_ble_eq_true rfl) dX0_lapseReservations_38 ⟨Nat.zero_le _, Nat.zero_le _⟩ ?_
    refine lv_iconst (v := 1) hx hb dX0_lapseReservations_41 (by decide) ?_
    refine lv_icmp_ne (tgt := 80) hx hb dX0_lapseReservations_42 (by decide) (fun c_3 => ?_) (fun c_3 => ?_)
    · refine lv_iinc (v := (nI (i + 1))) (lv' := [(1, .int (nI (i + 1))), (2, .int ((v 5 5) - (zatt v 1 (nI i) 7))), (0, .ref h)]) hx hb dX0_lapseReservations_80 hl (k := 1) rfl (by rw [nI_succ]; rfl) (by decide) rfl (fun ls hl => ?_)
      refine lv_goto (tgt := 2) hx hb dX0_lapseReservations_83 (by decide) ?_
      have e9 : (upTo (bX0_lapseReservations) σ (i + 1)) = v := by show bX0_lapseReservations i (upTo (bX0_lapseReservations) σ i) = _; rw [← hv]; unfold bX0_lapseReservations; rw [if_neg c_3]
      exact ih (i + 1) (by omega) H locs (by rw [e9]; exact hSt) hS ls (lv_sub hl [0, 2] rfl)
    · refine lv_iload_n hx hb dX0_lapseReservations_45 rfl (lv_at hl 0 rfl) ?_
      refine lv_aload_n hx hb dX0_lapseReservations_46 rfl (lv_at hl 2 rfl) ?_
      refine va_get (D := D) (ci := 0) (v := .ref (ad 0)) (C := RX0) (T := TX0) (N := 5) hx hb hts iwX0_lapseReservations_X0 hown hC.1 hCh 0 rfl rfl 0 (by decide) (hts (.fieldLink RX0 9 "MealLockers$Changes" "state" "LMealLockers$State;") (List.mem_of_getElem? (i := 2) rfl)) (fun _ h9 => h9) rfl dX0_lapseReservations_47 ?_
      refine lv_iconst (v := 0) hx hb dX0_lapseReservations_50 (by decide) ?_
      refine kX4_setting hF (cwV 1 hts gX0_lapseReservations_X4_setting rfl rfl rfl hdX4_setting ⟨Nat.le_of_ble_eq_true rfl, Nat.le_of_ble_eq_true rfl⟩) hC hSt hl.1 (Nat.le_of_ble_eq_true rfl) dX0_lapseReservations_51 ⟨Nat.zero_le _, Nat.zero_le _⟩ ?_
      refine lv_icmp_lt (tgt := 80) hx hb dX0_lapseReservations_54 (by decide) (fun c_4 => ?_) (fun c_4 => ?_)
      · refine lv_iinc (v := (nI (i + 1))) (lv' := [(1, .int (nI (i + 1))), (2, .int ((v 5 5) - (zatt v 1 (nI i) 7))), (0, .ref h)]) hx hb dX0_lapseReservations_80 hl (k := 1) rfl (by rw [nI_succ]; rfl) (by decide) rfl (fun ls hl => ?_)
        refine lv_goto (tgt := 2) hx hb dX0_lapseReservations_83 (by decide) ?_
        have e9 : (upTo (bX0_lapseReservations) σ (i + 1)) = v := by show bX0_lapseReservations i (upTo (bX0_lapseReservations) σ i) = _; rw [← hv]; unfold bX0_lapseReservations; rw [if_pos c_3, if_pos c_4]
        exact ih (i + 1) (by omega) H locs (by rw [e9]; exact hSt) hS ls (lv_sub hl [0, 2] rfl)
      · refine lv_aload_n hx hb dX0_lapseReservations_57 rfl (lv_at hl 2 rfl) ?_
        refine va_get (D := D) (ci := 0) (v := .ref (ad 3)) (C := RX0) (T := TX0) (N := 5) hx hb hts iwX0_lapseReservations_X0 hown hC.1 hCh 0 rfl rfl 2 (by decide) (hts (.fieldLink RX0 25 "MealLockers$Changes" "meals" "LMealLockers$Table;") (List.mem_of_getElem? (i := 1) rfl)) (fun _ h9 => h9) rfl dX0_lapseReservations_58 ?_
        refine lv_iload_n hx hb dX0_lapseReservations_61 rfl (lv_at hl 1 rfl) ?_
        refine lv_iconst (v := 0) hx hb dX0_lapseReservations_62 (by decide) ?_
        refine lv_iconst (v := 0) hx hb dX0_lapseReservations_63 (by decide) ?_
        refine sX5_store (k := 1) hF (cwV 3 hts gX0_lapseReservations_X5_store rfl rfl rfl hdX5_store ⟨Nat.le_of_ble_eq_true rfl, Nat.le_of_ble_eq_true rfl⟩) hC hSt hi (by decide) hS (fun _ h => h) hl.1 (Nat.le_of_ble_eq_true rfl) dX0_lapseReservations_64 ⟨Nat.zero_le _, Nat.zero_le _⟩ (fun H locs hSt _ _ hS => ?_)
        have hCh := qo_at hS hCh0 hdj
        refine lv_aload_n hx hb dX0_lapseReservations_67 rfl (lv_at hl 2 rfl) ?_
        refine lv_aload_n hx hb dX0_lapseReservations_68 rfl (lv_at hl 2 rfl) ?_
        refine va_get (D := D) (ci := 0) (v := .ref (ad 3)) (C := RX0) (T := TX0) (N := 5) hx hb hts iwX0_lapseReservations_X0 hown hC.1 hCh 0 rfl rfl 2 (by decide) (hts (.fieldLink RX0 25 "MealLockers$Changes" "meals" "LMealLockers$Table;") (List.mem_of_getElem? (i := 1) rfl)) (fun _ h9 => h9) rfl dX0_lapseReservations_69 ?_
        refine lv_iload_n hx hb dX0_lapseReservations_72 rfl (lv_at hl 1 rfl) ?_
        refine lv_iconst (v := 5) hx hb dX0_lapseReservations_73 (by decide) ?_
        refine sX5_at (k := 1) hF (cwV 2 hts gX0_lapseReservations_X5_at rfl rfl rfl hdX5_at ⟨Nat.le_of_ble_eq_true rfl, Nat.le_of_ble_eq_true rfl⟩) hC hSt (by decide) hl.1 (Nat.le_of_ble_eq_true rfl) dX0_lapseReservations_74 ⟨Nat.zero_le _, Nat.zero_le _⟩ ?_
        refine kX0_strike hF (cwV 1 hts gX0_lapseReservations_X0_strike rfl rfl rfl hdX0_strike ⟨Nat.le_of_ble_eq_true rfl, Nat.le_of_ble_eq_true rfl⟩) hC hCh hSt hi hdj hS (fun _ h => h) hl.1 (Nat.le_of_ble_eq_true rfl) dX0_lapseReservations_77 ⟨Nat.zero_le _, Nat.zero_le _⟩ (fun H locs hSt _ _ hS => ?_)
        have hCh := qo_at hS hCh0 hdj
        refine lv_iinc (v := (nI (i + 1))) (lv' := [(1, .int (nI (i + 1))), (2, .int ((v 5 5) - (zatt v 1 (nI i) 7))), (0, .ref h)]) hx hb dX0_lapseReservations_80 hl (k := 1) rfl (by rw [nI_succ]; rfl) (by decide) rfl (fun ls hl => ?_)
        refine lv_goto (tgt := 2) hx hb dX0_lapseReservations_83 (by decide) ?_
        have e9 : (upTo (bX0_lapseReservations) σ (i + 1)) = (zX0_strike (zsto v 1 (nI i) 0 0) (zatt (zsto v 1 (nI i) 0 0) 1 (nI i) 5)) := by show bX0_lapseReservations i (upTo (bX0_lapseReservations) σ i) = _; rw [← hv]; unfold bX0_lapseReservations; rw [if_pos c_3, if_neg c_4]
        exact ih (i + 1) (by omega) H locs (by rw [e9]; exact hSt) hS ls (lv_sub hl [0, 2] rfl)
set_option maxHeartbeats 4000000 in
set_option maxRecDepth 100000 in
theorem mX0_lapseReservations (l : Launch) (D : va_G) (y : Y3) (h : Nat) (ad : Nat → Nat) (σ : Sg) : Met l yX0_lapseReservations wsX0_lapseReservations ({ frames := 3, cells := 0, slots := 0, locals := 67 } : Room) (va_Pc [.ref h] (fun U => CK D y U ∧ qoH D 0 h ad U.heap ∧ StH D y ad σ U.heap ∧ adI ad ∧ (∀ k, k < 11 → ad k ≠ h))) (va_Qv (fun u : Sg => u = zX0_lapseReservations σ) (fun u t => StH D y ad u t.heap) (stA ad)) 0 0 (stA ad) := by
  refine Met.ofW (cc := cX0_lapseReservations) (maxL := 3) (ret := none) (by decide) rfl ?_
  intro p e s m args below meth c s₁ B hml hv
  obtain ⟨rfl, hC, hCh, hSt, hi, hdj⟩ := hv
  have hx := B.exec
  have hb := B.bytes
  have hr := B.returns
  have hts := atoms_spec (ws := wsX0_lapseReservations) B.pre
  have hown : s.vm.findClass RX0 = some m.cls := findClass_of_methodNamed B.named
  have hlocks := B.notSynchronized
  have hF := (⟨hx, hb, hml, hown, hts⟩ : CallFix p m c cX0_lapseReservations 3 s _ wsX0_lapseReservations RX0)
  have hS : va_S (stA ad) s.heap s.heap [] := va_S.rf
  have hl := lv_entry ([.ref h]) (n := 3) (Nat.le_of_ble_eq_true rfl)
  rw [lg_entry_eq]
  generalize (lg_sl ([.ref h]) ++ List.replicate (3 - (lg_sl ([.ref h])).length) Slot.unset).toArray = ls at hl ⊢
  have hl : lv_has ls 3 [(0, .ref h)] := hl
  have hCh0 := hCh
  refine lv_iconst (v := 0) hx hb dX0_lapseReservations_0 (by decide) ?_
  refine lv_istore_n (lv' := [(1, .int 0), (0, .ref h)]) hx hb dX0_lapseReservations_1 rfl hl (by decide) rfl (fun ls hl => ?_)
  refine lpX0_lapseReservations (σ := σ) hx hb hml hown hts hC hCh0 hi hdj (r5X0_ulapse σ) (fun H locs ls hSt hS hl => ?_) _ 0 (Nat.zero_add _) _ _ hSt hS ls (lv_sub hl [0, 1] rfl)
  exact W.vret hx hb hr (fun t ht hW => ⟨⟨(upTo bX0_lapseReservations σ (σ 5 1).toNatClampNeg), rfl, rfl, by dsimp only; rw [ht]; exact hSt⟩, hS.F ht⟩) hS.2.2 dX0_lapseReservations_86
set_option maxHeartbeats 4000000 in
set_option maxRecDepth 100000 in
theorem kX0_lapseReservations {p : Program} {l : Launch} {e : Env} {R : Room} {s : State} {m : MethodId} {args : Array Value} {below : List Frame} {meth : Method} {c : Code} {H : Heap} {locs : List Loc} {cells slots : Nat} {Q : State → Prop} {cc : ByteArray} {nL : Nat} {Ts : List Cond} {own : String} {index pc : Nat} {ls : Array Slot} {rest : List Value} {D : va_G} {y : Y3} {h : Nat} {ad : Nat → Nat} {σ : Sg} {A0 : Nat → Prop} {H0 : Heap} (hF : CallFix p m c cc nL s args Ts own) (cw : CallW R s args own RX0 index yX0_lapseReservations cX0_lapseReservations 3 none wsX0_lapseReservations ({ frames := 3, cells := 0, slots := 0, locals := 67 } : Room) 0 0 0) (hC : CK D y s) (hCh : qoH D 0 h ad H) (hSt : StH D y ad σ H) (hi : adI ad) (hdj : (∀ k, k < 11 → ad k ≠ h)) (hS : va_S A0 H0 H locs) (hA : ∀ q, (stA ad) q → A0 q) (hsz : ls.size = nL) (hW : (rest.map fun v => v.category).sum ≤ 8) (hdg : decode cc pc = .ok (.invokevirtual index, 3)) (hf : cells ≤ R.cells ∧ slots ≤ R.slots)
    (k : ∀ (H1 : Heap) (locs1 : List Loc), StH D y ad (zX0_lapseReservations σ) H1 → H.size ≤ H1.size → (∀ q : Nat, q < H.size → ¬ (stA ad) q → H1[q]? = H[q]?) → va_S A0 H0 H1 locs1 → W p l e R s m args below meth c H1 locs1 cells slots Q (F0 m (pc + 3) ls (rest))) : W p l e R s m args below meth c H locs cells slots Q (F0 m pc ls (.ref h :: rest)) := by
  refine va_callv (va_runV (As := []) (rest := rest) hF (mX0_lapseReservations l D y h ad σ) cw ⟨fun a U g mk q => by obtain ⟨q0, q1, q2, q3, q4, q5⟩ := q; exact ⟨q0, q1.call g mk a, q2, q3, q4, q5⟩, va_recv hC.1 hCh (ci := 0) (q0 := 0) rfl rfl, fun U hU hW => ⟨rfl, hC.warm hW, by rw [hU]; exact hCh, by rw [hU]; exact hSt, hi, hdj⟩⟩ rfl rfl hsz rfl (lv_room hW) hdg ⟨hf.1, hf.2⟩) hS (fun q _ h => hA q h) hA (fun u t H1 locs1 ht hvm hp hB hz1 hk1 hS1 => ?_)
  subst hp
  rw [ht] at hB
  exact k H1 locs1 hB hz1 hk1 hS1
theorem r5X0_lapseReservations (σ : Sg) : zX0_lapseReservations σ 5 = σ 5 := r5X0_ulapse σ _
