def qoH (D : va_G) (ci : Nat) (h : Nat) (ad : Nat → Nat) (H : Heap) : Prop := va_P D vwCl [(h, .inr (ci, [.ref (ad 0), .ref (ad 1), .ref (ad 3), .ref (ad 5), .ref (ad 7)]))] H
theorem qo_at {D : va_G} {ci h : Nat} {ad : Nat → Nat} {H0 H : Heap} {locs : List Loc} (hS : va_S (stA ad) H0 H locs) (h0 : qoH D ci h ad H0) (hdj : ∀ k, k < 11 → ad k ≠ h) : qoH D ci h ad H :=
  va_P.kept h0 (fun k q hk => by
    have hl := (h0 k q hk).lt
    match k, hk with
    | 0, hk => cases hk; exact hS.2.1 _ hl (fun z => by obtain ⟨j, hj, e⟩ := z; exact hdj j hj e.symm)
    | k + 1, hk => simp at hk)
theorem upTo_inv {S : Type} {f : Nat → S → S} (P : S → Prop) {a : S} (h0 : P a) (hs : ∀ i v, P v → P (f i v)) : ∀ n, P (upTo f a n) := by
  intro n
  induction n with
  | zero => exact h0
  | succ n ih => exact hs n _ ih
def zX0_addLocker (σ : Sg) (x1 : Int32) (x2 : Int32) : Int32 × Sg := if (zX7_isWithin x1 1 8) = 0 then ((-1), σ)
  else (if (zX7_isWithin x2 0 1) = 0 then ((-1), σ)
    else (if (zX5_isFull (limK 0) (σ 5 0)) = 0 then ((zadR σ 0), zsto (zsto (zadS σ 0) 0 (zadR σ 0) 0 x1) 0 (zadR σ 0) 1 x2)
      else ((-3), σ)))
theorem iwX0_addLocker_X0 : ∀ w ∈ wsX00, w ∈ wsX0_addLocker := fun _ h => List.mem_cons_of_mem _ (List.mem_append_left _ (List.mem_append_right _ h))
theorem hdX0_addLocker : yX0_addLocker.cls = RX0 ∧ yX0_addLocker.cls ≠ "java/lang/invoke/MethodHandle" ∧ yX0_addLocker.cls ≠ "java/lang/invoke/VarHandle" ∧ (parseMethodDescriptor yX0_addLocker.desc).map (fun d => d.parameters.length) = some 2 := by decide +kernel
set_option maxHeartbeats 4000000 in
set_option maxRecDepth 100000 in
theorem mX0_addLocker (l : Launch) (D : va_G) (y : Y3) (h : Nat) (ad : Nat → Nat) (σ : Sg) (x1 : Int32) (x2 : Int32) : Met l yX0_addLocker wsX0_addLocker ({ frames := 1, cells := 0, slots := 0, locals := 24 } : Room) (va_Pc [.ref h, .int x1, .int x2] (fun U => CK D y U ∧ qoH D 0 h ad U.heap ∧ StH D y ad σ U.heap ∧ adI ad ∧ (∀ k, k < 11 → ad k ≠ h))) (va_Qi (fun (r : Int32) (u : Sg) => r = (zX0_addLocker σ x1 x2).1 ∧ u = (zX0_addLocker σ x1 x2).2) (fun u t => StH D y ad u t.heap) (stA ad)) 0 0 (stA ad) := by
  refine Met.ofW (cc := cX0_addLocker) (maxL := 4) (ret := (some .int)) (by decide) rfl ?_
  intro p e s m args below meth c s₁ B hml hv
  obtain ⟨rfl, hC, hCh, hSt, hi, hdj⟩ := hv
  have hx := B.exec
  have hb := B.bytes
  have hr := B.returns
  have hts := atoms_spec (ws := wsX0_addLocker) B.pre
  have hown : s.vm.findClass RX0 = some m.cls := findClass_of_methodNamed B.named
  have hlocks := B.notSynchronized
  have hF := (⟨hx, hb, hml, hown, hts⟩ : CallFix p m c cX0_addLocker 4 s _ wsX0_addLocker RX0)
  have hS : va_S (stA ad) s.heap s.heap [] := va_S.rf
  have hl := lv_entry ([.ref h, .int x1, .int x2]) (n := 4) (Nat.le_of_ble_eq_true rfl)
  rw [lg_entry_eq]
  generalize (lg_sl ([.ref h, .int x1, .int x2]) ++ List.replicate (4 - (lg_sl ([.ref h, .int x1, .int x2])).length) Slot.unset).toArray = ls at hl ⊢
  have hl : lv_has ls 4 [(0, .ref h), (1, .int x1), (2, .int x2)] := hl
  have hCh0 := hCh
  refine lv_iload_n hx hb dX0_addLocker_0 rfl (lv_at hl 1 rfl) ?_
  refine lv_iconst (v := 1) hx hb dX0_addLocker_1 (by decide) ?_
  refine lv_bipush (v := 8) hx hb dX0_addLocker_2 (by decide) ?_
  refine kX7_isWithinN hF ⟨va_cnB 3 hts gX0_addLocker_X7_isWithin_n34 rfl rfl rfl (nw_m0 hC) (hts (.initialized RX7) (List.mem_of_getElem? (i := 3) rfl)) hdX7_isWithin ⟨Nat.le_of_ble_eq_true rfl, Nat.le_of_ble_eq_true rfl⟩, (hts (.static yX7_isWithin) (List.mem_of_getElem? (i := 2) rfl)), trivial⟩ hC hl.1 (Nat.le_of_ble_eq_true rfl) dX0_addLocker_4 ⟨Nat.zero_le _, Nat.zero_le _⟩ ?_
  refine lv_if_eq (tgt := 19) hx hb dX0_addLocker_7 (by decide) (fun c_1 => ?_) (fun c_1 => ?_)
  · refine lv_iconst (v := (-1)) hx hb dX0_addLocker_19 (by decide) ?_
    exact W.iret (v := (-1)) hx hb hr (fun t ht hW => ⟨⟨(-1), σ, rfl, ⟨(by unfold zX0_addLocker; rw [if_pos c_1]), (by unfold zX0_addLocker; rw [if_pos c_1])⟩, by dsimp only; rw [ht]; exact hSt⟩, hS.F ht⟩) hS.2.2 dX0_addLocker_20
  · refine lv_iload_n hx hb dX0_addLocker_10 rfl (lv_at hl 2 rfl) ?_
    refine lv_iconst (v := 0) hx hb dX0_addLocker_11 (by decide) ?_
    refine lv_iconst (v := 1) hx hb dX0_addLocker_12 (by decide) ?_
    refine kX7_isWithinN hF ⟨va_cnB 3 hts gX0_addLocker_X7_isWithin_n34 rfl rfl rfl (nw_m0 hC) (hts (.initialized RX7) (List.mem_of_getElem? (i := 3) rfl)) hdX7_isWithin ⟨Nat.le_of_ble_eq_true rfl, Nat.le_of_ble_eq_true rfl⟩, (hts (.static yX7_isWithin) (List.mem_of_getElem? (i := 2) rfl)), trivial⟩ hC hl.1 (Nat.le_of_ble_eq_true rfl) dX0_addLocker_13 ⟨Nat.zero_le _, Nat.zero_le _⟩ ?_
    refine lv_if_ne (tgt := 21) hx hb dX0_addLocker_16 (by decide) (fun c_2 => ?_) (fun c_2 => ?_)
    · refine lv_aload_n hx hb dX0_addLocker_21 rfl (lv_at hl 0 rfl) ?_
      refine va_get (D := D) (ci := 0) (v := .ref (ad 1)) (C := RX0) (T := TX0) (N := 5) hx hb hts iwX0_addLocker_X0 hown hC.1 hCh 0 rfl rfl 1 (by decide) (hts (.fieldLink RX0 21 "MealLockers$Changes" "lockers" "LMealLockers$Table;") (List.mem_of_getElem? (i := 1) rfl)) (fun _ h9 => h9) rfl dX0_addLocker_22 ?_
      refine sX5_isFull (k := 0) hF (cwV 0 hts gX0_addLocker_X5_isFull rfl rfl rfl hdX5_isFull ⟨Nat.le_of_ble_eq_true rfl, Nat.le_of_ble_eq_true rfl⟩) hC hSt (by decide) hl.1 (Nat.le_of_ble_eq_true rfl) dX0_addLocker_25 ⟨Nat.zero_le _, Nat.zero_le _⟩ ?_
      refine lv_if_eq (tgt := 34) hx hb dX0_addLocker_28 (by decide) (fun c_3 => ?_) (fun c_3 => ?_)
      · refine lv_aload_n hx hb dX0_addLocker_34 rfl (lv_at hl 0 rfl) ?_
        refine va_get (D := D) (ci := 0) (v := .ref (ad 1)) (C := RX0) (T := TX0) (N := 5) hx hb hts iwX0_addLocker_X0 hown hC.1 hCh 0 rfl rfl 1 (by decide) (hts (.fieldLink RX0 21 "MealLockers$Changes" "lockers" "LMealLockers$Table;") (List.mem_of_getElem? (i := 1) rfl)) (fun _ h9 => h9) rfl dX0_addLocker_35 ?_
        refine sX5_addRow (k := 0) hF (cwV 0 hts gX0_addLocker_X5_addRow rfl rfl rfl hdX5_addRow ⟨Nat.le_of_ble_eq_true rfl, Nat.le_of_ble_eq_true rfl⟩) hC hSt hi (by decide) hS (fun _ h => h) hl.1 (Nat.le_of_ble_eq_true rfl) dX0_addLocker_38 ⟨Nat.zero_le _, Nat.zero_le _⟩ (fun H locs hSt _ _ hS => ?_)
        have hCh := qo_at hS hCh0 hdj
        refine lv_istore_n (lv' := [(3, .int (zadR σ 0)), (0, .ref h), (1, .int x1), (2, .int x2)]) hx hb dX0_addLocker_41 rfl hl (by decide) rfl (fun ls hl => ?_)
        refine lv_aload_n hx hb dX0_addLocker_42 rfl (lv_at hl 1 rfl) ?_
        refine va_get (D := D) (ci := 0) (v := .ref (ad 1)) (C := RX0) (T := TX0) (N := 5) hx hb hts iwX0_addLocker_X0 hown hC.1 hCh 0 rfl rfl 1 (by decide) (hts (.fieldLink RX0 21 "MealLockers$Changes" "lockers" "LMealLockers$Table;") (List.mem_of_getElem? (i := 1) rfl)) (fun _ h9 => h9) rfl dX0_addLocker_43 ?_
        refine lv_iload_n hx hb dX0_addLocker_46 rfl (lv_at hl 0 rfl) ?_
        refine lv_iconst (v := 0) hx hb dX0_addLocker_47 (by decide) ?_
        refine lv_iload_n hx hb dX0_addLocker_48 rfl (lv_at hl 2 rfl) ?_
        refine sX5_store (k := 0) hF (cwV 3 hts gX0_addLocker_X5_store rfl rfl rfl hdX5_store ⟨Nat.le_of_ble_eq_true rfl, Nat.le_of_ble_eq_true rfl⟩) hC hSt hi (by decide) hS (fun _ h => h) hl.1 (Nat.le_of_ble_eq_true rfl) dX0_addLocker_49 ⟨Nat.zero_le _, Nat.zero_le _⟩ (fun H locs hSt _ _ hS => ?_)
        have hCh := qo_at hS hCh0 hdj
        refine lv_aload_n hx hb dX0_addLocker_52 rfl (lv_at hl 1 rfl) ?_
        refine va_get (D := D) (ci := 0) (v := .ref (ad 1)) (C := RX0) (T := TX0) (N := 5) hx hb hts iwX0_addLocker_X0 hown hC.1 hCh 0 rfl rfl 1 (by decide) (hts (.fieldLink RX0 21 "MealLockers$Changes" "lockers" "LMealLockers$Table;") (List.mem_of_getElem? (i := 1) rfl)) (fun _ h9 => h9) rfl dX0_addLocker_53 ?_
        refine lv_iload_n hx hb dX0_addLocker_56 rfl (lv_at hl 0 rfl) ?_
        refine lv_iconst (v := 1) hx hb dX0_addLocker_57 (by decide) ?_
        refine lv_iload_n hx hb dX0_addLocker_58 rfl (lv_at hl 3 rfl) ?_
        refine sX5_store (k := 0) hF (cwV 3 hts gX0_addLocker_X5_store rfl rfl rfl hdX5_store ⟨Nat.le_of_ble_eq_true rfl, Nat.le_of_ble_eq_true rfl⟩) hC hSt hi (by decide) hS (fun _ h => h) hl.1 (Nat.le_of_ble_eq_true rfl) dX0_addLocker_59 ⟨Nat.zero_le _, Nat.zero_le _⟩ (fun H locs hSt _ _ hS => ?_)
        have hCh := qo_at hS hCh0 hdj
        refine lv_iload_n hx hb dX0_addLocker_62 rfl (lv_at hl 0 rfl) ?_
        exact W.iret (v := (zadR σ 0)) hx hb hr (fun t ht hW => ⟨⟨(zadR σ 0), zsto (zsto (zadS σ 0) 0 (zadR σ 0) 0 x1) 0 (zadR σ 0) 1 x2, rfl, ⟨(by unfold zX0_addLocker; rw [if_neg c_1, if_neg c_2, if_pos c_3]), (by unfold zX0_addLocker; rw [if_neg c_1, if_neg c_2, if_pos c_3])⟩, by dsimp only; rw [ht]; exact hSt⟩, hS.F ht⟩) hS.2.2 dX0_addLocker_63
      · refine lv_bipush (v := (-3)) hx hb dX0_addLocker_31 (by decide) ?_
        exact W.iret (v := (-3)) hx hb hr (fun t ht hW => ⟨⟨(-3), σ, rfl, ⟨(by unfold zX0_addLocker; rw [if_neg c_1, if_neg c_2, if_neg c_3]), (by unfold zX0_addLocker; rw [if_neg c_1, if_neg c_2, if_neg c_3])⟩, by dsimp only; rw [ht]; exact hSt⟩, hS.F ht⟩) hS.2.2 dX0_addLocker_33
    · refine lv_iconst (v := (-1)) hx hb dX0_addLocker_19 (by decide) ?_
      exact W.iret (v := (-1)) hx hb hr (fun t ht hW => ⟨⟨(-1), σ, rfl, ⟨(by unfold zX0_addLocker; rw [if_neg c_1, if_pos c_2]), (by unfold zX0_addLocker; rw [if_neg c_1, if_pos c_2])⟩, by dsimp only; rw [ht]; exact hSt⟩, hS.F ht⟩) hS.2.2 dX0_addLocker_20
set_option maxHeartbeats 4000000 in
set_option maxRecDepth 100000 in
theorem kX0_addLocker {p : Program} {l : Launch} {e : Env} {R : Room} {s : State} {m : MethodId} {args : Array Value} {below : List Frame} {meth : Method} {c : Code} {H : Heap} {locs : List Loc} {cells slots : Nat} {Q : State → Prop} {cc : ByteArray} {nL : Nat} {Ts : List Cond} {own : String} {index pc : Nat} {ls : Array Slot} {rest : List Value} {D : va_G} {y : Y3} {h : Nat} {ad : Nat → Nat} {σ : Sg} {x1 : Int32} {x2 : Int32} {A0 : Nat → Prop} {H0 : Heap} (hF : CallFix p m c cc nL s args Ts own) (cw : CallW R s args own RX0 index yX0_addLocker cX0_addLocker 4 (some .int) wsX0_addLocker ({ frames := 1, cells := 0, slots := 0, locals := 24 } : Room) 0 0 2) (hC : CK D y s) (hCh : qoH D 0 h ad H) (hSt : StH D y ad σ H) (hi : adI ad) (hdj : (∀ k, k < 11 → ad k ≠ h)) (hS : va_S A0 H0 H locs) (hA : ∀ q, (stA ad) q → A0 q) (hsz : ls.size = nL) (hW : (rest.map fun v => v.category).sum ≤ 8) (hdg : decode cc pc = .ok (.invokevirtual index, 3)) (hf : cells ≤ R.cells ∧ slots ≤ R.slots)
    (k : ∀ (H1 : Heap) (locs1 : List Loc), StH D y ad (zX0_addLocker σ x1 x2).2 H1 → H.size ≤ H1.size → (∀ q : Nat, q < H.size → ¬ (stA ad) q → H1[q]? = H[q]?) → va_S A0 H0 H1 locs1 → W p l e R s m args below meth c H1 locs1 cells slots Q (F0 m (pc + 3) ls (.int ((zX0_addLocker σ x1 x2).1) :: rest))) : W p l e R s m args below meth c H locs cells slots Q (F0 m pc ls (.int x2 :: .int x1 :: .ref h :: rest)) := by
  refine va_calli (va_runV (As := [.int x1, .int x2]) (rest := rest) hF (mX0_addLocker l D y h ad σ x1 x2) cw ⟨fun a U g mk q => by obtain ⟨q0, q1, q2, q3, q4, q5⟩ := q; exact ⟨q0, q1.call g mk a, q2, q3, q4, q5⟩, va_recv hC.1 hCh (ci := 0) (q0 := 0) rfl rfl, fun U hU hW => ⟨rfl, hC.warm hW, by rw [hU]; exact hCh, by rw [hU]; exact hSt, hi, hdj⟩⟩ rfl rfl hsz rfl (lv_room hW) hdg ⟨hf.1, hf.2⟩) hS (fun q _ h => hA q h) hA (fun r u t H1 locs1 ht hvm hp hB hz1 hk1 hS1 => ?_)
  obtain ⟨hp1, hp2⟩ := hp
  subst hp1; subst hp2
  rw [ht] at hB
  exact k H1 locs1 hB hz1 hk1 hS1
def zX0_addMeal (σ : Sg) (x1 : Int32) (x2 : Int32) (x3 : Int32) : Int32 × Sg := if (zX5_has (σ 5 0) x1) = 0 then ((-1), σ)
  else (if (zX7_isWithin x2 1 99) = 0 then ((-1), σ)
    else (if (zX7_isWithin x3 0 31) = 0 then ((-1), σ)
      else (if 0 < (zX4_freeCells σ x1) then (if (zX5_isFull (limK 1) (σ 5 1)) = 0 then ((zadR σ 1), zrai (zsto (zsto (zsto (zsto (zadS σ 1) 1 (zadR σ 1) 0 0) 1 (zadR σ 1) 1 x1) 1 (zadR σ 1) 2 x2) 1 (zadR σ 1) 3 x3) 0 x1 3)
          else ((-3), σ))
        else ((-2), σ))))
theorem iwX0_addMeal_X0 : ∀ w ∈ wsX00, w ∈ wsX0_addMeal := fun _ h => List.mem_cons_of_mem _ (List.mem_append_left _ (List.mem_append_left _ (List.mem_append_right _ h)))
theorem hdX0_addMeal : yX0_addMeal.cls = RX0 ∧ yX0_addMeal.cls ≠ "java/lang/invoke/MethodHandle" ∧ yX0_addMeal.cls ≠ "java/lang/invoke/VarHandle" ∧ (parseMethodDescriptor yX0_addMeal.desc).map (fun d => d.parameters.length) = some 3 := by decide +kernel
set_option maxHeartbeats 4000000 in
set_option maxRecDepth 100000 in
theorem mX0_addMeal (l : Launch) (D : va_G) (y : Y3) (h : Nat) (ad : Nat → Nat) (σ : Sg) (x1 : Int32) (x2 : Int32) (x3 : Int32) : Met l yX0_addMeal wsX0_addMeal ({ frames := 3, cells := 0, slots := 0, locals := 67 } : Room) (va_Pc [.ref h, .int x1, .int x2, .int x3] (fun U => CK D y U ∧ qoH D 0 h ad U.heap ∧ StH D y ad σ U.heap ∧ adI ad ∧ (∀ k, k < 11 → ad k ≠ h))) (va_Qi (fun (r : Int32) (u : Sg) => r = (zX0_addMeal σ x1 x2 x3).1 ∧ u = (zX0_addMeal σ x1 x2 x3).2) (fun u t => StH D y ad u t.heap) (stA ad)) 0 0 (stA ad) := by
  refine Met.ofW (cc := cX0_addMeal) (maxL := 5) (ret := (some .int)) (by decide) rfl ?_
  intro p e s m args below meth c s₁ B hml hv
  obtain ⟨rfl, hC, hCh, hSt, hi, hdj⟩ := hv
  have hx := B.exec
  have hb := B.bytes
  have hr := B.returns
  have hts := atoms_spec (ws := wsX0_addMeal) B.pre
  have hown : s.vm.findClass RX0 = some m.cls := findClass_of_methodNamed B.named
  have hlocks := B.notSynchronized
  have hF := (⟨hx, hb, hml, hown, hts⟩ : CallFix p m c cX0_addMeal 5 s _ wsX0_addMeal RX0)
  have hS : va_S (stA ad) s.heap s.heap [] := va_S.rf
  have hl := lv_entry ([.ref h, .int x1, .int x2, .int x3]) (n := 5) (Nat.le_of_ble_eq_true rfl)
  rw [lg_entry_eq]
  generalize (lg_sl ([.ref h, .int x1, .int x2, .int x3]) ++ List.replicate (5 - (lg_sl ([.ref h, .int x1, .int x2, .int x3])).length) Slot.unset).toArray = ls at hl ⊢
  have hl : lv_has ls 5 [(0, .ref h), (1, .int x1), (2, .int x2), (3, .int x3)] := hl
  have hCh0 := hCh
  refine lv_aload_n hx hb dX0_addMeal_0 rfl (lv_at hl 0 rfl) ?_
  refine va_get (D := D) (ci := 0) (v := .ref (ad 1)) (C := RX0) (T := TX0) (N := 5) hx hb hts iwX0_addMeal_X0 hown hC.1 hCh 0 rfl rfl 1 (by decide) (hts (.fieldLink RX0 21 "MealLockers$Changes" "lockers" "LMealLockers$Table;") (List.mem_of_getElem? (i := 1) rfl)) (fun _ h9 => h9) rfl dX0_addMeal_1 ?_
  refine lv_iload_n hx hb dX0_addMeal_4 rfl (lv_at hl 1 rfl) ?_
  refine sX5_has (k := 0) hF (cwV 1 hts gX0_addMeal_X5_has rfl rfl rfl hdX5_has ⟨Nat.le_of_ble_eq_true rfl, Nat.le_of_ble_eq_true rfl⟩) hC hSt (by decide) hl.1 (Nat.le_of_ble_eq_true rfl) dX0_addMeal_5 ⟨Nat.zero_le _, Nat.zero_le _⟩ ?_
  refine lv_if_eq (tgt := 31) hx hb dX0_addMeal_8 (by decide) (fun c_1 => ?_) (fun c_1 => ?_)
  · refine lv_iconst (v := (-1)) hx hb dX0_addMeal_31 (by decide) ?_
    exact W.iret (v := (-1)) hx hb hr (fun t ht hW => ⟨⟨(-1), σ, rfl, ⟨(by unfold zX0_addMeal; rw [if_pos c_1]), (by unfold zX0_addMeal; rw [if_pos c_1])⟩, by dsimp only; rw [ht]; exact hSt⟩, hS.F ht⟩) hS.2.2 dX0_addMeal_32
  · refine lv_iload_n hx hb dX0_addMeal_11 rfl (lv_at hl 2 rfl) ?_
    refine lv_iconst (v := 1) hx hb dX0_addMeal_12 (by decide) ?_
    refine lv_bipush (v := 99) hx hb dX0_addMeal_13 (by decide) ?_
    refine kX7_isWithinN hF ⟨va_cnB 3 hts gX0_addMeal_X7_isWithin_n34 rfl rfl rfl (nw_m0 hC) (hts (.initialized RX7) (List.mem_of_getElem? (i := 11) rfl)) hdX7_isWithin ⟨Nat.le_of_ble_eq_true rfl, Nat.le_of_ble_eq_true rfl⟩, (hts (.static yX7_isWithin) (List.mem_of_getElem? (i := 10) rfl)), trivial⟩ hC hl.1 (Nat.le_of_ble_eq_true rfl) dX0_addMeal_15 ⟨Nat.zero_le _, Nat.zero_le _⟩ ?_
    refine lv_if_eq (tgt := 31) hx hb dX0_addMeal_18 (by decide) (fun c_2 => ?_) (fun c_2 => ?_)
    · refine lv_iconst (v := (-1)) hx hb dX0_addMeal_31 (by decide) ?_
      exact W.iret (v := (-1)) hx hb hr (fun t ht hW => ⟨⟨(-1), σ, rfl, ⟨(by unfold zX0_addMeal; rw [if_neg c_1, if_pos c_2]), (by unfold zX0_addMeal; rw [if_neg c_1, if_pos c_2])⟩, by dsimp only; rw [ht]; exact hSt⟩, hS.F ht⟩) hS.2.2 dX0_addMeal_32
    · refine lv_iload_n hx hb dX0_addMeal_21 rfl (lv_at hl 3 rfl) ?_
      refine lv_iconst (v := 0) hx hb dX0_addMeal_22 (by decide) ?_
      refine lv_bipush (v := 31) hx hb dX0_addMeal_23 (by decide) ?_
      refine kX7_isWithinN hF ⟨va_cnB 3 hts gX0_addMeal_X7_isWithin_n34 rfl rfl rfl (nw_m0 hC) (hts (.initialized RX7) (List.mem_of_getElem? (i := 11) rfl)) hdX7_isWithin ⟨Nat.le_of_ble_eq_true rfl, Nat.le_of_ble_eq_true rfl⟩, (hts (.static yX7_isWithin) (List.mem_of_getElem? (i := 10) rfl)), trivial⟩ hC hl.1 (Nat.le_of_ble_eq_true rfl) dX0_addMeal_25 ⟨Nat.zero_le _, Nat.zero_le _⟩ ?_
      refine lv_if_ne (tgt := 33) hx hb dX0_addMeal_28 (by decide) (fun c_3 => ?_) (fun c_3 => ?_)
      · refine lv_aload_n hx hb dX0_addMeal_33 rfl (lv_at hl 0 rfl) ?_
        refine va_get (D := D) (ci := 0) (v := .ref (ad 0)) (C := RX0) (T := TX0) (N := 5) hx hb hts iwX0_addMeal_X0 hown hC.1 hCh 0 rfl rfl 0 (by decide) (hts (.fieldLink RX0 9 "MealLockers$Changes" "state" "LMealLockers$State;") (List.mem_of_getElem? (i := 2) rfl)) (fun _ h9 => h9) rfl dX0_addMeal_34 ?_
        refine lv_iload_n hx hb dX0_addMeal_37 rfl (lv_at hl 1 rfl) ?_
        refine kX4_freeCells hF (cwV 1 hts gX0_addMeal_X4_freeCells rfl rfl rfl hdX4_freeCells ⟨Nat.le_of_ble_eq_true rfl, Nat.le_of_ble_eq_true rfl⟩) hC hSt hl.1 (Nat.le_of_ble_eq_true rfl) dX0_addMeal_38 ⟨Nat.zero_le _, Nat.zero_le _⟩ ?_
        refine lv_if_gt (tgt := 47) hx hb dX0_addMeal_41 (by decide) (fun c_4 => ?_) (fun c_4 => ?_)
        · refine lv_aload_n hx hb dX0_addMeal_47 rfl (lv_at hl 0 rfl) ?_
          refine va_get (D := D) (ci := 0) (v := .ref (ad 3)) (C := RX0) (T := TX0) (N := 5) hx hb hts iwX0_addMeal_X0 hown hC.1 hCh 0 rfl rfl 2 (by decide) (hts (.fieldLink RX0 25 "MealLockers$Changes" "meals" "LMealLockers$Table;") (List.mem_of_getElem? (i := 3) rfl)) (fun _ h9 => h9) rfl dX0_addMeal_48 ?_
          refine sX5_isFull (k := 1) hF (cwV 0 hts gX0_addMeal_X5_isFull rfl rfl rfl hdX5_isFull ⟨Nat.le_of_ble_eq_true rfl, Nat.le_of_ble_eq_true rfl⟩) hC hSt (by decide) hl.1 (Nat.le_of_ble_eq_true rfl) dX0_addMeal_51 ⟨Nat.zero_le _, Nat.zero_le _⟩ ?_
          refine lv_if_eq (tgt := 60) hx hb dX0_addMeal_54 (by decide) (fun c_5 => ?_) (fun c_5 => ?_)
          · refine lv_aload_n hx hb dX0_addMeal_60 rfl (lv_at hl 0 rfl) ?_
            refine va_get (D := D) (ci := 0) (v := .ref (ad 3)) (C := RX0) (T := TX0) (N := 5) hx hb hts iwX0_addMeal_X0 hown hC.1 hCh 0 rfl rfl 2 (by decide) (hts (.fieldLink RX0 25 "MealLockers$Changes" "meals" "LMealLockers$Table;") (List.mem_of_getElem? (i := 3) rfl)) (fun _ h9 => h9) rfl dX0_addMeal_61 ?_
            refine sX5_addRow (k := 1) hF (cwV 0 hts gX0_addMeal_X5_addRow rfl rfl rfl hdX5_addRow ⟨Nat.le_of_ble_eq_true rfl, Nat.le_of_ble_eq_true rfl⟩) hC hSt hi (by decide) hS (fun _ h => h) hl.1 (Nat.le_of_ble_eq_true rfl) dX0_addMeal_64 ⟨Nat.zero_le _, Nat.zero_le _⟩ (fun H locs hSt _ _ hS => ?_)
            have hCh := qo_at hS hCh0 hdj
            refine lv_istore (lv' := [(4, .int (zadR σ 1)), (0, .ref h), (1, .int x1), (2, .int x2), (3, .int x3)]) hx hb dX0_addMeal_67 hl (by decide) rfl (fun ls hl => ?_)
            refine lv_aload_n hx hb dX0_addMeal_69 rfl (lv_at hl 1 rfl) ?_
            refine va_get (D := D) (ci := 0) (v := .ref (ad 3)) (C := RX0) (T := TX0) (N := 5) hx hb hts iwX0_addMeal_X0 hown hC.1 hCh 0 rfl rfl 2 (by decide) (hts (.fieldLink RX0 25 "MealLockers$Changes" "meals" "LMealLockers$Table;") (List.mem_of_getElem? (i := 3) rfl)) (fun _ h9 => h9) rfl dX0_addMeal_70 ?_
            refine lv_iload hx hb dX0_addMeal_73 (lv_at hl 0 rfl) ?_
            refine lv_iconst (v := 0) hx hb dX0_addMeal_75 (by decide) ?_
            refine lv_iconst (v := 0) hx hb dX0_addMeal_76 (by decide) ?_
            refine sX5_store (k := 1) hF (cwV 3 hts gX0_addMeal_X5_store rfl rfl rfl hdX5_store ⟨Nat.le_of_ble_eq_true rfl, Nat.le_of_ble_eq_true rfl⟩) hC hSt hi (by decide) hS (fun _ h => h) hl.1 (Nat.le_of_ble_eq_true rfl) dX0_addMeal_77 ⟨Nat.zero_le _, Nat.zero_le _⟩ (fun H locs hSt _ _ hS => ?_)
            have hCh := qo_at hS hCh0 hdj
            refine lv_aload_n hx hb dX0_addMeal_80 rfl (lv_at hl 1 rfl) ?_
            refine va_get (D := D) (ci := 0) (v := .ref (ad 3)) (C := RX0) (T := TX0) (N := 5) hx hb hts iwX0_addMeal_X0 hown hC.1 hCh 0 rfl rfl 2 (by decide) (hts (.fieldLink RX0 25 "MealLockers$Changes" "meals" "LMealLockers$Table;") (List.mem_of_getElem? (i := 3) rfl)) (fun _ h9 => h9) rfl dX0_addMeal_81 ?_
            refine lv_iload hx hb dX0_addMeal_84 (lv_at hl 0 rfl) ?_
            refine lv_iconst (v := 1) hx hb dX0_addMeal_86 (by decide) ?_
            refine lv_iload_n hx hb dX0_addMeal_87 rfl (lv_at hl 2 rfl) ?_
            refine sX5_store (k := 1) hF (cwV 3 hts gX0_addMeal_X5_store rfl rfl rfl hdX5_store ⟨Nat.le_of_ble_eq_true rfl, Nat.le_of_ble_eq_true rfl⟩) hC hSt hi (by decide) hS (fun _ h => h) hl.1 (Nat.le_of_ble_eq_true rfl) dX0_addMeal_88 ⟨Nat.zero_le _, Nat.zero_le _⟩ (fun H locs hSt _ _ hS => ?_)
            have hCh := qo_at hS hCh0 hdj
            refine lv_aload_n hx hb dX0_addMeal_91 rfl (lv_at hl 1 rfl) ?_
            refine va_get (D := D) (ci := 0) (v := .ref (ad 3)) (C := RX0) (T := TX0) (N := 5) hx hb hts iwX0_addMeal_X0 hown hC.1 hCh 0 rfl rfl 2 (by decide) (hts (.fieldLink RX0 25 "MealLockers$Changes" "meals" "LMealLockers$Table;") (List.mem_of_getElem? (i := 3) rfl)) (fun _ h9 => h9) rfl dX0_addMeal_92 ?_
            refine lv_iload hx hb dX0_addMeal_95 (lv_at hl 0 rfl) ?_
            refine lv_iconst (v := 2) hx hb dX0_addMeal_97 (by decide) ?_
            refine lv_iload_n hx hb dX0_addMeal_98 rfl (lv_at hl 3 rfl) ?_
            refine sX5_store (k := 1) hF (cwV 3 hts gX0_addMeal_X5_store rfl rfl rfl hdX5_store ⟨Nat.le_of_ble_eq_true rfl, Nat.le_of_ble_eq_true rfl⟩) hC hSt hi (by decide) hS (fun _ h => h) hl.1 (Nat.le_of_ble_eq_true rfl) dX0_addMeal_99 ⟨Nat.zero_le _, Nat.zero_le _⟩ (fun H locs hSt _ _ hS => ?_)
            have hCh := qo_at hS hCh0 hdj
            refine lv_aload_n hx hb dX0_addMeal_102 rfl (lv_at hl 1 rfl) ?_
            refine va_get (D := D) (ci := 0) (v := .ref (ad 3)) (C := RX0) (T := TX0) (N := 5) hx hb hts iwX0_addMeal_X0 hown hC.1 hCh 0 rfl rfl 2 (by decide) (hts (.fieldLink RX0 25 "MealLockers$Changes" "meals" "LMealLockers$Table;") (List.mem_of_getElem? (i := 3) rfl)) (fun _ h9 => h9) rfl dX0_addMeal_103 ?_
            refine lv_iload hx hb dX0_addMeal_106 (lv_at hl 0 rfl) ?_
            refine lv_iconst (v := 3) hx hb dX0_addMeal_108 (by decide) ?_
            refine lv_iload_n hx hb dX0_addMeal_109 rfl (lv_at hl 4 rfl) ?_
            refine sX5_store (k := 1) hF (cwV 3 hts gX0_addMeal_X5_store rfl rfl rfl hdX5_store ⟨Nat.le_of_ble_eq_true rfl, Nat.le_of_ble_eq_true rfl⟩) hC hSt hi (by decide) hS (fun _ h => h) hl.1 (Nat.le_of_ble_eq_true rfl) dX0_addMeal_110 ⟨Nat.zero_le _, Nat.zero_le _⟩ (fun H locs hSt _ _ hS => ?_)
            have hCh := qo_at hS hCh0 hdj
            refine lv_aload_n hx hb dX0_addMeal_113 rfl (lv_at hl 1 rfl) ?_
            refine va_get (D := D) (ci := 0) (v := .ref (ad 1)) (C := RX0) (T := TX0) (N := 5) hx hb hts iwX0_addMeal_X0 hown hC.1 hCh 0 rfl rfl 1 (by decide) (hts (.fieldLink RX0 21 "MealLockers$Changes" "lockers" "LMealLockers$Table;") (List.mem_of_getElem? (i := 1) rfl)) (fun _ h9 => h9) rfl dX0_addMeal_114 ?_
            refine lv_iload_n hx hb dX0_addMeal_117 rfl (lv_at hl 2 rfl) ?_
            refine lv_iconst (v := 3) hx hb dX0_addMeal_118 (by decide) ?_
            refine sX5_raise (k := 0) hF (cwV 2 hts gX0_addMeal_X5_raise rfl rfl rfl hdX5_raise ⟨Nat.le_of_ble_eq_true rfl, Nat.le_of_ble_eq_true rfl⟩) hC hSt hi (by decide) hS (fun _ h => h) hl.1 (Nat.le_of_ble_eq_true rfl) dX0_addMeal_119 ⟨Nat.zero_le _, Nat.zero_le _⟩ (fun H locs hSt _ _ hS => ?_)
            have hCh := qo_at hS hCh0 hdj
            refine lv_iload hx hb dX0_addMeal_122 (lv_at hl 0 rfl) ?_
            exact W.iret (v := (zadR σ 1)) hx hb hr (fun t ht hW => ⟨⟨(zadR σ 1), zrai (zsto (zsto (zsto (zsto (zadS σ 1) 1 (zadR σ 1) 0 0) 1 (zadR σ 1) 1 x1) 1 (zadR σ 1) 2 x2) 1 (zadR σ 1) 3 x3) 0 x1 3, rfl, ⟨(by unfold zX0_addMeal; rw [if_neg c_1, if_neg c_2, if_neg c_3, if_pos c_4, if_pos c_5]), (by unfold zX0_addMeal; rw [if_neg c_1, if_neg c_2, if_neg c_3, if_pos c_4, if_pos c_5])⟩, by dsimp only; rw [ht]; exact hSt⟩, hS.F ht⟩) hS.2.2 dX0_addMeal_124
          · refine lv_bipush (v := (-3)) hx hb dX0_addMeal_57 (by decide) ?_
            exact W.iret (v := (-3)) hx hb hr (fun t ht hW => ⟨⟨(-3), σ, rfl, ⟨(by unfold zX0_addMeal; rw [if_neg c_1, if_neg c_2, if_neg c_3, if_pos c_4, if_neg c_5]), (by unfold zX0_addMeal; rw [if_neg c_1, if_neg c_2, if_neg c_3, if_pos c_4, if_neg c_5])⟩, by dsimp only; rw [ht]; exact hSt⟩, hS.F ht⟩) hS.2.2 dX0_addMeal_59
        · refine lv_bipush (v := (-2)) hx hb dX0_addMeal_44 (by decide) ?_
          exact W.iret (v := (-2)) hx hb hr (fun t ht hW => ⟨⟨(-2), σ, rfl, ⟨(by unfold zX0_addMeal; rw [if_neg c_1, if_neg c_2, if_neg c_3, if_neg c_4]), (by unfold zX0_addMeal; rw [if_neg c_1, if_neg c_2, if_neg c_3, if_neg c_4])⟩, by dsimp only; rw [ht]; exact hSt⟩, hS.F ht⟩) hS.2.2 dX0_addMeal_46
      · refine lv_iconst (v := (-1)) hx hb dX0_addMeal_31 (by decide) ?_
        exact W.iret (v := (-1)) hx hb hr (fun t ht hW => ⟨⟨(-1), σ, rfl, ⟨(by unfold zX0_addMeal; rw [if_neg c_1, if_neg c_2, if_pos c_3]), (by unfold zX0_addMeal; rw [if_neg c_1, if_neg c_2, if_pos c_3])⟩, by dsimp only; rw [ht]; exact hSt⟩, hS.F ht⟩) hS.2.2 dX0_addMeal_32
set_option maxHeartbeats 4000000 in
set_option maxRecDepth 100000 in
theorem kX0_addMeal {p : Program} {l : Launch} {e : Env} {R : Room} {s : State} {m : MethodId} {args : Array Value} {below : List Frame} {meth : Method} {c : Code} {H : Heap} {locs : List Loc} {cells slots : Nat} {Q : State → Prop} {cc : ByteArray} {nL : Nat} {Ts : List Cond} {own : String} {index pc : Nat} {ls : Array Slot} {rest : List Value} {D : va_G} {y : Y3} {h : Nat} {ad : Nat → Nat} {σ : Sg} {x1 : Int32} {x2 : Int32} {x3 : Int32} {A0 : Nat → Prop} {H0 : Heap} (hF : CallFix p m c cc nL s args Ts own) (cw : CallW R s args own RX0 index yX0_addMeal cX0_addMeal 5 (some .int) wsX0_addMeal ({ frames := 3, cells := 0, slots := 0, locals := 67 } : Room) 0 0 3) (hC : CK D y s) (hCh : qoH D 0 h ad H) (hSt : StH D y ad σ H) (hi : adI ad) (hdj : (∀ k, k < 11 → ad k ≠ h)) (hS : va_S A0 H0 H locs) (hA : ∀ q, (stA ad) q → A0 q) (hsz : ls.size = nL) (hW : (rest.map fun v => v.category).sum ≤ 8) (hdg : decode cc pc = .ok (.invokevirtual index, 3)) (hf : cells ≤ R.cells ∧ slots ≤ R.slots)
    (k : ∀ (H1 : Heap) (locs1 : List Loc), StH D y ad (zX0_addMeal σ x1 x2 x3).2 H1 → H.size ≤ H1.size → (∀ q : Nat, q < H.size → ¬ (stA ad) q → H1[q]? = H[q]?) → va_S A0 H0 H1 locs1 → W p l e R s m args below meth c H1 locs1 cells slots Q (F0 m (pc + 3) ls (.int ((zX0_addMeal σ x1 x2 x3).1) :: rest))) : W p l e R s m args below meth c H locs cells slots Q (F0 m pc ls (.int x3 :: .int x2 :: .int x1 :: .ref h :: rest)) := by
  refine va_calli (va_runV (As := [.int x1, .int x2, .int x3]) (rest := rest) hF (mX0_addMeal l D y h ad σ x1 x2 x3) cw ⟨fun a U g mk q => by obtain ⟨q0, q1, q2, q3, q4, q5⟩ := q; exact ⟨q0, q1.call g mk a, q2, q3, q4, q5⟩, va_recv hC.1 hCh (ci := 0) (q0 := 0) rfl rfl, fun U hU hW => ⟨rfl, hC.warm hW, by rw [hU]; exact hCh, by rw [hU]; exact hSt, hi, hdj⟩⟩ rfl rfl hsz rfl (lv_room hW) hdg ⟨hf.1, hf.2⟩) hS (fun q _ h => hA q h) hA (fun r u t H1 locs1 ht hvm hp hB hz1 hk1 hS1 => ?_)
  obtain ⟨hp1, hp2⟩ := hp
  subst hp1; subst hp2
  rw [ht] at hB
  exact k H1 locs1 hB hz1 hk1 hS1
def zX0_addPerson (σ : Sg) (x1 : Int32) : Int32 × Sg := if (zX7_isWithin x1 0 31) = 0 then ((-1), σ)
  else (if (zX5_isFull (limK 2) (σ 5 2)) = 0 then ((zadR σ 2), zsto (zadS σ 2) 2 (zadR σ 2) 0 x1)
    else ((-3), σ))
theorem iwX0_addPerson_X0 : ∀ w ∈ wsX00, w ∈ wsX0_addPerson := fun _ h => List.mem_cons_of_mem _ (List.mem_append_left _ (List.mem_append_right _ h))
theorem hdX0_addPerson : yX0_addPerson.cls = RX0 ∧ yX0_addPerson.cls ≠ "java/lang/invoke/MethodHandle" ∧ yX0_addPerson.cls ≠ "java/lang/invoke/VarHandle" ∧ (parseMethodDescriptor yX0_addPerson.desc).map (fun d => d.parameters.length) = some 1 := by decide +kernel
set_option maxHeartbeats 4000000 in
set_option maxRecDepth 100000 in
theorem mX0_addPerson (l : Launch) (D : va_G) (y : Y3) (h : Nat) (ad : Nat → Nat) (σ : Sg) (x1 : Int32) : Met l yX0_addPerson wsX0_addPerson ({ frames := 1, cells := 0, slots := 0, locals := 24 } : Room) (va_Pc [.ref h, .int x1] (fun U => CK D y U ∧ qoH D 0 h ad U.heap ∧ StH D y ad σ U.heap ∧ adI ad ∧ (∀ k, k < 11 → ad k ≠ h))) (va_Qi (fun (r : Int32) (u : Sg) => r = (zX0_addPerson σ x1).1 ∧ u = (zX0_addPerson σ x1).2) (fun u t => StH D y ad u t.heap) (stA ad)) 0 0 (stA ad) := by
  refine Met.ofW (cc := cX0_addPerson) (maxL := 3) (ret := (some .int)) (by decide) rfl ?_
  intro p e s m args below meth c s₁ B hml hv
  obtain ⟨rfl, hC, hCh, hSt, hi, hdj⟩ := hv
  have hx := B.exec
  have hb := B.bytes
  have hr := B.returns
  have hts := atoms_spec (ws := wsX0_addPerson) B.pre
  have hown : s.vm.findClass RX0 = some m.cls := findClass_of_methodNamed B.named
  have hlocks := B.notSynchronized
  have hF := (⟨hx, hb, hml, hown, hts⟩ : CallFix p m c cX0_addPerson 3 s _ wsX0_addPerson RX0)
  have hS : va_S (stA ad) s.heap s.heap [] := va_S.rf
  have hl := lv_entry ([.ref h, .int x1]) (n := 3) (Nat.le_of_ble_eq_true rfl)
  rw [lg_entry_eq]
  generalize (lg_sl ([.ref h, .int x1]) ++ List.replicate (3 - (lg_sl ([.ref h, .int x1])).length) Slot.unset).toArray = ls at hl ⊢
  have hl : lv_has ls 3 [(0, .ref h), (1, .int x1)] := hl
  have hCh0 := hCh
  refine lv_iload_n hx hb dX0_addPerson_0 rfl (lv_at hl 1 rfl) ?_
  refine lv_iconst (v := 0) hx hb dX0_addPerson_1 (by decide) ?_
  refine lv_bipush (v := 31) hx hb dX0_addPerson_2 (by decide) ?_
  refine kX7_isWithinN hF ⟨va_cnB 3 hts gX0_addPerson_X7_isWithin_n34 rfl rfl rfl (nw_m0 hC) (hts (.initialized RX7) (List.mem_of_getElem? (i := 3) rfl)) hdX7_isWithin ⟨Nat.le_of_ble_eq_true rfl, Nat.le_of_ble_eq_true rfl⟩, (hts (.static yX7_isWithin) (List.mem_of_getElem? (i := 2) rfl)), trivial⟩ hC hl.1 (Nat.le_of_ble_eq_true rfl) dX0_addPerson_4 ⟨Nat.zero_le _, Nat.zero_le _⟩ ?_
  refine lv_if_ne (tgt := 12) hx hb dX0_addPerson_7 (by decide) (fun c_1 => ?_) (fun c_1 => ?_)
  · refine lv_aload_n hx hb dX0_addPerson_12 rfl (lv_at hl 0 rfl) ?_
    refine va_get (D := D) (ci := 0) (v := .ref (ad 5)) (C := RX0) (T := TX0) (N := 5) hx hb hts iwX0_addPerson_X0 hown hC.1 hCh 0 rfl rfl 3 (by decide) (hts (.fieldLink RX0 29 "MealLockers$Changes" "people" "LMealLockers$Table;") (List.mem_of_getElem? (i := 1) rfl)) (fun _ h9 => h9) rfl dX0_addPerson_13 ?_
    refine sX5_isFull (k := 2) hF (cwV 0 hts gX0_addPerson_X5_isFull rfl rfl rfl hdX5_isFull ⟨Nat.le_of_ble_eq_true rfl, Nat.le_of_ble_eq_true rfl⟩) hC hSt (by decide) hl.1 (Nat.le_of_ble_eq_true rfl) dX0_addPerson_16 ⟨Nat.zero_le _, Nat.zero_le _⟩ ?_
    refine lv_if_eq (tgt := 25) hx hb dX0_addPerson_19 (by decide) (fun c_2 => ?_) (fun c_2 => ?_)
    · refine lv_aload_n hx hb dX0_addPerson_25 rfl (lv_at hl 0 rfl) ?_
      refine va_get (D := D) (ci := 0) (v := .ref (ad 5)) (C := RX0) (T := TX0) (N := 5) hx hb hts iwX0_addPerson_X0 hown hC.1 hCh 0 rfl rfl 3 (by decide) (hts (.fieldLink RX0 29 "MealLockers$Changes" "people" "LMealLockers$Table;") (List.mem_of_getElem? (i := 1) rfl)) (fun _ h9 => h9) rfl dX0_addPerson_26 ?_
      refine sX5_addRow (k := 2) hF (cwV 0 hts gX0_addPerson_X5_addRow rfl rfl rfl hdX5_addRow ⟨Nat.le_of_ble_eq_true rfl, Nat.le_of_ble_eq_true rfl⟩) hC hSt hi (by decide) hS (fun _ h => h) hl.1 (Nat.le_of_ble_eq_true rfl) dX0_addPerson_29 ⟨Nat.zero_le _, Nat.zero_le _⟩ (fun H locs hSt _ _ hS => ?_)
      have hCh := qo_at hS hCh0 hdj
      refine lv_istore_n (lv' := [(2, .int (zadR σ 2)), (0, .ref h), (1, .int x1)]) hx hb dX0_addPerson_32 rfl hl (by decide) rfl (fun ls hl => ?_)
      refine lv_aload_n hx hb dX0_addPerson_33 rfl (lv_at hl 1 rfl) ?_
      refine va_get (D := D) (ci := 0) (v := .ref (ad 5)) (C := RX0) (T := TX0) (N := 5) hx hb hts iwX0_addPerson_X0 hown hC.1 hCh 0 rfl rfl 3 (by decide) (hts (.fieldLink RX0 29 "MealLockers$Changes" "people" "LMealLockers$Table;") (List.mem_of_getElem? (i := 1) rfl)) (fun _ h9 => h9) rfl dX0_addPerson_34 ?_
      refine lv_iload_n hx hb dX0_addPerson_37 rfl (lv_at hl 0 rfl) ?_
      refine lv_iconst (v := 0) hx hb dX0_addPerson_38 (by decide) ?_
      refine lv_iload_n hx hb dX0_addPerson_39 rfl (lv_at hl 2 rfl) ?_
      refine sX5_store (k := 2) hF (cwV 3 hts gX0_addPerson_X5_store rfl rfl rfl hdX5_store ⟨Nat.le_of_ble_eq_true rfl, Nat.le_of_ble_eq_true rfl⟩) hC hSt hi (by decide) hS (fun _ h => h) hl.1 (Nat.le_of_ble_eq_true rfl) dX0_addPerson_40 ⟨Nat.zero_le _, Nat.zero_le _⟩ (fun H locs hSt _ _ hS => ?_)
      have hCh := qo_at hS hCh0 hdj
      refine lv_iload_n hx hb dX0_addPerson_43 rfl (lv_at hl 0 rfl) ?_
      exact W.iret (v := (zadR σ 2)) hx hb hr (fun t ht hW => ⟨⟨(zadR σ 2), zsto (zadS σ 2) 2 (zadR σ 2) 0 x1, rfl, ⟨(by unfold zX0_addPerson; rw [if_neg c_1, if_pos c_2]), (by unfold zX0_addPerson; rw [if_neg c_1, if_pos c_2])⟩, by dsimp only; rw [ht]; exact hSt⟩, hS.F ht⟩) hS.2.2 dX0_addPerson_44
    · refine lv_bipush (v := (-3)) hx hb dX0_addPerson_22 (by decide) ?_
      exact W.iret (v := (-3)) hx hb hr (fun t ht hW => ⟨⟨(-3), σ, rfl, ⟨(by unfold zX0_addPerson; rw [if_neg c_1, if_neg c_2]), (by unfold zX0_addPerson; rw [if_neg c_1, if_neg c_2])⟩, by dsimp only; rw [ht]; exact hSt⟩, hS.F ht⟩) hS.2.2 dX0_addPerson_24
  · refine lv_iconst (v := (-1)) hx hb dX0_addPerson_10 (by decide) ?_
    exact W.iret (v := (-1)) hx hb hr (fun t ht hW => ⟨⟨(-1), σ, rfl, ⟨(by unfold zX0_addPerson; rw [if_pos c_1]), (by unfold zX0_addPerson; rw [if_pos c_1])⟩, by dsimp only; rw [ht]; exact hSt⟩, hS.F ht⟩) hS.2.2 dX0_addPerson_11
set_option maxHeartbeats 4000000 in
set_option maxRecDepth 100000 in
theorem kX0_addPerson {p : Program} {l : Launch} {e : Env} {R : Room} {s : State} {m : MethodId} {args : Array Value} {below : List Frame} {meth : Method} {c : Code} {H : Heap} {locs : List Loc} {cells slots : Nat} {Q : State → Prop} {cc : ByteArray} {nL : Nat} {Ts : List Cond} {own : String} {index pc : Nat} {ls : Array Slot} {rest : List Value} {D : va_G} {y : Y3} {h : Nat} {ad : Nat → Nat} {σ : Sg} {x1 : Int32} {A0 : Nat → Prop} {H0 : Heap} (hF : CallFix p m c cc nL s args Ts own) (cw : CallW R s args own RX0 index yX0_addPerson cX0_addPerson 3 (some .int) wsX0_addPerson ({ frames := 1, cells := 0, slots := 0, locals := 24 } : Room) 0 0 1) (hC : CK D y s) (hCh : qoH D 0 h ad H) (hSt : StH D y ad σ H) (hi : adI ad) (hdj : (∀ k, k < 11 → ad k ≠ h)) (hS : va_S A0 H0 H locs) (hA : ∀ q, (stA ad) q → A0 q) (hsz : ls.size = nL) (hW : (rest.map fun v => v.category).sum ≤ 8) (hdg : decode cc pc = .ok (.invokevirtual index, 3)) (hf : cells ≤ R.cells ∧ slots ≤ R.slots)
    (k : ∀ (H1 : Heap) (locs1 : List Loc), StH D y ad (zX0_addPerson σ x1).2 H1 → H.size ≤ H1.size → (∀ q : Nat, q < H.size → ¬ (stA ad) q → H1[q]? = H[q]?) → va_S A0 H0 H1 locs1 → W p l e R s m args below meth c H1 locs1 cells slots Q (F0 m (pc + 3) ls (.int ((zX0_addPerson σ x1).1) :: rest))) : W p l e R s m args below meth c H locs cells slots Q (F0 m pc ls (.int x1 :: .ref h :: rest)) := by
  refine va_calli (va_runV (As := [.int x1]) (rest := rest) hF (mX0_addPerson l D y h ad σ x1) cw ⟨fun a U g mk q => by obtain ⟨q0, q1, q2, q3, q4, q5⟩ := q; exact ⟨q0, q1.call g mk a, q2, q3, q4, q5⟩, va_recv hC.1 hCh (ci := 0) (q0 := 0) rfl rfl, fun U hU hW => ⟨rfl, hC.warm hW, by rw [hU]; exact hCh, by rw [hU]; exact hSt, hi, hdj⟩⟩ rfl rfl hsz rfl (lv_room hW) hdg ⟨hf.1, hf.2⟩) hS (fun q _ h => hA q h) hA (fun r u t H1 locs1 ht hvm hp hB hz1 hk1 hS1 => ?_)
  obtain ⟨hp1, hp2⟩ := hp
  subst hp1; subst hp2
  rw [ht] at hB
  exact k H1 locs1 hB hz1 hk1 hS1
def zX0_addVolunteer (σ : Sg) (x1 : Int32) (x2 : Int32) : Int32 × Sg := if (zX5_has (σ 5 0) x1) = 0 then ((-1), σ)
  else (if (zX7_isWithin x2 1 4) = 0 then ((-1), σ)
    else (if (zX5_isFull (limK 3) (σ 5 3)) = 0 then ((zadR σ 3), zsto (zsto (zadS σ 3) 3 (zadR σ 3) 0 x2) 3 (zadR σ 3) 1 x1)
      else ((-3), σ)))
theorem iwX0_addVolunteer_X0 : ∀ w ∈ wsX00, w ∈ wsX0_addVolunteer := fun _ h => List.mem_cons_of_mem _ (List.mem_append_left _ (List.mem_append_right _ h))
theorem hdX0_addVolunteer : yX0_addVolunteer.cls = RX0 ∧ yX0_addVolunteer.cls ≠ "java/lang/invoke/MethodHandle" ∧ yX0_addVolunteer.cls ≠ "java/lang/invoke/VarHandle" ∧ (parseMethodDescriptor yX0_addVolunteer.desc).map (fun d => d.parameters.length) = some 2 := by decide +kernel
set_option maxHeartbeats 4000000 in
set_option maxRecDepth 100000 in
theorem mX0_addVolunteer (l : Launch) (D : va_G) (y : Y3) (h : Nat) (ad : Nat → Nat) (σ : Sg) (x1 : Int32) (x2 : Int32) : Met l yX0_addVolunteer wsX0_addVolunteer ({ frames := 1, cells := 0, slots := 0, locals := 24 } : Room) (va_Pc [.ref h, .int x1, .int x2] (fun U => CK D y U ∧ qoH D 0 h ad U.heap ∧ StH D y ad σ U.heap ∧ adI ad ∧ (∀ k, k < 11 → ad k ≠ h))) (va_Qi (fun (r : Int32) (u : Sg) => r = (zX0_addVolunteer σ x1 x2).1 ∧ u = (zX0_addVolunteer σ x1 x2).2) (fun u t => StH D y ad u t.heap) (stA ad)) 0 0 (stA ad) := by
  refine Met.ofW (cc := cX0_addVolunteer) (maxL := 4) (ret := (some .int)) (by decide) rfl ?_
  intro p e s m args below meth c s₁ B hml hv
  obtain ⟨rfl, hC, hCh, hSt, hi, hdj⟩ := hv
  have hx := B.exec
  have hb := B.bytes
  have hr := B.returns
  have hts := atoms_spec (ws := wsX0_addVolunteer) B.pre
  have hown : s.vm.findClass RX0 = some m.cls := findClass_of_methodNamed B.named
  have hlocks := B.notSynchronized
  have hF := (⟨hx, hb, hml, hown, hts⟩ : CallFix p m c cX0_addVolunteer 4 s _ wsX0_addVolunteer RX0)
  have hS : va_S (stA ad) s.heap s.heap [] := va_S.rf
  have hl := lv_entry ([.ref h, .int x1, .int x2]) (n := 4) (Nat.le_of_ble_eq_true rfl)
  rw [lg_entry_eq]
  generalize (lg_sl ([.ref h, .int x1, .int x2]) ++ List.replicate (4 - (lg_sl ([.ref h, .int x1, .int x2])).length) Slot.unset).toArray = ls at hl ⊢
  have hl : lv_has ls 4 [(0, .ref h), (1, .int x1), (2, .int x2)] := hl
  have hCh0 := hCh
  refine lv_aload_n hx hb dX0_addVolunteer_0 rfl (lv_at hl 0 rfl) ?_
  refine va_get (D := D) (ci := 0) (v := .ref (ad 1)) (C := RX0) (T := TX0) (N := 5) hx hb hts iwX0_addVolunteer_X0 hown hC.1 hCh 0 rfl rfl 1 (by decide) (hts (.fieldLink RX0 21 "MealLockers$Changes" "lockers" "LMealLockers$Table;") (List.mem_of_getElem? (i := 1) rfl)) (fun _ h9 => h9) rfl dX0_addVolunteer_1 ?_
  refine lv_iload_n hx hb dX0_addVolunteer_4 rfl (lv_at hl 1 rfl) ?_
  refine sX5_has (k := 0) hF (cwV 1 hts gX0_addVolunteer_X5_has rfl rfl rfl hdX5_has ⟨Nat.le_of_ble_eq_true rfl, Nat.le_of_ble_eq_true rfl⟩) hC hSt (by decide) hl.1 (Nat.le_of_ble_eq_true rfl) dX0_addVolunteer_5 ⟨Nat.zero_le _, Nat.zero_le _⟩ ?_
  refine lv_if_eq (tgt := 20) hx hb dX0_addVolunteer_8 (by decide) (fun c_1 => ?_) (fun c_1 => ?_)
  · refine lv_iconst (v := (-1)) hx hb dX0_addVolunteer_20 (by decide) ?_
    exact W.iret (v := (-1)) hx hb hr (fun t ht hW => ⟨⟨(-1), σ, rfl, ⟨(by unfold zX0_addVolunteer; rw [if_pos c_1]), (by unfold zX0_addVolunteer; rw [if_pos c_1])⟩, by dsimp only; rw [ht]; exact hSt⟩, hS.F ht⟩) hS.2.2 dX0_addVolunteer_21
  · refine lv_iload_n hx hb dX0_addVolunteer_11 rfl (lv_at hl 2 rfl) ?_
    refine lv_iconst (v := 1) hx hb dX0_addVolunteer_12 (by decide) ?_
    refine lv_iconst (v := 4) hx hb dX0_addVolunteer_13 (by decide) ?_
    refine kX7_isWithinN hF ⟨va_cnB 3 hts gX0_addVolunteer_X7_isWithin_n34 rfl rfl rfl (nw_m0 hC) (hts (.initialized RX7) (List.mem_of_getElem? (i := 10) rfl)) hdX7_isWithin ⟨Nat.le_of_ble_eq_true rfl, Nat.le_of_ble_eq_true rfl⟩, (hts (.static yX7_isWithin) (List.mem_of_getElem? (i := 9) rfl)), trivial⟩ hC hl.1 (Nat.le_of_ble_eq_true rfl) dX0_addVolunteer_14 ⟨Nat.zero_le _, Nat.zero_le _⟩ ?_
    refine lv_if_ne (tgt := 22) hx hb dX0_addVolunteer_17 (by decide) (fun c_2 => ?_) (fun c_2 => ?_)
    · refine lv_aload_n hx hb dX0_addVolunteer_22 rfl (lv_at hl 0 rfl) ?_
      refine va_get (D := D) (ci := 0) (v := .ref (ad 7)) (C := RX0) (T := TX0) (N := 5) hx hb hts iwX0_addVolunteer_X0 hown hC.1 hCh 0 rfl rfl 4 (by decide) (hts (.fieldLink RX0 33 "MealLockers$Changes" "volunteers" "LMealLockers$Table;") (List.mem_of_getElem? (i := 2) rfl)) (fun _ h9 => h9) rfl dX0_addVolunteer_23 ?_
      refine sX5_isFull (k := 3) hF (cwV 0 hts gX0_addVolunteer_X5_isFull rfl rfl rfl hdX5_isFull ⟨Nat.le_of_ble_eq_true rfl, Nat.le_of_ble_eq_true rfl⟩) hC hSt (by decide) hl.1 (Nat.le_of_ble_eq_true rfl) dX0_addVolunteer_26 ⟨Nat.zero_le _, Nat.zero_le _⟩ ?_
      refine lv_if_eq (tgt := 35) hx hb dX0_addVolunteer_29 (by decide) (fun c_3 => ?_) (fun c_3 => ?_)
      · refine lv_aload_n hx hb dX0_addVolunteer_35 rfl (lv_at hl 0 rfl) ?_
        refine va_get (D := D) (ci := 0) (v := .ref (ad 7)) (C := RX0) (T := TX0) (N := 5) hx hb hts iwX0_addVolunteer_X0 hown hC.1 hCh 0 rfl rfl 4 (by decide) (hts (.fieldLink RX0 33 "MealLockers$Changes" "volunteers" "LMealLockers$Table;") (List.mem_of_getElem? (i := 2) rfl)) (fun _ h9 => h9) rfl dX0_addVolunteer_36 ?_
        refine sX5_addRow (k := 3) hF (cwV 0 hts gX0_addVolunteer_X5_addRow rfl rfl rfl hdX5_addRow ⟨Nat.le_of_ble_eq_true rfl, Nat.le_of_ble_eq_true rfl⟩) hC hSt hi (by decide) hS (fun _ h => h) hl.1 (Nat.le_of_ble_eq_true rfl) dX0_addVolunteer_39 ⟨Nat.zero_le _, Nat.zero_le _⟩ (fun H locs hSt _ _ hS => ?_)
        have hCh := qo_at hS hCh0 hdj
        refine lv_istore_n (lv' := [(3, .int (zadR σ 3)), (0, .ref h), (1, .int x1), (2, .int x2)]) hx hb dX0_addVolunteer_42 rfl hl (by decide) rfl (fun ls hl => ?_)
        refine lv_aload_n hx hb dX0_addVolunteer_43 rfl (lv_at hl 1 rfl) ?_
        refine va_get (D := D) (ci := 0) (v := .ref (ad 7)) (C := RX0) (T := TX0) (N := 5) hx hb hts iwX0_addVolunteer_X0 hown hC.1 hCh 0 rfl rfl 4 (by decide) (hts (.fieldLink RX0 33 "MealLockers$Changes" "volunteers" "LMealLockers$Table;") (List.mem_of_getElem? (i := 2) rfl)) (fun _ h9 => h9) rfl dX0_addVolunteer_44 ?_
        refine lv_iload_n hx hb dX0_addVolunteer_47 rfl (lv_at hl 0 rfl) ?_
        refine lv_iconst (v := 0) hx hb dX0_addVolunteer_48 (by decide) ?_
        refine lv_iload_n hx hb dX0_addVolunteer_49 rfl (lv_at hl 3 rfl) ?_
        refine sX5_store (k := 3) hF (cwV 3 hts gX0_addVolunteer_X5_store rfl rfl rfl hdX5_store ⟨Nat.le_of_ble_eq_true rfl, Nat.le_of_ble_eq_true rfl⟩) hC hSt hi (by decide) hS (fun _ h => h) hl.1 (Nat.le_of_ble_eq_true rfl) dX0_addVolunteer_50 ⟨Nat.zero_le _, Nat.zero_le _⟩ (fun H locs hSt _ _ hS => ?_)
        have hCh := qo_at hS hCh0 hdj
        refine lv_aload_n hx hb dX0_addVolunteer_53 rfl (lv_at hl 1 rfl) ?_
        refine va_get (D := D) (ci := 0) (v := .ref (ad 7)) (C := RX0) (T := TX0) (N := 5) hx hb hts iwX0_addVolunteer_X0 hown hC.1 hCh 0 rfl rfl 4 (by decide) (hts (.fieldLink RX0 33 "MealLockers$Changes" "volunteers" "LMealLockers$Table;") (List.mem_of_getElem? (i := 2) rfl)) (fun _ h9 => h9) rfl dX0_addVolunteer_54 ?_
        refine lv_iload_n hx hb dX0_addVolunteer_57 rfl (lv_at hl 0 rfl) ?_
        refine lv_iconst (v := 1) hx hb dX0_addVolunteer_58 (by decide) ?_
        refine lv_iload_n hx hb dX0_addVolunteer_59 rfl (lv_at hl 2 rfl) ?_
        refine sX5_store (k := 3) hF (cwV 3 hts gX0_addVolunteer_X5_store rfl rfl rfl hdX5_store ⟨Nat.le_of_ble_eq_true rfl, Nat.le_of_ble_eq_true rfl⟩) hC hSt hi (by decide) hS (fun _ h => h) hl.1 (Nat.le_of_ble_eq_true rfl) dX0_addVolunteer_60 ⟨Nat.zero_le _, Nat.zero_le _⟩ (fun H locs hSt _ _ hS => ?_)
        have hCh := qo_at hS hCh0 hdj
        refine lv_iload_n hx hb dX0_addVolunteer_63 rfl (lv_at hl 0 rfl) ?_
        exact W.iret (v := (zadR σ 3)) hx hb hr (fun t ht hW => ⟨⟨(zadR σ 3), zsto (zsto (zadS σ 3) 3 (zadR σ 3) 0 x2) 3 (zadR σ 3) 1 x1, rfl, ⟨(by unfold zX0_addVolunteer; rw [if_neg c_1, if_neg c_2, if_pos c_3]), (by unfold zX0_addVolunteer; rw [if_neg c_1, if_neg c_2, if_pos c_3])⟩, by dsimp only; rw [ht]; exact hSt⟩, hS.F ht⟩) hS.2.2 dX0_addVolunteer_64
      · refine lv_bipush (v := (-3)) hx hb dX0_addVolunteer_32 (by decide) ?_
        exact W.iret (v := (-3)) hx hb hr (fun t ht hW => ⟨⟨(-3), σ, rfl, ⟨(by unfold zX0_addVolunteer; rw [if_neg c_1, if_neg c_2, if_neg c_3]), (by unfold zX0_addVolunteer; rw [if_neg c_1, if_neg c_2, if_neg c_3])⟩, by dsimp only; rw [ht]; exact hSt⟩, hS.F ht⟩) hS.2.2 dX0_addVolunteer_34
    · refine lv_iconst (v := (-1)) hx hb dX0_addVolunteer_20 (by decide) ?_
      exact W.iret (v := (-1)) hx hb hr (fun t ht hW => ⟨⟨(-1), σ, rfl, ⟨(by unfold zX0_addVolunteer; rw [if_neg c_1, if_pos c_2]), (by unfold zX0_addVolunteer; rw [if_neg c_1, if_pos c_2])⟩, by dsimp only; rw [ht]; exact hSt⟩, hS.F ht⟩) hS.2.2 dX0_addVolunteer_21
set_option maxHeartbeats 4000000 in
set_option maxRecDepth 100000 in
theorem kX0_addVolunteer {p : Program} {l : Launch} {e : Env} {R : Room} {s : State} {m : MethodId} {args : Array Value} {below : List Frame} {meth : Method} {c : Code} {H : Heap} {locs : List Loc} {cells slots : Nat} {Q : State → Prop} {cc : ByteArray} {nL : Nat} {Ts : List Cond} {own : String} {index pc : Nat} {ls : Array Slot} {rest : List Value} {D : va_G} {y : Y3} {h : Nat} {ad : Nat → Nat} {σ : Sg} {x1 : Int32} {x2 : Int32} {A0 : Nat → Prop} {H0 : Heap} (hF : CallFix p m c cc nL s args Ts own) (cw : CallW R s args own RX0 index yX0_addVolunteer cX0_addVolunteer 4 (some .int) wsX0_addVolunteer ({ frames := 1, cells := 0, slots := 0, locals := 24 } : Room) 0 0 2) (hC : CK D y s) (hCh : qoH D 0 h ad H) (hSt : StH D y ad σ H) (hi : adI ad) (hdj : (∀ k, k < 11 → ad k ≠ h)) (hS : va_S A0 H0 H locs) (hA : ∀ q, (stA ad) q → A0 q) (hsz : ls.size = nL) (hW : (rest.map fun v => v.category).sum ≤ 8) (hdg : decode cc pc = .ok (.invokevirtual index, 3)) (hf : cells ≤ R.cells ∧ slots ≤ R.slots)
    (k : ∀ (H1 : Heap) (locs1 : List Loc), StH D y ad (zX0_addVolunteer σ x1 x2).2 H1 → H.size ≤ H1.size → (∀ q : Nat, q < H.size → ¬ (stA ad) q → H1[q]? = H[q]?) → va_S A0 H0 H1 locs1 → W p l e R s m args below meth c H1 locs1 cells slots Q (F0 m (pc + 3) ls (.int ((zX0_addVolunteer σ x1 x2).1) :: rest))) : W p l e R s m args below meth c H locs cells slots Q (F0 m pc ls (.int x2 :: .int x1 :: .ref h :: rest)) := by
  refine va_calli (va_runV (As := [.int x1, .int x2]) (rest := rest) hF (mX0_addVolunteer l D y h ad σ x1 x2) cw ⟨fun a U g mk q => by obtain ⟨q0, q1, q2, q3, q4, q5⟩ := q; exact ⟨q0, q1.call g mk a, q2, q3, q4, q5⟩, va_recv hC.1 hCh (ci := 0) (q0 := 0) rfl rfl, fun U hU hW => ⟨rfl, hC.warm hW, by rw [hU]; exact hCh, by rw [hU]; exact hSt, hi, hdj⟩⟩ rfl rfl hsz rfl (lv_room hW) hdg ⟨hf.1, hf.2⟩) hS (fun q _ h => hA q h) hA (fun r u t H1 locs1 ht hvm hp hB hz1 hk1 hS1 => ?_)
  obtain ⟨hp1, hp2⟩ := hp
  subst hp1; subst hp2
  rw [ht] at hB
  exact k H1 locs1 hB hz1 hk1 hS1
def zX0_reserveMeal (σ : Sg) (x1 : Int32) (x2 : Int32) : Int32 × Sg := if (zX5_has (σ 5 2) x1) = 0 then ((-1), σ)
  else (if (zX5_has (σ 5 1) x2) = 0 then ((-1), σ)
    else (if (zX4_isFitFor σ x1 x2) = 0 then ((-2), σ)
      else (if 0 < (zX4_barredHours σ x1) then ((-2), σ)
        else (if (zX4_mealReservedBy σ x1) < 0 then ((1000 + ((((37 * x2) + (11 * (σ 5 5))) + (7 * x1)) - (((37 * x2) + (11 * (σ 5 5))) + (7 * x1)) / 9000 * 9000)), zsto (zsto (zsto (zsto σ 1 x2 0 1) 1 x2 4 (1000 + ((((37 * x2) + (11 * (σ 5 5))) + (7 * x1)) - (((37 * x2) + (11 * (σ 5 5))) + (7 * x1)) / 9000 * 9000))) 1 x2 5 x1) 1 x2 7 ((zsto (zsto (zsto σ 1 x2 0 1) 1 x2 4 (1000 + ((((37 * x2) + (11 * (σ 5 5))) + (7 * x1)) - (((37 * x2) + (11 * (σ 5 5))) + (7 * x1)) / 9000 * 9000))) 1 x2 5 x1) 5 5))
          else ((-2), σ)))))
theorem iwX0_reserveMeal_X0 : ∀ w ∈ wsX00, w ∈ wsX0_reserveMeal := fun _ h => List.mem_cons_of_mem _ (List.mem_append_left _ (List.mem_append_left _ (List.mem_append_right _ h)))
theorem iwX0_reserveMeal_X4 : ∀ w ∈ wsX40, w ∈ wsX0_reserveMeal := fun _ h => List.mem_cons_of_mem _ (List.mem_append_left _ (List.mem_append_right _ h))
theorem hdX0_reserveMeal : yX0_reserveMeal.cls = RX0 ∧ yX0_reserveMeal.cls ≠ "java/lang/invoke/MethodHandle" ∧ yX0_reserveMeal.cls ≠ "java/lang/invoke/VarHandle" ∧ (parseMethodDescriptor yX0_reserveMeal.desc).map (fun d => d.parameters.length) = some 2 := by decide +kernel
set_option maxHeartbeats 4000000 in
set_option maxRecDepth 100000 in
theorem mX0_reserveMeal (l : Launch) (D : va_G) (y : Y3) (h : Nat) (ad : Nat → Nat) (σ : Sg) (x1 : Int32) (x2 : Int32) : Met l yX0_reserveMeal wsX0_reserveMeal ({ frames := 2, cells := 0, slots := 0, locals := 46 } : Room) (va_Pc [.ref h, .int x1, .int x2] (fun U => CK D y U ∧ qoH D 0 h ad U.heap ∧ StH D y ad σ U.heap ∧ adI ad ∧ (∀ k, k < 11 → ad k ≠ h))) (va_Qi (fun (r : Int32) (u : Sg) => r = (zX0_reserveMeal σ x1 x2).1 ∧ u = (zX0_reserveMeal σ x1 x2).2) (fun u t => StH D y ad u t.heap) (stA ad)) 0 0 (stA ad) := by
  refine Met.ofW (cc := cX0_reserveMeal) (maxL := 4) (ret := (some .int)) (by decide) rfl ?_
  intro p e s m args below meth c s₁ B hml hv
  obtain ⟨rfl, hC, hCh, hSt, hi, hdj⟩ := hv
  have hx := B.exec
  have hb := B.bytes
  have hr := B.returns
  have hts := atoms_spec (ws := wsX0_reserveMeal) B.pre
  have hown : s.vm.findClass RX0 = some m.cls := findClass_of_methodNamed B.named
  have hlocks := B.notSynchronized
  have hF := (⟨hx, hb, hml, hown, hts⟩ : CallFix p m c cX0_reserveMeal 4 s _ wsX0_reserveMeal RX0)
  have hS : va_S (stA ad) s.heap s.heap [] := va_S.rf
  have hl := lv_entry ([.ref h, .int x1, .int x2]) (n := 4) (Nat.le_of_ble_eq_true rfl)
  rw [lg_entry_eq]
  generalize (lg_sl ([.ref h, .int x1, .int x2]) ++ List.replicate (4 - (lg_sl ([.ref h, .int x1, .int x2])).length) Slot.unset).toArray = ls at hl ⊢
  have hl : lv_has ls 4 [(0, .ref h), (1, .int x1), (2, .int x2)] := hl
  have hCh0 := hCh
  refine lv_aload_n hx hb dX0_reserveMeal_0 rfl (lv_at hl 0 rfl) ?_
  refine va_get (D := D) (ci := 0) (v := .ref (ad 5)) (C := RX0) (T := TX0) (N := 5) hx hb hts iwX0_reserveMeal_X0 hown hC.1 hCh 0 rfl rfl 3 (by decide) (hts (.fieldLink RX0 29 "MealLockers$Changes" "people" "LMealLockers$Table;") (List.mem_of_getElem? (i := 1) rfl)) (fun _ h9 => h9) rfl dX0_reserveMeal_1 ?_
  refine lv_iload_n hx hb dX0_reserveMeal_4 rfl (lv_at hl 1 rfl) ?_
  refine sX5_has (k := 2) hF (cwV 1 hts gX0_reserveMeal_X5_has rfl rfl rfl hdX5_has ⟨Nat.le_of_ble_eq_true rfl, Nat.le_of_ble_eq_true rfl⟩) hC hSt (by decide) hl.1 (Nat.le_of_ble_eq_true rfl) dX0_reserveMeal_5 ⟨Nat.zero_le _, Nat.zero_le _⟩ ?_
  refine lv_if_eq (tgt := 22) hx hb dX0_reserveMeal_8 (by decide) (fun c_1 => ?_) (fun c_1 => ?_)
  · refine lv_iconst (v := (-1)) hx hb dX0_reserveMeal_22 (by decide) ?_
    exact W.iret (v := (-1)) hx hb hr (fun t ht hW => ⟨⟨(-1), σ, rfl, ⟨(by unfold zX0_reserveMeal; rw [if_pos c_1]), (by unfold zX0_reserveMeal; rw [if_pos c_1])⟩, by dsimp only; rw [ht]; exact hSt⟩, hS.F ht⟩) hS.2.2 dX0_reserveMeal_23
  · refine lv_aload_n hx hb dX0_reserveMeal_11 rfl (lv_at hl 0 rfl) ?_
    refine va_get (D := D) (ci := 0) (v := .ref (ad 3)) (C := RX0) (T := TX0) (N := 5) hx hb hts iwX0_reserveMeal_X0 hown hC.1 hCh 0 rfl rfl 2 (by decide) (hts (.fieldLink RX0 25 "MealLockers$Changes" "meals" "LMealLockers$Table;") (List.mem_of_getElem? (i := 2) rfl)) (fun _ h9 => h9) rfl dX0_reserveMeal_12 ?_
    refine lv_iload_n hx hb dX0_reserveMeal_15 rfl (lv_at hl 2 rfl) ?_
    refine sX5_has (k := 1) hF (cwV 1 hts gX0_reserveMeal_X5_has rfl rfl rfl hdX5_has ⟨Nat.le_of_ble_eq_true rfl, Nat.le_of_ble_eq_true rfl⟩) hC hSt (by decide) hl.1 (Nat.le_of_ble_eq_true rfl) dX0_reserveMeal_16 ⟨Nat.zero_le _, Nat.zero_le _⟩ ?_
    refine lv_if_ne (tgt := 24) hx hb dX0_reserveMeal_19 (by decide) (fun c_2 => ?_) (fun c_2 => ?_)
    · refine lv_aload_n hx hb dX0_reserveMeal_24 rfl (lv_at hl 0 rfl) ?_
      refine va_get (D := D) (ci := 0) (v := .ref (ad 0)) (C := RX0) (T := TX0) (N := 5) hx hb hts iwX0_reserveMeal_X0 hown hC.1 hCh 0 rfl rfl 0 (by decide) (hts (.fieldLink RX0 9 "MealLockers$Changes" "state" "LMealLockers$State;") (List.mem_of_getElem? (i := 3) rfl)) (fun _ h9 => h9) rfl dX0_reserveMeal_25 ?_
      refine lv_iload_n hx hb dX0_reserveMeal_28 rfl (lv_at hl 1 rfl) ?_
      refine lv_iload_n hx hb dX0_reserveMeal_29 rfl (lv_at hl 2 rfl) ?_
      refine kX4_isFitFor hF (cwV 2 hts gX0_reserveMeal_X4_isFitFor rfl rfl rfl hdX4_isFitFor ⟨Nat.le_of_ble_eq_true rfl, Nat.le_of_ble_eq_true rfl⟩) hC hSt hl.1 (Nat.le_of_ble_eq_true rfl) dX0_reserveMeal_30 ⟨Nat.zero_le _, Nat.zero_le _⟩ ?_
      refine lv_if_eq (tgt := 58) hx hb dX0_reserveMeal_33 (by decide) (fun c_3 => ?_) (fun c_3 => ?_)
      · refine lv_bipush (v := (-2)) hx hb dX0_reserveMeal_58 (by decide) ?_
        exact W.iret (v := (-2)) hx hb hr (fun t ht hW => ⟨⟨(-2), σ, rfl, ⟨(by unfold zX0_reserveMeal; rw [if_neg c_1, if_neg c_2, if_pos c_3]), (by unfold zX0_reserveMeal; rw [if_neg c_1, if_neg c_2, if_pos c_3])⟩, by dsimp only; rw [ht]; exact hSt⟩, hS.F ht⟩) hS.2.2 dX0_reserveMeal_60
      · refine lv_aload_n hx hb dX0_reserveMeal_36 rfl (lv_at hl 0 rfl) ?_
        refine va_get (D := D) (ci := 0) (v := .ref (ad 0)) (C := RX0) (T := TX0) (N := 5) hx hb hts iwX0_reserveMeal_X0 hown hC.1 hCh 0 rfl rfl 0 (by decide) (hts (.fieldLink RX0 9 "MealLockers$Changes" "state" "LMealLockers$State;") (List.mem_of_getElem? (i := 3) rfl)) (fun _ h9 => h9) rfl dX0_reserveMeal_37 ?_
        refine lv_iload_n hx hb dX0_reserveMeal_40 rfl (lv_at hl 1 rfl) ?_
        refine kX4_barredHours hF (cwV 1 hts gX0_reserveMeal_X4_barredHours rfl rfl rfl hdX4_barredHours ⟨Nat.le_of_ble_eq_true rfl, Nat.le_of_ble_eq_true rfl⟩) hC hSt hl.1 (Nat.le_of_ble_eq_true rfl) dX0_reserveMeal_41 ⟨Nat.zero_le _, Nat.zero_le _⟩ ?_
        refine lv_if_gt (tgt := 58) hx hb dX0_reserveMeal_44 (by decide) (fun c_4 => ?_) (fun c_4 => ?_)
        · refine lv_bipush (v := (-2)) hx hb dX0_reserveMeal_58 (by decide) ?_
          exact W.iret (v := (-2)) hx hb hr (fun t ht hW => ⟨⟨(-2), σ, rfl, ⟨(by unfold zX0_reserveMeal; rw [if_neg c_1, if_neg c_2, if_neg c_3, if_pos c_4]), (by unfold zX0_reserveMeal; rw [if_neg c_1, if_neg c_2, if_neg c_3, if_pos c_4])⟩, by dsimp only; rw [ht]; exact hSt⟩, hS.F ht⟩) hS.2.2 dX0_reserveMeal_60
        · refine lv_aload_n hx hb dX0_reserveMeal_47 rfl (lv_at hl 0 rfl) ?_
          refine va_get (D := D) (ci := 0) (v := .ref (ad 0)) (C := RX0) (T := TX0) (N := 5) hx hb hts iwX0_reserveMeal_X0 hown hC.1 hCh 0 rfl rfl 0 (by decide) (hts (.fieldLink RX0 9 "MealLockers$Changes" "state" "LMealLockers$State;") (List.mem_of_getElem? (i := 3) rfl)) (fun _ h9 => h9) rfl dX0_reserveMeal_48 ?_
          refine lv_iload_n hx hb dX0_reserveMeal_51 rfl (lv_at hl 1 rfl) ?_
          refine kX4_mealReservedBy hF (cwV 1 hts gX0_reserveMeal_X4_mealReservedBy rfl rfl rfl hdX4_mealReservedBy ⟨Nat.le_of_ble_eq_true rfl, Nat.le_of_ble_eq_true rfl⟩) hC hSt hl.1 (Nat.le_of_ble_eq_true rfl) dX0_reserveMeal_52 ⟨Nat.zero_le _, Nat.zero_le _⟩ ?_
          refine lv_if_lt (tgt := 61) hx hb dX0_reserveMeal_55 (by decide) (fun c_5 => ?_) (fun c_5 => ?_)
          · refine lv_sipush (v := 1000) hx hb dX0_reserveMeal_61 (by decide) ?_
            refine lv_bipush (v := 37) hx hb dX0_reserveMeal_64 (by decide) ?_
            refine lv_iload_n hx hb dX0_reserveMeal_66 rfl (lv_at hl 2 rfl) ?_
            refine lv_imul hx hb dX0_reserveMeal_67 ?_
            refine lv_bipush (v := 11) hx hb dX0_reserveMeal_68 (by decide) ?_
            refine lv_aload_n hx hb dX0_reserveMeal_70 rfl (lv_at hl 0 rfl) ?_
            refine va_get (D := D) (ci := 0) (v := .ref (ad 0)) (C := RX0) (T := TX0) (N := 5) hx hb hts iwX0_reserveMeal_X0 hown hC.1 hCh 0 rfl rfl 0 (by decide) (hts (.fieldLink RX0 9 "MealLockers$Changes" "state" "LMealLockers$State;") (List.mem_of_getElem? (i := 3) rfl)) (fun _ h9 => h9) rfl dX0_reserveMeal_71 ?_
            refine va_getN (D := D) (ci := 4) (v := .int (σ 5 5)) (C := RX4) (T := TX4) (N := 6) hx hb hts iwX0_reserveMeal_X4 hown hC.1 hSt 0 rfl rfl 5 (by decide) (nw_f10 hC) (fun _ h9 => h9) rfl dX0_reserveMeal_74 ?_
            refine lv_imul hx hb dX0_reserveMeal_77 ?_
            refine lv_iadd hx hb dX0_reserveMeal_78 ?_
            refine lv_bipush (v := 7) hx hb dX0_reserveMeal_79 (by decide) ?_
            refine lv_iload_n hx hb dX0_reserveMeal_81 rfl (lv_at hl 1 rfl) ?_
            refine lv_imul hx hb dX0_reserveMeal_82 ?_
            refine lv_iadd hx hb dX0_reserveMeal_83 ?_
            refine lv_sipush (v := 9000) hx hb dX0_reserveMeal_84 (by decide) ?_
            refine lv_irem hx hb dX0_reserveMeal_87 (by decide) ?_
            refine lv_iadd hx hb dX0_reserveMeal_88 ?_
            refine lv_istore_n (lv' := [(3, .int (1000 + ((((37 * x2) + (11 * (σ 5 5))) + (7 * x1)) - (((37 * x2) + (11 * (σ 5 5))) + (7 * x1)) / 9000 * 9000))), (0, .ref h), (1, .int x1), (2, .int x2)]) hx hb dX0_reserveMeal_89 rfl hl (by decide) rfl (fun ls hl => ?_)
            refine lv_aload_n hx hb dX0_reserveMeal_90 rfl (lv_at hl 1 rfl) ?_
            refine va_get (D := D) (ci := 0) (v := .ref (ad 3)) (C := RX0) (T := TX0) (N := 5) hx hb hts iwX0_reserveMeal_X0 hown hC.1 hCh 0 rfl rfl 2 (by decide) (hts (.fieldLink RX0 25 "MealLockers$Changes" "meals" "LMealLockers$Table;") (List.mem_of_getElem? (i := 2) rfl)) (fun _ h9 => h9) rfl dX0_reserveMeal_91 ?_
            refine lv_iload_n hx hb dX0_reserveMeal_94 rfl (lv_at hl 3 rfl) ?_
            refine lv_iconst (v := 0) hx hb dX0_reserveMeal_95 (by decide) ?_
            refine lv_iconst (v := 1) hx hb dX0_reserveMeal_96 (by decide) ?_
            refine sX5_store (k := 1) hF (cwV 3 hts gX0_reserveMeal_X5_store rfl rfl rfl hdX5_store ⟨Nat.le_of_ble_eq_true rfl, Nat.le_of_ble_eq_true rfl⟩) hC hSt hi (by decide) hS (fun _ h => h) hl.1 (Nat.le_of_ble_eq_true rfl) dX0_reserveMeal_97 ⟨Nat.zero_le _, Nat.zero_le _⟩ (fun H locs hSt _ _ hS => ?_)
            have hCh := qo_at hS hCh0 hdj
            refine lv_aload_n hx hb dX0_reserveMeal_100 rfl (lv_at hl 1 rfl) ?_
            refine va_get (D := D) (ci := 0) (v := .ref (ad 3)) (C := RX0) (T := TX0) (N := 5) hx hb hts iwX0_reserveMeal_X0 hown hC.1 hCh 0 rfl rfl 2 (by decide) (hts (.fieldLink RX0 25 "MealLockers$Changes" "meals" "LMealLockers$Table;") (List.mem_of_getElem? (i := 2) rfl)) (fun _ h9 => h9) rfl dX0_reserveMeal_101 ?_
            refine lv_iload_n hx hb dX0_reserveMeal_104 rfl (lv_at hl 3 rfl) ?_
            refine lv_iconst (v := 4) hx hb dX0_reserveMeal_105 (by decide) ?_
            refine lv_iload_n hx hb dX0_reserveMeal_106 rfl (lv_at hl 0 rfl) ?_
            refine sX5_store (k := 1) hF (cwV 3 hts gX0_reserveMeal_X5_store rfl rfl rfl hdX5_store ⟨Nat.le_of_ble_eq_true rfl, Nat.le_of_ble_eq_true rfl⟩) hC hSt hi (by decide) hS (fun _ h => h) hl.1 (Nat.le_of_ble_eq_true rfl) dX0_reserveMeal_107 ⟨Nat.zero_le _, Nat.zero_le _⟩ (fun H locs hSt _ _ hS => ?_)
            have hCh := qo_at hS hCh0 hdj
            refine lv_aload_n hx hb dX0_reserveMeal_110 rfl (lv_at hl 1 rfl) ?_
            refine va_get (D := D) (ci := 0) (v := .ref (ad 3)) (C := RX0) (T := TX0) (N := 5) hx hb hts iwX0_reserveMeal_X0 hown hC.1 hCh 0 rfl rfl 2 (by decide) (hts (.fieldLink RX0 25 "MealLockers$Changes" "meals" "LMealLockers$Table;") (List.mem_of_getElem? (i := 2) rfl)) (fun _ h9 => h9) rfl dX0_reserveMeal_111 ?_
            refine lv_iload_n hx hb dX0_reserveMeal_114 rfl (lv_at hl 3 rfl) ?_
            refine lv_iconst (v := 5) hx hb dX0_reserveMeal_115 (by decide) ?_
            refine lv_iload_n hx hb dX0_reserveMeal_116 rfl (lv_at hl 2 rfl) ?_
            refine sX5_store (k := 1) hF (cwV 3 hts gX0_reserveMeal_X5_store rfl rfl rfl hdX5_store ⟨Nat.le_of_ble_eq_true rfl, Nat.le_of_ble_eq_true rfl⟩) hC hSt hi (by decide) hS (fun _ h => h) hl.1 (Nat.le_of_ble_eq_true rfl) dX0_reserveMeal_117 ⟨Nat.zero_le _, Nat.zero_le _⟩ (fun H locs hSt _ _ hS => ?_)
            have hCh := qo_at hS hCh0 hdj
            refine lv_aload_n hx hb dX0_reserveMeal_120 rfl (lv_at hl 1 rfl) ?_
            refine va_get (D := D) (ci := 0) (v := .ref (ad 3)) (C := RX0) (T := TX0) (N := 5) hx hb hts iwX0_reserveMeal_X0 hown hC.1 hCh 0 rfl rfl 2 (by decide) (hts (.fieldLink RX0 25 "MealLockers$Changes" "meals" "LMealLockers$Table;") (List.mem_of_getElem? (i := 2) rfl)) (fun _ h9 => h9) rfl dX0_reserveMeal_121 ?_
            refine lv_iload_n hx hb dX0_reserveMeal_124 rfl (lv_at hl 3 rfl) ?_
            refine lv_bipush (v := 7) hx hb dX0_reserveMeal_125 (by decide) ?_
            refine lv_aload_n hx hb dX0_reserveMeal_127 rfl (lv_at hl 1 rfl) ?_
            refine va_get (D := D) (ci := 0) (v := .ref (ad 0)) (C := RX0) (T := TX0) (N := 5) hx hb hts iwX0_reserveMeal_X0 hown hC.1 hCh 0 rfl rfl 0 (by decide) (hts (.fieldLink RX0 9 "MealLockers$Changes" "state" "LMealLockers$State;") (List.mem_of_getElem? (i := 3) rfl)) (fun _ h9 => h9) rfl dX0_reserveMeal_128 ?_
            refine va_getN (D := D) (ci := 4) (v := .int ((zsto (zsto (zsto σ 1 x2 0 1) 1 x2 4 (1000 + ((((37 * x2) + (11 * (σ 5 5))) + (7 * x1)) - (((37 * x2) + (11 * (σ 5 5))) + (7 * x1)) / 9000 * 9000))) 1 x2 5 x1) 5 5)) (C := RX4) (T := TX4) (N := 6) hx hb hts iwX0_reserveMeal_X4 hown hC.1 hSt 0 rfl rfl 5 (by decide) (nw_f10 hC) (fun _ h9 => h9) rfl dX0_reserveMeal_131 ?_
            refine sX5_store (k := 1) hF (cwV 3 hts gX0_reserveMeal_X5_store rfl rfl rfl hdX5_store ⟨Nat.le_of_ble_eq_true rfl, Nat.le_of_ble_eq_true rfl⟩) hC hSt hi (by decide) hS (fun _ h => h) hl.1 (Nat.le_of_ble_eq_true rfl) dX0_reserveMeal_134 ⟨Nat.zero_le _, Nat.zero_le _⟩ (fun H locs hSt _ _ hS => ?_)
            have hCh := qo_at hS hCh0 hdj
            refine lv_iload_n hx hb dX0_reserveMeal_137 rfl (lv_at hl 0 rfl) ?_
            exact W.iret (v := (1000 + ((((37 * x2) + (11 * (σ 5 5))) + (7 * x1)) - (((37 * x2) + (11 * (σ 5 5))) + (7 * x1)) / 9000 * 9000))) hx hb hr (fun t ht hW => ⟨⟨(1000 + ((((37 * x2) + (11 * (σ 5 5))) + (7 * x1)) - (((37 * x2) + (11 * (σ 5 5))) + (7 * x1)) / 9000 * 9000)), zsto (zsto (zsto (zsto σ 1 x2 0 1) 1 x2 4 (1000 + ((((37 * x2) + (11 * (σ 5 5))) + (7 * x1)) - (((37 * x2) + (11 * (σ 5 5))) + (7 * x1)) / 9000 * 9000))) 1 x2 5 x1) 1 x2 7 ((zsto (zsto (zsto σ 1 x2 0 1) 1 x2 4 (1000 + ((((37 * x2) + (11 * (σ 5 5))) + (7 * x1)) - (((37 * x2) + (11 * (σ 5 5))) + (7 * x1)) / 9000 * 9000))) 1 x2 5 x1) 5 5), rfl, ⟨(by unfold zX0_reserveMeal; rw [if_neg c_1, if_neg c_2, if_neg c_3, if_neg c_4, if_pos c_5]), (by unfold zX0_reserveMeal; rw [if_neg c_1, if_neg c_2, if_neg c_3, if_neg c_4, if_pos c_5])⟩, by dsimp only; rw [ht]; exact hSt⟩, hS.F ht⟩) hS.2.2 dX0_reserveMeal_138
          · refine lv_bipush (v := (-2)) hx hb dX0_reserveMeal_58 (by decide) ?_
            exact W.iret (v := (-2)) hx hb hr (fun t ht hW => ⟨⟨(-2), σ, rfl, ⟨(by unfold zX0_reserveMeal; rw [if_neg c_1, if_neg c_2, if_neg c_3, if_neg c_4, if_neg c_5]), (by unfold zX0_reserveMeal; rw [if_neg c_1, if_neg c_2, if_neg c_3, if_neg c_4, if_neg c_5])⟩, by dsimp only; rw [ht]; exact hSt⟩, hS.F ht⟩) hS.2.2 dX0_reserveMeal_60
    · refine lv_iconst (v := (-1)) hx hb dX0_reserveMeal_22 (by decide) ?_
      exact W.iret (v := (-1)) hx hb hr (fun t ht hW => ⟨⟨(-1), σ, rfl, ⟨(by unfold zX0_reserveMeal; rw [if_neg c_1, if_pos c_2]), (by unfold zX0_reserveMeal; rw [if_neg c_1, if_pos c_2])⟩, by dsimp only; rw [ht]; exact hSt⟩, hS.F ht⟩) hS.2.2 dX0_reserveMeal_23
set_option maxHeartbeats 4000000 in
set_option maxRecDepth 100000 in
theorem kX0_reserveMeal {p : Program} {l : Launch} {e : Env} {R : Room} {s : State} {m : MethodId} {args : Array Value} {below : List Frame} {meth : Method} {c : Code} {H : Heap} {locs : List Loc} {cells slots : Nat} {Q : State → Prop} {cc : ByteArray} {nL : Nat} {Ts : List Cond} {own : String} {index pc : Nat} {ls : Array Slot} {rest : List Value} {D : va_G} {y : Y3} {h : Nat} {ad : Nat → Nat} {σ : Sg} {x1 : Int32} {x2 : Int32} {A0 : Nat → Prop} {H0 : Heap} (hF : CallFix p m c cc nL s args Ts own) (cw : CallW R s args own RX0 index yX0_reserveMeal cX0_reserveMeal 4 (some .int) wsX0_reserveMeal ({ frames := 2, cells := 0, slots := 0, locals := 46 } : Room) 0 0 2) (hC : CK D y s) (hCh : qoH D 0 h ad H) (hSt : StH D y ad σ H) (hi : adI ad) (hdj : (∀ k, k < 11 → ad k ≠ h)) (hS : va_S A0 H0 H locs) (hA : ∀ q, (stA ad) q → A0 q) (hsz : ls.size = nL) (hW : (rest.map fun v => v.category).sum ≤ 8) (hdg : decode cc pc = .ok (.invokevirtual index, 3)) (hf : cells ≤ R.cells ∧ slots ≤ R.slots)
    (k : ∀ (H1 : Heap) (locs1 : List Loc), StH D y ad (zX0_reserveMeal σ x1 x2).2 H1 → H.size ≤ H1.size → (∀ q : Nat, q < H.size → ¬ (stA ad) q → H1[q]? = H[q]?) → va_S A0 H0 H1 locs1 → W p l e R s m args below meth c H1 locs1 cells slots Q (F0 m (pc + 3) ls (.int ((zX0_reserveMeal σ x1 x2).1) :: rest))) : W p l e R s m args below meth c H locs cells slots Q (F0 m pc ls (.int x2 :: .int x1 :: .ref h :: rest)) := by
  refine va_calli (va_runV (As := [.int x1, .int x2]) (rest := rest) hF (mX0_reserveMeal l D y h ad σ x1 x2) cw ⟨fun a U g mk q => by obtain ⟨q0, q1, q2, q3, q4, q5⟩ := q; exact ⟨q0, q1.call g mk a, q2, q3, q4, q5⟩, va_recv hC.1 hCh (ci := 0) (q0 := 0) rfl rfl, fun U hU hW => ⟨rfl, hC.warm hW, by rw [hU]; exact hCh, by rw [hU]; exact hSt, hi, hdj⟩⟩ rfl rfl hsz rfl (lv_room hW) hdg ⟨hf.1, hf.2⟩) hS (fun q _ h => hA q h) hA (fun r u t H1 locs1 ht hvm hp hB hz1 hk1 hS1 => ?_)
  obtain ⟨hp1, hp2⟩ := hp
  subst hp1; subst hp2
  rw [ht] at hB
  exact k H1 locs1 hB hz1 hk1 hS1
def bX0_mealWithCode (σ : Sg) (x1 x2 : Int32) (i : Nat) : Bool := if (zatt σ 1 (nI i) 0) = 1 then (if (zatt σ 1 (nI i) 1) = x1 then (if (zatt σ 1 (nI i) 4) = x2 then true
      else false)
    else false)
  else false
def zX0_mealWithCode (σ : Sg) (x1 x2 : Int32) : Int32 := if fstK (bX0_mealWithCode σ x1 x2) 0 (σ 5 1).toNatClampNeg < (σ 5 1).toNatClampNeg then nI (fstK (bX0_mealWithCode σ x1 x2) 0 (σ 5 1).toNatClampNeg) else -4
theorem iwX0_mealWithCode_X0 : ∀ w ∈ wsX00, w ∈ wsX0_mealWithCode := fun _ h => List.mem_cons_of_mem _ (List.mem_append_left _ (List.mem_append_right _ h))
theorem hdX0_mealWithCode : yX0_mealWithCode.cls = RX0 ∧ yX0_mealWithCode.cls ≠ "java/lang/invoke/MethodHandle" ∧ yX0_mealWithCode.cls ≠ "java/lang/invoke/VarHandle" ∧ (parseMethodDescriptor yX0_mealWithCode.desc).map (fun d => d.parameters.length) = some 2 := by decide +kernel
set_option maxHeartbeats 4000000 in
set_option maxRecDepth 100000 in
theorem lpX0_mealWithCode {p : Program} {l : Launch} {e : Env} {s : State} {m : MethodId} {args : Array Value} {below : List Frame} {meth : Method} {c : Code} {Q : State → Prop} {D : va_G} {y : Y3} {h : Nat} {ad : Nat → Nat} {σ : Sg} {x1 x2 : Int32} {H : Heap} {locs : List Loc} (hx : p.tables.exec = Jvm.exec) (hb : c.code = cX0_mealWithCode) (hml : c.maxLocals = 4) (hown : s.vm.findClass RX0 = some m.cls) (hts : ∀ w ∈ wsX0_mealWithCode, w.before args s = true) (hC : CK D y s) (hCh : qoH D 0 h ad H) (hSt : StH D y ad σ H)
    (K1 : fstK (bX0_mealWithCode σ x1 x2) 0 ((σ 5 1).toNatClampNeg) = (σ 5 1).toNatClampNeg → ∀ ls : Array Slot, lv_has ls 4 [(3, .int (nI (σ 5 1).toNatClampNeg)), (0, .ref h), (1, .int x1), (2, .int x2)] → W p l e (headSpec wsX0_mealWithCode ({ frames := 1, cells := 0, slots := 0, locals := 23 } : Room)).room s m args below meth c H locs 0 0 Q (F0 m 60 ls []))
    (K2 : ∀ i : Nat, i < (σ 5 1).toNatClampNeg → fstK (bX0_mealWithCode σ x1 x2) 0 ((σ 5 1).toNatClampNeg) = i → ∀ ls : Array Slot, lv_has ls 4 [(3, .int (nI i)), (0, .ref h), (1, .int x1), (2, .int x2)] → W p l e (headSpec wsX0_mealWithCode ({ frames := 1, cells := 0, slots := 0, locals := 23 } : Room)).room s m args below meth c H locs 0 0 Q (F0 m 52 ls [])) :
    ∀ (j i : Nat), i + j = (σ 5 1).toNatClampNeg → fstK (bX0_mealWithCode σ x1 x2) 0 ((σ 5 1).toNatClampNeg) = fstK (bX0_mealWithCode σ x1 x2) i j → ∀ ls : Array Slot, lv_has ls 4 [(3, .int (nI i)), (0, .ref h), (1, .int x1), (2, .int x2)] → W p l e (headSpec wsX0_mealWithCode ({ frames := 1, cells := 0, slots := 0, locals := 23 } : Room)).room s m args below meth c H locs 0 0 Q (F0 m 2 ls []) := by
  have hF := (⟨hx, hb, hml, hown, hts⟩ : CallFix p m c cX0_mealWithCode 4 s args wsX0_mealWithCode RX0)
  have hN := clamp_lt (σ 5 1)
  intro j
  induction j with
  | zero =>
    intro i hin hfst ls hl
    obtain rfl : i = (σ 5 1).toNatClampNeg := by omega
    refine lv_iload_n hx hb dX0_mealWithCode_2 rfl (lv_at hl 0 rfl) ?_
    refine lv_aload_n hx hb dX0_mealWithCode_3 rfl (lv_at hl 1 rfl) ?_
    refine va_get (D := D) (ci := 0) (v := .ref (ad 3)) (C := RX0) (T := TX0) (N := 5) hx hb hts iwX0_mealWithCode_X0 hown hC.1 hCh 0 rfl rfl 2 (by decide) (hts (.fieldLink RX0 25 "MealLockers$Changes" "meals" "LMealLockers$Table;") (List.mem_of_getElem? (i := 1) rfl)) (fun _ h9 => h9) rfl dX0_mealWithCode_4 ?_
    refine sX5_size (k := 1) hF (cwV 0 hts gX0_mealWithCode_X5_size rfl rfl rfl hdX5_size ⟨Nat.le_of_ble_eq_true rfl, Nat.le_of_ble_eq_true rfl⟩) hC hSt (by decide) hl.1 (Nat.le_of_ble_eq_true rfl) dX0_mealWithCode_7 ⟨Nat.zero_le _, Nat.zero_le _⟩ ?_
    refine lv_icmp_ge (tgt := 60) hx hb dX0_mealWithCode_10 (by decide) (fun _ => ?_) (fun c_1 => absurd (up_le _) c_1)
    exact K1 hfst ls (lv_sub hl [0, 1, 2, 3] rfl)
  | succ j ih =>
    intro i hin hfst ls hl
    refine lv_iload_n hx hb dX0_mealWithCode_2 rfl (lv_at hl 0 rfl) ?_
    refine lv_aload_n hx hb dX0_mealWithCode_3 rfl (lv_at hl 1 rfl) ?_
    refine va_get (D := D) (ci := 0) (v := .ref (ad 3)) (C := RX0) (T := TX0) (N := 5) hx hb hts iwX0_mealWithCode_X0 hown hC.1 hCh 0 rfl rfl 2 (by decide) (hts (.fieldLink RX0 25 "MealLockers$Changes" "meals" "LMealLockers$Table;") (List.mem_of_getElem? (i := 1) rfl)) (fun _ h9 => h9) rfl dX0_mealWithCode_4 ?_
    refine sX5_size (k := 1) hF (cwV 0 hts gX0_mealWithCode_X5_size rfl rfl rfl hdX5_size ⟨Nat.le_of_ble_eq_true rfl, Nat.le_of_ble_eq_true rfl⟩) hC hSt (by decide) hl.1 (Nat.le_of_ble_eq_true rfl) dX0_mealWithCode_7 ⟨Nat.zero_le _, Nat.zero_le _⟩ ?_
    refine lv_icmp_ge (tgt := 60) hx hb dX0_mealWithCode_10 (by decide) (fun c_2 => absurd c_2 (up_gt (by omega))) (fun _ => ?_)
    refine lv_aload_n hx hb dX0_mealWithCode_13 rfl (lv_at hl 1 rfl) ?_
    refine va_get (D := D) (ci := 0) (v := .ref (ad 3)) (C := RX0) (T := TX0) (N := 5) hx hb hts iwX0_mealWithCode_X0 hown hC.1 hCh 0 rfl rfl 2 (by decide) (hts (.fieldLink RX0 25 "MealLockers$Changes" "meals" "LMealLockers$Table;") (List.mem_of_getElem? (i := 1) rfl)) (fun _ h9 => h9) rfl dX0_mealWithCode_14 ?_
    refine lv_iload_n hx hb dX0_mealWithCode_17 rfl (lv_at hl 0 rfl) ?_
    refine lv_iconst (v := 0) hx hb dX0_mealWithCode_18 (by decide) ?_
    refine sX5_at (k := 1) hF (cwV 2 hts gX0_mealWithCode_X5_at rfl rfl rfl hdX5_at ⟨Nat.le_of_ble_eq_true rfl, Nat.le_of_ble_eq_true rfl⟩) hC hSt (by decide) hl.1 (Nat.le_of_ble_eq_true rfl) dX0_mealWithCode_19 ⟨Nat.zero_le _, Nat.zero_le _⟩ ?_
    refine lv_iconst (v := 1) hx hb dX0_mealWithCode_22 (by decide) ?_
    refine lv_icmp_ne (tgt := 54) hx hb dX0_mealWithCode_23 (by decide) (fun c_3 => ?_) (fun c_3 => ?_)
    · refine lv_iinc (v := (nI (i + 1))) (lv' := [(3, .int (nI (i + 1))), (0, .ref h), (1, .int x1), (2, .int x2)]) hx hb dX0_mealWithCode_54 hl (k := 0) rfl (by rw [nI_succ]; rfl) (by decide) rfl (fun ls hl => ?_)
      refine lv_goto (tgt := 2) hx hb dX0_mealWithCode_57 (by decide) ?_
      have e9 : bX0_mealWithCode σ x1 x2 i = false := by unfold bX0_mealWithCode; rw [if_neg c_3]
      exact ih (i + 1) (by omega) (hfst.trans (fstK_f e9)) ls (lv_sub hl [0, 1, 2, 3] rfl)
    · refine lv_aload_n hx hb dX0_mealWithCode_26 rfl (lv_at hl 1 rfl) ?_
      refine va_get (D := D) (ci := 0) (v := .ref (ad 3)) (C := RX0) (T := TX0) (N := 5) hx hb hts iwX0_mealWithCode_X0 hown hC.1 hCh 0 rfl rfl 2 (by decide) (hts (.fieldLink RX0 25 "MealLockers$Changes" "meals" "LMealLockers$Table;") (List.mem_of_getElem? (i := 1) rfl)) (fun _ h9 => h9) rfl dX0_mealWithCode_27 ?_
      refine lv_iload_n hx hb dX0_mealWithCode_30 rfl (lv_at hl 0 rfl) ?_
      refine lv_iconst (v := 1) hx hb dX0_mealWithCode_31 (by decide) ?_
      refine sX5_at (k := 1) hF (cwV 2 hts gX0_mealWithCode_X5_at rfl rfl rfl hdX5_at ⟨Nat.le_of_ble_eq_true rfl, Nat.le_of_ble_eq_true rfl⟩) hC hSt (by decide) hl.1 (Nat.le_of_ble_eq_true rfl) dX0_mealWithCode_32 ⟨Nat.zero_le _, Nat.zero_le _⟩ ?_
      refine lv_iload_n hx hb dX0_mealWithCode_35 rfl (lv_at hl 2 rfl) ?_
      refine lv_icmp_ne (tgt := 54) hx hb dX0_mealWithCode_36 (by decide) (fun c_4 => ?_) (fun c_4 => ?_)
      · refine lv_iinc (v := (nI (i + 1))) (lv' := [(3, .int (nI (i + 1))), (0, .ref h), (1, .int x1), (2, .int x2)]) hx hb dX0_mealWithCode_54 hl (k := 0) rfl (by rw [nI_succ]; rfl) (by decide) rfl (fun ls hl => ?_)
        refine lv_goto (tgt := 2) hx hb dX0_mealWithCode_57 (by decide) ?_
        have e9 : bX0_mealWithCode σ x1 x2 i = false := by unfold bX0_mealWithCode; rw [if_pos c_3, if_neg c_4]
        exact ih (i + 1) (by omega) (hfst.trans (fstK_f e9)) ls (lv_sub hl [0, 1, 2, 3] rfl)
      · refine lv_aload_n hx hb dX0_mealWithCode_39 rfl (lv_at hl 1 rfl) ?_
        refine va_get (D := D) (ci := 0) (v := .ref (ad 3)) (C := RX0) (T := TX0) (N := 5) hx hb hts iwX0_mealWithCode_X0 hown hC.1 hCh 0 rfl rfl 2 (by decide) (hts (.fieldLink RX0 25 "MealLockers$Changes" "meals" "LMealLockers$Table;") (List.mem_of_getElem? (i := 1) rfl)) (fun _ h9 => h9) rfl dX0_mealWithCode_40 ?_
        refine lv_iload_n hx hb dX0_mealWithCode_43 rfl (lv_at hl 0 rfl) ?_
        refine lv_iconst (v := 4) hx hb dX0_mealWithCode_44 (by decide) ?_
        refine sX5_at (k := 1) hF (cwV 2 hts gX0_mealWithCode_X5_at rfl rfl rfl hdX5_at ⟨Nat.le_of_ble_eq_true rfl, Nat.le_of_ble_eq_true rfl⟩) hC hSt (by decide) hl.1 (Nat.le_of_ble_eq_true rfl) dX0_mealWithCode_45 ⟨Nat.zero_le _, Nat.zero_le _⟩ ?_
        refine lv_iload_n hx hb dX0_mealWithCode_48 rfl (lv_at hl 3 rfl) ?_
        refine lv_icmp_ne (tgt := 54) hx hb dX0_mealWithCode_49 (by decide) (fun c_5 => ?_) (fun c_5 => ?_)
        · refine lv_iinc (v := (nI (i + 1))) (lv' := [(3, .int (nI (i + 1))), (0, .ref h), (1, .int x1), (2, .int x2)]) hx hb dX0_mealWithCode_54 hl (k := 0) rfl (by rw [nI_succ]; rfl) (by decide) rfl (fun ls hl => ?_)
          refine lv_goto (tgt := 2) hx hb dX0_mealWithCode_57 (by decide) ?_
          have e9 : bX0_mealWithCode σ x1 x2 i = false := by unfold bX0_mealWithCode; rw [if_pos c_3, if_pos c_4, if_neg c_5]
          exact ih (i + 1) (by omega) (hfst.trans (fstK_f e9)) ls (lv_sub hl [0, 1, 2, 3] rfl)
        · have e9 : bX0_mealWithCode σ x1 x2 i = true := by unfold bX0_mealWithCode; rw [if_pos c_3, if_pos c_4, if_pos c_5]
          exact K2 i (by omega) (hfst.trans (fstK_t e9)) ls (lv_sub hl [0, 1, 2, 3] rfl)
set_option maxHeartbeats 4000000 in
set_option maxRecDepth 100000 in
theorem mX0_mealWithCode (l : Launch) (D : va_G) (y : Y3) (h : Nat) (ad : Nat → Nat) (σ : Sg) (x1 : Int32) (x2 : Int32) : Met l yX0_mealWithCode wsX0_mealWithCode ({ frames := 1, cells := 0, slots := 0, locals := 23 } : Room) (va_Pc [.ref h, .int x1, .int x2] (fun U => CK D y U ∧ qoH D 0 h ad U.heap ∧ StH D y ad σ U.heap)) (vp_Si (fun r => r = zX0_mealWithCode σ x1 x2)) 0 0 (fun _ => False) := by
  refine Met.ofW (cc := cX0_mealWithCode) (maxL := 4) (ret := (some .int)) (by decide) rfl ?_
  intro p e s m args below meth c s₁ B hml hv
  obtain ⟨rfl, hC, hCh, hSt⟩ := hv
  have hx := B.exec
  have hb := B.bytes
  have hr := B.returns
  have hts := atoms_spec (ws := wsX0_mealWithCode) B.pre
  have hown : s.vm.findClass RX0 = some m.cls := findClass_of_methodNamed B.named
  have hlocks := B.notSynchronized
  have hF := (⟨hx, hb, hml, hown, hts⟩ : CallFix p m c cX0_mealWithCode 4 s _ wsX0_mealWithCode RX0)
  have hl := lv_entry ([.ref h, .int x1, .int x2]) (n := 4) (Nat.le_of_ble_eq_true rfl)
  rw [lg_entry_eq]
  generalize (lg_sl ([.ref h, .int x1, .int x2]) ++ List.replicate (4 - (lg_sl ([.ref h, .int x1, .int x2])).length) Slot.unset).toArray = ls at hl ⊢
  have hl : lv_has ls 4 [(0, .ref h), (1, .int x1), (2, .int x2)] := hl
  refine lv_iconst (v := 0) hx hb dX0_mealWithCode_0 (by decide) ?_
  refine lv_istore_n (lv' := [(3, .int 0), (0, .ref h), (1, .int x1), (2, .int x2)]) hx hb dX0_mealWithCode_1 rfl hl (by decide) rfl (fun ls hl => ?_)
  refine lpX0_mealWithCode hx hb hml hown hts hC hCh hSt (fun hq ls hl => ?_) (fun i hin hq ls hl => ?_) _ 0 (Nat.zero_add _) rfl ls (lv_sub hl [0, 1, 2, 3] rfl)
  · refine lv_bipush (v := (-4)) hx hb dX0_mealWithCode_60 (by decide) ?_
    exact W.iret (v := (-4)) hx hb hr (fun t ht hW => ⟨(-4), rfl, (by unfold zX0_mealWithCode; rw [hq, if_neg (Nat.lt_irrefl _)]), ht⟩) (fun q hq => absurd hq List.not_mem_nil) dX0_mealWithCode_62
  · refine lv_iload_n hx hb dX0_mealWithCode_52 rfl (lv_at hl 0 rfl) ?_
    exact W.iret (v := (nI i)) hx hb hr (fun t ht hW => ⟨(nI i), rfl, (by unfold zX0_mealWithCode; rw [hq, if_pos hin]), ht⟩) (fun q hq => absurd hq List.not_mem_nil) dX0_mealWithCode_53
set_option maxHeartbeats 4000000 in
set_option maxRecDepth 100000 in
theorem kX0_mealWithCode {p : Program} {l : Launch} {e : Env} {R : Room} {s : State} {m : MethodId} {args : Array Value} {below : List Frame} {meth : Method} {c : Code} {H : Heap} {locs : List Loc} {cells slots : Nat} {Q : State → Prop} {cc : ByteArray} {nL : Nat} {Ts : List Cond} {own : String} {index pc : Nat} {ls : Array Slot} {rest : List Value} {D : va_G} {y : Y3} {h : Nat} {ad : Nat → Nat} {σ : Sg} {x1 : Int32} {x2 : Int32} (hF : CallFix p m c cc nL s args Ts own) (cw : CallW R s args own RX0 index yX0_mealWithCode cX0_mealWithCode 4 (some .int) wsX0_mealWithCode ({ frames := 1, cells := 0, slots := 0, locals := 23 } : Room) 0 0 2) (hC : CK D y s) (hCh : qoH D 0 h ad H) (hSt : StH D y ad σ H) (hsz : ls.size = nL) (hW : (rest.map fun v => v.category).sum ≤ 8) (hdg : decode cc pc = .ok (.invokevirtual index, 3)) (hf : cells ≤ R.cells ∧ slots ≤ R.slots)
    (k : W p l e R s m args below meth c H locs cells slots Q (F0 m (pc + 3) ls (.int (zX0_mealWithCode σ x1 x2) :: rest))) : W p l e R s m args below meth c H locs cells slots Q (F0 m pc ls (.int x2 :: .int x1 :: .ref h :: rest)) := by
  refine vp_callSi (W.runV (As := [.int x1, .int x2]) (rest := rest) hF (mX0_mealWithCode l D y h ad σ x1 x2) cw ⟨fun a U g mk q => by obtain ⟨q0, q1, q2, q3⟩ := q; exact ⟨q0, q1.call g mk a, q2, q3⟩, va_recv hC.1 hCh (ci := 0) (q0 := 0) rfl rfl, fun U hU hW => ⟨rfl, hC.warm hW, by rw [hU]; exact hCh, by rw [hU]; exact hSt⟩⟩ rfl rfl hsz rfl (lv_room hW) hdg ⟨hf.1, hf.2⟩) (fun r hr => ?_)
  subst hr
  exact k
def zX0_endReservation (σ : Sg) (x1 : Int32) (x2 : Int32) (x3 : Int32) : Int32 × Sg := if (zX5_has (σ 5 0) x1) = 0 then ((-1), σ)
  else (if (zX7_isWithin x2 1000 9999) = 0 then ((-1), σ)
    else (if (zX7_isWithin x3 0 1) = 0 then ((-1), σ)
      else (if 0 ≤ (zX0_mealWithCode σ x1 x2) then (if x3 = 1 then ((zX0_mealWithCode σ x1 x2), zrai (zsto σ 1 (zX0_mealWithCode σ x1 x2) 0 4) 0 x1 6)
          else ((zX0_mealWithCode σ x1 x2), zrai (zrai (zsto σ 1 (zX0_mealWithCode σ x1 x2) 0 3) 0 x1 5) 2 (zatt (zrai (zsto σ 1 (zX0_mealWithCode σ x1 x2) 0 3) 0 x1 5) 1 (zX0_mealWithCode σ x1 x2) 5) 4))
        else ((-2), σ))))
theorem iwX0_endReservation_X0 : ∀ w ∈ wsX00, w ∈ wsX0_endReservation := fun _ h => List.mem_cons_of_mem _ (List.mem_append_left _ (List.mem_append_right _ h))
theorem hdX0_endReservation : yX0_endReservation.cls = RX0 ∧ yX0_endReservation.cls ≠ "java/lang/invoke/MethodHandle" ∧ yX0_endReservation.cls ≠ "java/lang/invoke/VarHandle" ∧ (parseMethodDescriptor yX0_endReservation.desc).map (fun d => d.parameters.length) = some 3 := by decide +kernel
set_option maxHeartbeats 4000000 in
set_option maxRecDepth 100000 in
theorem mX0_endReservation (l : Launch) (D : va_G) (y : Y3) (h : Nat) (ad : Nat → Nat) (σ : Sg) (x1 : Int32) (x2 : Int32) (x3 : Int32) : Met l yX0_endReservation wsX0_endReservation ({ frames := 2, cells := 0, slots := 0, locals := 46 } : Room) (va_Pc [.ref h, .int x1, .int x2, .int x3] (fun U => CK D y U ∧ qoH D 0 h ad U.heap ∧ StH D y ad σ U.heap ∧ adI ad ∧ (∀ k, k < 11 → ad k ≠ h))) (va_Qi (fun (r : Int32) (u : Sg) => r = (zX0_endReservation σ x1 x2 x3).1 ∧ u = (zX0_endReservation σ x1 x2 x3).2) (fun u t => StH D y ad u t.heap) (stA ad)) 0 0 (stA ad) := by
  refine Met.ofW (cc := cX0_endReservation) (maxL := 5) (ret := (some .int)) (by decide) rfl ?_
  intro p e s m args below meth c s₁ B hml hv
  obtain ⟨rfl, hC, hCh, hSt, hi, hdj⟩ := hv
  have hx := B.exec
  have hb := B.bytes
  have hr := B.returns
  have hts := atoms_spec (ws := wsX0_endReservation) B.pre
  have hown : s.vm.findClass RX0 = some m.cls := findClass_of_methodNamed B.named
  have hlocks := B.notSynchronized
  have hF := (⟨hx, hb, hml, hown, hts⟩ : CallFix p m c cX0_endReservation 5 s _ wsX0_endReservation RX0)
  have hS : va_S (stA ad) s.heap s.heap [] := va_S.rf
  have hl := lv_entry ([.ref h, .int x1, .int x2, .int x3]) (n := 5) (Nat.le_of_ble_eq_true rfl)
  rw [lg_entry_eq]
  generalize (lg_sl ([.ref h, .int x1, .int x2, .int x3]) ++ List.replicate (5 - (lg_sl ([.ref h, .int x1, .int x2, .int x3])).length) Slot.unset).toArray = ls at hl ⊢
  have hl : lv_has ls 5 [(0, .ref h), (1, .int x1), (2, .int x2), (3, .int x3)] := hl
  have hCh0 := hCh
  refine lv_aload_n hx hb dX0_endReservation_0 rfl (lv_at hl 0 rfl) ?_
  refine va_get (D := D) (ci := 0) (v := .ref (ad 1)) (C := RX0) (T := TX0) (N := 5) hx hb hts iwX0_endReservation_X0 hown hC.1 hCh 0 rfl rfl 1 (by decide) (hts (.fieldLink RX0 21 "MealLockers$Changes" "lockers" "LMealLockers$Table;") (List.mem_of_getElem? (i := 1) rfl)) (fun _ h9 => h9) rfl dX0_endReservation_1 ?_
  refine lv_iload_n hx hb dX0_endReservation_4 rfl (lv_at hl 1 rfl) ?_
  refine sX5_has (k := 0) hF (cwV 1 hts gX0_endReservation_X5_has rfl rfl rfl hdX5_has ⟨Nat.le_of_ble_eq_true rfl, Nat.le_of_ble_eq_true rfl⟩) hC hSt (by decide) hl.1 (Nat.le_of_ble_eq_true rfl) dX0_endReservation_5 ⟨Nat.zero_le _, Nat.zero_le _⟩ ?_
  refine lv_if_eq (tgt := 33) hx hb dX0_endReservation_8 (by decide) (fun c_1 => ?_) (fun c_1 => ?_)
  · refine lv_iconst (v := (-1)) hx hb dX0_endReservation_33 (by decide) ?_
    exact W.iret (v := (-1)) hx hb hr (fun t ht hW => ⟨⟨(-1), σ, rfl, ⟨(by unfold zX0_endReservation; rw [if_pos c_1]), (by unfold zX0_endReservation; rw [if_pos c_1])⟩, by dsimp only; rw [ht]; exact hSt⟩, hS.F ht⟩) hS.2.2 dX0_endReservation_34
  · refine lv_iload_n hx hb dX0_endReservation_11 rfl (lv_at hl 2 rfl) ?_
    refine lv_sipush (v := 1000) hx hb dX0_endReservation_12 (by decide) ?_
    refine lv_sipush (v := 9999) hx hb dX0_endReservation_15 (by decide) ?_
    refine kX7_isWithinN hF ⟨va_cnB 3 hts gX0_endReservation_X7_isWithin_n34 rfl rfl rfl (nw_m0 hC) (hts (.initialized RX7) (List.mem_of_getElem? (i := 11) rfl)) hdX7_isWithin ⟨Nat.le_of_ble_eq_true rfl, Nat.le_of_ble_eq_true rfl⟩, (hts (.static yX7_isWithin) (List.mem_of_getElem? (i := 10) rfl)), trivial⟩ hC hl.1 (Nat.le_of_ble_eq_true rfl) dX0_endReservation_18 ⟨Nat.zero_le _, Nat.zero_le _⟩ ?_
    refine lv_if_eq (tgt := 33) hx hb dX0_endReservation_21 (by decide) (fun c_2 => ?_) (fun c_2 => ?_)
    · refine lv_iconst (v := (-1)) hx hb dX0_endReservation_33 (by decide) ?_
      exact W.iret (v := (-1)) hx hb hr (fun t ht hW => ⟨⟨(-1), σ, rfl, ⟨(by unfold zX0_endReservation; rw [if_neg c_1, if_pos c_2]), (by unfold zX0_endReservation; rw [if_neg c_1, if_pos c_2])⟩, by dsimp only; rw [ht]; exact hSt⟩, hS.F ht⟩) hS.2.2 dX0_endReservation_34
    · refine lv_iload_n hx hb dX0_endReservation_24 rfl (lv_at hl 3 rfl) ?_
      refine lv_iconst (v := 0) hx hb dX0_endReservation_25 (by decide) ?_
      refine lv_iconst (v := 1) hx hb dX0_endReservation_26 (by decide) ?_
      refine kX7_isWithinN hF ⟨va_cnB 3 hts gX0_endReservation_X7_isWithin_n34 rfl rfl rfl (nw_m0 hC) (hts (.initialized RX7) (List.mem_of_getElem? (i := 11) rfl)) hdX7_isWithin ⟨Nat.le_of_ble_eq_true rfl, Nat.le_of_ble_eq_true rfl⟩, (hts (.static yX7_isWithin) (List.mem_of_getElem? (i := 10) rfl)), trivial⟩ hC hl.1 (Nat.le_of_ble_eq_true rfl) dX0_endReservation_27 ⟨Nat.zero_le _, Nat.zero_le _⟩ ?_
      refine lv_if_ne (tgt := 35) hx hb dX0_endReservation_30 (by decide) (fun c_3 => ?_) (fun c_3 => ?_)
      · refine lv_aload_n hx hb dX0_endReservation_35 rfl (lv_at hl 0 rfl) ?_
        refine lv_iload_n hx hb dX0_endReservation_36 rfl (lv_at hl 1 rfl) ?_
        refine lv_iload_n hx hb dX0_endReservation_37 rfl (lv_at hl 2 rfl) ?_
        refine kX0_mealWithCode hF (cwV 2 hts gX0_endReservation_X0_mealWithCode rfl rfl rfl hdX0_mealWithCode ⟨Nat.le_of_ble_eq_true rfl, Nat.le_of_ble_eq_true rfl⟩) hC hCh hSt hl.1 (Nat.le_of_ble_eq_true rfl) dX0_endReservation_38 ⟨Nat.zero_le _, Nat.zero_le _⟩ ?_
        refine lv_istore (lv' := [(4, .int (zX0_mealWithCode σ x1 x2)), (0, .ref h), (1, .int x1), (2, .int x2), (3, .int x3)]) hx hb dX0_endReservation_41 hl (by decide) rfl (fun ls hl => ?_)
        refine lv_iload hx hb dX0_endReservation_43 (lv_at hl 0 rfl) ?_
        refine lv_if_ge (tgt := 51) hx hb dX0_endReservation_45 (by decide) (fun c_4 => ?_) (fun c_4 => ?_)
        · refine lv_iload_n hx hb dX0_endReservation_51 rfl (lv_at hl 4 rfl) ?_
          refine lv_iconst (v := 1) hx hb dX0_endReservation_52 (by decide) ?_
          refine lv_icmp_ne (tgt := 80) hx hb dX0_endReservation_53 (by decide) (fun c_5 => ?_) (fun c_5 => ?_)
          · refine lv_aload_n hx hb dX0_endReservation_80 rfl (lv_at hl 1 rfl) ?_
            refine va_get (D := D) (ci := 0) (v := .ref (ad 3)) (C := RX0) (T := TX0) (N := 5) hx hb hts iwX0_endReservation_X0 hown hC.1 hCh 0 rfl rfl 2 (by decide) (hts (.fieldLink RX0 25 "MealLockers$Changes" "meals" "LMealLockers$Table;") (List.mem_of_getElem? (i := 2) rfl)) (fun _ h9 => h9) rfl dX0_endReservation_81 ?_
            refine lv_iload hx hb dX0_endReservation_84 (lv_at hl 0 rfl) ?_
            refine lv_iconst (v := 0) hx hb dX0_endReservation_86 (by decide) ?_
            refine lv_iconst (v := 3) hx hb dX0_endReservation_87 (by decide) ?_
            refine sX5_store (k := 1) hF (cwV 3 hts gX0_endReservation_X5_store rfl rfl rfl hdX5_store ⟨Nat.le_of_ble_eq_true rfl, Nat.le_of_ble_eq_true rfl⟩) hC hSt hi (by decide) hS (fun _ h => h) hl.1 (Nat.le_of_ble_eq_true rfl) dX0_endReservation_88 ⟨Nat.zero_le _, Nat.zero_le _⟩ (fun H locs hSt _ _ hS => ?_)
            have hCh := qo_at hS hCh0 hdj
            refine lv_aload_n hx hb dX0_endReservation_91 rfl (lv_at hl 1 rfl) ?_
            refine va_get (D := D) (ci := 0) (v := .ref (ad 1)) (C := RX0) (T := TX0) (N := 5) hx hb hts iwX0_endReservation_X0 hown hC.1 hCh 0 rfl rfl 1 (by decide) (hts (.fieldLink RX0 21 "MealLockers$Changes" "lockers" "LMealLockers$Table;") (List.mem_of_getElem? (i := 1) rfl)) (fun _ h9 => h9) rfl dX0_endReservation_92 ?_
            refine lv_iload_n hx hb dX0_endReservation_95 rfl (lv_at hl 2 rfl) ?_
            refine lv_iconst (v := 5) hx hb dX0_endReservation_96 (by decide) ?_
            refine sX5_raise (k := 0) hF (cwV 2 hts gX0_endReservation_X5_raise rfl rfl rfl hdX5_raise ⟨Nat.le_of_ble_eq_true rfl, Nat.le_of_ble_eq_true rfl⟩) hC hSt hi (by decide) hS (fun _ h => h) hl.1 (Nat.le_of_ble_eq_true rfl) dX0_endReservation_97 ⟨Nat.zero_le _, Nat.zero_le _⟩ (fun H locs hSt _ _ hS => ?_)
            have hCh := qo_at hS hCh0 hdj
            refine lv_aload_n hx hb dX0_endReservation_100 rfl (lv_at hl 1 rfl) ?_
            refine va_get (D := D) (ci := 0) (v := .ref (ad 5)) (C := RX0) (T := TX0) (N := 5) hx hb hts iwX0_endReservation_X0 hown hC.1 hCh 0 rfl rfl 3 (by decide) (hts (.fieldLink RX0 29 "MealLockers$Changes" "people" "LMealLockers$Table;") (List.mem_of_getElem? (i := 3) rfl)) (fun _ h9 => h9) rfl dX0_endReservation_101 ?_
            refine lv_aload_n hx hb dX0_endReservation_104 rfl (lv_at hl 1 rfl) ?_
            refine va_get (D := D) (ci := 0) (v := .ref (ad 3)) (C := RX0) (T := TX0) (N := 5) hx hb hts iwX0_endReservation_X0 hown hC.1 hCh 0 rfl rfl 2 (by decide) (hts (.fieldLink RX0 25 "MealLockers$Changes" "meals" "LMealLockers$Table;") (List.mem_of_getElem? (i := 2) rfl)) (fun _ h9 => h9) rfl dX0_endReservation_105 ?_
            refine lv_iload hx hb dX0_endReservation_108 (lv_at hl 0 rfl) ?_
            refine lv_iconst (v := 5) hx hb dX0_endReservation_110 (by decide) ?_
            refine sX5_at (k := 1) hF (cwV 2 hts gX0_endReservation_X5_at rfl rfl rfl hdX5_at ⟨Nat.le_of_ble_eq_true rfl, Nat.le_of_ble_eq_true rfl⟩) hC hSt (by decide) hl.1 (Nat.le_of_ble_eq_true rfl) dX0_endReservation_111 ⟨Nat.zero_le _, Nat.zero_le _⟩ ?_
            refine lv_iconst (v := 4) hx hb dX0_endReservation_114 (by decide) ?_
            refine sX5_raise (k := 2) hF (cwV 2 hts gX0_endReservation_X5_raise rfl rfl rfl hdX5_raise ⟨Nat.le_of_ble_eq_true rfl, Nat.le_of_ble_eq_true rfl⟩) hC hSt hi (by decide) hS (fun _ h => h) hl.1 (Nat.le_of_ble_eq_true rfl) dX0_endReservation_115 ⟨Nat.zero_le _, Nat.zero_le _⟩ (fun H locs hSt _ _ hS => ?_)
            have hCh := qo_at hS hCh0 hdj
            refine lv_iload hx hb dX0_endReservation_118 (lv_at hl 0 rfl) ?_
            exact W.iret (v := (zX0_mealWithCode σ x1 x2)) hx hb hr (fun t ht hW => ⟨⟨(zX0_mealWithCode σ x1 x2), zrai (zrai (zsto σ 1 (zX0_mealWithCode σ x1 x2) 0 3) 0 x1 5) 2 (zatt (zrai (zsto σ 1 (zX0_mealWithCode σ x1 x2) 0 3) 0 x1 5) 1 (zX0_mealWithCode σ x1 x2) 5) 4, rfl, ⟨(by unfold zX0_endReservation; rw [if_neg c_1, if_neg c_2, if_neg c_3, if_pos c_4, if_neg c_5]), (by unfold zX0_endReservation; rw [if_neg c_1, if_neg c_2, if_neg c_3, if_pos c_4, if_neg c_5])⟩, by dsimp only; rw [ht]; exact hSt⟩, hS.F ht⟩) hS.2.2 dX0_endReservation_120
          · refine lv_aload_n hx hb dX0_endReservation_56 rfl (lv_at hl 1 rfl) ?_
            refine va_get (D := D) (ci := 0) (v := .ref (ad 3)) (C := RX0) (T := TX0) (N := 5) hx hb hts iwX0_endReservation_X0 hown hC.1 hCh 0 rfl rfl 2 (by decide) (hts (.fieldLink RX0 25 "MealLockers$Changes" "meals" "LMealLockers$Table;") (List.mem_of_getElem? (i := 2) rfl)) (fun _ h9 => h9) rfl dX0_endReservation_57 ?_
            refine lv_iload hx hb dX0_endReservation_60 (lv_at hl 0 rfl) ?_
            refine lv_iconst (v := 0) hx hb dX0_endReservation_62 (by decide) ?_
            refine lv_iconst (v := 4) hx hb dX0_endReservation_63 (by decide) ?_
            refine sX5_store (k := 1) hF (cwV 3 hts gX0_endReservation_X5_store rfl rfl rfl hdX5_store ⟨Nat.le_of_ble_eq_true rfl, Nat.le_of_ble_eq_true rfl⟩) hC hSt hi (by decide) hS (fun _ h => h) hl.1 (Nat.le_of_ble_eq_true rfl) dX0_endReservation_64 ⟨Nat.zero_le _, Nat.zero_le _⟩ (fun H locs hSt _ _ hS => ?_)
            have hCh := qo_at hS hCh0 hdj
            refine lv_aload_n hx hb dX0_endReservation_67 rfl (lv_at hl 1 rfl) ?_
            refine va_get (D := D) (ci := 0) (v := .ref (ad 1)) (C := RX0) (T := TX0) (N := 5) hx hb hts iwX0_endReservation_X0 hown hC.1 hCh 0 rfl rfl 1 (by decide) (hts (.fieldLink RX0 21 "MealLockers$Changes" "lockers" "LMealLockers$Table;") (List.mem_of_getElem? (i := 1) rfl)) (fun _ h9 => h9) rfl dX0_endReservation_68 ?_
            refine lv_iload_n hx hb dX0_endReservation_71 rfl (lv_at hl 2 rfl) ?_
            refine lv_bipush (v := 6) hx hb dX0_endReservation_72 (by decide) ?_
            refine sX5_raise (k := 0) hF (cwV 2 hts gX0_endReservation_X5_raise rfl rfl rfl hdX5_raise ⟨Nat.le_of_ble_eq_true rfl, Nat.le_of_ble_eq_true rfl⟩) hC hSt hi (by decide) hS (fun _ h => h) hl.1 (Nat.le_of_ble_eq_true rfl) dX0_endReservation_74 ⟨Nat.zero_le _, Nat.zero_le _⟩ (fun H locs hSt _ _ hS => ?_)
            have hCh := qo_at hS hCh0 hdj
            refine lv_goto (tgt := 118) hx hb dX0_endReservation_77 (by decide) ?_
            refine lv_iload hx hb dX0_endReservation_118 (lv_at hl 0 rfl) ?_
            exact W.iret (v := (zX0_mealWithCode σ x1 x2)) hx hb hr (fun t ht hW => ⟨⟨(zX0_mealWithCode σ x1 x2), zrai (zsto σ 1 (zX0_mealWithCode σ x1 x2) 0 4) 0 x1 6, rfl, ⟨(by unfold zX0_endReservation; rw [if_neg c_1, if_neg c_2, if_neg c_3, if_pos c_4, if_pos c_5]), (by unfold zX0_endReservation; rw [if_neg c_1, if_neg c_2, if_neg c_3, if_pos c_4, if_pos c_5])⟩, by dsimp only; rw [ht]; exact hSt⟩, hS.F ht⟩) hS.2.2 dX0_endReservation_120
        · refine lv_bipush (v := (-2)) hx hb dX0_endReservation_48 (by decide) ?_
          exact W.iret (v := (-2)) hx hb hr (fun t ht hW => ⟨⟨(-2), σ, rfl, ⟨(by unfold zX0_endReservation; rw [if_neg c_1, if_neg c_2, if_neg c_3, if_neg c_4]), (by unfold zX0_endReservation; rw [if_neg c_1, if_neg c_2, if_neg c_3, if_neg c_4])⟩, by dsimp only; rw [ht]; exact hSt⟩, hS.F ht⟩) hS.2.2 dX0_endReservation_50
      · refine lv_iconst (v := (-1)) hx hb dX0_endReservation_33 (by decide) ?_
        exact W.iret (v := (-1)) hx hb hr (fun t ht hW => ⟨⟨(-1), σ, rfl, ⟨(by unfold zX0_endReservation; rw [if_neg c_1, if_neg c_2, if_pos c_3]), (by unfold zX0_endReservation; rw [if_neg c_1, if_neg c_2, if_pos c_3])⟩, by dsimp only; rw [ht]; exact hSt⟩, hS.F ht⟩) hS.2.2 dX0_endReservation_34
set_option maxHeartbeats 4000000 in
set_option maxRecDepth 100000 in
theorem kX0_endReservation {p : Program} {l : Launch} {e : Env} {R : Room} {s : State} {m : MethodId} {args : Array Value} {below : List Frame} {meth : Method} {c : Code} {H : Heap} {locs : List Loc} {cells slots : Nat} {Q : State → Prop} {cc : ByteArray} {nL : Nat} {Ts : List Cond} {own : String} {index pc : Nat} {ls : Array Slot} {rest : List Value} {D : va_G} {y : Y3} {h : Nat} {ad : Nat → Nat} {σ : Sg} {x1 : Int32} {x2 : Int32} {x3 : Int32} {A0 : Nat → Prop} {H0 : Heap} (hF : CallFix p m c cc nL s args Ts own) (cw : CallW R s args own RX0 index yX0_endReservation cX0_endReservation 5 (some .int) wsX0_endReservation ({ frames := 2, cells := 0, slots := 0, locals := 46 } : Room) 0 0 3) (hC : CK D y s) (hCh : qoH D 0 h ad H) (hSt : StH D y ad σ H) (hi : adI ad) (hdj : (∀ k, k < 11 → ad k ≠ h)) (hS : va_S A0 H0 H locs) (hA : ∀ q, (stA ad) q → A0 q) (hsz : ls.size = nL) (hW : (rest.map fun v => v.category).sum ≤ 8) (hdg : decode cc pc = .ok (.invokevirtual index, 3)) (hf : cells ≤ R.cells ∧ slots ≤ R.slots)
    (k : ∀ (H1 : Heap) (locs1 : List Loc), StH D y ad (zX0_endReservation σ x1 x2 x3).2 H1 → H.size ≤ H1.size → (∀ q : Nat, q < H.size → ¬ (stA ad) q → H1[q]? = H[q]?) → va_S A0 H0 H1 locs1 → W p l e R s m args below meth c H1 locs1 cells slots Q (F0 m (pc + 3) ls (.int ((zX0_endReservation σ x1 x2 x3).1) :: rest))) : W p l e R s m args below meth c H locs cells slots Q (F0 m pc ls (.int x3 :: .int x2 :: .int x1 :: .ref h :: rest)) := by
  refine va_calli (va_runV (As := [.int x1, .int x2, .int x3]) (rest := rest) hF (mX0_endReservation l D y h ad σ x1 x2 x3) cw ⟨fun a U g mk q => by obtain ⟨q0, q1, q2, q3, q4, q5⟩ := q; exact ⟨q0, q1.call g mk a, q2, q3, q4, q5⟩, va_recv hC.1 hCh (ci := 0) (q0 := 0) rfl rfl, fun U hU hW => ⟨rfl, hC.warm hW, by rw [hU]; exact hCh, by rw [hU]; exact hSt, hi, hdj⟩⟩ rfl rfl hsz rfl (lv_room hW) hdg ⟨hf.1, hf.2⟩) hS (fun q _ h => hA q h) hA (fun r u t H1 locs1 ht hvm hp hB hz1 hk1 hS1 => ?_)
  obtain ⟨hp1, hp2⟩ := hp
  subst hp1; subst hp2
  rw [ht] at hB
  exact k H1 locs1 hB hz1 hk1 hS1
