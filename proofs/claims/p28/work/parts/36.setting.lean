def mostI (j : Nat) : Int32 := match j with
  | 0 => 48
  | 2 => 99
  | _ => 9
def firstI (j : Nat) : Int32 := match j with
  | 0 => 4
  | 1 => 3
  | 2 => 24
  | _ => 1
/-- the two static rows: where they lie, what they hold; nothing from n0 on is theirs -/
def STM (n0 tM tF : Nat) (U : State) (H : Heap) : Prop := (va_Z "MealLockers" "MOST_OF_SETTING" "[I" (.ref tM) (fun q => n0 ≤ q) U H ∧ va_T .int tM 4 (fun j => .int (mostI j)) (fun q => n0 ≤ q) U H) ∧ va_Z "MealLockers" "FIRST_OF_SETTING" "[I" (.ref tF) (fun q => n0 ≤ q) U H ∧ va_T .int tF 4 (fun j => .int (firstI j)) (fun q => n0 ≤ q) U H
theorem STM.warm {n0 tM tF : Nat} {s U : State} {H : Heap} (hW : s.WarmedH U.vm) (h : STM n0 tM tF s H) : STM n0 tM tF U H := ⟨⟨va_Z.moved hW.alike h.1.1, va_T.moved hW.alike h.1.2⟩, va_Z.moved hW.alike h.2.1, va_T.moved hW.alike h.2.2⟩
theorem STM.call {n0 tM tF : Nat} {U : State} (h : STM n0 tM tF U U.heap) (g : JFrame) (mk : MethodId) (a : Array Value) : STM n0 tM tF (U.calling g mk a) (U.calling g mk a).heap := ⟨⟨va_Z.moved (u := U) (U := U.calling g mk a) (Vm.Alike.refl U.vm) h.1.1, va_T.moved (u := U) (U := U.calling g mk a) (Vm.Alike.refl U.vm) h.1.2⟩, va_Z.moved (u := U) (U := U.calling g mk a) (Vm.Alike.refl U.vm) h.2.1, va_T.moved (u := U) (U := U.calling g mk a) (Vm.Alike.refl U.vm) h.2.2⟩
theorem STM.kept {n0 tM tF : Nat} {U : State} {H H1 : Heap} (h : STM n0 tM tF U H) (hq : ∀ a : Nat, a < H.size → a < n0 → H1[a]? = H[a]?) : STM n0 tM tF U H1 :=
  have k : ∀ a : Nat, a < H.size → ¬ (n0 ≤ a) → H1[a]? = H[a]? := fun a h1 h2 => hq a h1 (by omega)
  ⟨⟨h.1.1.kept k, h.1.2.kept k⟩, h.2.1.kept k, h.2.2.kept k⟩
theorem zle4 {x : Int32} (h : x < 4) : ¬ Int32.ofNat 4 ≤ x := by
  have e : (Int32.ofNat 4) = (4 : Int32) := rfl
  rw [e]
  rw [Int32.lt_iff_toInt_lt] at h
  rw [Int32.le_iff_toInt_le]
  omega
def zX0_changeSetting (σ : Sg) (x1 : Int32) (x2 : Int32) : Int32 × Sg := if x1 < 0 then ((-1), σ)
  else (if x1 < 4 then (if (zX7_isWithin x2 1 (mostI x1.toNatClampNeg)) = 0 then ((-1), σ)
      else ((zX4_setting σ x1), zsto σ 4 x1 0 x2))
    else ((-1), σ))
theorem iwX0_changeSetting_X0 : ∀ w ∈ wsX00, w ∈ wsX0_changeSetting := fun _ h => List.mem_cons_of_mem _ (List.mem_append_left _ (List.mem_append_left _ (List.mem_append_right _ h)))
theorem iwX0_changeSetting_X4 : ∀ w ∈ wsX40, w ∈ wsX0_changeSetting := fun _ h => List.mem_cons_of_mem _ (List.mem_append_left _ (List.mem_append_right _ h))
theorem hdX0_changeSetting : yX0_changeSetting.cls = RX0 ∧ yX0_changeSetting.cls ≠ "java/lang/invoke/MethodHandle" ∧ yX0_changeSetting.cls ≠ "java/lang/invoke/VarHandle" ∧ (parseMethodDescriptor yX0_changeSetting.desc).map (fun d => d.parameters.length) = some 2 := by decide +kernel
set_option maxHeartbeats 4000000 in
set_option maxRecDepth 100000 in
theorem mX0_changeSetting (l : Launch) (D : va_G) (y : Y3) (n0 tM tF : Nat) (h : Nat) (ad : Nat → Nat) (σ : Sg) (x1 : Int32) (x2 : Int32) : Met l yX0_changeSetting wsX0_changeSetting ({ frames := 2, cells := 0, slots := 0, locals := 44 } : Room) (va_Pc [.ref h, .int x1, .int x2] (fun U => CK D y U ∧ qoH D 0 h ad U.heap ∧ StH D y ad σ U.heap ∧ adI ad ∧ (∀ k, k < 11 → ad k ≠ h) ∧ STM n0 tM tF U U.heap ∧ (∀ q, stA ad q → n0 ≤ q))) (va_Qi (fun (r : Int32) (u : Sg) => r = (zX0_changeSetting σ x1 x2).1 ∧ u = (zX0_changeSetting σ x1 x2).2) (fun u t => StH D y ad u t.heap) (stA ad)) 0 0 (stA ad) := by
  refine Met.ofW (cc := cX0_changeSetting) (maxL := 4) (ret := (some .int)) (by decide) rfl ?_
  intro p e s m args below meth c s₁ B hml hv
  obtain ⟨rfl, hC, hCh, hSt, hi, hdj, hZ, hn0⟩ := hv
  have hx := B.exec
  have hb := B.bytes
  have hr := B.returns
  have hts := atoms_spec (ws := wsX0_changeSetting) B.pre
  have hown : s.vm.findClass RX0 = some m.cls := findClass_of_methodNamed B.named
  have hlocks := B.notSynchronized
  have hF := (⟨hx, hb, hml, hown, hts⟩ : CallFix p m c cX0_changeSetting 4 s _ wsX0_changeSetting RX0)
  have hS : va_S (stA ad) s.heap s.heap [] := va_S.rf
  have hl := lv_entry ([.ref h, .int x1, .int x2]) (n := 4) (Nat.le_of_ble_eq_true rfl)
  rw [lg_entry_eq]
  generalize (lg_sl ([.ref h, .int x1, .int x2]) ++ List.replicate (4 - (lg_sl ([.ref h, .int x1, .int x2])).length) Slot.unset).toArray = ls at hl ⊢
  have hl : lv_has ls 4 [(0, .ref h), (1, .int x1), (2, .int x2)] := hl
  have hCh0 := hCh
  refine lv_iload_n hx hb dX0_changeSetting_0 rfl (lv_at hl 1 rfl) ?_
  refine lv_if_lt (tgt := 12) hx hb dX0_changeSetting_1 (by decide) (fun c_1 => ?_) (fun c_1 => ?_)
  · refine lv_iconst (v := (-1)) hx hb dX0_changeSetting_12 (by decide) ?_
    exact W.iret (v := (-1)) hx hb hr (fun t ht hW => ⟨⟨(-1), σ, rfl, ⟨(by unfold zX0_changeSetting; rw [if_pos c_1]), (by unfold zX0_changeSetting; rw [if_pos c_1])⟩, by dsimp only; rw [ht]; exact hSt⟩, hS.F ht⟩) hS.2.2 dX0_changeSetting_13
  · refine lv_iload_n hx hb dX0_changeSetting_4 rfl (lv_at hl 1 rfl) ?_
    refine va_getsN hx hb (hZ.1.1.narrow hn0) hS hown (nw_f16 hC) (fun _ h9 => h9) dX0_changeSetting_5 ?_
    refine va_tlen (v := 4) hx hb (hZ.1.2.narrow hn0) hS rfl dX0_changeSetting_8 ?_
    refine lv_icmp_lt (tgt := 14) hx hb dX0_changeSetting_9 (by decide) (fun c_2 => ?_) (fun c_2 => ?_)
    · refine lv_iload_n hx hb dX0_changeSetting_14 rfl (lv_at hl 2 rfl) ?_
      refine lv_iconst (v := 1) hx hb dX0_changeSetting_15 (by decide) ?_
      refine va_getsN hx hb (hZ.1.1.narrow hn0) hS hown (nw_f16 hC) (fun _ h9 => h9) dX0_changeSetting_16 ?_
      refine lv_iload_n hx hb dX0_changeSetting_19 rfl (lv_at hl 1 rfl) ?_
      refine va_ti (v := .int (mostI x1.toNatClampNeg)) hx hb (hZ.1.2.narrow hn0) hS (zin_of c_1 (zle4 c_2) (by decide)) rfl dX0_changeSetting_20 ?_
      refine kX7_isWithinN hF ⟨va_cnB 3 hts gX0_changeSetting_X7_isWithin_n34 rfl rfl rfl (nw_m0 hC) (hts (.initialized RX7) (List.mem_of_getElem? (i := 3) rfl)) hdX7_isWithin ⟨Nat.le_of_ble_eq_true rfl, Nat.le_of_ble_eq_true rfl⟩, (hts (.static yX7_isWithin) (List.mem_of_getElem? (i := 2) rfl)), trivial⟩ hC hl.1 (Nat.le_of_ble_eq_true rfl) dX0_changeSetting_21 ⟨Nat.zero_le _, Nat.zero_le _⟩ ?_
      refine lv_if_ne (tgt := 29) hx hb dX0_changeSetting_24 (by decide) (fun c_3 => ?_) (fun c_3 => ?_)
      · refine lv_aload_n hx hb dX0_changeSetting_29 rfl (lv_at hl 0 rfl) ?_
        refine va_get (D := D) (ci := 0) (v := .ref (ad 0)) (C := RX0) (T := TX0) (N := 5) hx hb hts iwX0_changeSetting_X0 hown hC.1 hCh 0 rfl rfl 0 (by decide) (hts (.fieldLink RX0 9 "MealLockers$Changes" "state" "LMealLockers$State;") (List.mem_of_getElem? (i := 1) rfl)) (fun _ h9 => h9) rfl dX0_changeSetting_30 ?_
        refine lv_iload_n hx hb dX0_changeSetting_33 rfl (lv_at hl 1 rfl) ?_
        refine kX4_setting hF (cwV 1 hts gX0_changeSetting_X4_setting rfl rfl rfl hdX4_setting ⟨Nat.le_of_ble_eq_true rfl, Nat.le_of_ble_eq_true rfl⟩) hC hSt hl.1 (Nat.le_of_ble_eq_true rfl) dX0_changeSetting_34 ⟨Nat.zero_le _, Nat.zero_le _⟩ ?_
        refine lv_istore_n (lv' := [(3, .int (zX4_setting σ x1)), (0, .ref h), (1, .int x1), (2, .int x2)]) hx hb dX0_changeSetting_37 rfl hl (by decide) rfl (fun ls hl => ?_)
        refine lv_aload_n hx hb dX0_changeSetting_38 rfl (lv_at hl 1 rfl) ?_
        refine va_get (D := D) (ci := 0) (v := .ref (ad 0)) (C := RX0) (T := TX0) (N := 5) hx hb hts iwX0_changeSetting_X0 hown hC.1 hCh 0 rfl rfl 0 (by decide) (hts (.fieldLink RX0 9 "MealLockers$Changes" "state" "LMealLockers$State;") (List.mem_of_getElem? (i := 1) rfl)) (fun _ h9 => h9) rfl dX0_changeSetting_39 ?_
        refine va_getN (D := D) (ci := 4) (v := .ref (ad 9)) (C := RX4) (T := TX4) (N := 6) hx hb hts iwX0_changeSetting_X4 hown hC.1 hSt 0 rfl rfl 4 (by decide) (nw_f9 hC) (fun _ h9 => h9) rfl dX0_changeSetting_42 ?_
        refine lv_iload_n hx hb dX0_changeSetting_45 rfl (lv_at hl 2 rfl) ?_
        refine lv_iconst (v := 0) hx hb dX0_changeSetting_46 (by decide) ?_
        refine lv_iload_n hx hb dX0_changeSetting_47 rfl (lv_at hl 3 rfl) ?_
        refine sX5_store (k := 4) hF (cwV 3 hts gX0_changeSetting_X5_store rfl rfl rfl hdX5_store ⟨Nat.le_of_ble_eq_true rfl, Nat.le_of_ble_eq_true rfl⟩) hC hSt hi (by decide) hS (fun _ h => h) hl.1 (Nat.le_of_ble_eq_true rfl) dX0_changeSetting_48 ⟨Nat.zero_le _, Nat.zero_le _⟩ (fun H locs hSt _ _ hS => ?_)
        have hCh := qo_at hS hCh0 hdj
        refine lv_iload_n hx hb dX0_changeSetting_51 rfl (lv_at hl 0 rfl) ?_
        exact W.iret (v := (zX4_setting σ x1)) hx hb hr (fun t ht hW => ⟨⟨(zX4_setting σ x1), zsto σ 4 x1 0 x2, rfl, ⟨(by unfold zX0_changeSetting; rw [if_neg c_1, if_pos c_2, if_neg c_3]), (by unfold zX0_changeSetting; rw [if_neg c_1, if_pos c_2, if_neg c_3])⟩, by dsimp only; rw [ht]; exact hSt⟩, hS.F ht⟩) hS.2.2 dX0_changeSetting_52
      · refine lv_iconst (v := (-1)) hx hb dX0_changeSetting_27 (by decide) ?_
        exact W.iret (v := (-1)) hx hb hr (fun t ht hW => ⟨⟨(-1), σ, rfl, ⟨(by unfold zX0_changeSetting; rw [if_neg c_1, if_pos c_2, if_pos c_3]), (by unfold zX0_changeSetting; rw [if_neg c_1, if_pos c_2, if_pos c_3])⟩, by dsimp only; rw [ht]; exact hSt⟩, hS.F ht⟩) hS.2.2 dX0_changeSetting_28
    · refine lv_iconst (v := (-1)) hx hb dX0_changeSetting_12 (by decide) ?_
      exact W.iret (v := (-1)) hx hb hr (fun t ht hW => ⟨⟨(-1), σ, rfl, ⟨(by unfold zX0_changeSetting; rw [if_neg c_1, if_neg c_2]), (by unfold zX0_changeSetting; rw [if_neg c_1, if_neg c_2])⟩, by dsimp only; rw [ht]; exact hSt⟩, hS.F ht⟩) hS.2.2 dX0_changeSetting_13
set_option maxHeartbeats 4000000 in
set_option maxRecDepth 100000 in
theorem kX0_changeSetting {p : Program} {l : Launch} {e : Env} {R : Room} {s : State} {m : MethodId} {args : Array Value} {below : List Frame} {meth : Method} {c : Code} {H : Heap} {locs : List Loc} {cells slots : Nat} {Q : State → Prop} {cc : ByteArray} {nL : Nat} {Ts : List Cond} {own : String} {index pc : Nat} {ls : Array Slot} {rest : List Value} {D : va_G} {y : Y3} {n0 tM tF : Nat} {h : Nat} {ad : Nat → Nat} {σ : Sg} {x1 : Int32} {x2 : Int32} {A0 : Nat → Prop} {H0 : Heap} (hF : CallFix p m c cc nL s args Ts own) (cw : CallW R s args own RX0 index yX0_changeSetting cX0_changeSetting 4 (some .int) wsX0_changeSetting ({ frames := 2, cells := 0, slots := 0, locals := 44 } : Room) 0 0 2) (hC : CK D y s) (hCh : qoH D 0 h ad H) (hSt : StH D y ad σ H) (hi : adI ad) (hdj : (∀ k, k < 11 → ad k ≠ h)) (hZ : STM n0 tM tF s H) (hn0 : (∀ q, stA ad q → n0 ≤ q)) (hS : va_S A0 H0 H locs) (hA : ∀ q, (stA ad) q → A0 q) (hsz : ls.size = nL) (hW : (rest.map fun v => v.category).sum ≤ 8) (hdg : decode cc pc = .ok (.invokevirtual index, 3)) (hf : cells ≤ R.cells ∧ slots ≤ R.slots)
    (k : ∀ (H1 : Heap) (locs1 : List Loc), StH D y ad (zX0_changeSetting σ x1 x2).2 H1 → H.size ≤ H1.size → (∀ q : Nat, q < H.size → ¬ (stA ad) q → H1[q]? = H[q]?) → va_S A0 H0 H1 locs1 → W p l e R s m args below meth c H1 locs1 cells slots Q (F0 m (pc + 3) ls (.int ((zX0_changeSetting σ x1 x2).1) :: rest))) : W p l e R s m args below meth c H locs cells slots Q (F0 m pc ls (.int x2 :: .int x1 :: .ref h :: rest)) := by
  refine va_calli (va_runV (As := [.int x1, .int x2]) (rest := rest) hF (mX0_changeSetting l D y n0 tM tF h ad σ x1 x2) cw ⟨fun a U g mk q => by obtain ⟨q0, q1, q2, q3, q4, q5, q6, q7⟩ := q; exact ⟨q0, q1.call g mk a, q2, q3, q4, q5, q6.call g mk a, q7⟩, va_recv hC.1 hCh (ci := 0) (q0 := 0) rfl rfl, fun U hU hW => ⟨rfl, hC.warm hW, by rw [hU]; exact hCh, by rw [hU]; exact hSt, hi, hdj, by rw [hU]; exact hZ.warm hW, hn0⟩⟩ rfl rfl hsz rfl (lv_room hW) hdg ⟨hf.1, hf.2⟩) hS (fun q _ h => hA q h) hA (fun r u t H1 locs1 ht hvm hp hB hz1 hk1 hS1 => ?_)
  obtain ⟨hp1, hp2⟩ := hp
  subst hp1; subst hp2
  rw [ht] at hB
  exact k H1 locs1 hB hz1 hk1 hS1
