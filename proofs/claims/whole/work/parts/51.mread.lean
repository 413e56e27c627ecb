theorem inv_m {μ : Sg} (h : InvM μ) {i : Nat} (hi : i < (μ 0 1).toNatClampNeg) : rg (nI i) 24 := by
  have h1 := h.2.1
  have h2 := (rg_nI h1).2
  exact rg_of (by omega) (by decide)
theorem inv_h {μ : Sg} (h : InvM μ) {i : Nat} (hi : i < (μ 0 3).toNatClampNeg) : rg (nI i) 3 := by
  have h1 := h.2.2.2.1
  have h2 := (rg_nI h1).2
  exact rg_of (by omega) (by decide)
theorem rg_lt2 {x : Int32} (h : rg x 9) (hc : ¬ 2 ≤ x) : rg x 8 := by
  rw [Int32.le_iff_toInt_le, show (2 : Int32).toInt = 2 from rfl] at hc
  exact ⟨h.1, by omega⟩
theorem rg_pred {x : Int32} (h : rg x 9) (hc : 2 ≤ x) : rg (x - 1) 8 := by
  rw [Int32.le_iff_toInt_le, show (2 : Int32).toInt = 2 from rfl] at hc
  have e : (x - 1).toInt = x.toInt - 1 := by
    rw [Int32.toInt_sub, show (1 : Int32).toInt = 1 from rfl]
    have := h.2
    exact Int.bmod_eq_of_le (by omega) (by omega)
  have := h.2
  exact ⟨by rw [e]; omega, by rw [e]; omega⟩
theorem rg_ne5 {x : Int32} (h : rg x 6) (hc : ¬ x = 5) : rg x 5 := by
  have := lv_neT (a := 5) hc (by decide)
  exact ⟨h.1, by have := h.2; omega⟩
theorem vp_cnt {x : Int32} (hc : ¬ zX8_in x 13 16 = 0) : vp_in ((5 + x) - 13) 299 := by
  unfold zX8_in at hc
  split at hc
  · exact absurd rfl hc
  · rename_i h1
    split at hc
    · exact absurd rfl hc
    · rename_i h2
      rw [Int32.lt_iff_toInt_lt, show (13 : Int32).toInt = 13 from rfl] at h1
      rw [Int32.lt_iff_toInt_lt, show (16 : Int32).toInt = 16 from rfl] at h2
      have e1 : (5 + x).toInt = 5 + x.toInt := by
        rw [Int32.toInt_add, show (5 : Int32).toInt = 5 from rfl]
        exact Int.bmod_eq_of_le (by omega) (by omega)
      have e : (5 + x - 13).toInt = x.toInt - 8 := by
        rw [Int32.toInt_sub, e1, show (13 : Int32).toInt = 13 from rfl, Int.bmod_eq_of_le (by omega) (by omega)]
        omega
      have h3 : (5 + x - 13).toNatClampNeg = (5 + x - 13).toInt.toNat := rfl
      refine vpl ⟨fun z => ?_, by omega⟩
      rw [Int32.lt_iff_toInt_lt, Int32.toInt_zero] at z
      omega
theorem mv_dec : ∀ i : Nat, i < 120 → ∀ b : Nat, b < 6 → 0 < b → nI i / nI b = nI (i / b) ∧ nI i - nI i / nI b * nI b = nI (i % b) := by decide +kernel
theorem mv_div {μ : Sg} (h : InvM μ) {i : Nat} (hi : i < (μ 0 1 * μ 0 0).toNatClampNeg) : ¬ μ 0 0 = 0 ∧ rg (nI i / μ 0 0) 24 ∧ rg (nI i - nI i / μ 0 0 * μ 0 0) 5 := by
  obtain ⟨ea, ha⟩ := rg_nI h.2.1
  obtain ⟨eb, hb⟩ := rg_nI h.1
  have ha2 := h.2.1.2
  have hb2 := h.1.2
  generalize (μ 0 1).toNatClampNeg = a at *
  generalize (μ 0 0).toNatClampNeg = b at *
  rw [ea, eb, pk_mul] at hi
  have hle : a * b ≤ 24 * b := Nat.mul_le_mul_right b (by omega)
  rw [nI_clamp (by omega)] at hi
  have hb0 : 0 < b := by
    rcases Nat.eq_zero_or_pos b with rfl | q
    · simp at hi
    · exact q
  have hi2 : i < 120 := by omega
  obtain ⟨d1, d2⟩ := mv_dec i hi2 b (by omega) hb0
  rw [eb, d2, d1]
  refine ⟨nI_ne0 hb0 (by omega), rg_of ?_ (by decide), rg_of ?_ (by decide)⟩
  · have : i / b < 24 := by
      rw [Nat.div_lt_iff_lt_mul hb0]
      omega
    omega
  · have := Nat.mod_lt i hb0
    omega
def zX8_isIn (μ : Sg) (x1 : Int32) (x2 : Int32) : Int32 := if 2 ≤ (zX8_ofMeal μ x1 0) then 0
  else (if (zX8_ofMeal μ x1 1) = x2 then 1
    else 0)
theorem hdX8_isIn : yX8_isIn.cls = RX8 ∧ yX8_isIn.cls ≠ "java/lang/invoke/MethodHandle" ∧ yX8_isIn.cls ≠ "java/lang/invoke/VarHandle" ∧ (parseMethodDescriptor yX8_isIn.desc).map (fun d => d.parameters.length) = some 2 := by decide +kernel
set_option maxHeartbeats 4000000 in
set_option maxRecDepth 100000 in
theorem mX8_isIn (l : Launch) (D : va_G) (y : Y3) (mo : Nat → Nat) (μ : Sg) (x1 : Int32) (x2 : Int32) : Met l yX8_isIn wsX8_isIn ({ frames := 1, cells := 0, slots := 0, locals := 22 } : Room) (va_Pc [.ref (mo 0), .int x1, .int x2] (fun U => CK D y U ∧ MoH D y mo μ U.heap ∧ rg x1 24)) (vp_Si (fun r => r = zX8_isIn μ x1 x2)) 0 0 (fun _ => False) := by
  refine Met.ofW (cc := cX8_isIn) (maxL := 3) (ret := (some .boolean)) (by decide) rfl ?_
  intro p e s m args below meth c s₁ B hml hv
  obtain ⟨rfl, hC, hMo, r_x1⟩ := hv
  have hx := B.exec
  have hb := B.bytes
  have hr := B.returns
  have hts := atoms_spec (ws := wsX8_isIn) B.pre
  have hown : s.vm.findClass RX8 = some m.cls := findClass_of_methodNamed B.named
  have hlocks := B.notSynchronized
  have hF := (⟨hx, hb, hml, hown, hts⟩ : CallFix p m c cX8_isIn 3 s _ wsX8_isIn RX8)
  have hl := lv_entry ([.ref (mo 0), .int x1, .int x2]) (n := 3) (Nat.le_of_ble_eq_true rfl)
  rw [lg_entry_eq]
  generalize (lg_sl ([.ref (mo 0), .int x1, .int x2]) ++ List.replicate (3 - (lg_sl ([.ref (mo 0), .int x1, .int x2])).length) Slot.unset).toArray = ls at hl ⊢
  have hl : lv_has ls 3 [(0, .ref (mo 0)), (1, .int x1), (2, .int x2)] := hl
  refine lv_aload_n hx hb dX8_isIn_0 rfl (lv_at hl 0 rfl) ?_
  refine lv_iload_n hx hb dX8_isIn_1 rfl (lv_at hl 1 rfl) ?_
  refine lv_iconst (v := 0) hx hb dX8_isIn_2 (by decide) ?_
  refine kX8_ofMeal hF (cwV 2 hts gX8_isIn_X8_ofMeal rfl rfl rfl hdX8_ofMeal ⟨Nat.le_of_ble_eq_true rfl, Nat.le_of_ble_eq_true rfl⟩) hC hMo r_x1 (by decide) hl.1 (Nat.le_of_ble_eq_true rfl) dX8_isIn_3 ⟨Nat.zero_le _, Nat.zero_le _⟩ ?_
  refine lv_iconst (v := 2) hx hb dX8_isIn_6 (by decide) ?_
  refine lv_icmp_ge (tgt := 24) hx hb dX8_isIn_7 (by decide) (fun c_1 => ?_) (fun c_1 => ?_)
  · refine lv_iconst (v := 0) hx hb dX8_isIn_24 (by decide) ?_
    exact W.zret (v := 0) hx hb hr (by decide) (fun t ht hW => ⟨0, rfl, (by unfold zX8_isIn; rw [if_pos c_1]), ht⟩) (fun q hq => absurd hq List.not_mem_nil) dX8_isIn_25
  · refine lv_aload_n hx hb dX8_isIn_10 rfl (lv_at hl 0 rfl) ?_
    refine lv_iload_n hx hb dX8_isIn_11 rfl (lv_at hl 1 rfl) ?_
    refine lv_iconst (v := 1) hx hb dX8_isIn_12 (by decide) ?_
    refine kX8_ofMeal hF (cwV 2 hts gX8_isIn_X8_ofMeal rfl rfl rfl hdX8_ofMeal ⟨Nat.le_of_ble_eq_true rfl, Nat.le_of_ble_eq_true rfl⟩) hC hMo r_x1 (by decide) hl.1 (Nat.le_of_ble_eq_true rfl) dX8_isIn_13 ⟨Nat.zero_le _, Nat.zero_le _⟩ ?_
    refine lv_iload_n hx hb dX8_isIn_16 rfl (lv_at hl 2 rfl) ?_
    refine lv_icmp_ne (tgt := 24) hx hb dX8_isIn_17 (by decide) (fun c_2 => ?_) (fun c_2 => ?_)
    · refine lv_iconst (v := 0) hx hb dX8_isIn_24 (by decide) ?_
      exact W.zret (v := 0) hx hb hr (by decide) (fun t ht hW => ⟨0, rfl, (by unfold zX8_isIn; rw [if_neg c_1, if_neg c_2]), ht⟩) (fun q hq => absurd hq List.not_mem_nil) dX8_isIn_25
    · refine lv_iconst (v := 1) hx hb dX8_isIn_20 (by decide) ?_
      refine lv_goto (tgt := 25) hx hb dX8_isIn_21 (by decide) ?_
      exact W.zret (v := 1) hx hb hr (by decide) (fun t ht hW => ⟨1, rfl, (by unfold zX8_isIn; rw [if_neg c_1, if_pos c_2]), ht⟩) (fun q hq => absurd hq List.not_mem_nil) dX8_isIn_25
set_option maxHeartbeats 4000000 in
set_option maxRecDepth 100000 in
theorem kX8_isIn {p : Program} {l : Launch} {e : Env} {R : Room} {s : State} {m : MethodId} {args : Array Value} {below : List Frame} {meth : Method} {c : Code} {H : Heap} {locs : List Loc} {cells slots : Nat} {Q : State → Prop} {cc : ByteArray} {nL : Nat} {Ts : List Cond} {own : String} {index pc : Nat} {ls : Array Slot} {rest : List Value} {D : va_G} {y : Y3} {mo : Nat → Nat} {μ : Sg} {x1 : Int32} {x2 : Int32} (hF : CallFix p m c cc nL s args Ts own) (cw : CallW R s args own RX8 index yX8_isIn cX8_isIn 3 (some .boolean) wsX8_isIn ({ frames := 1, cells := 0, slots := 0, locals := 22 } : Room) 0 0 2) (hC : CK D y s) (hMo : MoH D y mo μ H) (r_x1 : rg x1 24) (hsz : ls.size = nL) (hW : (rest.map fun v => v.category).sum ≤ 8) (hdg : decode cc pc = .ok (.invokevirtual index, 3)) (hf : cells ≤ R.cells ∧ slots ≤ R.slots)
    (k : W p l e R s m args below meth c H locs cells slots Q (F0 m (pc + 3) ls (.int (zX8_isIn μ x1 x2) :: rest))) : W p l e R s m args below meth c H locs cells slots Q (F0 m pc ls (.int x2 :: .int x1 :: .ref (mo 0) :: rest)) := by
  refine vp_callSi (W.runV (As := [.int x1, .int x2]) (rest := rest) hF (mX8_isIn l D y mo μ x1 x2) cw ⟨fun a U g mk q => by obtain ⟨q0, q1, q2, q3⟩ := q; exact ⟨q0, q1.call g mk a, q2, q3⟩, va_recv hC.1 hMo (ci := 8) (q0 := 0) rfl rfl, fun U hU hW => ⟨rfl, hC.warm hW, by rw [hU]; exact hMo, r_x1⟩⟩ rfl rfl hsz rfl (lv_room hW) hdg ⟨hf.1, hf.2⟩) (fun r hr => ?_)
  subst hr
  exact k
def zX8_isWith (μ : Sg) (x1 : Int32) (x2 : Int32) : Int32 := if (zX8_ofMeal μ x1 0) = 2 then (if (zX8_ofMeal μ x1 7) = x2 then 1
    else 0)
  else 0
theorem hdX8_isWith : yX8_isWith.cls = RX8 ∧ yX8_isWith.cls ≠ "java/lang/invoke/MethodHandle" ∧ yX8_isWith.cls ≠ "java/lang/invoke/VarHandle" ∧ (parseMethodDescriptor yX8_isWith.desc).map (fun d => d.parameters.length) = some 2 := by decide +kernel
set_option maxHeartbeats 4000000 in
set_option maxRecDepth 100000 in
theorem mX8_isWith (l : Launch) (D : va_G) (y : Y3) (mo : Nat → Nat) (μ : Sg) (x1 : Int32) (x2 : Int32) : Met l yX8_isWith wsX8_isWith ({ frames := 1, cells := 0, slots := 0, locals := 22 } : Room) (va_Pc [.ref (mo 0), .int x1, .int x2] (fun U => CK D y U ∧ MoH D y mo μ U.heap ∧ rg x1 24)) (vp_Si (fun r => r = zX8_isWith μ x1 x2)) 0 0 (fun _ => False) := by
  refine Met.ofW (cc := cX8_isWith) (maxL := 3) (ret := (some .boolean)) (by decide) rfl ?_
  intro p e s m args below meth c s₁ B hml hv
  obtain ⟨rfl, hC, hMo, r_x1⟩ := hv
  have hx := B.exec
  have hb := B.bytes
  have hr := B.returns
  have hts := atoms_spec (ws := wsX8_isWith) B.pre
  have hown : s.vm.findClass RX8 = some m.cls := findClass_of_methodNamed B.named
  have hlocks := B.notSynchronized
  have hF := (⟨hx, hb, hml, hown, hts⟩ : CallFix p m c cX8_isWith 3 s _ wsX8_isWith RX8)
  have hl := lv_entry ([.ref (mo 0), .int x1, .int x2]) (n := 3) (Nat.le_of_ble_eq_true rfl)
  rw [lg_entry_eq]
  generalize (lg_sl ([.ref (mo 0), .int x1, .int x2]) ++ List.replicate (3 - (lg_sl ([.ref (mo 0), .int x1, .int x2])).length) Slot.unset).toArray = ls at hl ⊢
  have hl : lv_has ls 3 [(0, .ref (mo 0)), (1, .int x1), (2, .int x2)] := hl
  refine lv_aload_n hx hb dX8_isWith_0 rfl (lv_at hl 0 rfl) ?_
  refine lv_iload_n hx hb dX8_isWith_1 rfl (lv_at hl 1 rfl) ?_
  refine lv_iconst (v := 0) hx hb dX8_isWith_2 (by decide) ?_
  refine kX8_ofMeal hF (cwV 2 hts gX8_isWith_X8_ofMeal rfl rfl rfl hdX8_ofMeal ⟨Nat.le_of_ble_eq_true rfl, Nat.le_of_ble_eq_true rfl⟩) hC hMo r_x1 (by decide) hl.1 (Nat.le_of_ble_eq_true rfl) dX8_isWith_3 ⟨Nat.zero_le _, Nat.zero_le _⟩ ?_
  refine lv_iconst (v := 2) hx hb dX8_isWith_6 (by decide) ?_
  refine lv_icmp_ne (tgt := 25) hx hb dX8_isWith_7 (by decide) (fun c_1 => ?_) (fun c_1 => ?_)
  · refine lv_iconst (v := 0) hx hb dX8_isWith_25 (by decide) ?_
    exact W.zret (v := 0) hx hb hr (by decide) (fun t ht hW => ⟨0, rfl, (by unfold zX8_isWith; rw [if_neg c_1]), ht⟩) (fun q hq => absurd hq List.not_mem_nil) dX8_isWith_26
  · refine lv_aload_n hx hb dX8_isWith_10 rfl (lv_at hl 0 rfl) ?_
    refine lv_iload_n hx hb dX8_isWith_11 rfl (lv_at hl 1 rfl) ?_
    refine lv_bipush (v := 7) hx hb dX8_isWith_12 (by decide) ?_
    refine kX8_ofMeal hF (cwV 2 hts gX8_isWith_X8_ofMeal rfl rfl rfl hdX8_ofMeal ⟨Nat.le_of_ble_eq_true rfl, Nat.le_of_ble_eq_true rfl⟩) hC hMo r_x1 (by decide) hl.1 (Nat.le_of_ble_eq_true rfl) dX8_isWith_14 ⟨Nat.zero_le _, Nat.zero_le _⟩ ?_
    refine lv_iload_n hx hb dX8_isWith_17 rfl (lv_at hl 2 rfl) ?_
    refine lv_icmp_ne (tgt := 25) hx hb dX8_isWith_18 (by decide) (fun c_2 => ?_) (fun c_2 => ?_)
    · refine lv_iconst (v := 0) hx hb dX8_isWith_25 (by decide) ?_
      exact W.zret (v := 0) hx hb hr (by decide) (fun t ht hW => ⟨0, rfl, (by unfold zX8_isWith; rw [if_pos c_1, if_neg c_2]), ht⟩) (fun q hq => absurd hq List.not_mem_nil) dX8_isWith_26
    · refine lv_iconst (v := 1) hx hb dX8_isWith_21 (by decide) ?_
      refine lv_goto (tgt := 26) hx hb dX8_isWith_22 (by decide) ?_
      exact W.zret (v := 1) hx hb hr (by decide) (fun t ht hW => ⟨1, rfl, (by unfold zX8_isWith; rw [if_pos c_1, if_pos c_2]), ht⟩) (fun q hq => absurd hq List.not_mem_nil) dX8_isWith_26
set_option maxHeartbeats 4000000 in
set_option maxRecDepth 100000 in
theorem kX8_isWith {p : Program} {l : Launch} {e : Env} {R : Room} {s : State} {m : MethodId} {args : Array Value} {below : List Frame} {meth : Method} {c : Code} {H : Heap} {locs : List Loc} {cells slots : Nat} {Q : State → Prop} {cc : ByteArray} {nL : Nat} {Ts : List Cond} {own : String} {index pc : Nat} {ls : Array Slot} {rest : List Value} {D : va_G} {y : Y3} {mo : Nat → Nat} {μ : Sg} {x1 : Int32} {x2 : Int32} (hF : CallFix p m c cc nL s args Ts own) (cw : CallW R s args own RX8 index yX8_isWith cX8_isWith 3 (some .boolean) wsX8_isWith ({ frames := 1, cells := 0, slots := 0, locals := 22 } : Room) 0 0 2) (hC : CK D y s) (hMo : MoH D y mo μ H) (r_x1 : rg x1 24) (hsz : ls.size = nL) (hW : (rest.map fun v => v.category).sum ≤ 8) (hdg : decode cc pc = .ok (.invokevirtual index, 3)) (hf : cells ≤ R.cells ∧ slots ≤ R.slots)
    (k : W p l e R s m args below meth c H locs cells slots Q (F0 m (pc + 3) ls (.int (zX8_isWith μ x1 x2) :: rest))) : W p l e R s m args below meth c H locs cells slots Q (F0 m pc ls (.int x2 :: .int x1 :: .ref (mo 0) :: rest)) := by
  refine vp_callSi (W.runV (As := [.int x1, .int x2]) (rest := rest) hF (mX8_isWith l D y mo μ x1 x2) cw ⟨fun a U g mk q => by obtain ⟨q0, q1, q2, q3⟩ := q; exact ⟨q0, q1.call g mk a, q2, q3⟩, va_recv hC.1 hMo (ci := 8) (q0 := 0) rfl rfl, fun U hU hW => ⟨rfl, hC.warm hW, by rw [hU]; exact hMo, r_x1⟩⟩ rfl rfl hsz rfl (lv_room hW) hdg ⟨hf.1, hf.2⟩) (fun r hr => ?_)
  subst hr
  exact k
def zX8_isBarred (μ : Sg) (x1 : Int32) : Int32 := if (zX8_ofPerson μ x1 2) ≤ (μ 0 4) then 0
  else 1
theorem iwX8_isBarred_X8 : ∀ w ∈ wsX80, w ∈ wsX8_isBarred := fun _ h => List.mem_cons_of_mem _ (List.mem_append_right _ h)
theorem hdX8_isBarred : yX8_isBarred.cls = RX8 ∧ yX8_isBarred.cls ≠ "java/lang/invoke/MethodHandle" ∧ yX8_isBarred.cls ≠ "java/lang/invoke/VarHandle" ∧ (parseMethodDescriptor yX8_isBarred.desc).map (fun d => d.parameters.length) = some 1 := by decide +kernel
set_option maxHeartbeats 4000000 in
set_option maxRecDepth 100000 in
theorem mX8_isBarred (l : Launch) (D : va_G) (y : Y3) (mo : Nat → Nat) (μ : Sg) (x1 : Int32) : Met l yX8_isBarred wsX8_isBarred ({ frames := 1, cells := 0, slots := 0, locals := 22 } : Room) (va_Pc [.ref (mo 0), .int x1] (fun U => CK D y U ∧ MoH D y mo μ U.heap ∧ rg x1 8)) (vp_Si (fun r => r = zX8_isBarred μ x1)) 0 0 (fun _ => False) := by
  refine Met.ofW (cc := cX8_isBarred) (maxL := 2) (ret := (some .boolean)) (by decide) rfl ?_
  intro p e s m args below meth c s₁ B hml hv
  obtain ⟨rfl, hC, hMo, r_x1⟩ := hv
  have hx := B.exec
  have hb := B.bytes
  have hr := B.returns
  have hts := atoms_spec (ws := wsX8_isBarred) B.pre
  have hown : s.vm.findClass RX8 = some m.cls := findClass_of_methodNamed B.named
  have hlocks := B.notSynchronized
  have hF := (⟨hx, hb, hml, hown, hts⟩ : CallFix p m c cX8_isBarred 2 s _ wsX8_isBarred RX8)
  have hl := lv_entry ([.ref (mo 0), .int x1]) (n := 2) (Nat.le_of_ble_eq_true rfl)
  rw [lg_entry_eq]
  generalize (lg_sl ([.ref (mo 0), .int x1]) ++ List.replicate (2 - (lg_sl ([.ref (mo 0), .int x1])).length) Slot.unset).toArray = ls at hl ⊢
  have hl : lv_has ls 2 [(0, .ref (mo 0)), (1, .int x1)] := hl
  refine lv_aload_n hx hb dX8_isBarred_0 rfl (lv_at hl 0 rfl) ?_
  refine va_get (D := D) (ci := 8) (v := .ref (mo 1)) (C := RX8) (T := TX8) (N := 10) hx hb hts iwX8_isBarred_X8 hown hC.1 hMo 0 rfl rfl 0 (by decide) (hts (.fieldLink RX8 7 "MealLockersModel" "s" "[I") (List.mem_of_getElem? (i := 1) rfl)) (fun _ h9 => h9) rfl dX8_isBarred_1 ?_
  refine lv_iconst (v := 4) hx hb dX8_isBarred_4 (by decide) ?_
  refine va_iald hx hb hC.1 hMo 1 0 rfl rfl (vpl (by decide)) dX8_isBarred_5 ?_
  rw [cl_4]
  refine lv_aload_n hx hb dX8_isBarred_6 rfl (lv_at hl 0 rfl) ?_
  refine lv_iload_n hx hb dX8_isBarred_7 rfl (lv_at hl 1 rfl) ?_
  refine lv_iconst (v := 2) hx hb dX8_isBarred_8 (by decide) ?_
  refine kX8_ofPerson hF (cwV 2 hts gX8_isBarred_X8_ofPerson rfl rfl rfl hdX8_ofPerson ⟨Nat.le_of_ble_eq_true rfl, Nat.le_of_ble_eq_true rfl⟩) hC hMo r_x1 (by decide) hl.1 (Nat.le_of_ble_eq_true rfl) dX8_isBarred_9 ⟨Nat.zero_le _, Nat.zero_le _⟩ ?_
  refine lv_icmp_ge (tgt := 19) hx hb dX8_isBarred_12 (by decide) (fun c_1 => ?_) (fun c_1 => ?_)
  · refine lv_iconst (v := 0) hx hb dX8_isBarred_19 (by decide) ?_
    exact W.zret (v := 0) hx hb hr (by decide) (fun t ht hW => ⟨0, rfl, (by unfold zX8_isBarred; rw [if_pos c_1]), ht⟩) (fun q hq => absurd hq List.not_mem_nil) dX8_isBarred_20
  · refine lv_iconst (v := 1) hx hb dX8_isBarred_15 (by decide) ?_
    refine lv_goto (tgt := 20) hx hb dX8_isBarred_16 (by decide) ?_
    exact W.zret (v := 1) hx hb hr (by decide) (fun t ht hW => ⟨1, rfl, (by unfold zX8_isBarred; rw [if_neg c_1]), ht⟩) (fun q hq => absurd hq List.not_mem_nil) dX8_isBarred_20
set_option maxHeartbeats 4000000 in
set_option maxRecDepth 100000 in
theorem kX8_isBarred {p : Program} {l : Launch} {e : Env} {R : Room} {s : State} {m : MethodId} {args : Array Value} {below : List Frame} {meth : Method} {c : Code} {H : Heap} {locs : List Loc} {cells slots : Nat} {Q : State → Prop} {cc : ByteArray} {nL : Nat} {Ts : List Cond} {own : String} {index pc : Nat} {ls : Array Slot} {rest : List Value} {D : va_G} {y : Y3} {mo : Nat → Nat} {μ : Sg} {x1 : Int32} (hF : CallFix p m c cc nL s args Ts own) (cw : CallW R s args own RX8 index yX8_isBarred cX8_isBarred 2 (some .boolean) wsX8_isBarred ({ frames := 1, cells := 0, slots := 0, locals := 22 } : Room) 0 0 1) (hC : CK D y s) (hMo : MoH D y mo μ H) (r_x1 : rg x1 8) (hsz : ls.size = nL) (hW : (rest.map fun v => v.category).sum ≤ 8) (hdg : decode cc pc = .ok (.invokevirtual index, 3)) (hf : cells ≤ R.cells ∧ slots ≤ R.slots)
    (k : W p l e R s m args below meth c H locs cells slots Q (F0 m (pc + 3) ls (.int (zX8_isBarred μ x1) :: rest))) : W p l e R s m args below meth c H locs cells slots Q (F0 m pc ls (.int x1 :: .ref (mo 0) :: rest)) := by
  refine vp_callSi (W.runV (As := [.int x1]) (rest := rest) hF (mX8_isBarred l D y mo μ x1) cw ⟨fun a U g mk q => by obtain ⟨q0, q1, q2, q3⟩ := q; exact ⟨q0, q1.call g mk a, q2, q3⟩, va_recv hC.1 hMo (ci := 8) (q0 := 0) rfl rfl, fun U hU hW => ⟨rfl, hC.warm hW, by rw [hU]; exact hMo, r_x1⟩⟩ rfl rfl hsz rfl (lv_room hW) hdg ⟨hf.1, hf.2⟩) (fun r hr => ?_)
  subst hr
  exact k
def zX8_isUnderWay (μ : Sg) (x1 : Int32) : Int32 := if (zX8_ofHelper μ x1 2) ≤ (μ 0 4) then 0
  else 1
theorem iwX8_isUnderWay_X8 : ∀ w ∈ wsX80, w ∈ wsX8_isUnderWay := fun _ h => List.mem_cons_of_mem _ (List.mem_append_right _ h)
theorem hdX8_isUnderWay : yX8_isUnderWay.cls = RX8 ∧ yX8_isUnderWay.cls ≠ "java/lang/invoke/MethodHandle" ∧ yX8_isUnderWay.cls ≠ "java/lang/invoke/VarHandle" ∧ (parseMethodDescriptor yX8_isUnderWay.desc).map (fun d => d.parameters.length) = some 1 := by decide +kernel
set_option maxHeartbeats 4000000 in
set_option maxRecDepth 100000 in
theorem mX8_isUnderWay (l : Launch) (D : va_G) (y : Y3) (mo : Nat → Nat) (μ : Sg) (x1 : Int32) : Met l yX8_isUnderWay wsX8_isUnderWay ({ frames := 1, cells := 0, slots := 0, locals := 22 } : Room) (va_Pc [.ref (mo 0), .int x1] (fun U => CK D y U ∧ MoH D y mo μ U.heap ∧ rg x1 3)) (vp_Si (fun r => r = zX8_isUnderWay μ x1)) 0 0 (fun _ => False) := by
  refine Met.ofW (cc := cX8_isUnderWay) (maxL := 2) (ret := (some .boolean)) (by decide) rfl ?_
  intro p e s m args below meth c s₁ B hml hv
  obtain ⟨rfl, hC, hMo, r_x1⟩ := hv
  have hx := B.exec
  have hb := B.bytes
  have hr := B.returns
  have hts := atoms_spec (ws := wsX8_isUnderWay) B.pre
  have hown : s.vm.findClass RX8 = some m.cls := findClass_of_methodNamed B.named
  have hlocks := B.notSynchronized
  have hF := (⟨hx, hb, hml, hown, hts⟩ : CallFix p m c cX8_isUnderWay 2 s _ wsX8_isUnderWay RX8)
  have hl := lv_entry ([.ref (mo 0), .int x1]) (n := 2) (Nat.le_of_ble_eq_true rfl)
  rw [lg_entry_eq]
  generalize (lg_sl ([.ref (mo 0), .int x1]) ++ List.replicate (2 - (lg_sl ([.ref (mo 0), .int x1])).length) Slot.unset).toArray = ls at hl ⊢
  have hl : lv_has ls 2 [(0, .ref (mo 0)), (1, .int x1)] := hl
  refine lv_aload_n hx hb dX8_isUnderWay_0 rfl (lv_at hl 0 rfl) ?_
  refine lv_iload_n hx hb dX8_isUnderWay_1 rfl (lv_at hl 1 rfl) ?_
  refine lv_iconst (v := 2) hx hb dX8_isUnderWay_2 (by decide) ?_
  refine kX8_ofHelper hF (cwV 2 hts gX8_isUnderWay_X8_ofHelper rfl rfl rfl hdX8_ofHelper ⟨Nat.le_of_ble_eq_true rfl, Nat.le_of_ble_eq_true rfl⟩) hC hMo r_x1 (by decide) hl.1 (Nat.le_of_ble_eq_true rfl) dX8_isUnderWay_3 ⟨Nat.zero_le _, Nat.zero_le _⟩ ?_
  refine lv_aload_n hx hb dX8_isUnderWay_6 rfl (lv_at hl 0 rfl) ?_
  refine va_get (D := D) (ci := 8) (v := .ref (mo 1)) (C := RX8) (T := TX8) (N := 10) hx hb hts iwX8_isUnderWay_X8 hown hC.1 hMo 0 rfl rfl 0 (by decide) (hts (.fieldLink RX8 7 "MealLockersModel" "s" "[I") (List.mem_of_getElem? (i := 1) rfl)) (fun _ h9 => h9) rfl dX8_isUnderWay_7 ?_
  refine lv_iconst (v := 4) hx hb dX8_isUnderWay_10 (by decide) ?_
  refine va_iald hx hb hC.1 hMo 1 0 rfl rfl (vpl (by decide)) dX8_isUnderWay_11 ?_
  rw [cl_4]
  refine lv_icmp_le (tgt := 19) hx hb dX8_isUnderWay_12 (by decide) (fun c_1 => ?_) (fun c_1 => ?_)
  · refine lv_iconst (v := 0) hx hb dX8_isUnderWay_19 (by decide) ?_
    exact W.zret (v := 0) hx hb hr (by decide) (fun t ht hW => ⟨0, rfl, (by unfold zX8_isUnderWay; rw [if_pos c_1]), ht⟩) (fun q hq => absurd hq List.not_mem_nil) dX8_isUnderWay_20
  · refine lv_iconst (v := 1) hx hb dX8_isUnderWay_15 (by decide) ?_
    refine lv_goto (tgt := 20) hx hb dX8_isUnderWay_16 (by decide) ?_
    exact W.zret (v := 1) hx hb hr (by decide) (fun t ht hW => ⟨1, rfl, (by unfold zX8_isUnderWay; rw [if_neg c_1]), ht⟩) (fun q hq => absurd hq List.not_mem_nil) dX8_isUnderWay_20
set_option maxHeartbeats 4000000 in
set_option maxRecDepth 100000 in
theorem kX8_isUnderWay {p : Program} {l : Launch} {e : Env} {R : Room} {s : State} {m : MethodId} {args : Array Value} {below : List Frame} {meth : Method} {c : Code} {H : Heap} {locs : List Loc} {cells slots : Nat} {Q : State → Prop} {cc : ByteArray} {nL : Nat} {Ts : List Cond} {own : String} {index pc : Nat} {ls : Array Slot} {rest : List Value} {D : va_G} {y : Y3} {mo : Nat → Nat} {μ : Sg} {x1 : Int32} (hF : CallFix p m c cc nL s args Ts own) (cw : CallW R s args own RX8 index yX8_isUnderWay cX8_isUnderWay 2 (some .boolean) wsX8_isUnderWay ({ frames := 1, cells := 0, slots := 0, locals := 22 } : Room) 0 0 1) (hC : CK D y s) (hMo : MoH D y mo μ H) (r_x1 : rg x1 3) (hsz : ls.size = nL) (hW : (rest.map fun v => v.category).sum ≤ 8) (hdg : decode cc pc = .ok (.invokevirtual index, 3)) (hf : cells ≤ R.cells ∧ slots ≤ R.slots)
    (k : W p l e R s m args below meth c H locs cells slots Q (F0 m (pc + 3) ls (.int (zX8_isUnderWay μ x1) :: rest))) : W p l e R s m args below meth c H locs cells slots Q (F0 m pc ls (.int x1 :: .ref (mo 0) :: rest)) := by
  refine vp_callSi (W.runV (As := [.int x1]) (rest := rest) hF (mX8_isUnderWay l D y mo μ x1) cw ⟨fun a U g mk q => by obtain ⟨q0, q1, q2, q3⟩ := q; exact ⟨q0, q1.call g mk a, q2, q3⟩, va_recv hC.1 hMo (ci := 8) (q0 := 0) rfl rfl, fun U hU hW => ⟨rfl, hC.warm hW, by rw [hU]; exact hMo, r_x1⟩⟩ rfl rfl hsz rfl (lv_room hW) hdg ⟨hf.1, hf.2⟩) (fun r hr => ?_)
  subst hr
  exact k
def bX8_mealsOf (μ : Sg) (x1 : Int32) (x2 : Int32) (i : Nat) (v : Int32) : Int32 := if x2 = 0 then (if (zX8_isIn μ (nI i) x1) = 0 then (v ||| 0)
    else (v ||| ((1 : Int32) <<< ((nI i) &&& 31))))
  else (if (zX8_isWith μ (nI i) x1) = 0 then (v ||| 0)
    else (v ||| ((1 : Int32) <<< ((nI i) &&& 31))))
def zX8_mealsOf (μ : Sg) (x1 : Int32) (x2 : Int32) : Int32 := (upTo (bX8_mealsOf μ x1 x2) 0 ((μ 0 1).toNatClampNeg))
theorem iwX8_mealsOf_X8 : ∀ w ∈ wsX80, w ∈ wsX8_mealsOf := fun _ h => List.mem_cons_of_mem _ (List.mem_append_right _ h)
theorem hdX8_mealsOf : yX8_mealsOf.cls = RX8 ∧ yX8_mealsOf.cls ≠ "java/lang/invoke/MethodHandle" ∧ yX8_mealsOf.cls ≠ "java/lang/invoke/VarHandle" ∧ (parseMethodDescriptor yX8_mealsOf.desc).map (fun d => d.parameters.length) = some 2 := by decide +kernel
set_option maxHeartbeats 4000000 in
set_option maxRecDepth 100000 in
theorem lpX8_mealsOf {p : Program} {l : Launch} {e : Env} {s : State} {m : MethodId} {args : Array Value} {below : List Frame} {meth : Method} {c : Code} {Q : State → Prop} {D : va_G} {y : Y3} {mo : Nat → Nat} {μ : Sg} {x1 : Int32} {x2 : Int32} {H : Heap} {locs : List Loc} (hx : p.tables.exec = Jvm.exec) (hb : c.code = cX8_mealsOf) (hml : c.maxLocals = 6) (hown : s.vm.findClass RX8 = some m.cls) (hts : ∀ w ∈ wsX8_mealsOf, w.before args s = true) (hC : CK D y s) (hMo : MoH D y mo μ H) (hInv : InvM μ)
    (K : ∀ ls : Array Slot, lv_has ls 6 [(4, .int (nI (μ 0 1).toNatClampNeg)), (3, .int (upTo (bX8_mealsOf μ x1 x2) 0 ((μ 0 1).toNatClampNeg))), (0, .ref (mo 0)), (1, .int x1), (2, .int x2)] → W p l e (headSpec wsX8_mealsOf ({ frames := 2, cells := 0, slots := 0, locals := 44 } : Room)).room s m args below meth c H locs 0 0 Q (F0 m 61 ls [])) :
    ∀ (j i : Nat), i + j = (μ 0 1).toNatClampNeg → ∀ ls : Array Slot, lv_has ls 6 [(4, .int (nI i)), (3, .int (upTo (bX8_mealsOf μ x1 x2) 0 i)), (0, .ref (mo 0)), (1, .int x1), (2, .int x2)] → W p l e (headSpec wsX8_mealsOf ({ frames := 2, cells := 0, slots := 0, locals := 44 } : Room)).room s m args below meth c H locs 0 0 Q (F0 m 5 ls []) := by
  have hF := (⟨hx, hb, hml, hown, hts⟩ : CallFix p m c cX8_mealsOf 6 s args wsX8_mealsOf RX8)
  have hN := clamp_lt (μ 0 1)
  intro j
  induction j with
  | zero =>
    intro i hin ls hl
    obtain rfl : i = (μ 0 1).toNatClampNeg := by omega
    refine lv_iload hx hb dX8_mealsOf_5 (lv_at hl 0 rfl) ?_
    refine lv_aload_n hx hb dX8_mealsOf_7 rfl (lv_at hl 2 rfl) ?_
    refine va_get (D := D) (ci := 8) (v := .ref (mo 1)) (C := RX8) (T := TX8) (N := 10) hx hb hts iwX8_mealsOf_X8 hown hC.1 hMo 0 rfl rfl 0 (by decide) (hts (.fieldLink RX8 7 "MealLockersModel" "s" "[I") (List.mem_of_getElem? (i := 1) rfl)) (fun _ h9 => h9) rfl dX8_mealsOf_8 ?_
    refine lv_iconst (v := 1) hx hb dX8_mealsOf_11 (by decide) ?_
    refine va_iald hx hb hC.1 hMo 1 0 rfl rfl (vpl (by decide)) dX8_mealsOf_12 ?_
    rw [cl_1]
    refine lv_icmp_ge (tgt := 61) hx hb dX8_mealsOf_13 (by decide) (fun _ => ?_) (fun c_1 => absurd (up_le _) c_1)
    exact K ls (lv_sub hl [0, 1, 2, 3, 4] rfl)
  | succ j ih =>
    intro i hin ls hl
    obtain ⟨v, hv⟩ : ∃ v, v = (upTo (bX8_mealsOf μ x1 x2) 0 i) := ⟨_, rfl⟩
    rw [← hv] at hl
    have f_2 : rg (nI i) 24 := inv_m hInv (by omega)
    refine lv_iload hx hb dX8_mealsOf_5 (lv_at hl 0 rfl) ?_
    refine lv_aload_n hx hb dX8_mealsOf_7 rfl (lv_at hl 2 rfl) ?_
    refine va_get (D := D) (ci := 8) (v := .ref (mo 1)) (C := RX8) (T := TX8) (N := 10) hx hb hts iwX8_mealsOf_X8 hown hC.1 hMo 0 rfl rfl 0 (by decide) (hts (.fieldLink RX8 7 "MealLockersModel" "s" "[I") (List.mem_of_getElem? (i := 1) rfl)) (fun _ h9 => h9) rfl dX8_mealsOf_8 ?_
    refine lv_iconst (v := 1) hx hb dX8_mealsOf_11 (by decide) ?_
    refine va_iald hx hb hC.1 hMo 1 0 rfl rfl (vpl (by decide)) dX8_mealsOf_12 ?_
    rw [cl_1]
    refine lv_icmp_ge (tgt := 61) hx hb dX8_mealsOf_13 (by decide) (fun c_3 => absurd c_3 (up_gt (by omega))) (fun _ => ?_)
    refine lv_iload_n hx hb dX8_mealsOf_16 rfl (lv_at hl 4 rfl) ?_
    refine lv_if_ne (tgt := 30) hx hb dX8_mealsOf_17 (by decide) (fun c_4 => ?_) (fun c_4 => ?_)
    · refine lv_aload_n hx hb dX8_mealsOf_30 rfl (lv_at hl 2 rfl) ?_
      refine lv_iload hx hb dX8_mealsOf_31 (lv_at hl 0 rfl) ?_
      refine lv_iload_n hx hb dX8_mealsOf_33 rfl (lv_at hl 3 rfl) ?_
      refine kX8_isWith hF (cwV 2 hts gX8_mealsOf_X8_isWith rfl rfl rfl hdX8_isWith ⟨Nat.le_of_ble_eq_true rfl, Nat.le_of_ble_eq_true rfl⟩) hC hMo f_2 hl.1 (Nat.le_of_ble_eq_true rfl) dX8_mealsOf_34 ⟨Nat.zero_le _, Nat.zero_le _⟩ ?_
      refine lv_istore (lv' := [(5, .int (zX8_isWith μ (nI i) x1)), (4, .int (nI i)), (3, .int v), (0, .ref (mo 0)), (1, .int x1), (2, .int x2)]) hx hb dX8_mealsOf_37 hl (by decide) rfl (fun ls hl => ?_)
      refine lv_iload_n hx hb dX8_mealsOf_39 rfl (lv_at hl 2 rfl) ?_
      refine lv_iload hx hb dX8_mealsOf_40 (lv_at hl 0 rfl) ?_
      refine lv_if_eq (tgt := 52) hx hb dX8_mealsOf_42 (by decide) (fun c_5 => ?_) (fun c_5 => ?_)
      · refine lv_iconst (v := 0) hx hb dX8_mealsOf_52 (by decide) ?_
        refine lv_ior hx hb dX8_mealsOf_53 ?_
        refine lv_istore_n (lv' := [(3, .int (v ||| 0)), (5, .int (zX8_isWith μ (nI i) x1)), (4, .int (nI i)), (0, .ref (mo 0)), (1, .int x1), (2, .int x2)]) hx hb dX8_mealsOf_54 rfl hl (by decide) rfl (fun ls hl => ?_)
        refine lv_iinc (v := (nI (i + 1))) (lv' := [(4, .int (nI (i + 1))), (3, .int (v ||| 0)), (5, .int (zX8_isWith μ (nI i) x1)), (0, .ref (mo 0)), (1, .int x1), (2, .int x2)]) hx hb dX8_mealsOf_55 hl (k := 2) rfl (by rw [nI_succ]; rfl) (by decide) rfl (fun ls hl => ?_)
        refine lv_goto (tgt := 5) hx hb dX8_mealsOf_58 (by decide) ?_
        have e9 : (upTo (bX8_mealsOf μ x1 x2) 0 (i + 1)) = (v ||| 0) := by show bX8_mealsOf μ x1 x2 i (upTo (bX8_mealsOf μ x1 x2) 0 i) = _; rw [← hv]; unfold bX8_mealsOf; rw [if_neg c_4, if_pos c_5]
        exact ih (i + 1) (by omega) ls (by rw [e9]; exact lv_sub hl [0, 1, 3, 4, 5] rfl)
      · refine lv_iconst (v := 1) hx hb dX8_mealsOf_45 (by decide) ?_
        refine lv_iload hx hb dX8_mealsOf_46 (lv_at hl 1 rfl) ?_
        refine lv_ishl hx hb dX8_mealsOf_48 ?_
        refine lv_goto (tgt := 53) hx hb dX8_mealsOf_49 (by decide) ?_
        refine lv_ior hx hb dX8_mealsOf_53 ?_
        refine lv_istore_n (lv' := [(3, .int (v ||| ((1 : Int32) <<< ((nI i) &&& 31)))), (5, .int (zX8_isWith μ (nI i) x1)), (4, .int (nI i)), (0, .ref (mo 0)), (1, .int x1), (2, .int x2)]) hx hb dX8_mealsOf_54 rfl hl (by decide) rfl (fun ls hl => ?_)
        refine lv_iinc (v := (nI (i + 1))) (lv' := [(4, .int (nI (i + 1))), (3, .int (v ||| ((1 : Int32) <<< ((nI i) &&& 31)))), (5, .int (zX8_isWith μ (nI i) x1)), (0, .ref (mo 0)), (1, .int x1), (2, .int x2)]) hx hb dX8_mealsOf_55 hl (k := 2) rfl (by rw [nI_succ]; rfl) (by decide) rfl (fun ls hl => ?_)
        refine lv_goto (tgt := 5) hx hb dX8_mealsOf_58 (by decide) ?_
        have e9 : (upTo (bX8_mealsOf μ x1 x2) 0 (i + 1)) = (v ||| ((1 : Int32) <<< ((nI i) &&& 31))) := by show bX8_mealsOf μ x1 x2 i (upTo (bX8_mealsOf μ x1 x2) 0 i) = _; rw [← hv]; unfold bX8_mealsOf; rw [if_neg c_4, if_neg c_5]
        exact ih (i + 1) (by omega) ls (by rw [e9]; exact lv_sub hl [0, 1, 3, 4, 5] rfl)
    · refine lv_aload_n hx hb dX8_mealsOf_20 rfl (lv_at hl 2 rfl) ?_
      refine lv_iload hx hb dX8_mealsOf_21 (lv_at hl 0 rfl) ?_
      refine lv_iload_n hx hb dX8_mealsOf_23 rfl (lv_at hl 3 rfl) ?_
      refine kX8_isIn hF (cwV 2 hts gX8_mealsOf_X8_isIn rfl rfl rfl hdX8_isIn ⟨Nat.le_of_ble_eq_true rfl, Nat.le_of_ble_eq_true rfl⟩) hC hMo f_2 hl.1 (Nat.le_of_ble_eq_true rfl) dX8_mealsOf_24 ⟨Nat.zero_le _, Nat.zero_le _⟩ ?_
      refine lv_goto (tgt := 37) hx hb dX8_mealsOf_27 (by decide) ?_
      refine lv_istore (lv' := [(5, .int (zX8_isIn μ (nI i) x1)), (4, .int (nI i)), (3, .int v), (0, .ref (mo 0)), (1, .int x1), (2, .int x2)]) hx hb dX8_mealsOf_37 hl (by decide) rfl (fun ls hl => ?_)
      refine lv_iload_n hx hb dX8_mealsOf_39 rfl (lv_at hl 2 rfl) ?_
      refine lv_iload hx hb dX8_mealsOf_40 (lv_at hl 0 rfl) ?_
      refine lv_if_eq (tgt := 52) hx hb dX8_mealsOf_42 (by decide) (fun c_6 => ?_) (fun c_6 => ?_)
      · refine lv_iconst (v := 0) hx hb dX8_mealsOf_52 (by decide) ?_
        refine lv_ior hx hb dX8_mealsOf_53 ?_
        refine lv_istore_n (lv' := [(3, .int (v ||| 0)), (5, .int (zX8_isIn μ (nI i) x1)), (4, .int (nI i)), (0, .ref (mo 0)), (1, .int x1), (2, .int x2)]) hx hb dX8_mealsOf_54 rfl hl (by decide) rfl (fun ls hl => ?_)
        refine lv_iinc (v := (nI (i + 1))) (lv' := [(4, .int (nI (i + 1))), (3, .int (v ||| 0)), (5, .int (zX8_isIn μ (nI i) x1)), (0, .ref (mo 0)), (1, .int x1), (2, .int x2)]) hx hb dX8_mealsOf_55 hl (k := 2) rfl (by rw [nI_succ]; rfl) (by decide) rfl (fun ls hl => ?_)
        refine lv_goto (tgt := 5) hx hb dX8_mealsOf_58 (by decide) ?_
        have e9 : (upTo (bX8_mealsOf μ x1 x2) 0 (i + 1)) = (v ||| 0) := by show bX8_mealsOf μ x1 x2 i (upTo (bX8_mealsOf μ x1 x2) 0 i) = _; rw [← hv]; unfold bX8_mealsOf; rw [if_pos c_4, if_pos c_6]
        exact ih (i + 1) (by omega) ls (by rw [e9]; exact lv_sub hl [0, 1, 3, 4, 5] rfl)
      · refine lv_iconst (v := 1) hx hb dX8_mealsOf_45 (by decide) ?_
        refine lv_iload hx hb dX8_mealsOf_46 (lv_at hl 1 rfl) ?_
        refine lv_ishl hx hb dX8_mealsOf_48 ?_
        refine lv_goto (tgt := 53) hx hb dX8_mealsOf_49 (by decide) ?_
        refine lv_ior hx hb dX8_mealsOf_53 ?_
        refine lv_istore_n (lv' := [(3, .int (v ||| ((1 : Int32) <<< ((nI i) &&& 31)))), (5, .int (zX8_isIn μ (nI i) x1)), (4, .int (nI i)), (0, .ref (mo 0)), (1, .int x1), (2, .int x2)]) hx hb dX8_mealsOf_54 rfl hl (by decide) rfl (fun ls hl => ?_)
        refine lv_iinc (v := (nI (i + 1))) (lv' := [(4, .int (nI (i + 1))), (3, .int (v ||| ((1 : Int32) <<< ((nI i) &&& 31)))), (5, .int (zX8_isIn μ (nI i) x1)), (0, .ref (mo 0)), (1, .int x1), (2, .int x2)]) hx hb dX8_mealsOf_55 hl (k := 2) rfl (by rw [nI_succ]; rfl) (by decide) rfl (fun ls hl => ?_)
        refine lv_goto (tgt := 5) hx hb dX8_mealsOf_58 (by decide) ?_
        have e9 : (upTo (bX8_mealsOf μ x1 x2) 0 (i + 1)) = (v ||| ((1 : Int32) <<< ((nI i) &&& 31))) := by show bX8_mealsOf μ x1 x2 i (upTo (bX8_mealsOf μ x1 x2) 0 i) = _; rw [← hv]; unfold bX8_mealsOf; rw [if_pos c_4, if_neg c_6]
        exact ih (i + 1) (by omega) ls (by rw [e9]; exact lv_sub hl [0, 1, 3, 4, 5] rfl)
set_option maxHeartbeats 4000000 in
set_option maxRecDepth 100000 in
theorem mX8_mealsOf (l : Launch) (D : va_G) (y : Y3) (mo : Nat → Nat) (μ : Sg) (x1 : Int32) (x2 : Int32) : Met l yX8_mealsOf wsX8_mealsOf ({ frames := 2, cells := 0, slots := 0, locals := 44 } : Room) (va_Pc [.ref (mo 0), .int x1, .int x2] (fun U => CK D y U ∧ MoH D y mo μ U.heap ∧ InvM μ)) (vp_Si (fun r => r = zX8_mealsOf μ x1 x2)) 0 0 (fun _ => False) := by
  refine Met.ofW (cc := cX8_mealsOf) (maxL := 6) (ret := (some .int)) (by decide) rfl ?_
  intro p e s m args below meth c s₁ B hml hv
  obtain ⟨rfl, hC, hMo, hInv⟩ := hv
  have hx := B.exec
  have hb := B.bytes
  have hr := B.returns
  have hts := atoms_spec (ws := wsX8_mealsOf) B.pre
  have hown : s.vm.findClass RX8 = some m.cls := findClass_of_methodNamed B.named
  have hlocks := B.notSynchronized
  have hF := (⟨hx, hb, hml, hown, hts⟩ : CallFix p m c cX8_mealsOf 6 s _ wsX8_mealsOf RX8)
  have hl := lv_entry ([.ref (mo 0), .int x1, .int x2]) (n := 6) (Nat.le_of_ble_eq_true rfl)
  rw [lg_entry_eq]
  generalize (lg_sl ([.ref (mo 0), .int x1, .int x2]) ++ List.replicate (6 - (lg_sl ([.ref (mo 0), .int x1, .int x2])).length) Slot.unset).toArray = ls at hl ⊢
  have hl : lv_has ls 6 [(0, .ref (mo 0)), (1, .int x1), (2, .int x2)] := hl
  refine lv_iconst (v := 0) hx hb dX8_mealsOf_0 (by decide) ?_
  refine lv_istore_n (lv' := [(3, .int 0), (0, .ref (mo 0)), (1, .int x1), (2, .int x2)]) hx hb dX8_mealsOf_1 rfl hl (by decide) rfl (fun ls hl => ?_)
  refine lv_iconst (v := 0) hx hb dX8_mealsOf_2 (by decide) ?_
  refine lv_istore (lv' := [(4, .int 0), (3, .int 0), (0, .ref (mo 0)), (1, .int x1), (2, .int x2)]) hx hb dX8_mealsOf_3 hl (by decide) rfl (fun ls hl => ?_)
  refine lpX8_mealsOf hx hb hml hown hts hC hMo hInv (fun ls hl => ?_) _ 0 (Nat.zero_add _) ls (lv_sub hl [0, 1, 2, 3, 4] rfl)
  refine lv_iload_n hx hb dX8_mealsOf_61 rfl (lv_at hl 1 rfl) ?_
  exact W.iret (v := (upTo (bX8_mealsOf μ x1 x2) 0 ((μ 0 1).toNatClampNeg))) hx hb hr (fun t ht hW => ⟨(upTo (bX8_mealsOf μ x1 x2) 0 ((μ 0 1).toNatClampNeg)), rfl, rfl, ht⟩) (fun q hq => absurd hq List.not_mem_nil) dX8_mealsOf_62
set_option maxHeartbeats 4000000 in
set_option maxRecDepth 100000 in
theorem kX8_mealsOf {p : Program} {l : Launch} {e : Env} {R : Room} {s : State} {m : MethodId} {args : Array Value} {below : List Frame} {meth : Method} {c : Code} {H : Heap} {locs : List Loc} {cells slots : Nat} {Q : State → Prop} {cc : ByteArray} {nL : Nat} {Ts : List Cond} {own : String} {index pc : Nat} {ls : Array Slot} {rest : List Value} {D : va_G} {y : Y3} {mo : Nat → Nat} {μ : Sg} {x1 : Int32} {x2 : Int32} (hF : CallFix p m c cc nL s args Ts own) (cw : CallW R s args own RX8 index yX8_mealsOf cX8_mealsOf 6 (some .int) wsX8_mealsOf ({ frames := 2, cells := 0, slots := 0, locals := 44 } : Room) 0 0 2) (hC : CK D y s) (hMo : MoH D y mo μ H) (hInv : InvM μ) (hsz : ls.size = nL) (hW : (rest.map fun v => v.category).sum ≤ 8) (hdg : decode cc pc = .ok (.invokevirtual index, 3)) (hf : cells ≤ R.cells ∧ slots ≤ R.slots)
    (k : W p l e R s m args below meth c H locs cells slots Q (F0 m (pc + 3) ls (.int (zX8_mealsOf μ x1 x2) :: rest))) : W p l e R s m args below meth c H locs cells slots Q (F0 m pc ls (.int x2 :: .int x1 :: .ref (mo 0) :: rest)) := by
  refine vp_callSi (W.runV (As := [.int x1, .int x2]) (rest := rest) hF (mX8_mealsOf l D y mo μ x1 x2) cw ⟨fun a U g mk q => by obtain ⟨q0, q1, q2, q3⟩ := q; exact ⟨q0, q1.call g mk a, q2, q3⟩, va_recv hC.1 hMo (ci := 8) (q0 := 0) rfl rfl, fun U hU hW => ⟨rfl, hC.warm hW, by rw [hU]; exact hMo, hInv⟩⟩ rfl rfl hsz rfl (lv_room hW) hdg ⟨hf.1, hf.2⟩) (fun r hr => ?_)
  subst hr
  exact k
def bX8_ones (x1 : Int32) (i : Nat) (v : Int32) : Int32 := (v + ((x1 >>> ((nI i) &&& 31)) &&& 1))
def zX8_ones (x1 : Int32) : Int32 := (upTo (bX8_ones x1) 0 ((24 : Int32).toNatClampNeg))
set_option maxHeartbeats 4000000 in
set_option maxRecDepth 100000 in
theorem lpX8_ones {p : Program} {l : Launch} {e : Env} {s : State} {m : MethodId} {args : Array Value} {below : List Frame} {meth : Method} {c : Code} {Q : State → Prop} {D : va_G} {y : Y3}  {x1 : Int32} {H : Heap} {locs : List Loc} (hx : p.tables.exec = Jvm.exec) (hb : c.code = cX8_ones) (hml : c.maxLocals = 3) (hown : s.vm.findClass RX8 = some m.cls) (hts : ∀ w ∈ wsX8_ones, w.before args s = true) (hC : CK D y s)
    (K : ∀ ls : Array Slot, lv_has ls 3 [(2, .int (nI (24 : Int32).toNatClampNeg)), (1, .int (upTo (bX8_ones x1) 0 ((24 : Int32).toNatClampNeg))), (0, .int x1)] → W p l e (headSpec wsX8_ones ({ frames := 0, cells := 0, slots := 0, locals := 0 } : Room)).room s m args below meth c H locs 0 0 Q (F0 m 24 ls [])) :
    ∀ (j i : Nat), i + j = (24 : Int32).toNatClampNeg → ∀ ls : Array Slot, lv_has ls 3 [(2, .int (nI i)), (1, .int (upTo (bX8_ones x1) 0 i)), (0, .int x1)] → W p l e (headSpec wsX8_ones ({ frames := 0, cells := 0, slots := 0, locals := 0 } : Room)).room s m args below meth c H locs 0 0 Q (F0 m 4 ls []) := by
  have hF := (⟨hx, hb, hml, hown, hts⟩ : CallFix p m c cX8_ones 3 s args wsX8_ones RX8)
  have hN := clamp_lt (24 : Int32)
  intro j
  induction j with
  | zero =>
    intro i hin ls hl
    obtain rfl : i = (24 : Int32).toNatClampNeg := by omega
    refine lv_iload_n hx hb dX8_ones_4 rfl (lv_at hl 0 rfl) ?_
    refine lv_bipush (v := 24) hx hb dX8_ones_5 (by decide) ?_
    refine lv_icmp_ge (tgt := 24) hx hb dX8_ones_7 (by decide) (fun _ => ?_) (fun c_1 => absurd (up_le _) c_1)
    exact K ls (lv_sub hl [0, 1, 2] rfl)
  | succ j ih =>
    intro i hin ls hl
    obtain ⟨v, hv⟩ : ∃ v, v = (upTo (bX8_ones x1) 0 i) := ⟨_, rfl⟩
    rw [← hv] at hl
    refine lv_iload_n hx hb dX8_ones_4 rfl (lv_at hl 0 rfl) ?_
    refine lv_bipush (v := 24) hx hb dX8_ones_5 (by decide) ?_
    refine lv_icmp_ge (tgt := 24) hx hb dX8_ones_7 (by decide) (fun c_2 => absurd c_2 (up_gt (by omega))) (fun _ => ?_)
    refine lv_iload_n hx hb dX8_ones_10 rfl (lv_at hl 1 rfl) ?_
    refine lv_iload_n hx hb dX8_ones_11 rfl (lv_at hl 2 rfl) ?_
    refine lv_iload_n hx hb dX8_ones_12 rfl (lv_at hl 0 rfl) ?_
    refine lv_ishr hx hb dX8_ones_13 ?_
    refine lv_iconst (v := 1) hx hb dX8_ones_14 (by decide) ?_
    refine lv_iand hx hb dX8_ones_15 ?_
    refine lv_iadd hx hb dX8_ones_16 ?_
    refine lv_istore_n (lv' := [(1, .int (v + ((x1 >>> ((nI i) &&& 31)) &&& 1))), (2, .int (nI i)), (0, .int x1)]) hx hb dX8_ones_17 rfl hl (by decide) rfl (fun ls hl => ?_)
    refine lv_iinc (v := (nI (i + 1))) (lv' := [(2, .int (nI (i + 1))), (1, .int (v + ((x1 >>> ((nI i) &&& 31)) &&& 1))), (0, .int x1)]) hx hb dX8_ones_18 hl (k := 1) rfl (by rw [nI_succ]; rfl) (by decide) rfl (fun ls hl => ?_)
    refine lv_goto (tgt := 4) hx hb dX8_ones_21 (by decide) ?_
    have e9 : (upTo (bX8_ones x1) 0 (i + 1)) = (v + ((x1 >>> ((nI i) &&& 31)) &&& 1)) := by show bX8_ones x1 i (upTo (bX8_ones x1) 0 i) = _; rw [← hv]; unfold bX8_ones; rfl
    exact ih (i + 1) (by omega) ls (by rw [e9]; exact lv_sub hl [0, 1, 2] rfl)
set_option maxHeartbeats 4000000 in
set_option maxRecDepth 100000 in
theorem mX8_ones (l : Launch) (D : va_G) (y : Y3) (x1 : Int32) : Met l yX8_ones wsX8_ones ({ frames := 0, cells := 0, slots := 0, locals := 0 } : Room) (va_Pc [.int x1] (fun U => CK D y U)) (vp_Si (fun r => r = zX8_ones x1)) 0 0 (fun _ => False) := by
  refine Met.ofW (cc := cX8_ones) (maxL := 3) (ret := (some .int)) (by decide) rfl ?_
  intro p e s m args below meth c s₁ B hml hv
  obtain ⟨rfl, hC⟩ := hv
  have hx := B.exec
  have hb := B.bytes
  have hr := B.returns
  have hts := atoms_spec (ws := wsX8_ones) B.pre
  have hown : s.vm.findClass RX8 = some m.cls := findClass_of_methodNamed B.named
  have hlocks := B.notSynchronized
  have hF := (⟨hx, hb, hml, hown, hts⟩ : CallFix p m c cX8_ones 3 s _ wsX8_ones RX8)
  have hl := lv_entry ([.int x1]) (n := 3) (Nat.le_of_ble_eq_true rfl)
  rw [lg_entry_eq]
  generalize (lg_sl ([.int x1]) ++ List.replicate (3 - (lg_sl ([.int x1])).length) Slot.unset).toArray = ls at hl ⊢
  have hl : lv_has ls 3 [(0, .int x1)] := hl
  refine lv_iconst (v := 0) hx hb dX8_ones_0 (by decide) ?_
  refine lv_istore_n (lv' := [(1, .int 0), (0, .int x1)]) hx hb dX8_ones_1 rfl hl (by decide) rfl (fun ls hl => ?_)
  refine lv_iconst (v := 0) hx hb dX8_ones_2 (by decide) ?_
  refine lv_istore_n (lv' := [(2, .int 0), (1, .int 0), (0, .int x1)]) hx hb dX8_ones_3 rfl hl (by decide) rfl (fun ls hl => ?_)
  refine lpX8_ones hx hb hml hown hts hC (fun ls hl => ?_) _ 0 (Nat.zero_add _) ls (lv_sub hl [0, 1, 2] rfl)
  refine lv_iload_n hx hb dX8_ones_24 rfl (lv_at hl 1 rfl) ?_
  exact W.iret (v := (upTo (bX8_ones x1) 0 ((24 : Int32).toNatClampNeg))) hx hb hr (fun t ht hW => ⟨(upTo (bX8_ones x1) 0 ((24 : Int32).toNatClampNeg)), rfl, rfl, ht⟩) (fun q hq => absurd hq List.not_mem_nil) dX8_ones_25
set_option maxHeartbeats 4000000 in
set_option maxRecDepth 100000 in
theorem kX8_ones {p : Program} {l : Launch} {e : Env} {R : Room} {s : State} {m : MethodId} {args : Array Value} {below : List Frame} {meth : Method} {c : Code} {H : Heap} {locs : List Loc} {cells slots : Nat} {Q : State → Prop} {cc : ByteArray} {nL : Nat} {Ts : List Cond} {own : String} {index pc : Nat} {ls : Array Slot} {rest : List Value} {D : va_G} {y : Y3} {x1 : Int32} (hF : CallFix p m c cc nL s args Ts own) (cw : CallB R s args own index yX8_ones cX8_ones 3 (some .int) wsX8_ones ({ frames := 0, cells := 0, slots := 0, locals := 0 } : Room) 0 0 1 ∧ (Cond.static yX8_ones).before args s = true) (hC : CK D y s) (hsz : ls.size = nL) (hW : (rest.map fun v => v.category).sum ≤ 8) (hdg : decode cc pc = .ok (.invokestatic index, 3)) (hf : cells ≤ R.cells ∧ slots ≤ R.slots)
    (k : W p l e R s m args below meth c H locs cells slots Q (F0 m (pc + 3) ls (.int (zX8_ones x1) :: rest))) : W p l e R s m args below meth c H locs cells slots Q (F0 m pc ls (.int x1 :: rest)) := by
  refine vp_callSi (W.runS (As := [.int x1]) (rest := rest) hF (mX8_ones l D y x1) cw ⟨fun a U g mk q => by obtain ⟨q0, q1⟩ := q; exact ⟨q0, q1.call g mk a⟩, fun U hU hW => ⟨rfl, hC.warm hW⟩⟩ rfl rfl hsz rfl (lv_room hW) hdg ⟨hf.1, hf.2⟩) (fun r hr => ?_)
  subst hr
  exact k
def zX8_freeCells (μ : Sg) (x1 : Int32) : Int32 := ((zX8_ofLocker μ x1 0) - (zX8_ones (zX8_mealsOf μ x1 0)))
theorem hdX8_freeCells : yX8_freeCells.cls = RX8 ∧ yX8_freeCells.cls ≠ "java/lang/invoke/MethodHandle" ∧ yX8_freeCells.cls ≠ "java/lang/invoke/VarHandle" ∧ (parseMethodDescriptor yX8_freeCells.desc).map (fun d => d.parameters.length) = some 1 := by decide +kernel
set_option maxHeartbeats 4000000 in
set_option maxRecDepth 100000 in
theorem mX8_freeCells (l : Launch) (D : va_G) (y : Y3) (mo : Nat → Nat) (μ : Sg) (x1 : Int32) : Met l yX8_freeCells wsX8_freeCells ({ frames := 3, cells := 0, slots := 0, locals := 69 } : Room) (va_Pc [.ref (mo 0), .int x1] (fun U => CK D y U ∧ MoH D y mo μ U.heap ∧ InvM μ ∧ rg x1 5)) (vp_Si (fun r => r = zX8_freeCells μ x1)) 0 0 (fun _ => False) := by
  refine Met.ofW (cc := cX8_freeCells) (maxL := 2) (ret := (some .int)) (by decide) rfl ?_
  intro p e s m args below meth c s₁ B hml hv
  obtain ⟨rfl, hC, hMo, hInv, r_x1⟩ := hv
  have hx := B.exec
  have hb := B.bytes
  have hr := B.returns
  have hts := atoms_spec (ws := wsX8_freeCells) B.pre
  have hown : s.vm.findClass RX8 = some m.cls := findClass_of_methodNamed B.named
  have hlocks := B.notSynchronized
  have hF := (⟨hx, hb, hml, hown, hts⟩ : CallFix p m c cX8_freeCells 2 s _ wsX8_freeCells RX8)
  have hl := lv_entry ([.ref (mo 0), .int x1]) (n := 2) (Nat.le_of_ble_eq_true rfl)
  rw [lg_entry_eq]
  generalize (lg_sl ([.ref (mo 0), .int x1]) ++ List.replicate (2 - (lg_sl ([.ref (mo 0), .int x1])).length) Slot.unset).toArray = ls at hl ⊢
  have hl : lv_has ls 2 [(0, .ref (mo 0)), (1, .int x1)] := hl
  refine lv_aload_n hx hb dX8_freeCells_0 rfl (lv_at hl 0 rfl) ?_
  refine lv_iload_n hx hb dX8_freeCells_1 rfl (lv_at hl 1 rfl) ?_
  refine lv_iconst (v := 0) hx hb dX8_freeCells_2 (by decide) ?_
  refine kX8_ofLocker hF (cwV 2 hts gX8_freeCells_X8_ofLocker rfl rfl rfl hdX8_ofLocker ⟨Nat.le_of_ble_eq_true rfl, Nat.le_of_ble_eq_true rfl⟩) hC hMo r_x1 (by decide) hl.1 (Nat.le_of_ble_eq_true rfl) dX8_freeCells_3 ⟨Nat.zero_le _, Nat.zero_le _⟩ ?_
  refine lv_aload_n hx hb dX8_freeCells_6 rfl (lv_at hl 0 rfl) ?_
  refine lv_iload_n hx hb dX8_freeCells_7 rfl (lv_at hl 1 rfl) ?_
  refine lv_iconst (v := 0) hx hb dX8_freeCells_8 (by decide) ?_
  refine kX8_mealsOf hF (cwV 2 hts gX8_freeCells_X8_mealsOf rfl rfl rfl hdX8_mealsOf ⟨Nat.le_of_ble_eq_true rfl, Nat.le_of_ble_eq_true rfl⟩) hC hMo hInv  hl.1 (Nat.le_of_ble_eq_true rfl) dX8_freeCells_9 ⟨Nat.zero_le _, Nat.zero_le _⟩ ?_
  refine kX8_ones hF (cwS 1 hts gX8_freeCells_X8_ones rfl rfl rfl (by decide +kernel) ⟨Nat.le_of_ble_eq_true rfl, Nat.le_of_ble_eq_true rfl⟩) hC hl.1 (Nat.le_of_ble_eq_true rfl) dX8_freeCells_12 ⟨Nat.zero_le _, Nat.zero_le _⟩ ?_
  refine lv_isub hx hb dX8_freeCells_15 ?_
  exact W.iret (v := ((zX8_ofLocker μ x1 0) - (zX8_ones (zX8_mealsOf μ x1 0)))) hx hb hr (fun t ht hW => ⟨((zX8_ofLocker μ x1 0) - (zX8_ones (zX8_mealsOf μ x1 0))), rfl, rfl, ht⟩) (fun q hq => absurd hq List.not_mem_nil) dX8_freeCells_16
set_option maxHeartbeats 4000000 in
set_option maxRecDepth 100000 in
theorem kX8_freeCells {p : Program} {l : Launch} {e : Env} {R : Room} {s : State} {m : MethodId} {args : Array Value} {below : List Frame} {meth : Method} {c : Code} {H : Heap} {locs : List Loc} {cells slots : Nat} {Q : State → Prop} {cc : ByteArray} {nL : Nat} {Ts : List Cond} {own : String} {index pc : Nat} {ls : Array Slot} {rest : List Value} {D : va_G} {y : Y3} {mo : Nat → Nat} {μ : Sg} {x1 : Int32} (hF : CallFix p m c cc nL s args Ts own) (cw : CallW R s args own RX8 index yX8_freeCells cX8_freeCells 2 (some .int) wsX8_freeCells ({ frames := 3, cells := 0, slots := 0, locals := 69 } : Room) 0 0 1) (hC : CK D y s) (hMo : MoH D y mo μ H) (hInv : InvM μ) (r_x1 : rg x1 5) (hsz : ls.size = nL) (hW : (rest.map fun v => v.category).sum ≤ 8) (hdg : decode cc pc = .ok (.invokevirtual index, 3)) (hf : cells ≤ R.cells ∧ slots ≤ R.slots)
    (k : W p l e R s m args below meth c H locs cells slots Q (F0 m (pc + 3) ls (.int (zX8_freeCells μ x1) :: rest))) : W p l e R s m args below meth c H locs cells slots Q (F0 m pc ls (.int x1 :: .ref (mo 0) :: rest)) := by
  refine vp_callSi (W.runV (As := [.int x1]) (rest := rest) hF (mX8_freeCells l D y mo μ x1) cw ⟨fun a U g mk q => by obtain ⟨q0, q1, q2, q3, q4⟩ := q; exact ⟨q0, q1.call g mk a, q2, q3, q4⟩, va_recv hC.1 hMo (ci := 8) (q0 := 0) rfl rfl, fun U hU hW => ⟨rfl, hC.warm hW, by rw [hU]; exact hMo, hInv, r_x1⟩⟩ rfl rfl hsz rfl (lv_room hW) hdg ⟨hf.1, hf.2⟩) (fun r hr => ?_)
  subst hr
  exact k
def bX8_reservedBy (μ : Sg) (x1 : Int32) (i : Nat) (v : Int32) : Int32 := if (zX8_ofMeal μ (nI i) 0) = 1 then (if (zX8_ofMeal μ (nI i) 5) = x1 then (nI i)
    else v)
  else v
def zX8_reservedBy (μ : Sg) (x1 : Int32) : Int32 := (upTo (bX8_reservedBy μ x1) (-1) ((μ 0 1).toNatClampNeg))
theorem iwX8_reservedBy_X8 : ∀ w ∈ wsX80, w ∈ wsX8_reservedBy := fun _ h => List.mem_cons_of_mem _ (List.mem_append_right _ h)
theorem hdX8_reservedBy : yX8_reservedBy.cls = RX8 ∧ yX8_reservedBy.cls ≠ "java/lang/invoke/MethodHandle" ∧ yX8_reservedBy.cls ≠ "java/lang/invoke/VarHandle" ∧ (parseMethodDescriptor yX8_reservedBy.desc).map (fun d => d.parameters.length) = some 1 := by decide +kernel
set_option maxHeartbeats 4000000 in
set_option maxRecDepth 100000 in
theorem lpX8_reservedBy {p : Program} {l : Launch} {e : Env} {s : State} {m : MethodId} {args : Array Value} {below : List Frame} {meth : Method} {c : Code} {Q : State → Prop} {D : va_G} {y : Y3} {mo : Nat → Nat} {μ : Sg} {x1 : Int32} {H : Heap} {locs : List Loc} (hx : p.tables.exec = Jvm.exec) (hb : c.code = cX8_reservedBy) (hml : c.maxLocals = 4) (hown : s.vm.findClass RX8 = some m.cls) (hts : ∀ w ∈ wsX8_reservedBy, w.before args s = true) (hC : CK D y s) (hMo : MoH D y mo μ H) (hInv : InvM μ)
    (K : ∀ ls : Array Slot, lv_has ls 4 [(3, .int (nI (μ 0 1).toNatClampNeg)), (2, .int (upTo (bX8_reservedBy μ x1) (-1) ((μ 0 1).toNatClampNeg))), (0, .ref (mo 0)), (1, .int x1)] → W p l e (headSpec wsX8_reservedBy ({ frames := 1, cells := 0, slots := 0, locals := 22 } : Room)).room s m args below meth c H locs 0 0 Q (F0 m 46 ls [])) :
    ∀ (j i : Nat), i + j = (μ 0 1).toNatClampNeg → ∀ ls : Array Slot, lv_has ls 4 [(3, .int (nI i)), (2, .int (upTo (bX8_reservedBy μ x1) (-1) i)), (0, .ref (mo 0)), (1, .int x1)] → W p l e (headSpec wsX8_reservedBy ({ frames := 1, cells := 0, slots := 0, locals := 22 } : Room)).room s m args below meth c H locs 0 0 Q (F0 m 4 ls []) := by
  have hF := (⟨hx, hb, hml, hown, hts⟩ : CallFix p m c cX8_reservedBy 4 s args wsX8_reservedBy RX8)
  have hN := clamp_lt (μ 0 1)
  intro j
  induction j with
  | zero =>
    intro i hin ls hl
    obtain rfl : i = (μ 0 1).toNatClampNeg := by omega
    refine lv_iload_n hx hb dX8_reservedBy_4 rfl (lv_at hl 0 rfl) ?_
    refine lv_aload_n hx hb dX8_reservedBy_5 rfl (lv_at hl 2 rfl) ?_
    refine va_get (D := D) (ci := 8) (v := .ref (mo 1)) (C := RX8) (T := TX8) (N := 10) hx hb hts iwX8_reservedBy_X8 hown hC.1 hMo 0 rfl rfl 0 (by decide) (hts (.fieldLink RX8 7 "MealLockersModel" "s" "[I") (List.mem_of_getElem? (i := 1) rfl)) (fun _ h9 => h9) rfl dX8_reservedBy_6 ?_
    refine lv_iconst (v := 1) hx hb dX8_reservedBy_9 (by decide) ?_
    refine va_iald hx hb hC.1 hMo 1 0 rfl rfl (vpl (by decide)) dX8_reservedBy_10 ?_
    rw [cl_1]
    refine lv_icmp_ge (tgt := 46) hx hb dX8_reservedBy_11 (by decide) (fun _ => ?_) (fun c_1 => absurd (up_le _) c_1)
    exact K ls (lv_sub hl [0, 1, 2, 3] rfl)
  | succ j ih =>
    intro i hin ls hl
    obtain ⟨v, hv⟩ : ∃ v, v = (upTo (bX8_reservedBy μ x1) (-1) i) := ⟨_, rfl⟩
    rw [← hv] at hl
    have f_2 : rg (nI i) 24 := inv_m hInv (by omega)
    refine lv_iload_n hx hb dX8_reservedBy_4 rfl (lv_at hl 0 rfl) ?_
    refine lv_aload_n hx hb dX8_reservedBy_5 rfl (lv_at hl 2 rfl) ?_
    refine va_get (D := D) (ci := 8) (v := .ref (mo 1)) (C := RX8) (T := TX8) (N := 10) hx hb hts iwX8_reservedBy_X8 hown hC.1 hMo 0 rfl rfl 0 (by decide) (hts (.fieldLink RX8 7 "MealLockersModel" "s" "[I") (List.mem_of_getElem? (i := 1) rfl)) (fun _ h9 => h9) rfl dX8_reservedBy_6 ?_
    refine lv_iconst (v := 1) hx hb dX8_reservedBy_9 (by decide) ?_
    refine va_iald hx hb hC.1 hMo 1 0 rfl rfl (vpl (by decide)) dX8_reservedBy_10 ?_
    rw [cl_1]
    refine lv_icmp_ge (tgt := 46) hx hb dX8_reservedBy_11 (by decide) (fun c_3 => absurd c_3 (up_gt (by omega))) (fun _ => ?_)
    refine lv_aload_n hx hb dX8_reservedBy_14 rfl (lv_at hl 2 rfl) ?_
    refine lv_iload_n hx hb dX8_reservedBy_15 rfl (lv_at hl 0 rfl) ?_
    refine lv_iconst (v := 0) hx hb dX8_reservedBy_16 (by decide) ?_
    refine kX8_ofMeal hF (cwV 2 hts gX8_reservedBy_X8_ofMeal rfl rfl rfl hdX8_ofMeal ⟨Nat.le_of_ble_eq_true rfl, Nat.le_of_ble_eq_true rfl⟩) hC hMo f_2 (by decide) hl.1 (Nat.le_of_ble_eq_true rfl) dX8_reservedBy_17 ⟨Nat.zero_le _, Nat.zero_le _⟩ ?_
    refine lv_iconst (v := 1) hx hb dX8_reservedBy_20 (by decide) ?_
    refine lv_icmp_ne (tgt := 38) hx hb dX8_reservedBy_21 (by decide) (fun c_4 => ?_) (fun c_4 => ?_)
    · refine lv_iload_n hx hb dX8_reservedBy_38 rfl (lv_at hl 1 rfl) ?_
      refine lv_istore_n (lv' := [(2, .int v), (3, .int (nI i)), (0, .ref (mo 0)), (1, .int x1)]) hx hb dX8_reservedBy_39 rfl hl (by decide) rfl (fun ls hl => ?_)
      refine lv_iinc (v := (nI (i + 1))) (lv' := [(3, .int (nI (i + 1))), (2, .int v), (0, .ref (mo 0)), (1, .int x1)]) hx hb dX8_reservedBy_40 hl (k := 1) rfl (by rw [nI_succ]; rfl) (by decide) rfl (fun ls hl => ?_)
      refine lv_goto (tgt := 4) hx hb dX8_reservedBy_43 (by decide) ?_
      have e9 : (upTo (bX8_reservedBy μ x1) (-1) (i + 1)) = v := by show bX8_reservedBy μ x1 i (upTo (bX8_reservedBy μ x1) (-1) i) = _; rw [← hv]; unfold bX8_reservedBy; rw [if_neg c_4]
      exact ih (i + 1) (by omega) ls (by rw [e9]; exact lv_sub hl [0, 1, 2, 3] rfl)
    · refine lv_aload_n hx hb dX8_reservedBy_24 rfl (lv_at hl 2 rfl) ?_
      refine lv_iload_n hx hb dX8_reservedBy_25 rfl (lv_at hl 0 rfl) ?_
      refine lv_iconst (v := 5) hx hb dX8_reservedBy_26 (by decide) ?_
      refine kX8_ofMeal hF (cwV 2 hts gX8_reservedBy_X8_ofMeal rfl rfl rfl hdX8_ofMeal ⟨Nat.le_of_ble_eq_true rfl, Nat.le_of_ble_eq_true rfl⟩) hC hMo f_2 (by decide) hl.1 (Nat.le_of_ble_eq_true rfl) dX8_reservedBy_27 ⟨Nat.zero_le _, Nat.zero_le _⟩ ?_
      have f_5 : rg (zX8_ofMeal μ (nI i) 5) 8 := inv_who hInv f_2 c_4
      refine lv_iload_n hx hb dX8_reservedBy_30 rfl (lv_at hl 3 rfl) ?_
      refine lv_icmp_ne (tgt := 38) hx hb dX8_reservedBy_31 (by decide) (fun c_6 => ?_) (fun c_6 => ?_)
      · refine lv_iload_n hx hb dX8_reservedBy_38 rfl (lv_at hl 1 rfl) ?_
        refine lv_istore_n (lv' := [(2, .int v), (3, .int (nI i)), (0, .ref (mo 0)), (1, .int x1)]) hx hb dX8_reservedBy_39 rfl hl (by decide) rfl (fun ls hl => ?_)
        refine lv_iinc (v := (nI (i + 1))) (lv' := [(3, .int (nI (i + 1))), (2, .int v), (0, .ref (mo 0)), (1, .int x1)]) hx hb dX8_reservedBy_40 hl (k := 1) rfl (by rw [nI_succ]; rfl) (by decide) rfl (fun ls hl => ?_)
        refine lv_goto (tgt := 4) hx hb dX8_reservedBy_43 (by decide) ?_
        have e9 : (upTo (bX8_reservedBy μ x1) (-1) (i + 1)) = v := by show bX8_reservedBy μ x1 i (upTo (bX8_reservedBy μ x1) (-1) i) = _; rw [← hv]; unfold bX8_reservedBy; rw [if_pos c_4, if_neg c_6]
        exact ih (i + 1) (by omega) ls (by rw [e9]; exact lv_sub hl [0, 1, 2, 3] rfl)
      · refine lv_iload_n hx hb dX8_reservedBy_34 rfl (lv_at hl 0 rfl) ?_
        refine lv_goto (tgt := 39) hx hb dX8_reservedBy_35 (by decide) ?_
        refine lv_istore_n (lv' := [(2, .int (nI i)), (3, .int (nI i)), (0, .ref (mo 0)), (1, .int x1)]) hx hb dX8_reservedBy_39 rfl hl (by decide) rfl (fun ls hl => ?_)
        refine lv_iinc (v := (nI (i + 1))) (lv' := [(3, .int (nI (i + 1))), (2, .int (nI i)), (0, .ref (mo 0)), (1, .int x1)]) hx hb dX8_reservedBy_40 hl (k := 1) rfl (by rw [nI_succ]; rfl) (by decide) rfl (fun ls hl => ?_)
        refine lv_goto (tgt := 4) hx hb dX8_reservedBy_43 (by decide) ?_
        have e9 : (upTo (bX8_reservedBy μ x1) (-1) (i + 1)) = (nI i) := by show bX8_reservedBy μ x1 i (upTo (bX8_reservedBy μ x1) (-1) i) = _; rw [← hv]; unfold bX8_reservedBy; rw [if_pos c_4, if_pos c_6]
        exact ih (i + 1) (by omega) ls (by rw [e9]; exact lv_sub hl [0, 1, 2, 3] rfl)
set_option maxHeartbeats 4000000 in
set_option maxRecDepth 100000 in
theorem mX8_reservedBy (l : Launch) (D : va_G) (y : Y3) (mo : Nat → Nat) (μ : Sg) (x1 : Int32) : Met l yX8_reservedBy wsX8_reservedBy ({ frames := 1, cells := 0, slots := 0, locals := 22 } : Room) (va_Pc [.ref (mo 0), .int x1] (fun U => CK D y U ∧ MoH D y mo μ U.heap ∧ InvM μ)) (vp_Si (fun r => r = zX8_reservedBy μ x1)) 0 0 (fun _ => False) := by
  refine Met.ofW (cc := cX8_reservedBy) (maxL := 4) (ret := (some .int)) (by decide) rfl ?_
  intro p e s m args below meth c s₁ B hml hv
  obtain ⟨rfl, hC, hMo, hInv⟩ := hv
  have hx := B.exec
  have hb := B.bytes
  have hr := B.returns
  have hts := atoms_spec (ws := wsX8_reservedBy) B.pre
  have hown : s.vm.findClass RX8 = some m.cls := findClass_of_methodNamed B.named
  have hlocks := B.notSynchronized
  have hF := (⟨hx, hb, hml, hown, hts⟩ : CallFix p m c cX8_reservedBy 4 s _ wsX8_reservedBy RX8)
  have hl := lv_entry ([.ref (mo 0), .int x1]) (n := 4) (Nat.le_of_ble_eq_true rfl)
  rw [lg_entry_eq]
  generalize (lg_sl ([.ref (mo 0), .int x1]) ++ List.replicate (4 - (lg_sl ([.ref (mo 0), .int x1])).length) Slot.unset).toArray = ls at hl ⊢
  have hl : lv_has ls 4 [(0, .ref (mo 0)), (1, .int x1)] := hl
  refine lv_iconst (v := (-1)) hx hb dX8_reservedBy_0 (by decide) ?_
  refine lv_istore_n (lv' := [(2, .int (-1)), (0, .ref (mo 0)), (1, .int x1)]) hx hb dX8_reservedBy_1 rfl hl (by decide) rfl (fun ls hl => ?_)
  refine lv_iconst (v := 0) hx hb dX8_reservedBy_2 (by decide) ?_
  refine lv_istore_n (lv' := [(3, .int 0), (2, .int (-1)), (0, .ref (mo 0)), (1, .int x1)]) hx hb dX8_reservedBy_3 rfl hl (by decide) rfl (fun ls hl => ?_)
  refine lpX8_reservedBy hx hb hml hown hts hC hMo hInv (fun ls hl => ?_) _ 0 (Nat.zero_add _) ls (lv_sub hl [0, 1, 2, 3] rfl)
  refine lv_iload_n hx hb dX8_reservedBy_46 rfl (lv_at hl 1 rfl) ?_
  exact W.iret (v := (upTo (bX8_reservedBy μ x1) (-1) ((μ 0 1).toNatClampNeg))) hx hb hr (fun t ht hW => ⟨(upTo (bX8_reservedBy μ x1) (-1) ((μ 0 1).toNatClampNeg)), rfl, rfl, ht⟩) (fun q hq => absurd hq List.not_mem_nil) dX8_reservedBy_47
set_option maxHeartbeats 4000000 in
set_option maxRecDepth 100000 in
theorem kX8_reservedBy {p : Program} {l : Launch} {e : Env} {R : Room} {s : State} {m : MethodId} {args : Array Value} {below : List Frame} {meth : Method} {c : Code} {H : Heap} {locs : List Loc} {cells slots : Nat} {Q : State → Prop} {cc : ByteArray} {nL : Nat} {Ts : List Cond} {own : String} {index pc : Nat} {ls : Array Slot} {rest : List Value} {D : va_G} {y : Y3} {mo : Nat → Nat} {μ : Sg} {x1 : Int32} (hF : CallFix p m c cc nL s args Ts own) (cw : CallW R s args own RX8 index yX8_reservedBy cX8_reservedBy 4 (some .int) wsX8_reservedBy ({ frames := 1, cells := 0, slots := 0, locals := 22 } : Room) 0 0 1) (hC : CK D y s) (hMo : MoH D y mo μ H) (hInv : InvM μ) (hsz : ls.size = nL) (hW : (rest.map fun v => v.category).sum ≤ 8) (hdg : decode cc pc = .ok (.invokevirtual index, 3)) (hf : cells ≤ R.cells ∧ slots ≤ R.slots)
    (k : W p l e R s m args below meth c H locs cells slots Q (F0 m (pc + 3) ls (.int (zX8_reservedBy μ x1) :: rest))) : W p l e R s m args below meth c H locs cells slots Q (F0 m pc ls (.int x1 :: .ref (mo 0) :: rest)) := by
  refine vp_callSi (W.runV (As := [.int x1]) (rest := rest) hF (mX8_reservedBy l D y mo μ x1) cw ⟨fun a U g mk q => by obtain ⟨q0, q1, q2, q3⟩ := q; exact ⟨q0, q1.call g mk a, q2, q3⟩, va_recv hC.1 hMo (ci := 8) (q0 := 0) rfl rfl, fun U hU hW => ⟨rfl, hC.warm hW, by rw [hU]; exact hMo, hInv⟩⟩ rfl rfl hsz rfl (lv_room hW) hdg ⟨hf.1, hf.2⟩) (fun r hr => ?_)
  subst hr
  exact k
def zX8_loss (μ : Sg) (x1 : Int32) : Int32 := if 2 ≤ (zX8_ofMeal μ x1 0) then 2
  else (if (zX8_ofLocker μ (zX8_ofMeal μ x1 1) 1) = 1 then 1
    else 2)
theorem hdX8_loss : yX8_loss.cls = RX8 ∧ yX8_loss.cls ≠ "java/lang/invoke/MethodHandle" ∧ yX8_loss.cls ≠ "java/lang/invoke/VarHandle" ∧ (parseMethodDescriptor yX8_loss.desc).map (fun d => d.parameters.length) = some 1 := by decide +kernel
set_option maxHeartbeats 4000000 in
set_option maxRecDepth 100000 in
theorem mX8_loss (l : Launch) (D : va_G) (y : Y3) (mo : Nat → Nat) (μ : Sg) (x1 : Int32) : Met l yX8_loss wsX8_loss ({ frames := 1, cells := 0, slots := 0, locals := 22 } : Room) (va_Pc [.ref (mo 0), .int x1] (fun U => CK D y U ∧ MoH D y mo μ U.heap ∧ InvM μ ∧ rg x1 24)) (vp_Si (fun r => r = zX8_loss μ x1)) 0 0 (fun _ => False) := by
  refine Met.ofW (cc := cX8_loss) (maxL := 3) (ret := (some .int)) (by decide) rfl ?_
  intro p e s m args below meth c s₁ B hml hv
  obtain ⟨rfl, hC, hMo, hInv, r_x1⟩ := hv
  have hx := B.exec
  have hb := B.bytes
  have hr := B.returns
  have hts := atoms_spec (ws := wsX8_loss) B.pre
  have hown : s.vm.findClass RX8 = some m.cls := findClass_of_methodNamed B.named
  have hlocks := B.notSynchronized
  have hF := (⟨hx, hb, hml, hown, hts⟩ : CallFix p m c cX8_loss 3 s _ wsX8_loss RX8)
  have hl := lv_entry ([.ref (mo 0), .int x1]) (n := 3) (Nat.le_of_ble_eq_true rfl)
  rw [lg_entry_eq]
  generalize (lg_sl ([.ref (mo 0), .int x1]) ++ List.replicate (3 - (lg_sl ([.ref (mo 0), .int x1])).length) Slot.unset).toArray = ls at hl ⊢
  have hl : lv_has ls 3 [(0, .ref (mo 0)), (1, .int x1)] := hl
  refine lv_aload_n hx hb dX8_loss_0 rfl (lv_at hl 0 rfl) ?_
  refine lv_iload_n hx hb dX8_loss_1 rfl (lv_at hl 1 rfl) ?_
  refine lv_iconst (v := 0) hx hb dX8_loss_2 (by decide) ?_
  refine kX8_ofMeal hF (cwV 2 hts gX8_loss_X8_ofMeal rfl rfl rfl hdX8_ofMeal ⟨Nat.le_of_ble_eq_true rfl, Nat.le_of_ble_eq_true rfl⟩) hC hMo r_x1 (by decide) hl.1 (Nat.le_of_ble_eq_true rfl) dX8_loss_3 ⟨Nat.zero_le _, Nat.zero_le _⟩ ?_
  refine lv_iconst (v := 2) hx hb dX8_loss_6 (by decide) ?_
  refine lv_icmp_ge (tgt := 29) hx hb dX8_loss_7 (by decide) (fun c_1 => ?_) (fun c_1 => ?_)
  · refine lv_iconst (v := 0) hx hb dX8_loss_29 (by decide) ?_
    refine lv_istore_n (lv' := [(2, .int 0), (0, .ref (mo 0)), (1, .int x1)]) hx hb dX8_loss_30 rfl hl (by decide) rfl (fun ls hl => ?_)
    refine lv_iload_n hx hb dX8_loss_31 rfl (lv_at hl 0 rfl) ?_
    refine lv_if_eq (tgt := 39) hx hb dX8_loss_32 (by decide) (fun _ => ?_) (fun c_2 => absurd (by decide) c_2)
    refine lv_iconst (v := 2) hx hb dX8_loss_39 (by decide) ?_
    exact W.iret (v := 2) hx hb hr (fun t ht hW => ⟨2, rfl, (by unfold zX8_loss; rw [if_pos c_1]), ht⟩) (fun q hq => absurd hq List.not_mem_nil) dX8_loss_40
  · refine lv_aload_n hx hb dX8_loss_10 rfl (lv_at hl 0 rfl) ?_
    refine lv_aload_n hx hb dX8_loss_11 rfl (lv_at hl 0 rfl) ?_
    refine lv_iload_n hx hb dX8_loss_12 rfl (lv_at hl 1 rfl) ?_
    refine lv_iconst (v := 1) hx hb dX8_loss_13 (by decide) ?_
    refine kX8_ofMeal hF (cwV 2 hts gX8_loss_X8_ofMeal rfl rfl rfl hdX8_ofMeal ⟨Nat.le_of_ble_eq_true rfl, Nat.le_of_ble_eq_true rfl⟩) hC hMo r_x1 (by decide) hl.1 (Nat.le_of_ble_eq_true rfl) dX8_loss_14 ⟨Nat.zero_le _, Nat.zero_le _⟩ ?_
    have f_3 : rg (zX8_ofMeal μ x1 1) 5 := inv_where hInv r_x1
    refine lv_iconst (v := 1) hx hb dX8_loss_17 (by decide) ?_
    refine kX8_ofLocker hF (cwV 2 hts gX8_loss_X8_ofLocker rfl rfl rfl hdX8_ofLocker ⟨Nat.le_of_ble_eq_true rfl, Nat.le_of_ble_eq_true rfl⟩) hC hMo f_3 (by decide) hl.1 (Nat.le_of_ble_eq_true rfl) dX8_loss_18 ⟨Nat.zero_le _, Nat.zero_le _⟩ ?_
    refine lv_iconst (v := 1) hx hb dX8_loss_21 (by decide) ?_
    refine lv_icmp_ne (tgt := 29) hx hb dX8_loss_22 (by decide) (fun c_4 => ?_) (fun c_4 => ?_)
    · refine lv_iconst (v := 0) hx hb dX8_loss_29 (by decide) ?_
      refine lv_istore_n (lv' := [(2, .int 0), (0, .ref (mo 0)), (1, .int x1)]) hx hb dX8_loss_30 rfl hl (by decide) rfl (fun ls hl => ?_)
      refine lv_iload_n hx hb dX8_loss_31 rfl (lv_at hl 0 rfl) ?_
      refine lv_if_eq (tgt := 39) hx hb dX8_loss_32 (by decide) (fun _ => ?_) (fun c_5 => absurd (by decide) c_5)
      refine lv_iconst (v := 2) hx hb dX8_loss_39 (by decide) ?_
      exact W.iret (v := 2) hx hb hr (fun t ht hW => ⟨2, rfl, (by unfold zX8_loss; rw [if_neg c_1, if_neg c_4]), ht⟩) (fun q hq => absurd hq List.not_mem_nil) dX8_loss_40
    · refine lv_iconst (v := 1) hx hb dX8_loss_25 (by decide) ?_
      refine lv_goto (tgt := 30) hx hb dX8_loss_26 (by decide) ?_
      refine lv_istore_n (lv' := [(2, .int 1), (0, .ref (mo 0)), (1, .int x1)]) hx hb dX8_loss_30 rfl hl (by decide) rfl (fun ls hl => ?_)
      refine lv_iload_n hx hb dX8_loss_31 rfl (lv_at hl 0 rfl) ?_
      refine lv_if_eq (tgt := 39) hx hb dX8_loss_32 (by decide) (fun c_6 => absurd c_6 (by decide)) (fun _ => ?_)
      refine lv_iconst (v := 1) hx hb dX8_loss_35 (by decide) ?_
      refine lv_goto (tgt := 40) hx hb dX8_loss_36 (by decide) ?_
      exact W.iret (v := 1) hx hb hr (fun t ht hW => ⟨1, rfl, (by unfold zX8_loss; rw [if_neg c_1, if_pos c_4]), ht⟩) (fun q hq => absurd hq List.not_mem_nil) dX8_loss_40
set_option maxHeartbeats 4000000 in
set_option maxRecDepth 100000 in
theorem kX8_loss {p : Program} {l : Launch} {e : Env} {R : Room} {s : State} {m : MethodId} {args : Array Value} {below : List Frame} {meth : Method} {c : Code} {H : Heap} {locs : List Loc} {cells slots : Nat} {Q : State → Prop} {cc : ByteArray} {nL : Nat} {Ts : List Cond} {own : String} {index pc : Nat} {ls : Array Slot} {rest : List Value} {D : va_G} {y : Y3} {mo : Nat → Nat} {μ : Sg} {x1 : Int32} (hF : CallFix p m c cc nL s args Ts own) (cw : CallW R s args own RX8 index yX8_loss cX8_loss 3 (some .int) wsX8_loss ({ frames := 1, cells := 0, slots := 0, locals := 22 } : Room) 0 0 1) (hC : CK D y s) (hMo : MoH D y mo μ H) (hInv : InvM μ) (r_x1 : rg x1 24) (hsz : ls.size = nL) (hW : (rest.map fun v => v.category).sum ≤ 8) (hdg : decode cc pc = .ok (.invokevirtual index, 3)) (hf : cells ≤ R.cells ∧ slots ≤ R.slots)
    (k : W p l e R s m args below meth c H locs cells slots Q (F0 m (pc + 3) ls (.int (zX8_loss μ x1) :: rest))) : W p l e R s m args below meth c H locs cells slots Q (F0 m pc ls (.int x1 :: .ref (mo 0) :: rest)) := by
  refine vp_callSi (W.runV (As := [.int x1]) (rest := rest) hF (mX8_loss l D y mo μ x1) cw ⟨fun a U g mk q => by obtain ⟨q0, q1, q2, q3, q4⟩ := q; exact ⟨q0, q1.call g mk a, q2, q3, q4⟩, va_recv hC.1 hMo (ci := 8) (q0 := 0) rfl rfl, fun U hU hW => ⟨rfl, hC.warm hW, by rw [hU]; exact hMo, hInv, r_x1⟩⟩ rfl rfl hsz rfl (lv_room hW) hdg ⟨hf.1, hf.2⟩) (fun r hr => ?_)
  subst hr
  exact k
theorem loss_ne (μ : Sg) (x : Int32) : ¬ zX8_loss μ x = 0 := by
  unfold zX8_loss
  (repeat' split) <;> decide
def zX8_mayHave (μ : Sg) (x1 : Int32) (x2 : Int32) : Int32 := if (zX8_ofMeal μ x2 0) = 0 then (if ((zX8_ofMeal μ x2 3) &&& (zX8_ofPerson μ x1 0)) = 0 then 1
    else 0)
  else 0
theorem hdX8_mayHave : yX8_mayHave.cls = RX8 ∧ yX8_mayHave.cls ≠ "java/lang/invoke/MethodHandle" ∧ yX8_mayHave.cls ≠ "java/lang/invoke/VarHandle" ∧ (parseMethodDescriptor yX8_mayHave.desc).map (fun d => d.parameters.length) = some 2 := by decide +kernel
set_option maxHeartbeats 4000000 in
set_option maxRecDepth 100000 in
theorem mX8_mayHave (l : Launch) (D : va_G) (y : Y3) (mo : Nat → Nat) (μ : Sg) (x1 : Int32) (x2 : Int32) : Met l yX8_mayHave wsX8_mayHave ({ frames := 1, cells := 0, slots := 0, locals := 22 } : Room) (va_Pc [.ref (mo 0), .int x1, .int x2] (fun U => CK D y U ∧ MoH D y mo μ U.heap ∧ rg x1 8 ∧ rg x2 24)) (vp_Si (fun r => r = zX8_mayHave μ x1 x2)) 0 0 (fun _ => False) := by
  refine Met.ofW (cc := cX8_mayHave) (maxL := 3) (ret := (some .boolean)) (by decide) rfl ?_
  intro p e s m args below meth c s₁ B hml hv
  obtain ⟨rfl, hC, hMo, r_x1, r_x2⟩ := hv
  have hx := B.exec
  have hb := B.bytes
  have hr := B.returns
  have hts := atoms_spec (ws := wsX8_mayHave) B.pre
  have hown : s.vm.findClass RX8 = some m.cls := findClass_of_methodNamed B.named
  have hlocks := B.notSynchronized
  have hF := (⟨hx, hb, hml, hown, hts⟩ : CallFix p m c cX8_mayHave 3 s _ wsX8_mayHave RX8)
  have hl := lv_entry ([.ref (mo 0), .int x1, .int x2]) (n := 3) (Nat.le_of_ble_eq_true rfl)
  rw [lg_entry_eq]
  generalize (lg_sl ([.ref (mo 0), .int x1, .int x2]) ++ List.replicate (3 - (lg_sl ([.ref (mo 0), .int x1, .int x2])).length) Slot.unset).toArray = ls at hl ⊢
  have hl : lv_has ls 3 [(0, .ref (mo 0)), (1, .int x1), (2, .int x2)] := hl
  refine lv_aload_n hx hb dX8_mayHave_0 rfl (lv_at hl 0 rfl) ?_
  refine lv_iload_n hx hb dX8_mayHave_1 rfl (lv_at hl 2 rfl) ?_
  refine lv_iconst (v := 0) hx hb dX8_mayHave_2 (by decide) ?_
  refine kX8_ofMeal hF (cwV 2 hts gX8_mayHave_X8_ofMeal rfl rfl rfl hdX8_ofMeal ⟨Nat.le_of_ble_eq_true rfl, Nat.le_of_ble_eq_true rfl⟩) hC hMo r_x2 (by decide) hl.1 (Nat.le_of_ble_eq_true rfl) dX8_mayHave_3 ⟨Nat.zero_le _, Nat.zero_le _⟩ ?_
  refine lv_if_ne (tgt := 29) hx hb dX8_mayHave_6 (by decide) (fun c_1 => ?_) (fun c_1 => ?_)
  · refine lv_iconst (v := 0) hx hb dX8_mayHave_29 (by decide) ?_
    exact W.zret (v := 0) hx hb hr (by decide) (fun t ht hW => ⟨0, rfl, (by unfold zX8_mayHave; rw [if_neg c_1]), ht⟩) (fun q hq => absurd hq List.not_mem_nil) dX8_mayHave_30
  · refine lv_aload_n hx hb dX8_mayHave_9 rfl (lv_at hl 0 rfl) ?_
    refine lv_iload_n hx hb dX8_mayHave_10 rfl (lv_at hl 2 rfl) ?_
    refine lv_iconst (v := 3) hx hb dX8_mayHave_11 (by decide) ?_
    refine kX8_ofMeal hF (cwV 2 hts gX8_mayHave_X8_ofMeal rfl rfl rfl hdX8_ofMeal ⟨Nat.le_of_ble_eq_true rfl, Nat.le_of_ble_eq_true rfl⟩) hC hMo r_x2 (by decide) hl.1 (Nat.le_of_ble_eq_true rfl) dX8_mayHave_12 ⟨Nat.zero_le _, Nat.zero_le _⟩ ?_
    refine lv_aload_n hx hb dX8_mayHave_15 rfl (lv_at hl 0 rfl) ?_
    refine lv_iload_n hx hb dX8_mayHave_16 rfl (lv_at hl 1 rfl) ?_
    refine lv_iconst (v := 0) hx hb dX8_mayHave_17 (by decide) ?_
    refine kX8_ofPerson hF (cwV 2 hts gX8_mayHave_X8_ofPerson rfl rfl rfl hdX8_ofPerson ⟨Nat.le_of_ble_eq_true rfl, Nat.le_of_ble_eq_true rfl⟩) hC hMo r_x1 (by decide) hl.1 (Nat.le_of_ble_eq_true rfl) dX8_mayHave_18 ⟨Nat.zero_le _, Nat.zero_le _⟩ ?_
    refine lv_iand hx hb dX8_mayHave_21 ?_
    refine lv_if_ne (tgt := 29) hx hb dX8_mayHave_22 (by decide) (fun c_2 => ?_) (fun c_2 => ?_)
    · refine lv_iconst (v := 0) hx hb dX8_mayHave_29 (by decide) ?_
      exact W.zret (v := 0) hx hb hr (by decide) (fun t ht hW => ⟨0, rfl, (by unfold zX8_mayHave; rw [if_pos c_1, if_neg c_2]), ht⟩) (fun q hq => absurd hq List.not_mem_nil) dX8_mayHave_30
    · refine lv_iconst (v := 1) hx hb dX8_mayHave_25 (by decide) ?_
      refine lv_goto (tgt := 30) hx hb dX8_mayHave_26 (by decide) ?_
      exact W.zret (v := 1) hx hb hr (by decide) (fun t ht hW => ⟨1, rfl, (by unfold zX8_mayHave; rw [if_pos c_1, if_pos c_2]), ht⟩) (fun q hq => absurd hq List.not_mem_nil) dX8_mayHave_30
set_option maxHeartbeats 4000000 in
set_option maxRecDepth 100000 in
theorem kX8_mayHave {p : Program} {l : Launch} {e : Env} {R : Room} {s : State} {m : MethodId} {args : Array Value} {below : List Frame} {meth : Method} {c : Code} {H : Heap} {locs : List Loc} {cells slots : Nat} {Q : State → Prop} {cc : ByteArray} {nL : Nat} {Ts : List Cond} {own : String} {index pc : Nat} {ls : Array Slot} {rest : List Value} {D : va_G} {y : Y3} {mo : Nat → Nat} {μ : Sg} {x1 : Int32} {x2 : Int32} (hF : CallFix p m c cc nL s args Ts own) (cw : CallW R s args own RX8 index yX8_mayHave cX8_mayHave 3 (some .boolean) wsX8_mayHave ({ frames := 1, cells := 0, slots := 0, locals := 22 } : Room) 0 0 2) (hC : CK D y s) (hMo : MoH D y mo μ H) (r_x1 : rg x1 8) (r_x2 : rg x2 24) (hsz : ls.size = nL) (hW : (rest.map fun v => v.category).sum ≤ 8) (hdg : decode cc pc = .ok (.invokevirtual index, 3)) (hf : cells ≤ R.cells ∧ slots ≤ R.slots)
    (k : W p l e R s m args below meth c H locs cells slots Q (F0 m (pc + 3) ls (.int (zX8_mayHave μ x1 x2) :: rest))) : W p l e R s m args below meth c H locs cells slots Q (F0 m pc ls (.int x2 :: .int x1 :: .ref (mo 0) :: rest)) := by
  refine vp_callSi (W.runV (As := [.int x1, .int x2]) (rest := rest) hF (mX8_mayHave l D y mo μ x1 x2) cw ⟨fun a U g mk q => by obtain ⟨q0, q1, q2, q3, q4⟩ := q; exact ⟨q0, q1.call g mk a, q2, q3, q4⟩, va_recv hC.1 hMo (ci := 8) (q0 := 0) rfl rfl, fun U hU hW => ⟨rfl, hC.warm hW, by rw [hU]; exact hMo, r_x1, r_x2⟩⟩ rfl rfl hsz rfl (lv_room hW) hdg ⟨hf.1, hf.2⟩) (fun r hr => ?_)
  subst hr
  exact k
def zX8_way (μ : Sg) (x1 : Int32) (x2 : Int32) : Int32 := if x1 ≤ x2 then ((x2 - x1) * (μ 0 8))
  else ((x1 - x2) * (μ 0 8))
theorem iwX8_way_X8 : ∀ w ∈ wsX80, w ∈ wsX8_way := fun _ h => List.mem_cons_of_mem _ (List.mem_append_right _ h)
theorem hdX8_way : yX8_way.cls = RX8 ∧ yX8_way.cls ≠ "java/lang/invoke/MethodHandle" ∧ yX8_way.cls ≠ "java/lang/invoke/VarHandle" ∧ (parseMethodDescriptor yX8_way.desc).map (fun d => d.parameters.length) = some 2 := by decide +kernel
set_option maxHeartbeats 4000000 in
set_option maxRecDepth 100000 in
theorem mX8_way (l : Launch) (D : va_G) (y : Y3) (mo : Nat → Nat) (μ : Sg) (x1 : Int32) (x2 : Int32) : Met l yX8_way wsX8_way ({ frames := 0, cells := 0, slots := 0, locals := 0 } : Room) (va_Pc [.ref (mo 0), .int x1, .int x2] (fun U => CK D y U ∧ MoH D y mo μ U.heap)) (vp_Si (fun r => r = zX8_way μ x1 x2)) 0 0 (fun _ => False) := by
  refine Met.ofW (cc := cX8_way) (maxL := 3) (ret := (some .int)) (by decide) rfl ?_
  intro p e s m args below meth c s₁ B hml hv
  obtain ⟨rfl, hC, hMo⟩ := hv
  have hx := B.exec
  have hb := B.bytes
  have hr := B.returns
  have hts := atoms_spec (ws := wsX8_way) B.pre
  have hown : s.vm.findClass RX8 = some m.cls := findClass_of_methodNamed B.named
  have hlocks := B.notSynchronized
  have hF := (⟨hx, hb, hml, hown, hts⟩ : CallFix p m c cX8_way 3 s _ wsX8_way RX8)
  have hl := lv_entry ([.ref (mo 0), .int x1, .int x2]) (n := 3) (Nat.le_of_ble_eq_true rfl)
  rw [lg_entry_eq]
  generalize (lg_sl ([.ref (mo 0), .int x1, .int x2]) ++ List.replicate (3 - (lg_sl ([.ref (mo 0), .int x1, .int x2])).length) Slot.unset).toArray = ls at hl ⊢
  have hl : lv_has ls 3 [(0, .ref (mo 0)), (1, .int x1), (2, .int x2)] := hl
  refine lv_iload_n hx hb dX8_way_0 rfl (lv_at hl 1 rfl) ?_
  refine lv_iload_n hx hb dX8_way_1 rfl (lv_at hl 2 rfl) ?_
  refine lv_icmp_le (tgt := 11) hx hb dX8_way_2 (by decide) (fun c_1 => ?_) (fun c_1 => ?_)
  · refine lv_iload_n hx hb dX8_way_11 rfl (lv_at hl 2 rfl) ?_
    refine lv_iload_n hx hb dX8_way_12 rfl (lv_at hl 1 rfl) ?_
    refine lv_isub hx hb dX8_way_13 ?_
    refine lv_aload_n hx hb dX8_way_14 rfl (lv_at hl 0 rfl) ?_
    refine va_get (D := D) (ci := 8) (v := .ref (mo 1)) (C := RX8) (T := TX8) (N := 10) hx hb hts iwX8_way_X8 hown hC.1 hMo 0 rfl rfl 0 (by decide) (hts (.fieldLink RX8 7 "MealLockersModel" "s" "[I") (List.mem_of_getElem? (i := 1) rfl)) (fun _ h9 => h9) rfl dX8_way_15 ?_
    refine lv_bipush (v := 8) hx hb dX8_way_18 (by decide) ?_
    refine va_iald hx hb hC.1 hMo 1 0 rfl rfl (vpl (by decide)) dX8_way_20 ?_
    rw [cl_8]
    refine lv_imul hx hb dX8_way_21 ?_
    exact W.iret (v := ((x2 - x1) * (μ 0 8))) hx hb hr (fun t ht hW => ⟨((x2 - x1) * (μ 0 8)), rfl, (by unfold zX8_way; rw [if_pos c_1]), ht⟩) (fun q hq => absurd hq List.not_mem_nil) dX8_way_22
  · refine lv_iload_n hx hb dX8_way_5 rfl (lv_at hl 1 rfl) ?_
    refine lv_iload_n hx hb dX8_way_6 rfl (lv_at hl 2 rfl) ?_
    refine lv_isub hx hb dX8_way_7 ?_
    refine lv_goto (tgt := 14) hx hb dX8_way_8 (by decide) ?_
    refine lv_aload_n hx hb dX8_way_14 rfl (lv_at hl 0 rfl) ?_
    refine va_get (D := D) (ci := 8) (v := .ref (mo 1)) (C := RX8) (T := TX8) (N := 10) hx hb hts iwX8_way_X8 hown hC.1 hMo 0 rfl rfl 0 (by decide) (hts (.fieldLink RX8 7 "MealLockersModel" "s" "[I") (List.mem_of_getElem? (i := 1) rfl)) (fun _ h9 => h9) rfl dX8_way_15 ?_
    refine lv_bipush (v := 8) hx hb dX8_way_18 (by decide) ?_
    refine va_iald hx hb hC.1 hMo 1 0 rfl rfl (vpl (by decide)) dX8_way_20 ?_
    rw [cl_8]
    refine lv_imul hx hb dX8_way_21 ?_
    exact W.iret (v := ((x1 - x2) * (μ 0 8))) hx hb hr (fun t ht hW => ⟨((x1 - x2) * (μ 0 8)), rfl, (by unfold zX8_way; rw [if_neg c_1]), ht⟩) (fun q hq => absurd hq List.not_mem_nil) dX8_way_22
set_option maxHeartbeats 4000000 in
set_option maxRecDepth 100000 in
theorem kX8_way {p : Program} {l : Launch} {e : Env} {R : Room} {s : State} {m : MethodId} {args : Array Value} {below : List Frame} {meth : Method} {c : Code} {H : Heap} {locs : List Loc} {cells slots : Nat} {Q : State → Prop} {cc : ByteArray} {nL : Nat} {Ts : List Cond} {own : String} {index pc : Nat} {ls : Array Slot} {rest : List Value} {D : va_G} {y : Y3} {mo : Nat → Nat} {μ : Sg} {x1 : Int32} {x2 : Int32} (hF : CallFix p m c cc nL s args Ts own) (cw : CallW R s args own RX8 index yX8_way cX8_way 3 (some .int) wsX8_way ({ frames := 0, cells := 0, slots := 0, locals := 0 } : Room) 0 0 2) (hC : CK D y s) (hMo : MoH D y mo μ H) (hsz : ls.size = nL) (hW : (rest.map fun v => v.category).sum ≤ 8) (hdg : decode cc pc = .ok (.invokevirtual index, 3)) (hf : cells ≤ R.cells ∧ slots ≤ R.slots)
    (k : W p l e R s m args below meth c H locs cells slots Q (F0 m (pc + 3) ls (.int (zX8_way μ x1 x2) :: rest))) : W p l e R s m args below meth c H locs cells slots Q (F0 m pc ls (.int x2 :: .int x1 :: .ref (mo 0) :: rest)) := by
  refine vp_callSi (W.runV (As := [.int x1, .int x2]) (rest := rest) hF (mX8_way l D y mo μ x1 x2) cw ⟨fun a U g mk q => by obtain ⟨q0, q1, q2⟩ := q; exact ⟨q0, q1.call g mk a, q2⟩, va_recv hC.1 hMo (ci := 8) (q0 := 0) rfl rfl, fun U hU hW => ⟨rfl, hC.warm hW, by rw [hU]; exact hMo⟩⟩ rfl rfl hsz rfl (lv_room hW) hdg ⟨hf.1, hf.2⟩) (fun r hr => ?_)
  subst hr
  exact k
def zX8_personAt (μ : Sg) (x1 : Int32) : Int32 := if (zX8_ofMeal μ x1 0) = 1 then (zX8_ofMeal μ x1 5)
  else (if (zX8_ofMeal μ x1 0) = 3 then (zX8_ofMeal μ x1 5)
    else (if (zX8_ofMeal μ x1 0) = 4 then (zX8_ofMeal μ x1 5)
      else (-4)))
theorem hdX8_personAt : yX8_personAt.cls = RX8 ∧ yX8_personAt.cls ≠ "java/lang/invoke/MethodHandle" ∧ yX8_personAt.cls ≠ "java/lang/invoke/VarHandle" ∧ (parseMethodDescriptor yX8_personAt.desc).map (fun d => d.parameters.length) = some 1 := by decide +kernel
set_option maxHeartbeats 4000000 in
set_option maxRecDepth 100000 in
theorem mX8_personAt (l : Launch) (D : va_G) (y : Y3) (mo : Nat → Nat) (μ : Sg) (x1 : Int32) : Met l yX8_personAt wsX8_personAt ({ frames := 1, cells := 0, slots := 0, locals := 22 } : Room) (va_Pc [.ref (mo 0), .int x1] (fun U => CK D y U ∧ MoH D y mo μ U.heap ∧ rg x1 24)) (vp_Si (fun r => r = zX8_personAt μ x1)) 0 0 (fun _ => False) := by
  refine Met.ofW (cc := cX8_personAt) (maxL := 3) (ret := (some .int)) (by decide) rfl ?_
  intro p e s m args below meth c s₁ B hml hv
  obtain ⟨rfl, hC, hMo, r_x1⟩ := hv
  have hx := B.exec
  have hb := B.bytes
  have hr := B.returns
  have hts := atoms_spec (ws := wsX8_personAt) B.pre
  have hown : s.vm.findClass RX8 = some m.cls := findClass_of_methodNamed B.named
  have hlocks := B.notSynchronized
  have hF := (⟨hx, hb, hml, hown, hts⟩ : CallFix p m c cX8_personAt 3 s _ wsX8_personAt RX8)
  have hl := lv_entry ([.ref (mo 0), .int x1]) (n := 3) (Nat.le_of_ble_eq_true rfl)
  rw [lg_entry_eq]
  generalize (lg_sl ([.ref (mo 0), .int x1]) ++ List.replicate (3 - (lg_sl ([.ref (mo 0), .int x1])).length) Slot.unset).toArray = ls at hl ⊢
  have hl : lv_has ls 3 [(0, .ref (mo 0)), (1, .int x1)] := hl
  refine lv_aload_n hx hb dX8_personAt_0 rfl (lv_at hl 0 rfl) ?_
  refine lv_iload_n hx hb dX8_personAt_1 rfl (lv_at hl 1 rfl) ?_
  refine lv_iconst (v := 0) hx hb dX8_personAt_2 (by decide) ?_
  refine kX8_ofMeal hF (cwV 2 hts gX8_personAt_X8_ofMeal rfl rfl rfl hdX8_ofMeal ⟨Nat.le_of_ble_eq_true rfl, Nat.le_of_ble_eq_true rfl⟩) hC hMo r_x1 (by decide) hl.1 (Nat.le_of_ble_eq_true rfl) dX8_personAt_3 ⟨Nat.zero_le _, Nat.zero_le _⟩ ?_
  refine lv_istore_n (lv' := [(2, .int (zX8_ofMeal μ x1 0)), (0, .ref (mo 0)), (1, .int x1)]) hx hb dX8_personAt_6 rfl hl (by decide) rfl (fun ls hl => ?_)
  refine lv_iload_n hx hb dX8_personAt_7 rfl (lv_at hl 0 rfl) ?_
  refine lv_iconst (v := 1) hx hb dX8_personAt_8 (by decide) ?_
  refine lv_icmp_eq (tgt := 22) hx hb dX8_personAt_9 (by decide) (fun c_1 => ?_) (fun c_1 => ?_)
  · refine lv_aload_n hx hb dX8_personAt_22 rfl (lv_at hl 1 rfl) ?_
    refine lv_iload_n hx hb dX8_personAt_23 rfl (lv_at hl 2 rfl) ?_
    refine lv_iconst (v := 5) hx hb dX8_personAt_24 (by decide) ?_
    refine kX8_ofMeal hF (cwV 2 hts gX8_personAt_X8_ofMeal rfl rfl rfl hdX8_ofMeal ⟨Nat.le_of_ble_eq_true rfl, Nat.le_of_ble_eq_true rfl⟩) hC hMo r_x1 (by decide) hl.1 (Nat.le_of_ble_eq_true rfl) dX8_personAt_25 ⟨Nat.zero_le _, Nat.zero_le _⟩ ?_
    refine lv_goto (tgt := 33) hx hb dX8_personAt_28 (by decide) ?_
    exact W.iret (v := (zX8_ofMeal μ x1 5)) hx hb hr (fun t ht hW => ⟨(zX8_ofMeal μ x1 5), rfl, (by unfold zX8_personAt; rw [if_pos c_1]), ht⟩) (fun q hq => absurd hq List.not_mem_nil) dX8_personAt_33
  · refine lv_iload_n hx hb dX8_personAt_12 rfl (lv_at hl 0 rfl) ?_
    refine lv_iconst (v := 3) hx hb dX8_personAt_13 (by decide) ?_
    refine lv_icmp_eq (tgt := 22) hx hb dX8_personAt_14 (by decide) (fun c_2 => ?_) (fun c_2 => ?_)
    · refine lv_aload_n hx hb dX8_personAt_22 rfl (lv_at hl 1 rfl) ?_
      refine lv_iload_n hx hb dX8_personAt_23 rfl (lv_at hl 2 rfl) ?_
      refine lv_iconst (v := 5) hx hb dX8_personAt_24 (by decide) ?_
      refine kX8_ofMeal hF (cwV 2 hts gX8_personAt_X8_ofMeal rfl rfl rfl hdX8_ofMeal ⟨Nat.le_of_ble_eq_true rfl, Nat.le_of_ble_eq_true rfl⟩) hC hMo r_x1 (by decide) hl.1 (Nat.le_of_ble_eq_true rfl) dX8_personAt_25 ⟨Nat.zero_le _, Nat.zero_le _⟩ ?_
      refine lv_goto (tgt := 33) hx hb dX8_personAt_28 (by decide) ?_
      exact W.iret (v := (zX8_ofMeal μ x1 5)) hx hb hr (fun t ht hW => ⟨(zX8_ofMeal μ x1 5), rfl, (by unfold zX8_personAt; rw [if_neg c_1, if_pos c_2]), ht⟩) (fun q hq => absurd hq List.not_mem_nil) dX8_personAt_33
    · refine lv_iload_n hx hb dX8_personAt_17 rfl (lv_at hl 0 rfl) ?_
      refine lv_iconst (v := 4) hx hb dX8_personAt_18 (by decide) ?_
      refine lv_icmp_ne (tgt := 31) hx hb dX8_personAt_19 (by decide) (fun c_3 => ?_) (fun c_3 => ?_)
      · refine lv_bipush (v := (-4)) hx hb dX8_personAt_31 (by decide) ?_
        exact W.iret (v := (-4)) hx hb hr (fun t ht hW => ⟨(-4), rfl, (by unfold zX8_personAt; rw [if_neg c_1, if_neg c_2, if_neg c_3]), ht⟩) (fun q hq => absurd hq List.not_mem_nil) dX8_personAt_33
      · refine lv_aload_n hx hb dX8_personAt_22 rfl (lv_at hl 1 rfl) ?_
        refine lv_iload_n hx hb dX8_personAt_23 rfl (lv_at hl 2 rfl) ?_
        refine lv_iconst (v := 5) hx hb dX8_personAt_24 (by decide) ?_
        refine kX8_ofMeal hF (cwV 2 hts gX8_personAt_X8_ofMeal rfl rfl rfl hdX8_ofMeal ⟨Nat.le_of_ble_eq_true rfl, Nat.le_of_ble_eq_true rfl⟩) hC hMo r_x1 (by decide) hl.1 (Nat.le_of_ble_eq_true rfl) dX8_personAt_25 ⟨Nat.zero_le _, Nat.zero_le _⟩ ?_
        refine lv_goto (tgt := 33) hx hb dX8_personAt_28 (by decide) ?_
        exact W.iret (v := (zX8_ofMeal μ x1 5)) hx hb hr (fun t ht hW => ⟨(zX8_ofMeal μ x1 5), rfl, (by unfold zX8_personAt; rw [if_neg c_1, if_neg c_2, if_pos c_3]), ht⟩) (fun q hq => absurd hq List.not_mem_nil) dX8_personAt_33
set_option maxHeartbeats 4000000 in
set_option maxRecDepth 100000 in
theorem kX8_personAt {p : Program} {l : Launch} {e : Env} {R : Room} {s : State} {m : MethodId} {args : Array Value} {below : List Frame} {meth : Method} {c : Code} {H : Heap} {locs : List Loc} {cells slots : Nat} {Q : State → Prop} {cc : ByteArray} {nL : Nat} {Ts : List Cond} {own : String} {index pc : Nat} {ls : Array Slot} {rest : List Value} {D : va_G} {y : Y3} {mo : Nat → Nat} {μ : Sg} {x1 : Int32} (hF : CallFix p m c cc nL s args Ts own) (cw : CallW R s args own RX8 index yX8_personAt cX8_personAt 3 (some .int) wsX8_personAt ({ frames := 1, cells := 0, slots := 0, locals := 22 } : Room) 0 0 1) (hC : CK D y s) (hMo : MoH D y mo μ H) (r_x1 : rg x1 24) (hsz : ls.size = nL) (hW : (rest.map fun v => v.category).sum ≤ 8) (hdg : decode cc pc = .ok (.invokevirtual index, 3)) (hf : cells ≤ R.cells ∧ slots ≤ R.slots)
    (k : W p l e R s m args below meth c H locs cells slots Q (F0 m (pc + 3) ls (.int (zX8_personAt μ x1) :: rest))) : W p l e R s m args below meth c H locs cells slots Q (F0 m pc ls (.int x1 :: .ref (mo 0) :: rest)) := by
  refine vp_callSi (W.runV (As := [.int x1]) (rest := rest) hF (mX8_personAt l D y mo μ x1) cw ⟨fun a U g mk q => by obtain ⟨q0, q1, q2, q3⟩ := q; exact ⟨q0, q1.call g mk a, q2, q3⟩, va_recv hC.1 hMo (ci := 8) (q0 := 0) rfl rfl, fun U hU hW => ⟨rfl, hC.warm hW, by rw [hU]; exact hMo, r_x1⟩⟩ rfl rfl hsz rfl (lv_room hW) hdg ⟨hf.1, hf.2⟩) (fun r hr => ?_)
  subst hr
  exact k
def zX8_mealOf (μ : Sg) (x1 : Int32) (x2 : Int32) : Int32 := if (zX8_isMeal μ x1) = 0 then (-1)
  else (if (zX8_in x2 0 6) = 0 then (-1)
    else (if x2 = 4 then (if (zX8_ofMeal μ x1 0) = 1 then (zX8_ofMeal μ x1 4)
        else (-4))
      else (if x2 = 5 then (zX8_personAt μ x1)
        else (if x2 = 6 then (if (zX8_ofMeal μ x1 0) = 2 then (zX8_ofMeal μ x1 7)
            else (-4))
          else (zX8_ofMeal μ x1 x2)))))
theorem hdX8_mealOf : yX8_mealOf.cls = RX8 ∧ yX8_mealOf.cls ≠ "java/lang/invoke/MethodHandle" ∧ yX8_mealOf.cls ≠ "java/lang/invoke/VarHandle" ∧ (parseMethodDescriptor yX8_mealOf.desc).map (fun d => d.parameters.length) = some 2 := by decide +kernel
set_option maxHeartbeats 4000000 in
set_option maxRecDepth 100000 in
theorem mX8_mealOf (l : Launch) (D : va_G) (y : Y3) (mo : Nat → Nat) (μ : Sg) (x1 : Int32) (x2 : Int32) : Met l yX8_mealOf wsX8_mealOf ({ frames := 2, cells := 0, slots := 0, locals := 44 } : Room) (va_Pc [.ref (mo 0), .int x1, .int x2] (fun U => CK D y U ∧ MoH D y mo μ U.heap ∧ InvM μ)) (vp_Si (fun r => r = zX8_mealOf μ x1 x2)) 0 0 (fun _ => False) := by
  refine Met.ofW (cc := cX8_mealOf) (maxL := 3) (ret := (some .int)) (by decide) rfl ?_
  intro p e s m args below meth c s₁ B hml hv
  obtain ⟨rfl, hC, hMo, hInv⟩ := hv
  have hx := B.exec
  have hb := B.bytes
  have hr := B.returns
  have hts := atoms_spec (ws := wsX8_mealOf) B.pre
  have hown : s.vm.findClass RX8 = some m.cls := findClass_of_methodNamed B.named
  have hlocks := B.notSynchronized
  have hF := (⟨hx, hb, hml, hown, hts⟩ : CallFix p m c cX8_mealOf 3 s _ wsX8_mealOf RX8)
  have hl := lv_entry ([.ref (mo 0), .int x1, .int x2]) (n := 3) (Nat.le_of_ble_eq_true rfl)
  rw [lg_entry_eq]
  generalize (lg_sl ([.ref (mo 0), .int x1, .int x2]) ++ List.replicate (3 - (lg_sl ([.ref (mo 0), .int x1, .int x2])).length) Slot.unset).toArray = ls at hl ⊢
  have hl : lv_has ls 3 [(0, .ref (mo 0)), (1, .int x1), (2, .int x2)] := hl
  refine lv_aload_n hx hb dX8_mealOf_0 rfl (lv_at hl 0 rfl) ?_
  refine lv_iload_n hx hb dX8_mealOf_1 rfl (lv_at hl 1 rfl) ?_
  refine kX8_isMeal hF (cwV 1 hts gX8_mealOf_X8_isMeal rfl rfl rfl hdX8_isMeal ⟨Nat.le_of_ble_eq_true rfl, Nat.le_of_ble_eq_true rfl⟩) hC hMo  hl.1 (Nat.le_of_ble_eq_true rfl) dX8_mealOf_2 ⟨Nat.zero_le _, Nat.zero_le _⟩ ?_
  refine lv_if_eq (tgt := 18) hx hb dX8_mealOf_5 (by decide) (fun c_1 => ?_) (fun c_1 => ?_)
  · refine lv_iconst (v := (-1)) hx hb dX8_mealOf_18 (by decide) ?_
    exact W.iret (v := (-1)) hx hb hr (fun t ht hW => ⟨(-1), rfl, (by unfold zX8_mealOf; rw [if_pos c_1]), ht⟩) (fun q hq => absurd hq List.not_mem_nil) dX8_mealOf_19
  · have f_2 : rg x1 24 := rg_isM hInv c_1
    refine lv_iload_n hx hb dX8_mealOf_8 rfl (lv_at hl 2 rfl) ?_
    refine lv_iconst (v := 0) hx hb dX8_mealOf_9 (by decide) ?_
    refine lv_bipush (v := 6) hx hb dX8_mealOf_10 (by decide) ?_
    refine kX8_in hF (cwS 3 hts gX8_mealOf_X8_in rfl rfl rfl (by decide +kernel) ⟨Nat.le_of_ble_eq_true rfl, Nat.le_of_ble_eq_true rfl⟩) hC hl.1 (Nat.le_of_ble_eq_true rfl) dX8_mealOf_12 ⟨Nat.zero_le _, Nat.zero_le _⟩ ?_
    refine lv_if_ne (tgt := 20) hx hb dX8_mealOf_15 (by decide) (fun c_3 => ?_) (fun c_3 => ?_)
    · have f_4 : rg x2 7 := rg_in c_3
      refine lv_iload_n hx hb dX8_mealOf_20 rfl (lv_at hl 2 rfl) ?_
      refine (Decidable.em (x2 = 4)).elim (fun c_5 => ?_) (fun c_5 => ?_)
      · refine lv_tableIn (off := 27) (tgt := 48) hx hb dX8_mealOf_21 (by rw [c_5]; decide) (by rw [c_5]; decide) (by rw [c_5]; decide) (by decide) ?_
        refine lv_aload_n hx hb dX8_mealOf_48 rfl (lv_at hl 0 rfl) ?_
        refine lv_iload_n hx hb dX8_mealOf_49 rfl (lv_at hl 1 rfl) ?_
        refine lv_iconst (v := 0) hx hb dX8_mealOf_50 (by decide) ?_
        refine kX8_ofMeal hF (cwV 2 hts gX8_mealOf_X8_ofMeal rfl rfl rfl hdX8_ofMeal ⟨Nat.le_of_ble_eq_true rfl, Nat.le_of_ble_eq_true rfl⟩) hC hMo f_2 (by decide) hl.1 (Nat.le_of_ble_eq_true rfl) dX8_mealOf_51 ⟨Nat.zero_le _, Nat.zero_le _⟩ ?_
        refine lv_iconst (v := 1) hx hb dX8_mealOf_54 (by decide) ?_
        refine lv_icmp_ne (tgt := 67) hx hb dX8_mealOf_55 (by decide) (fun c_6 => ?_) (fun c_6 => ?_)
        · refine lv_bipush (v := (-4)) hx hb dX8_mealOf_67 (by decide) ?_
          exact W.iret (v := (-4)) hx hb hr (fun t ht hW => ⟨(-4), rfl, (by unfold zX8_mealOf; rw [if_neg c_1, if_neg c_3, if_pos c_5, if_neg c_6]), ht⟩) (fun q hq => absurd hq List.not_mem_nil) dX8_mealOf_69
        · refine lv_aload_n hx hb dX8_mealOf_58 rfl (lv_at hl 0 rfl) ?_
          refine lv_iload_n hx hb dX8_mealOf_59 rfl (lv_at hl 1 rfl) ?_
          refine lv_iconst (v := 4) hx hb dX8_mealOf_60 (by decide) ?_
          refine kX8_ofMeal hF (cwV 2 hts gX8_mealOf_X8_ofMeal rfl rfl rfl hdX8_ofMeal ⟨Nat.le_of_ble_eq_true rfl, Nat.le_of_ble_eq_true rfl⟩) hC hMo f_2 (by decide) hl.1 (Nat.le_of_ble_eq_true rfl) dX8_mealOf_61 ⟨Nat.zero_le _, Nat.zero_le _⟩ ?_
          refine lv_goto (tgt := 69) hx hb dX8_mealOf_64 (by decide) ?_
          exact W.iret (v := (zX8_ofMeal μ x1 4)) hx hb hr (fun t ht hW => ⟨(zX8_ofMeal μ x1 4), rfl, (by unfold zX8_mealOf; rw [if_neg c_1, if_neg c_3, if_pos c_5, if_pos c_6]), ht⟩) (fun q hq => absurd hq List.not_mem_nil) dX8_mealOf_69
      · refine (Decidable.em (x2 = 5)).elim (fun c_7 => ?_) (fun c_7 => ?_)
        · refine lv_tableIn (off := 49) (tgt := 70) hx hb dX8_mealOf_21 (by rw [c_7]; decide) (by rw [c_7]; decide) (by rw [c_7]; decide) (by decide) ?_
          refine lv_aload_n hx hb dX8_mealOf_70 rfl (lv_at hl 0 rfl) ?_
          refine lv_iload_n hx hb dX8_mealOf_71 rfl (lv_at hl 1 rfl) ?_
          refine kX8_personAt hF (cwV 1 hts gX8_mealOf_X8_personAt rfl rfl rfl hdX8_personAt ⟨Nat.le_of_ble_eq_true rfl, Nat.le_of_ble_eq_true rfl⟩) hC hMo f_2 hl.1 (Nat.le_of_ble_eq_true rfl) dX8_mealOf_72 ⟨Nat.zero_le _, Nat.zero_le _⟩ ?_
          exact W.iret (v := (zX8_personAt μ x1)) hx hb hr (fun t ht hW => ⟨(zX8_personAt μ x1), rfl, (by unfold zX8_mealOf; rw [if_neg c_1, if_neg c_3, if_neg c_5, if_pos c_7]), ht⟩) (fun q hq => absurd hq List.not_mem_nil) dX8_mealOf_75
        · refine (Decidable.em (x2 = 6)).elim (fun c_8 => ?_) (fun c_8 => ?_)
          · refine lv_tableIn (off := 55) (tgt := 76) hx hb dX8_mealOf_21 (by rw [c_8]; decide) (by rw [c_8]; decide) (by rw [c_8]; decide) (by decide) ?_
            refine lv_aload_n hx hb dX8_mealOf_76 rfl (lv_at hl 0 rfl) ?_
            refine lv_iload_n hx hb dX8_mealOf_77 rfl (lv_at hl 1 rfl) ?_
            refine lv_iconst (v := 0) hx hb dX8_mealOf_78 (by decide) ?_
            refine kX8_ofMeal hF (cwV 2 hts gX8_mealOf_X8_ofMeal rfl rfl rfl hdX8_ofMeal ⟨Nat.le_of_ble_eq_true rfl, Nat.le_of_ble_eq_true rfl⟩) hC hMo f_2 (by decide) hl.1 (Nat.le_of_ble_eq_true rfl) dX8_mealOf_79 ⟨Nat.zero_le _, Nat.zero_le _⟩ ?_
            refine lv_iconst (v := 2) hx hb dX8_mealOf_82 (by decide) ?_
            refine lv_icmp_ne (tgt := 96) hx hb dX8_mealOf_83 (by decide) (fun c_9 => ?_) (fun c_9 => ?_)
            · refine lv_bipush (v := (-4)) hx hb dX8_mealOf_96 (by decide) ?_
              exact W.iret (v := (-4)) hx hb hr (fun t ht hW => ⟨(-4), rfl, (by unfold zX8_mealOf; rw [if_neg c_1, if_neg c_3, if_neg c_5, if_neg c_7, if_pos c_8, if_neg c_9]), ht⟩) (fun q hq => absurd hq List.not_mem_nil) dX8_mealOf_98
            · refine lv_aload_n hx hb dX8_mealOf_86 rfl (lv_at hl 0 rfl) ?_
              refine lv_iload_n hx hb dX8_mealOf_87 rfl (lv_at hl 1 rfl) ?_
              refine lv_bipush (v := 7) hx hb dX8_mealOf_88 (by decide) ?_
              refine kX8_ofMeal hF (cwV 2 hts gX8_mealOf_X8_ofMeal rfl rfl rfl hdX8_ofMeal ⟨Nat.le_of_ble_eq_true rfl, Nat.le_of_ble_eq_true rfl⟩) hC hMo f_2 (by decide) hl.1 (Nat.le_of_ble_eq_true rfl) dX8_mealOf_90 ⟨Nat.zero_le _, Nat.zero_le _⟩ ?_
              refine lv_goto (tgt := 98) hx hb dX8_mealOf_93 (by decide) ?_
              exact W.iret (v := (zX8_ofMeal μ x1 7)) hx hb hr (fun t ht hW => ⟨(zX8_ofMeal μ x1 7), rfl, (by unfold zX8_mealOf; rw [if_neg c_1, if_neg c_3, if_neg c_5, if_neg c_7, if_pos c_8, if_pos c_9]), ht⟩) (fun q hq => absurd hq List.not_mem_nil) dX8_mealOf_98
          · refine lv_tableOut (tgt := 99) hx hb dX8_mealOf_21 (by have q0 := lv_neT (a := 4) c_5 (by decide); have q1 := lv_neT (a := 5) c_7 (by decide); have q2 := lv_neT (a := 6) c_8 (by decide); omega) (by decide) ?_
            refine lv_aload_n hx hb dX8_mealOf_99 rfl (lv_at hl 0 rfl) ?_
            refine lv_iload_n hx hb dX8_mealOf_100 rfl (lv_at hl 1 rfl) ?_
            refine lv_iload_n hx hb dX8_mealOf_101 rfl (lv_at hl 2 rfl) ?_
            refine kX8_ofMeal hF (cwV 2 hts gX8_mealOf_X8_ofMeal rfl rfl rfl hdX8_ofMeal ⟨Nat.le_of_ble_eq_true rfl, Nat.le_of_ble_eq_true rfl⟩) hC hMo f_2 ⟨f_4.1, Int.lt_of_lt_of_le f_4.2 (by decide)⟩ hl.1 (Nat.le_of_ble_eq_true rfl) dX8_mealOf_102 ⟨Nat.zero_le _, Nat.zero_le _⟩ ?_
            exact W.iret (v := (zX8_ofMeal μ x1 x2)) hx hb hr (fun t ht hW => ⟨(zX8_ofMeal μ x1 x2), rfl, (by unfold zX8_mealOf; rw [if_neg c_1, if_neg c_3, if_neg c_5, if_neg c_7, if_neg c_8]), ht⟩) (fun q hq => absurd hq List.not_mem_nil) dX8_mealOf_105
    · refine lv_iconst (v := (-1)) hx hb dX8_mealOf_18 (by decide) ?_
      exact W.iret (v := (-1)) hx hb hr (fun t ht hW => ⟨(-1), rfl, (by unfold zX8_mealOf; rw [if_neg c_1, if_pos c_3]), ht⟩) (fun q hq => absurd hq List.not_mem_nil) dX8_mealOf_19
set_option maxHeartbeats 4000000 in
set_option maxRecDepth 100000 in
theorem kX8_mealOf {p : Program} {l : Launch} {e : Env} {R : Room} {s : State} {m : MethodId} {args : Array Value} {below : List Frame} {meth : Method} {c : Code} {H : Heap} {locs : List Loc} {cells slots : Nat} {Q : State → Prop} {cc : ByteArray} {nL : Nat} {Ts : List Cond} {own : String} {index pc : Nat} {ls : Array Slot} {rest : List Value} {D : va_G} {y : Y3} {mo : Nat → Nat} {μ : Sg} {x1 : Int32} {x2 : Int32} (hF : CallFix p m c cc nL s args Ts own) (cw : CallW R s args own RX8 index yX8_mealOf cX8_mealOf 3 (some .int) wsX8_mealOf ({ frames := 2, cells := 0, slots := 0, locals := 44 } : Room) 0 0 2) (hC : CK D y s) (hMo : MoH D y mo μ H) (hInv : InvM μ) (hsz : ls.size = nL) (hW : (rest.map fun v => v.category).sum ≤ 8) (hdg : decode cc pc = .ok (.invokevirtual index, 3)) (hf : cells ≤ R.cells ∧ slots ≤ R.slots)
    (k : W p l e R s m args below meth c H locs cells slots Q (F0 m (pc + 3) ls (.int (zX8_mealOf μ x1 x2) :: rest))) : W p l e R s m args below meth c H locs cells slots Q (F0 m pc ls (.int x2 :: .int x1 :: .ref (mo 0) :: rest)) := by
  refine vp_callSi (W.runV (As := [.int x1, .int x2]) (rest := rest) hF (mX8_mealOf l D y mo μ x1 x2) cw ⟨fun a U g mk q => by obtain ⟨q0, q1, q2, q3⟩ := q; exact ⟨q0, q1.call g mk a, q2, q3⟩, va_recv hC.1 hMo (ci := 8) (q0 := 0) rfl rfl, fun U hU hW => ⟨rfl, hC.warm hW, by rw [hU]; exact hMo, hInv⟩⟩ rfl rfl hsz rfl (lv_room hW) hdg ⟨hf.1, hf.2⟩) (fun r hr => ?_)
  subst hr
  exact k
def zX8_lockerOf (μ : Sg) (x1 : Int32) (x2 : Int32) : Int32 := if (zX8_isLocker μ x1) = 0 then (-1)
  else (if (zX8_in x2 0 8) = 0 then (-1)
    else (if 2 ≤ x2 then (if x2 = 2 then (zX8_mealsOf μ x1 0)
        else (zX8_ofLocker μ x1 (x2 - 1)))
      else (zX8_ofLocker μ x1 x2)))
theorem hdX8_lockerOf : yX8_lockerOf.cls = RX8 ∧ yX8_lockerOf.cls ≠ "java/lang/invoke/MethodHandle" ∧ yX8_lockerOf.cls ≠ "java/lang/invoke/VarHandle" ∧ (parseMethodDescriptor yX8_lockerOf.desc).map (fun d => d.parameters.length) = some 2 := by decide +kernel
set_option maxHeartbeats 4000000 in
set_option maxRecDepth 100000 in
theorem mX8_lockerOf (l : Launch) (D : va_G) (y : Y3) (mo : Nat → Nat) (μ : Sg) (x1 : Int32) (x2 : Int32) : Met l yX8_lockerOf wsX8_lockerOf ({ frames := 3, cells := 0, slots := 0, locals := 69 } : Room) (va_Pc [.ref (mo 0), .int x1, .int x2] (fun U => CK D y U ∧ MoH D y mo μ U.heap ∧ InvM μ)) (vp_Si (fun r => r = zX8_lockerOf μ x1 x2)) 0 0 (fun _ => False) := by
  refine Met.ofW (cc := cX8_lockerOf) (maxL := 3) (ret := (some .int)) (by decide) rfl ?_
  intro p e s m args below meth c s₁ B hml hv
  obtain ⟨rfl, hC, hMo, hInv⟩ := hv
  have hx := B.exec
  have hb := B.bytes
  have hr := B.returns
  have hts := atoms_spec (ws := wsX8_lockerOf) B.pre
  have hown : s.vm.findClass RX8 = some m.cls := findClass_of_methodNamed B.named
  have hlocks := B.notSynchronized
  have hF := (⟨hx, hb, hml, hown, hts⟩ : CallFix p m c cX8_lockerOf 3 s _ wsX8_lockerOf RX8)
  have hl := lv_entry ([.ref (mo 0), .int x1, .int x2]) (n := 3) (Nat.le_of_ble_eq_true rfl)
  rw [lg_entry_eq]
  generalize (lg_sl ([.ref (mo 0), .int x1, .int x2]) ++ List.replicate (3 - (lg_sl ([.ref (mo 0), .int x1, .int x2])).length) Slot.unset).toArray = ls at hl ⊢
  have hl : lv_has ls 3 [(0, .ref (mo 0)), (1, .int x1), (2, .int x2)] := hl
  refine lv_aload_n hx hb dX8_lockerOf_0 rfl (lv_at hl 0 rfl) ?_
  refine lv_iload_n hx hb dX8_lockerOf_1 rfl (lv_at hl 1 rfl) ?_
  refine kX8_isLocker hF (cwV 1 hts gX8_lockerOf_X8_isLocker rfl rfl rfl hdX8_isLocker ⟨Nat.le_of_ble_eq_true rfl, Nat.le_of_ble_eq_true rfl⟩) hC hMo  hl.1 (Nat.le_of_ble_eq_true rfl) dX8_lockerOf_2 ⟨Nat.zero_le _, Nat.zero_le _⟩ ?_
  refine lv_if_eq (tgt := 18) hx hb dX8_lockerOf_5 (by decide) (fun c_1 => ?_) (fun c_1 => ?_)
  · refine lv_iconst (v := (-1)) hx hb dX8_lockerOf_18 (by decide) ?_
    exact W.iret (v := (-1)) hx hb hr (fun t ht hW => ⟨(-1), rfl, (by unfold zX8_lockerOf; rw [if_pos c_1]), ht⟩) (fun q hq => absurd hq List.not_mem_nil) dX8_lockerOf_19
  · have f_2 : rg x1 5 := rg_isL hInv c_1
    refine lv_iload_n hx hb dX8_lockerOf_8 rfl (lv_at hl 2 rfl) ?_
    refine lv_iconst (v := 0) hx hb dX8_lockerOf_9 (by decide) ?_
    refine lv_bipush (v := 8) hx hb dX8_lockerOf_10 (by decide) ?_
    refine kX8_in hF (cwS 3 hts gX8_lockerOf_X8_in rfl rfl rfl (by decide +kernel) ⟨Nat.le_of_ble_eq_true rfl, Nat.le_of_ble_eq_true rfl⟩) hC hl.1 (Nat.le_of_ble_eq_true rfl) dX8_lockerOf_12 ⟨Nat.zero_le _, Nat.zero_le _⟩ ?_
    refine lv_if_ne (tgt := 20) hx hb dX8_lockerOf_15 (by decide) (fun c_3 => ?_) (fun c_3 => ?_)
    · have f_4 : rg x2 9 := rg_in c_3
      refine lv_iload_n hx hb dX8_lockerOf_20 rfl (lv_at hl 2 rfl) ?_
      refine lv_iconst (v := 2) hx hb dX8_lockerOf_21 (by decide) ?_
      refine lv_icmp_ge (tgt := 34) hx hb dX8_lockerOf_22 (by decide) (fun c_5 => ?_) (fun c_5 => ?_)
      · have f_6 : rg (x2 - 1) 8 := rg_pred f_4 c_5
        refine lv_iload_n hx hb dX8_lockerOf_34 rfl (lv_at hl 2 rfl) ?_
        refine lv_iconst (v := 2) hx hb dX8_lockerOf_35 (by decide) ?_
        refine lv_icmp_ne (tgt := 48) hx hb dX8_lockerOf_36 (by decide) (fun c_7 => ?_) (fun c_7 => ?_)
        · refine lv_aload_n hx hb dX8_lockerOf_48 rfl (lv_at hl 0 rfl) ?_
          refine lv_iload_n hx hb dX8_lockerOf_49 rfl (lv_at hl 1 rfl) ?_
          refine lv_iload_n hx hb dX8_lockerOf_50 rfl (lv_at hl 2 rfl) ?_
          refine lv_iconst (v := 1) hx hb dX8_lockerOf_51 (by decide) ?_
          refine lv_isub hx hb dX8_lockerOf_52 ?_
          refine kX8_ofLocker hF (cwV 2 hts gX8_lockerOf_X8_ofLocker rfl rfl rfl hdX8_ofLocker ⟨Nat.le_of_ble_eq_true rfl, Nat.le_of_ble_eq_true rfl⟩) hC hMo f_2 f_6 hl.1 (Nat.le_of_ble_eq_true rfl) dX8_lockerOf_53 ⟨Nat.zero_le _, Nat.zero_le _⟩ ?_
          exact W.iret (v := (zX8_ofLocker μ x1 (x2 - 1))) hx hb hr (fun t ht hW => ⟨(zX8_ofLocker μ x1 (x2 - 1)), rfl, (by unfold zX8_lockerOf; rw [if_neg c_1, if_neg c_3, if_pos c_5, if_neg c_7]), ht⟩) (fun q hq => absurd hq List.not_mem_nil) dX8_lockerOf_56
        · refine lv_aload_n hx hb dX8_lockerOf_39 rfl (lv_at hl 0 rfl) ?_
          refine lv_iload_n hx hb dX8_lockerOf_40 rfl (lv_at hl 1 rfl) ?_
          refine lv_iconst (v := 0) hx hb dX8_lockerOf_41 (by decide) ?_
          refine kX8_mealsOf hF (cwV 2 hts gX8_lockerOf_X8_mealsOf rfl rfl rfl hdX8_mealsOf ⟨Nat.le_of_ble_eq_true rfl, Nat.le_of_ble_eq_true rfl⟩) hC hMo hInv  hl.1 (Nat.le_of_ble_eq_true rfl) dX8_lockerOf_42 ⟨Nat.zero_le _, Nat.zero_le _⟩ ?_
          refine lv_goto (tgt := 56) hx hb dX8_lockerOf_45 (by decide) ?_
          exact W.iret (v := (zX8_mealsOf μ x1 0)) hx hb hr (fun t ht hW => ⟨(zX8_mealsOf μ x1 0), rfl, (by unfold zX8_lockerOf; rw [if_neg c_1, if_neg c_3, if_pos c_5, if_pos c_7]), ht⟩) (fun q hq => absurd hq List.not_mem_nil) dX8_lockerOf_56
      · have f_8 : rg x2 8 := rg_lt2 f_4 c_5
        refine lv_aload_n hx hb dX8_lockerOf_25 rfl (lv_at hl 0 rfl) ?_
        refine lv_iload_n hx hb dX8_lockerOf_26 rfl (lv_at hl 1 rfl) ?_
        refine lv_iload_n hx hb dX8_lockerOf_27 rfl (lv_at hl 2 rfl) ?_
        refine kX8_ofLocker hF (cwV 2 hts gX8_lockerOf_X8_ofLocker rfl rfl rfl hdX8_ofLocker ⟨Nat.le_of_ble_eq_true rfl, Nat.le_of_ble_eq_true rfl⟩) hC hMo f_2 f_8 hl.1 (Nat.le_of_ble_eq_true rfl) dX8_lockerOf_28 ⟨Nat.zero_le _, Nat.zero_le _⟩ ?_
        refine lv_goto (tgt := 56) hx hb dX8_lockerOf_31 (by decide) ?_
        exact W.iret (v := (zX8_ofLocker μ x1 x2)) hx hb hr (fun t ht hW => ⟨(zX8_ofLocker μ x1 x2), rfl, (by unfold zX8_lockerOf; rw [if_neg c_1, if_neg c_3, if_neg c_5]), ht⟩) (fun q hq => absurd hq List.not_mem_nil) dX8_lockerOf_56
    · refine lv_iconst (v := (-1)) hx hb dX8_lockerOf_18 (by decide) ?_
      exact W.iret (v := (-1)) hx hb hr (fun t ht hW => ⟨(-1), rfl, (by unfold zX8_lockerOf; rw [if_neg c_1, if_pos c_3]), ht⟩) (fun q hq => absurd hq List.not_mem_nil) dX8_lockerOf_19
set_option maxHeartbeats 4000000 in
set_option maxRecDepth 100000 in
theorem kX8_lockerOf {p : Program} {l : Launch} {e : Env} {R : Room} {s : State} {m : MethodId} {args : Array Value} {below : List Frame} {meth : Method} {c : Code} {H : Heap} {locs : List Loc} {cells slots : Nat} {Q : State → Prop} {cc : ByteArray} {nL : Nat} {Ts : List Cond} {own : String} {index pc : Nat} {ls : Array Slot} {rest : List Value} {D : va_G} {y : Y3} {mo : Nat → Nat} {μ : Sg} {x1 : Int32} {x2 : Int32} (hF : CallFix p m c cc nL s args Ts own) (cw : CallW R s args own RX8 index yX8_lockerOf cX8_lockerOf 3 (some .int) wsX8_lockerOf ({ frames := 3, cells := 0, slots := 0, locals := 69 } : Room) 0 0 2) (hC : CK D y s) (hMo : MoH D y mo μ H) (hInv : InvM μ) (hsz : ls.size = nL) (hW : (rest.map fun v => v.category).sum ≤ 8) (hdg : decode cc pc = .ok (.invokevirtual index, 3)) (hf : cells ≤ R.cells ∧ slots ≤ R.slots)
    (k : W p l e R s m args below meth c H locs cells slots Q (F0 m (pc + 3) ls (.int (zX8_lockerOf μ x1 x2) :: rest))) : W p l e R s m args below meth c H locs cells slots Q (F0 m pc ls (.int x2 :: .int x1 :: .ref (mo 0) :: rest)) := by
  refine vp_callSi (W.runV (As := [.int x1, .int x2]) (rest := rest) hF (mX8_lockerOf l D y mo μ x1 x2) cw ⟨fun a U g mk q => by obtain ⟨q0, q1, q2, q3⟩ := q; exact ⟨q0, q1.call g mk a, q2, q3⟩, va_recv hC.1 hMo (ci := 8) (q0 := 0) rfl rfl, fun U hU hW => ⟨rfl, hC.warm hW, by rw [hU]; exact hMo, hInv⟩⟩ rfl rfl hsz rfl (lv_room hW) hdg ⟨hf.1, hf.2⟩) (fun r hr => ?_)
  subst hr
  exact k
def zX8_personOf (μ : Sg) (x1 : Int32) (x2 : Int32) : Int32 := if (zX8_isPerson μ x1) = 0 then (-1)
  else (if (zX8_in x2 0 5) = 0 then (-1)
    else (if x2 = 2 then (if (zX8_isBarred μ x1) = 0 then 0
        else ((zX8_ofPerson μ x1 2) - (μ 0 4)))
      else (if x2 = 3 then (if 0 ≤ (zX8_reservedBy μ x1) then (zX8_reservedBy μ x1)
          else (-4))
        else (if x2 = 4 then (zX8_ofPerson μ x1 (x2 - 1))
          else (if x2 = 5 then (zX8_ofPerson μ x1 (x2 - 1))
            else (zX8_ofPerson μ x1 x2))))))
theorem iwX8_personOf_X8 : ∀ w ∈ wsX80, w ∈ wsX8_personOf := fun _ h => List.mem_cons_of_mem _ (List.mem_append_right _ h)
theorem hdX8_personOf : yX8_personOf.cls = RX8 ∧ yX8_personOf.cls ≠ "java/lang/invoke/MethodHandle" ∧ yX8_personOf.cls ≠ "java/lang/invoke/VarHandle" ∧ (parseMethodDescriptor yX8_personOf.desc).map (fun d => d.parameters.length) = some 2 := by decide +kernel
set_option maxHeartbeats 4000000 in
set_option maxRecDepth 100000 in
theorem mX8_personOf (l : Launch) (D : va_G) (y : Y3) (mo : Nat → Nat) (μ : Sg) (x1 : Int32) (x2 : Int32) : Met l yX8_personOf wsX8_personOf ({ frames := 2, cells := 0, slots := 0, locals := 45 } : Room) (va_Pc [.ref (mo 0), .int x1, .int x2] (fun U => CK D y U ∧ MoH D y mo μ U.heap ∧ InvM μ)) (vp_Si (fun r => r = zX8_personOf μ x1 x2)) 0 0 (fun _ => False) := by
  refine Met.ofW (cc := cX8_personOf) (maxL := 4) (ret := (some .int)) (by decide) rfl ?_
  intro p e s m args below meth c s₁ B hml hv
  obtain ⟨rfl, hC, hMo, hInv⟩ := hv
  have hx := B.exec
  have hb := B.bytes
  have hr := B.returns
  have hts := atoms_spec (ws := wsX8_personOf) B.pre
  have hown : s.vm.findClass RX8 = some m.cls := findClass_of_methodNamed B.named
  have hlocks := B.notSynchronized
  have hF := (⟨hx, hb, hml, hown, hts⟩ : CallFix p m c cX8_personOf 4 s _ wsX8_personOf RX8)
  have hl := lv_entry ([.ref (mo 0), .int x1, .int x2]) (n := 4) (Nat.le_of_ble_eq_true rfl)
  rw [lg_entry_eq]
  generalize (lg_sl ([.ref (mo 0), .int x1, .int x2]) ++ List.replicate (4 - (lg_sl ([.ref (mo 0), .int x1, .int x2])).length) Slot.unset).toArray = ls at hl ⊢
  have hl : lv_has ls 4 [(0, .ref (mo 0)), (1, .int x1), (2, .int x2)] := hl
  refine lv_aload_n hx hb dX8_personOf_0 rfl (lv_at hl 0 rfl) ?_
  refine lv_iload_n hx hb dX8_personOf_1 rfl (lv_at hl 1 rfl) ?_
  refine kX8_isPerson hF (cwV 1 hts gX8_personOf_X8_isPerson rfl rfl rfl hdX8_isPerson ⟨Nat.le_of_ble_eq_true rfl, Nat.le_of_ble_eq_true rfl⟩) hC hMo  hl.1 (Nat.le_of_ble_eq_true rfl) dX8_personOf_2 ⟨Nat.zero_le _, Nat.zero_le _⟩ ?_
  refine lv_if_eq (tgt := 17) hx hb dX8_personOf_5 (by decide) (fun c_1 => ?_) (fun c_1 => ?_)
  · refine lv_iconst (v := (-1)) hx hb dX8_personOf_17 (by decide) ?_
    exact W.iret (v := (-1)) hx hb hr (fun t ht hW => ⟨(-1), rfl, (by unfold zX8_personOf; rw [if_pos c_1]), ht⟩) (fun q hq => absurd hq List.not_mem_nil) dX8_personOf_18
  · have f_2 : rg x1 8 := rg_isP hInv c_1
    refine lv_iload_n hx hb dX8_personOf_8 rfl (lv_at hl 2 rfl) ?_
    refine lv_iconst (v := 0) hx hb dX8_personOf_9 (by decide) ?_
    refine lv_iconst (v := 5) hx hb dX8_personOf_10 (by decide) ?_
    refine kX8_in hF (cwS 3 hts gX8_personOf_X8_in rfl rfl rfl (by decide +kernel) ⟨Nat.le_of_ble_eq_true rfl, Nat.le_of_ble_eq_true rfl⟩) hC hl.1 (Nat.le_of_ble_eq_true rfl) dX8_personOf_11 ⟨Nat.zero_le _, Nat.zero_le _⟩ ?_
    refine lv_if_ne (tgt := 19) hx hb dX8_personOf_14 (by decide) (fun c_3 => ?_) (fun c_3 => ?_)
    · have f_4 : rg x2 6 := rg_in c_3
      refine lv_iload_n hx hb dX8_personOf_19 rfl (lv_at hl 2 rfl) ?_
      refine (Decidable.em (x2 = 2)).elim (fun c_5 => ?_) (fun c_5 => ?_)
      · refine lv_tableIn (off := 32) (tgt := 52) hx hb dX8_personOf_20 (by rw [c_5]; decide) (by rw [c_5]; decide) (by rw [c_5]; decide) (by decide) ?_
        refine lv_aload_n hx hb dX8_personOf_52 rfl (lv_at hl 0 rfl) ?_
        refine lv_iload_n hx hb dX8_personOf_53 rfl (lv_at hl 1 rfl) ?_
        refine kX8_isBarred hF (cwV 1 hts gX8_personOf_X8_isBarred rfl rfl rfl hdX8_isBarred ⟨Nat.le_of_ble_eq_true rfl, Nat.le_of_ble_eq_true rfl⟩) hC hMo f_2 hl.1 (Nat.le_of_ble_eq_true rfl) dX8_personOf_54 ⟨Nat.zero_le _, Nat.zero_le _⟩ ?_
        refine lv_if_eq (tgt := 76) hx hb dX8_personOf_57 (by decide) (fun c_6 => ?_) (fun c_6 => ?_)
        · refine lv_iconst (v := 0) hx hb dX8_personOf_76 (by decide) ?_
          exact W.iret (v := 0) hx hb hr (fun t ht hW => ⟨0, rfl, (by unfold zX8_personOf; rw [if_neg c_1, if_neg c_3, if_pos c_5, if_pos c_6]), ht⟩) (fun q hq => absurd hq List.not_mem_nil) dX8_personOf_77
        · refine lv_aload_n hx hb dX8_personOf_60 rfl (lv_at hl 0 rfl) ?_
          refine lv_iload_n hx hb dX8_personOf_61 rfl (lv_at hl 1 rfl) ?_
          refine lv_iconst (v := 2) hx hb dX8_personOf_62 (by decide) ?_
          refine kX8_ofPerson hF (cwV 2 hts gX8_personOf_X8_ofPerson rfl rfl rfl hdX8_ofPerson ⟨Nat.le_of_ble_eq_true rfl, Nat.le_of_ble_eq_true rfl⟩) hC hMo f_2 (by decide) hl.1 (Nat.le_of_ble_eq_true rfl) dX8_personOf_63 ⟨Nat.zero_le _, Nat.zero_le _⟩ ?_
          refine lv_aload_n hx hb dX8_personOf_66 rfl (lv_at hl 0 rfl) ?_
          refine va_get (D := D) (ci := 8) (v := .ref (mo 1)) (C := RX8) (T := TX8) (N := 10) hx hb hts iwX8_personOf_X8 hown hC.1 hMo 0 rfl rfl 0 (by decide) (hts (.fieldLink RX8 7 "MealLockersModel" "s" "[I") (List.mem_of_getElem? (i := 1) rfl)) (fun _ h9 => h9) rfl dX8_personOf_67 ?_
          refine lv_iconst (v := 4) hx hb dX8_personOf_70 (by decide) ?_
          refine va_iald hx hb hC.1 hMo 1 0 rfl rfl (vpl (by decide)) dX8_personOf_71 ?_
          rw [cl_4]
          refine lv_isub hx hb dX8_personOf_72 ?_
          refine lv_goto (tgt := 77) hx hb dX8_personOf_73 (by decide) ?_
          exact W.iret (v := ((zX8_ofPerson μ x1 2) - (μ 0 4))) hx hb hr (fun t ht hW => ⟨((zX8_ofPerson μ x1 2) - (μ 0 4)), rfl, (by unfold zX8_personOf; rw [if_neg c_1, if_neg c_3, if_pos c_5, if_neg c_6]), ht⟩) (fun q hq => absurd hq List.not_mem_nil) dX8_personOf_77
      · refine (Decidable.em (x2 = 3)).elim (fun c_7 => ?_) (fun c_7 => ?_)
        · refine lv_tableIn (off := 58) (tgt := 78) hx hb dX8_personOf_20 (by rw [c_7]; decide) (by rw [c_7]; decide) (by rw [c_7]; decide) (by decide) ?_
          refine lv_aload_n hx hb dX8_personOf_78 rfl (lv_at hl 0 rfl) ?_
          refine lv_iload_n hx hb dX8_personOf_79 rfl (lv_at hl 1 rfl) ?_
          refine kX8_reservedBy hF (cwV 1 hts gX8_personOf_X8_reservedBy rfl rfl rfl hdX8_reservedBy ⟨Nat.le_of_ble_eq_true rfl, Nat.le_of_ble_eq_true rfl⟩) hC hMo hInv  hl.1 (Nat.le_of_ble_eq_true rfl) dX8_personOf_80 ⟨Nat.zero_le _, Nat.zero_le _⟩ ?_
          refine lv_istore_n (lv' := [(3, .int (zX8_reservedBy μ x1)), (0, .ref (mo 0)), (1, .int x1), (2, .int x2)]) hx hb dX8_personOf_83 rfl hl (by decide) rfl (fun ls hl => ?_)
          refine lv_iload_n hx hb dX8_personOf_84 rfl (lv_at hl 0 rfl) ?_
          refine lv_if_ge (tgt := 93) hx hb dX8_personOf_85 (by decide) (fun c_8 => ?_) (fun c_8 => ?_)
          · refine lv_iload_n hx hb dX8_personOf_93 rfl (lv_at hl 0 rfl) ?_
            exact W.iret (v := (zX8_reservedBy μ x1)) hx hb hr (fun t ht hW => ⟨(zX8_reservedBy μ x1), rfl, (by unfold zX8_personOf; rw [if_neg c_1, if_neg c_3, if_neg c_5, if_pos c_7, if_pos c_8]), ht⟩) (fun q hq => absurd hq List.not_mem_nil) dX8_personOf_94
          · refine lv_bipush (v := (-4)) hx hb dX8_personOf_88 (by decide) ?_
            refine lv_goto (tgt := 94) hx hb dX8_personOf_90 (by decide) ?_
            exact W.iret (v := (-4)) hx hb hr (fun t ht hW => ⟨(-4), rfl, (by unfold zX8_personOf; rw [if_neg c_1, if_neg c_3, if_neg c_5, if_pos c_7, if_neg c_8]), ht⟩) (fun q hq => absurd hq List.not_mem_nil) dX8_personOf_94
        · refine (Decidable.em (x2 = 4)).elim (fun c_9 => ?_) (fun c_9 => ?_)
          · refine lv_tableIn (off := 75) (tgt := 95) hx hb dX8_personOf_20 (by rw [c_9]; decide) (by rw [c_9]; decide) (by rw [c_9]; decide) (by decide) ?_
            refine lv_aload_n hx hb dX8_personOf_95 rfl (lv_at hl 0 rfl) ?_
            refine lv_iload_n hx hb dX8_personOf_96 rfl (lv_at hl 1 rfl) ?_
            refine lv_iload_n hx hb dX8_personOf_97 rfl (lv_at hl 2 rfl) ?_
            refine lv_iconst (v := 1) hx hb dX8_personOf_98 (by decide) ?_
            refine lv_isub hx hb dX8_personOf_99 ?_
            refine kX8_ofPerson hF (cwV 2 hts gX8_personOf_X8_ofPerson rfl rfl rfl hdX8_ofPerson ⟨Nat.le_of_ble_eq_true rfl, Nat.le_of_ble_eq_true rfl⟩) hC hMo f_2 (by rw [c_9]; decide) hl.1 (Nat.le_of_ble_eq_true rfl) dX8_personOf_100 ⟨Nat.zero_le _, Nat.zero_le _⟩ ?_
            exact W.iret (v := (zX8_ofPerson μ x1 (x2 - 1))) hx hb hr (fun t ht hW => ⟨(zX8_ofPerson μ x1 (x2 - 1)), rfl, (by unfold zX8_personOf; rw [if_neg c_1, if_neg c_3, if_neg c_5, if_neg c_7, if_pos c_9]), ht⟩) (fun q hq => absurd hq List.not_mem_nil) dX8_personOf_103
          · refine (Decidable.em (x2 = 5)).elim (fun c_10 => ?_) (fun c_10 => ?_)
            · refine lv_tableIn (off := 75) (tgt := 95) hx hb dX8_personOf_20 (by rw [c_10]; decide) (by rw [c_10]; decide) (by rw [c_10]; decide) (by decide) ?_
              refine lv_aload_n hx hb dX8_personOf_95 rfl (lv_at hl 0 rfl) ?_
              refine lv_iload_n hx hb dX8_personOf_96 rfl (lv_at hl 1 rfl) ?_
              refine lv_iload_n hx hb dX8_personOf_97 rfl (lv_at hl 2 rfl) ?_
              refine lv_iconst (v := 1) hx hb dX8_personOf_98 (by decide) ?_
              refine lv_isub hx hb dX8_personOf_99 ?_
              refine kX8_ofPerson hF (cwV 2 hts gX8_personOf_X8_ofPerson rfl rfl rfl hdX8_ofPerson ⟨Nat.le_of_ble_eq_true rfl, Nat.le_of_ble_eq_true rfl⟩) hC hMo f_2 (by rw [c_10]; decide) hl.1 (Nat.le_of_ble_eq_true rfl) dX8_personOf_100 ⟨Nat.zero_le _, Nat.zero_le _⟩ ?_
              exact W.iret (v := (zX8_ofPerson μ x1 (x2 - 1))) hx hb hr (fun t ht hW => ⟨(zX8_ofPerson μ x1 (x2 - 1)), rfl, (by unfold zX8_personOf; rw [if_neg c_1, if_neg c_3, if_neg c_5, if_neg c_7, if_neg c_9, if_pos c_10]), ht⟩) (fun q hq => absurd hq List.not_mem_nil) dX8_personOf_103
            · refine lv_tableOut (tgt := 104) hx hb dX8_personOf_20 (by have q0 := lv_neT (a := 2) c_5 (by decide); have q1 := lv_neT (a := 3) c_7 (by decide); have q2 := lv_neT (a := 4) c_9 (by decide); have q3 := lv_neT (a := 5) c_10 (by decide); omega) (by decide) ?_
              refine lv_aload_n hx hb dX8_personOf_104 rfl (lv_at hl 0 rfl) ?_
              refine lv_iload_n hx hb dX8_personOf_105 rfl (lv_at hl 1 rfl) ?_
              refine lv_iload_n hx hb dX8_personOf_106 rfl (lv_at hl 2 rfl) ?_
              refine kX8_ofPerson hF (cwV 2 hts gX8_personOf_X8_ofPerson rfl rfl rfl hdX8_ofPerson ⟨Nat.le_of_ble_eq_true rfl, Nat.le_of_ble_eq_true rfl⟩) hC hMo f_2 (rg_ne5 f_4 c_10) hl.1 (Nat.le_of_ble_eq_true rfl) dX8_personOf_107 ⟨Nat.zero_le _, Nat.zero_le _⟩ ?_
              exact W.iret (v := (zX8_ofPerson μ x1 x2)) hx hb hr (fun t ht hW => ⟨(zX8_ofPerson μ x1 x2), rfl, (by unfold zX8_personOf; rw [if_neg c_1, if_neg c_3, if_neg c_5, if_neg c_7, if_neg c_9, if_neg c_10]), ht⟩) (fun q hq => absurd hq List.not_mem_nil) dX8_personOf_110
    · refine lv_iconst (v := (-1)) hx hb dX8_personOf_17 (by decide) ?_
      exact W.iret (v := (-1)) hx hb hr (fun t ht hW => ⟨(-1), rfl, (by unfold zX8_personOf; rw [if_neg c_1, if_pos c_3]), ht⟩) (fun q hq => absurd hq List.not_mem_nil) dX8_personOf_18
set_option maxHeartbeats 4000000 in
set_option maxRecDepth 100000 in
theorem kX8_personOf {p : Program} {l : Launch} {e : Env} {R : Room} {s : State} {m : MethodId} {args : Array Value} {below : List Frame} {meth : Method} {c : Code} {H : Heap} {locs : List Loc} {cells slots : Nat} {Q : State → Prop} {cc : ByteArray} {nL : Nat} {Ts : List Cond} {own : String} {index pc : Nat} {ls : Array Slot} {rest : List Value} {D : va_G} {y : Y3} {mo : Nat → Nat} {μ : Sg} {x1 : Int32} {x2 : Int32} (hF : CallFix p m c cc nL s args Ts own) (cw : CallW R s args own RX8 index yX8_personOf cX8_personOf 4 (some .int) wsX8_personOf ({ frames := 2, cells := 0, slots := 0, locals := 45 } : Room) 0 0 2) (hC : CK D y s) (hMo : MoH D y mo μ H) (hInv : InvM μ) (hsz : ls.size = nL) (hW : (rest.map fun v => v.category).sum ≤ 8) (hdg : decode cc pc = .ok (.invokevirtual index, 3)) (hf : cells ≤ R.cells ∧ slots ≤ R.slots)
    (k : W p l e R s m args below meth c H locs cells slots Q (F0 m (pc + 3) ls (.int (zX8_personOf μ x1 x2) :: rest))) : W p l e R s m args below meth c H locs cells slots Q (F0 m pc ls (.int x2 :: .int x1 :: .ref (mo 0) :: rest)) := by
  refine vp_callSi (W.runV (As := [.int x1, .int x2]) (rest := rest) hF (mX8_personOf l D y mo μ x1 x2) cw ⟨fun a U g mk q => by obtain ⟨q0, q1, q2, q3⟩ := q; exact ⟨q0, q1.call g mk a, q2, q3⟩, va_recv hC.1 hMo (ci := 8) (q0 := 0) rfl rfl, fun U hU hW => ⟨rfl, hC.warm hW, by rw [hU]; exact hMo, hInv⟩⟩ rfl rfl hsz rfl (lv_room hW) hdg ⟨hf.1, hf.2⟩) (fun r hr => ?_)
  subst hr
  exact k
def zX8_volunteerOf (μ : Sg) (x1 : Int32) (x2 : Int32) : Int32 := if (zX8_isHelper μ x1) = 0 then (-1)
  else (if (zX8_in x2 0 4) = 0 then (-1)
    else (if x2 = 2 then (zX8_mealsOf μ x1 1)
      else (if x2 = 3 then (if (zX8_isUnderWay μ x1) = 0 then 0
          else ((zX8_ofHelper μ x1 2) - (μ 0 4)))
        else (if x2 = 4 then (zX8_ofHelper μ x1 3)
          else (zX8_ofHelper μ x1 x2)))))
theorem iwX8_volunteerOf_X8 : ∀ w ∈ wsX80, w ∈ wsX8_volunteerOf := fun _ h => List.mem_cons_of_mem _ (List.mem_append_right _ h)
theorem hdX8_volunteerOf : yX8_volunteerOf.cls = RX8 ∧ yX8_volunteerOf.cls ≠ "java/lang/invoke/MethodHandle" ∧ yX8_volunteerOf.cls ≠ "java/lang/invoke/VarHandle" ∧ (parseMethodDescriptor yX8_volunteerOf.desc).map (fun d => d.parameters.length) = some 2 := by decide +kernel
set_option maxHeartbeats 4000000 in
set_option maxRecDepth 100000 in
theorem mX8_volunteerOf (l : Launch) (D : va_G) (y : Y3) (mo : Nat → Nat) (μ : Sg) (x1 : Int32) (x2 : Int32) : Met l yX8_volunteerOf wsX8_volunteerOf ({ frames := 3, cells := 0, slots := 0, locals := 69 } : Room) (va_Pc [.ref (mo 0), .int x1, .int x2] (fun U => CK D y U ∧ MoH D y mo μ U.heap ∧ InvM μ)) (vp_Si (fun r => r = zX8_volunteerOf μ x1 x2)) 0 0 (fun _ => False) := by
  refine Met.ofW (cc := cX8_volunteerOf) (maxL := 3) (ret := (some .int)) (by decide) rfl ?_
  intro p e s m args below meth c s₁ B hml hv
  obtain ⟨rfl, hC, hMo, hInv⟩ := hv
  have hx := B.exec
  have hb := B.bytes
  have hr := B.returns
  have hts := atoms_spec (ws := wsX8_volunteerOf) B.pre
  have hown : s.vm.findClass RX8 = some m.cls := findClass_of_methodNamed B.named
  have hlocks := B.notSynchronized
  have hF := (⟨hx, hb, hml, hown, hts⟩ : CallFix p m c cX8_volunteerOf 3 s _ wsX8_volunteerOf RX8)
  have hl := lv_entry ([.ref (mo 0), .int x1, .int x2]) (n := 3) (Nat.le_of_ble_eq_true rfl)
  rw [lg_entry_eq]
  generalize (lg_sl ([.ref (mo 0), .int x1, .int x2]) ++ List.replicate (3 - (lg_sl ([.ref (mo 0), .int x1, .int x2])).length) Slot.unset).toArray = ls at hl ⊢
  have hl : lv_has ls 3 [(0, .ref (mo 0)), (1, .int x1), (2, .int x2)] := hl
  refine lv_aload_n hx hb dX8_volunteerOf_0 rfl (lv_at hl 0 rfl) ?_
  refine lv_iload_n hx hb dX8_volunteerOf_1 rfl (lv_at hl 1 rfl) ?_
  refine kX8_isHelper hF (cwV 1 hts gX8_volunteerOf_X8_isHelper rfl rfl rfl hdX8_isHelper ⟨Nat.le_of_ble_eq_true rfl, Nat.le_of_ble_eq_true rfl⟩) hC hMo  hl.1 (Nat.le_of_ble_eq_true rfl) dX8_volunteerOf_2 ⟨Nat.zero_le _, Nat.zero_le _⟩ ?_
  refine lv_if_eq (tgt := 17) hx hb dX8_volunteerOf_5 (by decide) (fun c_1 => ?_) (fun c_1 => ?_)
  · refine lv_iconst (v := (-1)) hx hb dX8_volunteerOf_17 (by decide) ?_
    exact W.iret (v := (-1)) hx hb hr (fun t ht hW => ⟨(-1), rfl, (by unfold zX8_volunteerOf; rw [if_pos c_1]), ht⟩) (fun q hq => absurd hq List.not_mem_nil) dX8_volunteerOf_18
  · have f_2 : rg x1 3 := rg_isH hInv c_1
    refine lv_iload_n hx hb dX8_volunteerOf_8 rfl (lv_at hl 2 rfl) ?_
    refine lv_iconst (v := 0) hx hb dX8_volunteerOf_9 (by decide) ?_
    refine lv_iconst (v := 4) hx hb dX8_volunteerOf_10 (by decide) ?_
    refine kX8_in hF (cwS 3 hts gX8_volunteerOf_X8_in rfl rfl rfl (by decide +kernel) ⟨Nat.le_of_ble_eq_true rfl, Nat.le_of_ble_eq_true rfl⟩) hC hl.1 (Nat.le_of_ble_eq_true rfl) dX8_volunteerOf_11 ⟨Nat.zero_le _, Nat.zero_le _⟩ ?_
    refine lv_if_ne (tgt := 19) hx hb dX8_volunteerOf_14 (by decide) (fun c_3 => ?_) (fun c_3 => ?_)
    · have f_4 : rg x2 5 := rg_in c_3
      refine lv_iload_n hx hb dX8_volunteerOf_19 rfl (lv_at hl 2 rfl) ?_
      refine (Decidable.em (x2 = 2)).elim (fun c_5 => ?_) (fun c_5 => ?_)
      · refine lv_tableIn (off := 28) (tgt := 48) hx hb dX8_volunteerOf_20 (by rw [c_5]; decide) (by rw [c_5]; decide) (by rw [c_5]; decide) (by decide) ?_
        refine lv_aload_n hx hb dX8_volunteerOf_48 rfl (lv_at hl 0 rfl) ?_
        refine lv_iload_n hx hb dX8_volunteerOf_49 rfl (lv_at hl 1 rfl) ?_
        refine lv_iconst (v := 1) hx hb dX8_volunteerOf_50 (by decide) ?_
        refine kX8_mealsOf hF (cwV 2 hts gX8_volunteerOf_X8_mealsOf rfl rfl rfl hdX8_mealsOf ⟨Nat.le_of_ble_eq_true rfl, Nat.le_of_ble_eq_true rfl⟩) hC hMo hInv  hl.1 (Nat.le_of_ble_eq_true rfl) dX8_volunteerOf_51 ⟨Nat.zero_le _, Nat.zero_le _⟩ ?_
        exact W.iret (v := (zX8_mealsOf μ x1 1)) hx hb hr (fun t ht hW => ⟨(zX8_mealsOf μ x1 1), rfl, (by unfold zX8_volunteerOf; rw [if_neg c_1, if_neg c_3, if_pos c_5]), ht⟩) (fun q hq => absurd hq List.not_mem_nil) dX8_volunteerOf_54
      · refine (Decidable.em (x2 = 3)).elim (fun c_6 => ?_) (fun c_6 => ?_)
        · refine lv_tableIn (off := 35) (tgt := 55) hx hb dX8_volunteerOf_20 (by rw [c_6]; decide) (by rw [c_6]; decide) (by rw [c_6]; decide) (by decide) ?_
          refine lv_aload_n hx hb dX8_volunteerOf_55 rfl (lv_at hl 0 rfl) ?_
          refine lv_iload_n hx hb dX8_volunteerOf_56 rfl (lv_at hl 1 rfl) ?_
          refine kX8_isUnderWay hF (cwV 1 hts gX8_volunteerOf_X8_isUnderWay rfl rfl rfl hdX8_isUnderWay ⟨Nat.le_of_ble_eq_true rfl, Nat.le_of_ble_eq_true rfl⟩) hC hMo f_2 hl.1 (Nat.le_of_ble_eq_true rfl) dX8_volunteerOf_57 ⟨Nat.zero_le _, Nat.zero_le _⟩ ?_
          refine lv_if_eq (tgt := 79) hx hb dX8_volunteerOf_60 (by decide) (fun c_7 => ?_) (fun c_7 => ?_)
          · refine lv_iconst (v := 0) hx hb dX8_volunteerOf_79 (by decide) ?_
            exact W.iret (v := 0) hx hb hr (fun t ht hW => ⟨0, rfl, (by unfold zX8_volunteerOf; rw [if_neg c_1, if_neg c_3, if_neg c_5, if_pos c_6, if_pos c_7]), ht⟩) (fun q hq => absurd hq List.not_mem_nil) dX8_volunteerOf_80
          · refine lv_aload_n hx hb dX8_volunteerOf_63 rfl (lv_at hl 0 rfl) ?_
            refine lv_iload_n hx hb dX8_volunteerOf_64 rfl (lv_at hl 1 rfl) ?_
            refine lv_iconst (v := 2) hx hb dX8_volunteerOf_65 (by decide) ?_
            refine kX8_ofHelper hF (cwV 2 hts gX8_volunteerOf_X8_ofHelper rfl rfl rfl hdX8_ofHelper ⟨Nat.le_of_ble_eq_true rfl, Nat.le_of_ble_eq_true rfl⟩) hC hMo f_2 (by decide) hl.1 (Nat.le_of_ble_eq_true rfl) dX8_volunteerOf_66 ⟨Nat.zero_le _, Nat.zero_le _⟩ ?_
            refine lv_aload_n hx hb dX8_volunteerOf_69 rfl (lv_at hl 0 rfl) ?_
            refine va_get (D := D) (ci := 8) (v := .ref (mo 1)) (C := RX8) (T := TX8) (N := 10) hx hb hts iwX8_volunteerOf_X8 hown hC.1 hMo 0 rfl rfl 0 (by decide) (hts (.fieldLink RX8 7 "MealLockersModel" "s" "[I") (List.mem_of_getElem? (i := 1) rfl)) (fun _ h9 => h9) rfl dX8_volunteerOf_70 ?_
            refine lv_iconst (v := 4) hx hb dX8_volunteerOf_73 (by decide) ?_
            refine va_iald hx hb hC.1 hMo 1 0 rfl rfl (vpl (by decide)) dX8_volunteerOf_74 ?_
            rw [cl_4]
            refine lv_isub hx hb dX8_volunteerOf_75 ?_
            refine lv_goto (tgt := 80) hx hb dX8_volunteerOf_76 (by decide) ?_
            exact W.iret (v := ((zX8_ofHelper μ x1 2) - (μ 0 4))) hx hb hr (fun t ht hW => ⟨((zX8_ofHelper μ x1 2) - (μ 0 4)), rfl, (by unfold zX8_volunteerOf; rw [if_neg c_1, if_neg c_3, if_neg c_5, if_pos c_6, if_neg c_7]), ht⟩) (fun q hq => absurd hq List.not_mem_nil) dX8_volunteerOf_80
        · refine (Decidable.em (x2 = 4)).elim (fun c_8 => ?_) (fun c_8 => ?_)
          · refine lv_tableIn (off := 61) (tgt := 81) hx hb dX8_volunteerOf_20 (by rw [c_8]; decide) (by rw [c_8]; decide) (by rw [c_8]; decide) (by decide) ?_
            refine lv_aload_n hx hb dX8_volunteerOf_81 rfl (lv_at hl 0 rfl) ?_
            refine lv_iload_n hx hb dX8_volunteerOf_82 rfl (lv_at hl 1 rfl) ?_
            refine lv_iconst (v := 3) hx hb dX8_volunteerOf_83 (by decide) ?_
            refine kX8_ofHelper hF (cwV 2 hts gX8_volunteerOf_X8_ofHelper rfl rfl rfl hdX8_ofHelper ⟨Nat.le_of_ble_eq_true rfl, Nat.le_of_ble_eq_true rfl⟩) hC hMo f_2 (by decide) hl.1 (Nat.le_of_ble_eq_true rfl) dX8_volunteerOf_84 ⟨Nat.zero_le _, Nat.zero_le _⟩ ?_
            exact W.iret (v := (zX8_ofHelper μ x1 3)) hx hb hr (fun t ht hW => ⟨(zX8_ofHelper μ x1 3), rfl, (by unfold zX8_volunteerOf; rw [if_neg c_1, if_neg c_3, if_neg c_5, if_neg c_6, if_pos c_8]), ht⟩) (fun q hq => absurd hq List.not_mem_nil) dX8_volunteerOf_87
          · refine lv_tableOut (tgt := 88) hx hb dX8_volunteerOf_20 (by have q0 := lv_neT (a := 2) c_5 (by decide); have q1 := lv_neT (a := 3) c_6 (by decide); have q2 := lv_neT (a := 4) c_8 (by decide); omega) (by decide) ?_
            refine lv_aload_n hx hb dX8_volunteerOf_88 rfl (lv_at hl 0 rfl) ?_
            refine lv_iload_n hx hb dX8_volunteerOf_89 rfl (lv_at hl 1 rfl) ?_
            refine lv_iload_n hx hb dX8_volunteerOf_90 rfl (lv_at hl 2 rfl) ?_
            refine kX8_ofHelper hF (cwV 2 hts gX8_volunteerOf_X8_ofHelper rfl rfl rfl hdX8_ofHelper ⟨Nat.le_of_ble_eq_true rfl, Nat.le_of_ble_eq_true rfl⟩) hC hMo f_2 f_4 hl.1 (Nat.le_of_ble_eq_true rfl) dX8_volunteerOf_91 ⟨Nat.zero_le _, Nat.zero_le _⟩ ?_
            exact W.iret (v := (zX8_ofHelper μ x1 x2)) hx hb hr (fun t ht hW => ⟨(zX8_ofHelper μ x1 x2), rfl, (by unfold zX8_volunteerOf; rw [if_neg c_1, if_neg c_3, if_neg c_5, if_neg c_6, if_neg c_8]), ht⟩) (fun q hq => absurd hq List.not_mem_nil) dX8_volunteerOf_94
    · refine lv_iconst (v := (-1)) hx hb dX8_volunteerOf_17 (by decide) ?_
      exact W.iret (v := (-1)) hx hb hr (fun t ht hW => ⟨(-1), rfl, (by unfold zX8_volunteerOf; rw [if_neg c_1, if_pos c_3]), ht⟩) (fun q hq => absurd hq List.not_mem_nil) dX8_volunteerOf_18
set_option maxHeartbeats 4000000 in
set_option maxRecDepth 100000 in
theorem kX8_volunteerOf {p : Program} {l : Launch} {e : Env} {R : Room} {s : State} {m : MethodId} {args : Array Value} {below : List Frame} {meth : Method} {c : Code} {H : Heap} {locs : List Loc} {cells slots : Nat} {Q : State → Prop} {cc : ByteArray} {nL : Nat} {Ts : List Cond} {own : String} {index pc : Nat} {ls : Array Slot} {rest : List Value} {D : va_G} {y : Y3} {mo : Nat → Nat} {μ : Sg} {x1 : Int32} {x2 : Int32} (hF : CallFix p m c cc nL s args Ts own) (cw : CallW R s args own RX8 index yX8_volunteerOf cX8_volunteerOf 3 (some .int) wsX8_volunteerOf ({ frames := 3, cells := 0, slots := 0, locals := 69 } : Room) 0 0 2) (hC : CK D y s) (hMo : MoH D y mo μ H) (hInv : InvM μ) (hsz : ls.size = nL) (hW : (rest.map fun v => v.category).sum ≤ 8) (hdg : decode cc pc = .ok (.invokevirtual index, 3)) (hf : cells ≤ R.cells ∧ slots ≤ R.slots)
    (k : W p l e R s m args below meth c H locs cells slots Q (F0 m (pc + 3) ls (.int (zX8_volunteerOf μ x1 x2) :: rest))) : W p l e R s m args below meth c H locs cells slots Q (F0 m pc ls (.int x2 :: .int x1 :: .ref (mo 0) :: rest)) := by
  refine vp_callSi (W.runV (As := [.int x1, .int x2]) (rest := rest) hF (mX8_volunteerOf l D y mo μ x1 x2) cw ⟨fun a U g mk q => by obtain ⟨q0, q1, q2, q3⟩ := q; exact ⟨q0, q1.call g mk a, q2, q3⟩, va_recv hC.1 hMo (ci := 8) (q0 := 0) rfl rfl, fun U hU hW => ⟨rfl, hC.warm hW, by rw [hU]; exact hMo, hInv⟩⟩ rfl rfl hsz rfl (lv_room hW) hdg ⟨hf.1, hf.2⟩) (fun r hr => ?_)
  subst hr
  exact k
def bX8_mealsWith (μ : Sg) (x1 : Int32) (x2 : Int32) (i : Nat) (v : Int32) : Int32 := if (zX8_in (zX8_ofMeal μ (nI i) 0) x1 x2) = 0 then (v + 0)
  else (v + 1)
def zX8_mealsWith (μ : Sg) (x1 : Int32) (x2 : Int32) : Int32 := (upTo (bX8_mealsWith μ x1 x2) 0 ((μ 0 1).toNatClampNeg))
theorem iwX8_mealsWith_X8 : ∀ w ∈ wsX80, w ∈ wsX8_mealsWith := fun _ h => List.mem_cons_of_mem _ (List.mem_append_right _ h)
theorem hdX8_mealsWith : yX8_mealsWith.cls = RX8 ∧ yX8_mealsWith.cls ≠ "java/lang/invoke/MethodHandle" ∧ yX8_mealsWith.cls ≠ "java/lang/invoke/VarHandle" ∧ (parseMethodDescriptor yX8_mealsWith.desc).map (fun d => d.parameters.length) = some 2 := by decide +kernel
set_option maxHeartbeats 4000000 in
set_option maxRecDepth 100000 in
theorem lpX8_mealsWith {p : Program} {l : Launch} {e : Env} {s : State} {m : MethodId} {args : Array Value} {below : List Frame} {meth : Method} {c : Code} {Q : State → Prop} {D : va_G} {y : Y3} {mo : Nat → Nat} {μ : Sg} {x1 : Int32} {x2 : Int32} {H : Heap} {locs : List Loc} (hx : p.tables.exec = Jvm.exec) (hb : c.code = cX8_mealsWith) (hml : c.maxLocals = 5) (hown : s.vm.findClass RX8 = some m.cls) (hts : ∀ w ∈ wsX8_mealsWith, w.before args s = true) (hC : CK D y s) (hMo : MoH D y mo μ H) (hInv : InvM μ)
    (K : ∀ ls : Array Slot, lv_has ls 5 [(4, .int (nI (μ 0 1).toNatClampNeg)), (3, .int (upTo (bX8_mealsWith μ x1 x2) 0 ((μ 0 1).toNatClampNeg))), (0, .ref (mo 0)), (1, .int x1), (2, .int x2)] → W p l e (headSpec wsX8_mealsWith ({ frames := 1, cells := 0, slots := 0, locals := 22 } : Room)).room s m args below meth c H locs 0 0 Q (F0 m 45 ls [])) :
    ∀ (j i : Nat), i + j = (μ 0 1).toNatClampNeg → ∀ ls : Array Slot, lv_has ls 5 [(4, .int (nI i)), (3, .int (upTo (bX8_mealsWith μ x1 x2) 0 i)), (0, .ref (mo 0)), (1, .int x1), (2, .int x2)] → W p l e (headSpec wsX8_mealsWith ({ frames := 1, cells := 0, slots := 0, locals := 22 } : Room)).room s m args below meth c H locs 0 0 Q (F0 m 5 ls []) := by
  have hF := (⟨hx, hb, hml, hown, hts⟩ : CallFix p m c cX8_mealsWith 5 s args wsX8_mealsWith RX8)
  have hN := clamp_lt (μ 0 1)
  intro j
  induction j with
  | zero =>
    intro i hin ls hl
    obtain rfl : i = (μ 0 1).toNatClampNeg := by omega
    refine lv_iload hx hb dX8_mealsWith_5 (lv_at hl 0 rfl) ?_
    refine lv_aload_n hx hb dX8_mealsWith_7 rfl (lv_at hl 2 rfl) ?_
    refine va_get (D := D) (ci := 8) (v := .ref (mo 1)) (C := RX8) (T := TX8) (N := 10) hx hb hts iwX8_mealsWith_X8 hown hC.1 hMo 0 rfl rfl 0 (by decide) (hts (.fieldLink RX8 7 "MealLockersModel" "s" "[I") (List.mem_of_getElem? (i := 1) rfl)) (fun _ h9 => h9) rfl dX8_mealsWith_8 ?_
    refine lv_iconst (v := 1) hx hb dX8_mealsWith_11 (by decide) ?_
    refine va_iald hx hb hC.1 hMo 1 0 rfl rfl (vpl (by decide)) dX8_mealsWith_12 ?_
    rw [cl_1]
    refine lv_icmp_ge (tgt := 45) hx hb dX8_mealsWith_13 (by decide) (fun _ => ?_) (fun c_1 => absurd (up_le _) c_1)
    exact K ls (lv_sub hl [0, 1, 2, 3, 4] rfl)
  | succ j ih =>
    intro i hin ls hl
    obtain ⟨v, hv⟩ : ∃ v, v = (upTo (bX8_mealsWith μ x1 x2) 0 i) := ⟨_, rfl⟩
    rw [← hv] at hl
    have f_2 : rg (nI i) 24 := inv_m hInv (by omega)
    refine lv_iload hx hb dX8_mealsWith_5 (lv_at hl 0 rfl) ?_
    refine lv_aload_n hx hb dX8_mealsWith_7 rfl (lv_at hl 2 rfl) ?_
    refine va_get (D := D) (ci := 8) (v := .ref (mo 1)) (C := RX8) (T := TX8) (N := 10) hx hb hts iwX8_mealsWith_X8 hown hC.1 hMo 0 rfl rfl 0 (by decide) (hts (.fieldLink RX8 7 "MealLockersModel" "s" "[I") (List.mem_of_getElem? (i := 1) rfl)) (fun _ h9 => h9) rfl dX8_mealsWith_8 ?_
    refine lv_iconst (v := 1) hx hb dX8_mealsWith_11 (by decide) ?_
    refine va_iald hx hb hC.1 hMo 1 0 rfl rfl (vpl (by decide)) dX8_mealsWith_12 ?_
    rw [cl_1]
    refine lv_icmp_ge (tgt := 45) hx hb dX8_mealsWith_13 (by decide) (fun c_3 => absurd c_3 (up_gt (by omega))) (fun _ => ?_)
    refine lv_iload_n hx hb dX8_mealsWith_16 rfl (lv_at hl 1 rfl) ?_
    refine lv_aload_n hx hb dX8_mealsWith_17 rfl (lv_at hl 2 rfl) ?_
    refine lv_iload hx hb dX8_mealsWith_18 (lv_at hl 0 rfl) ?_
    refine lv_iconst (v := 0) hx hb dX8_mealsWith_20 (by decide) ?_
    refine kX8_ofMeal hF (cwV 2 hts gX8_mealsWith_X8_ofMeal rfl rfl rfl hdX8_ofMeal ⟨Nat.le_of_ble_eq_true rfl, Nat.le_of_ble_eq_true rfl⟩) hC hMo f_2 (by decide) hl.1 (Nat.le_of_ble_eq_true rfl) dX8_mealsWith_21 ⟨Nat.zero_le _, Nat.zero_le _⟩ ?_
    refine lv_iload_n hx hb dX8_mealsWith_24 rfl (lv_at hl 3 rfl) ?_
    refine lv_iload_n hx hb dX8_mealsWith_25 rfl (lv_at hl 4 rfl) ?_
    refine kX8_in hF (cwS 3 hts gX8_mealsWith_X8_in rfl rfl rfl (by decide +kernel) ⟨Nat.le_of_ble_eq_true rfl, Nat.le_of_ble_eq_true rfl⟩) hC hl.1 (Nat.le_of_ble_eq_true rfl) dX8_mealsWith_26 ⟨Nat.zero_le _, Nat.zero_le _⟩ ?_
    refine lv_if_eq (tgt := 36) hx hb dX8_mealsWith_29 (by decide) (fun c_4 => ?_) (fun c_4 => ?_)
    · refine lv_iconst (v := 0) hx hb dX8_mealsWith_36 (by decide) ?_
      refine lv_iadd hx hb dX8_mealsWith_37 ?_
      refine lv_istore_n (lv' := [(3, .int (v + 0)), (4, .int (nI i)), (0, .ref (mo 0)), (1, .int x1), (2, .int x2)]) hx hb dX8_mealsWith_38 rfl hl (by decide) rfl (fun ls hl => ?_)
      refine lv_iinc (v := (nI (i + 1))) (lv' := [(4, .int (nI (i + 1))), (3, .int (v + 0)), (0, .ref (mo 0)), (1, .int x1), (2, .int x2)]) hx hb dX8_mealsWith_39 hl (k := 1) rfl (by rw [nI_succ]; rfl) (by decide) rfl (fun ls hl => ?_)
      refine lv_goto (tgt := 5) hx hb dX8_mealsWith_42 (by decide) ?_
      have e9 : (upTo (bX8_mealsWith μ x1 x2) 0 (i + 1)) = (v + 0) := by show bX8_mealsWith μ x1 x2 i (upTo (bX8_mealsWith μ x1 x2) 0 i) = _; rw [← hv]; unfold bX8_mealsWith; rw [if_pos c_4]
      exact ih (i + 1) (by omega) ls (by rw [e9]; exact lv_sub hl [0, 1, 2, 3, 4] rfl)
    · refine lv_iconst (v := 1) hx hb dX8_mealsWith_32 (by decide) ?_
      refine lv_goto (tgt := 37) hx hb dX8_mealsWith_33 (by decide) ?_
      refine lv_iadd hx hb dX8_mealsWith_37 ?_
      refine lv_istore_n (lv' := [(3, .int (v + 1)), (4, .int (nI i)), (0, .ref (mo 0)), (1, .int x1), (2, .int x2)]) hx hb dX8_mealsWith_38 rfl hl (by decide) rfl (fun ls hl => ?_)
      refine lv_iinc (v := (nI (i + 1))) (lv' := [(4, .int (nI (i + 1))), (3, .int (v + 1)), (0, .ref (mo 0)), (1, .int x1), (2, .int x2)]) hx hb dX8_mealsWith_39 hl (k := 1) rfl (by rw [nI_succ]; rfl) (by decide) rfl (fun ls hl => ?_)
      refine lv_goto (tgt := 5) hx hb dX8_mealsWith_42 (by decide) ?_
      have e9 : (upTo (bX8_mealsWith μ x1 x2) 0 (i + 1)) = (v + 1) := by show bX8_mealsWith μ x1 x2 i (upTo (bX8_mealsWith μ x1 x2) 0 i) = _; rw [← hv]; unfold bX8_mealsWith; rw [if_neg c_4]
      exact ih (i + 1) (by omega) ls (by rw [e9]; exact lv_sub hl [0, 1, 2, 3, 4] rfl)
set_option maxHeartbeats 4000000 in
set_option maxRecDepth 100000 in
theorem mX8_mealsWith (l : Launch) (D : va_G) (y : Y3) (mo : Nat → Nat) (μ : Sg) (x1 : Int32) (x2 : Int32) : Met l yX8_mealsWith wsX8_mealsWith ({ frames := 1, cells := 0, slots := 0, locals := 22 } : Room) (va_Pc [.ref (mo 0), .int x1, .int x2] (fun U => CK D y U ∧ MoH D y mo μ U.heap ∧ InvM μ)) (vp_Si (fun r => r = zX8_mealsWith μ x1 x2)) 0 0 (fun _ => False) := by
  refine Met.ofW (cc := cX8_mealsWith) (maxL := 5) (ret := (some .int)) (by decide) rfl ?_
  intro p e s m args below meth c s₁ B hml hv
  obtain ⟨rfl, hC, hMo, hInv⟩ := hv
  have hx := B.exec
  have hb := B.bytes
  have hr := B.returns
  have hts := atoms_spec (ws := wsX8_mealsWith) B.pre
  have hown : s.vm.findClass RX8 = some m.cls := findClass_of_methodNamed B.named
  have hlocks := B.notSynchronized
  have hF := (⟨hx, hb, hml, hown, hts⟩ : CallFix p m c cX8_mealsWith 5 s _ wsX8_mealsWith RX8)
  have hl := lv_entry ([.ref (mo 0), .int x1, .int x2]) (n := 5) (Nat.le_of_ble_eq_true rfl)
  rw [lg_entry_eq]
  generalize (lg_sl ([.ref (mo 0), .int x1, .int x2]) ++ List.replicate (5 - (lg_sl ([.ref (mo 0), .int x1, .int x2])).length) Slot.unset).toArray = ls at hl ⊢
  have hl : lv_has ls 5 [(0, .ref (mo 0)), (1, .int x1), (2, .int x2)] := hl
  refine lv_iconst (v := 0) hx hb dX8_mealsWith_0 (by decide) ?_
  refine lv_istore_n (lv' := [(3, .int 0), (0, .ref (mo 0)), (1, .int x1), (2, .int x2)]) hx hb dX8_mealsWith_1 rfl hl (by decide) rfl (fun ls hl => ?_)
  refine lv_iconst (v := 0) hx hb dX8_mealsWith_2 (by decide) ?_
  refine lv_istore (lv' := [(4, .int 0), (3, .int 0), (0, .ref (mo 0)), (1, .int x1), (2, .int x2)]) hx hb dX8_mealsWith_3 hl (by decide) rfl (fun ls hl => ?_)
  refine lpX8_mealsWith hx hb hml hown hts hC hMo hInv (fun ls hl => ?_) _ 0 (Nat.zero_add _) ls (lv_sub hl [0, 1, 2, 3, 4] rfl)
  refine lv_iload_n hx hb dX8_mealsWith_45 rfl (lv_at hl 1 rfl) ?_
  exact W.iret (v := (upTo (bX8_mealsWith μ x1 x2) 0 ((μ 0 1).toNatClampNeg))) hx hb hr (fun t ht hW => ⟨(upTo (bX8_mealsWith μ x1 x2) 0 ((μ 0 1).toNatClampNeg)), rfl, rfl, ht⟩) (fun q hq => absurd hq List.not_mem_nil) dX8_mealsWith_46
set_option maxHeartbeats 4000000 in
set_option maxRecDepth 100000 in
theorem kX8_mealsWith {p : Program} {l : Launch} {e : Env} {R : Room} {s : State} {m : MethodId} {args : Array Value} {below : List Frame} {meth : Method} {c : Code} {H : Heap} {locs : List Loc} {cells slots : Nat} {Q : State → Prop} {cc : ByteArray} {nL : Nat} {Ts : List Cond} {own : String} {index pc : Nat} {ls : Array Slot} {rest : List Value} {D : va_G} {y : Y3} {mo : Nat → Nat} {μ : Sg} {x1 : Int32} {x2 : Int32} (hF : CallFix p m c cc nL s args Ts own) (cw : CallW R s args own RX8 index yX8_mealsWith cX8_mealsWith 5 (some .int) wsX8_mealsWith ({ frames := 1, cells := 0, slots := 0, locals := 22 } : Room) 0 0 2) (hC : CK D y s) (hMo : MoH D y mo μ H) (hInv : InvM μ) (hsz : ls.size = nL) (hW : (rest.map fun v => v.category).sum ≤ 8) (hdg : decode cc pc = .ok (.invokevirtual index, 3)) (hf : cells ≤ R.cells ∧ slots ≤ R.slots)
    (k : W p l e R s m args below meth c H locs cells slots Q (F0 m (pc + 3) ls (.int (zX8_mealsWith μ x1 x2) :: rest))) : W p l e R s m args below meth c H locs cells slots Q (F0 m pc ls (.int x2 :: .int x1 :: .ref (mo 0) :: rest)) := by
  refine vp_callSi (W.runV (As := [.int x1, .int x2]) (rest := rest) hF (mX8_mealsWith l D y mo μ x1 x2) cw ⟨fun a U g mk q => by obtain ⟨q0, q1, q2, q3⟩ := q; exact ⟨q0, q1.call g mk a, q2, q3⟩, va_recv hC.1 hMo (ci := 8) (q0 := 0) rfl rfl, fun U hU hW => ⟨rfl, hC.warm hW, by rw [hU]; exact hMo, hInv⟩⟩ rfl rfl hsz rfl (lv_room hW) hdg ⟨hf.1, hf.2⟩) (fun r hr => ?_)
  subst hr
  exact k
def zX8_count (μ : Sg) (x1 : Int32) : Int32 := if x1 = 0 then (μ 0 x1.toNatClampNeg)
  else (if x1 = 1 then (μ 0 x1.toNatClampNeg)
    else (if x1 = 2 then (μ 0 x1.toNatClampNeg)
      else (if x1 = 3 then (μ 0 x1.toNatClampNeg)
        else (if x1 = 4 then (μ 0 x1.toNatClampNeg)
          else (if x1 = 5 then (zX8_mealsWith μ 0 1)
            else (if x1 = 6 then (zX8_mealsWith μ 2 2)
              else (if x1 = 7 then (μ 0 ((9 + x1) - 7).toNatClampNeg)
                else (if x1 = 8 then (μ 0 ((9 + x1) - 7).toNatClampNeg)
                  else (if x1 = 9 then (μ 0 ((9 + x1) - 7).toNatClampNeg)
                    else (if x1 = 10 then (zX8_mealsWith μ 1 1)
                      else (if x1 = 11 then (μ 4 0)
                        else (if x1 = 12 then (μ 4 1)
                          else (if (zX8_in x1 13 16) = 0 then (-1)
                            else (μ 0 ((5 + x1) - 13).toNatClampNeg))))))))))))))
theorem iwX8_count_X8 : ∀ w ∈ wsX80, w ∈ wsX8_count := fun _ h => List.mem_cons_of_mem _ (List.mem_append_right _ h)
theorem hdX8_count : yX8_count.cls = RX8 ∧ yX8_count.cls ≠ "java/lang/invoke/MethodHandle" ∧ yX8_count.cls ≠ "java/lang/invoke/VarHandle" ∧ (parseMethodDescriptor yX8_count.desc).map (fun d => d.parameters.length) = some 1 := by decide +kernel
set_option maxHeartbeats 4000000 in
set_option maxRecDepth 100000 in
theorem mX8_count (l : Launch) (D : va_G) (y : Y3) (mo : Nat → Nat) (μ : Sg) (x1 : Int32) : Met l yX8_count wsX8_count ({ frames := 2, cells := 0, slots := 0, locals := 46 } : Room) (va_Pc [.ref (mo 0), .int x1] (fun U => CK D y U ∧ MoH D y mo μ U.heap ∧ InvM μ)) (vp_Si (fun r => r = zX8_count μ x1)) 0 0 (fun _ => False) := by
  refine Met.ofW (cc := cX8_count) (maxL := 2) (ret := (some .int)) (by decide) rfl ?_
  intro p e s m args below meth c s₁ B hml hv
  obtain ⟨rfl, hC, hMo, hInv⟩ := hv
  have hx := B.exec
  have hb := B.bytes
  have hr := B.returns
  have hts := atoms_spec (ws := wsX8_count) B.pre
  have hown : s.vm.findClass RX8 = some m.cls := findClass_of_methodNamed B.named
  have hlocks := B.notSynchronized
  have hF := (⟨hx, hb, hml, hown, hts⟩ : CallFix p m c cX8_count 2 s _ wsX8_count RX8)
  have hl := lv_entry ([.ref (mo 0), .int x1]) (n := 2) (Nat.le_of_ble_eq_true rfl)
  rw [lg_entry_eq]
  generalize (lg_sl ([.ref (mo 0), .int x1]) ++ List.replicate (2 - (lg_sl ([.ref (mo 0), .int x1])).length) Slot.unset).toArray = ls at hl ⊢
  have hl : lv_has ls 2 [(0, .ref (mo 0)), (1, .int x1)] := hl
  refine lv_iload_n hx hb dX8_count_0 rfl (lv_at hl 1 rfl) ?_
  refine (Decidable.em (x1 = 0)).elim (fun c_1 => ?_) (fun c_1 => ?_)
  · refine lv_tableIn (off := 67) (tgt := 68) hx hb dX8_count_1 (by rw [c_1]; decide) (by rw [c_1]; decide) (by rw [c_1]; decide) (by decide) ?_
    refine lv_aload_n hx hb dX8_count_68 rfl (lv_at hl 0 rfl) ?_
    refine va_get (D := D) (ci := 8) (v := .ref (mo 1)) (C := RX8) (T := TX8) (N := 10) hx hb hts iwX8_count_X8 hown hC.1 hMo 0 rfl rfl 0 (by decide) (hts (.fieldLink RX8 7 "MealLockersModel" "s" "[I") (List.mem_of_getElem? (i := 1) rfl)) (fun _ h9 => h9) rfl dX8_count_69 ?_
    refine lv_iload_n hx hb dX8_count_72 rfl (lv_at hl 1 rfl) ?_
    refine va_iald hx hb hC.1 hMo 1 0 rfl rfl (by rw [c_1]; exact vpl (by decide)) dX8_count_73 ?_
    exact W.iret (v := (μ 0 x1.toNatClampNeg)) hx hb hr (fun t ht hW => ⟨(μ 0 x1.toNatClampNeg), rfl, (by unfold zX8_count; rw [if_pos c_1]), ht⟩) (fun q hq => absurd hq List.not_mem_nil) dX8_count_74
  · refine (Decidable.em (x1 = 1)).elim (fun c_2 => ?_) (fun c_2 => ?_)
    · refine lv_tableIn (off := 67) (tgt := 68) hx hb dX8_count_1 (by rw [c_2]; decide) (by rw [c_2]; decide) (by rw [c_2]; decide) (by decide) ?_
      refine lv_aload_n hx hb dX8_count_68 rfl (lv_at hl 0 rfl) ?_
      refine va_get (D := D) (ci := 8) (v := .ref (mo 1)) (C := RX8) (T := TX8) (N := 10) hx hb hts iwX8_count_X8 hown hC.1 hMo 0 rfl rfl 0 (by decide) (hts (.fieldLink RX8 7 "MealLockersModel" "s" "[I") (List.mem_of_getElem? (i := 1) rfl)) (fun _ h9 => h9) rfl dX8_count_69 ?_
      refine lv_iload_n hx hb dX8_count_72 rfl (lv_at hl 1 rfl) ?_
      refine va_iald hx hb hC.1 hMo 1 0 rfl rfl (by rw [c_2]; exact vpl (by decide)) dX8_count_73 ?_
      exact W.iret (v := (μ 0 x1.toNatClampNeg)) hx hb hr (fun t ht hW => ⟨(μ 0 x1.toNatClampNeg), rfl, (by unfold zX8_count; rw [if_neg c_1, if_pos c_2]), ht⟩) (fun q hq => absurd hq List.not_mem_nil) dX8_count_74
    · refine (Decidable.em (x1 = 2)).elim (fun c_3 => ?_) (fun c_3 => ?_)
      · refine lv_tableIn (off := 67) (tgt := 68) hx hb dX8_count_1 (by rw [c_3]; decide) (by rw [c_3]; decide) (by rw [c_3]; decide) (by decide) ?_
        refine lv_aload_n hx hb dX8_count_68 rfl (lv_at hl 0 rfl) ?_
        refine va_get (D := D) (ci := 8) (v := .ref (mo 1)) (C := RX8) (T := TX8) (N := 10) hx hb hts iwX8_count_X8 hown hC.1 hMo 0 rfl rfl 0 (by decide) (hts (.fieldLink RX8 7 "MealLockersModel" "s" "[I") (List.mem_of_getElem? (i := 1) rfl)) (fun _ h9 => h9) rfl dX8_count_69 ?_
        refine lv_iload_n hx hb dX8_count_72 rfl (lv_at hl 1 rfl) ?_
        refine va_iald hx hb hC.1 hMo 1 0 rfl rfl (by rw [c_3]; exact vpl (by decide)) dX8_count_73 ?_
        exact W.iret (v := (μ 0 x1.toNatClampNeg)) hx hb hr (fun t ht hW => ⟨(μ 0 x1.toNatClampNeg), rfl, (by unfold zX8_count; rw [if_neg c_1, if_neg c_2, if_pos c_3]), ht⟩) (fun q hq => absurd hq List.not_mem_nil) dX8_count_74
      · refine (Decidable.em (x1 = 3)).elim (fun c_4 => ?_) (fun c_4 => ?_)
        · refine lv_tableIn (off := 67) (tgt := 68) hx hb dX8_count_1 (by rw [c_4]; decide) (by rw [c_4]; decide) (by rw [c_4]; decide) (by decide) ?_
          refine lv_aload_n hx hb dX8_count_68 rfl (lv_at hl 0 rfl) ?_
          refine va_get (D := D) (ci := 8) (v := .ref (mo 1)) (C := RX8) (T := TX8) (N := 10) hx hb hts iwX8_count_X8 hown hC.1 hMo 0 rfl rfl 0 (by decide) (hts (.fieldLink RX8 7 "MealLockersModel" "s" "[I") (List.mem_of_getElem? (i := 1) rfl)) (fun _ h9 => h9) rfl dX8_count_69 ?_
          refine lv_iload_n hx hb dX8_count_72 rfl (lv_at hl 1 rfl) ?_
          refine va_iald hx hb hC.1 hMo 1 0 rfl rfl (by rw [c_4]; exact vpl (by decide)) dX8_count_73 ?_
          exact W.iret (v := (μ 0 x1.toNatClampNeg)) hx hb hr (fun t ht hW => ⟨(μ 0 x1.toNatClampNeg), rfl, (by unfold zX8_count; rw [if_neg c_1, if_neg c_2, if_neg c_3, if_pos c_4]), ht⟩) (fun q hq => absurd hq List.not_mem_nil) dX8_count_74
        · refine (Decidable.em (x1 = 4)).elim (fun c_5 => ?_) (fun c_5 => ?_)
          · refine lv_tableIn (off := 67) (tgt := 68) hx hb dX8_count_1 (by rw [c_5]; decide) (by rw [c_5]; decide) (by rw [c_5]; decide) (by decide) ?_
            refine lv_aload_n hx hb dX8_count_68 rfl (lv_at hl 0 rfl) ?_
            refine va_get (D := D) (ci := 8) (v := .ref (mo 1)) (C := RX8) (T := TX8) (N := 10) hx hb hts iwX8_count_X8 hown hC.1 hMo 0 rfl rfl 0 (by decide) (hts (.fieldLink RX8 7 "MealLockersModel" "s" "[I") (List.mem_of_getElem? (i := 1) rfl)) (fun _ h9 => h9) rfl dX8_count_69 ?_
            refine lv_iload_n hx hb dX8_count_72 rfl (lv_at hl 1 rfl) ?_
            refine va_iald hx hb hC.1 hMo 1 0 rfl rfl (by rw [c_5]; exact vpl (by decide)) dX8_count_73 ?_
            exact W.iret (v := (μ 0 x1.toNatClampNeg)) hx hb hr (fun t ht hW => ⟨(μ 0 x1.toNatClampNeg), rfl, (by unfold zX8_count; rw [if_neg c_1, if_neg c_2, if_neg c_3, if_neg c_4, if_pos c_5]), ht⟩) (fun q hq => absurd hq List.not_mem_nil) dX8_count_74
          · refine (Decidable.em (x1 = 5)).elim (fun c_6 => ?_) (fun c_6 => ?_)
            · refine lv_tableIn (off := 74) (tgt := 75) hx hb dX8_count_1 (by rw [c_6]; decide) (by rw [c_6]; decide) (by rw [c_6]; decide) (by decide) ?_
              refine lv_aload_n hx hb dX8_count_75 rfl (lv_at hl 0 rfl) ?_
              refine lv_iconst (v := 0) hx hb dX8_count_76 (by decide) ?_
              refine lv_iconst (v := 1) hx hb dX8_count_77 (by decide) ?_
              refine kX8_mealsWith hF (cwV 2 hts gX8_count_X8_mealsWith rfl rfl rfl hdX8_mealsWith ⟨Nat.le_of_ble_eq_true rfl, Nat.le_of_ble_eq_true rfl⟩) hC hMo hInv  hl.1 (Nat.le_of_ble_eq_true rfl) dX8_count_78 ⟨Nat.zero_le _, Nat.zero_le _⟩ ?_
              exact W.iret (v := (zX8_mealsWith μ 0 1)) hx hb hr (fun t ht hW => ⟨(zX8_mealsWith μ 0 1), rfl, (by unfold zX8_count; rw [if_neg c_1, if_neg c_2, if_neg c_3, if_neg c_4, if_neg c_5, if_pos c_6]), ht⟩) (fun q hq => absurd hq List.not_mem_nil) dX8_count_81
            · refine (Decidable.em (x1 = 6)).elim (fun c_7 => ?_) (fun c_7 => ?_)
              · refine lv_tableIn (off := 81) (tgt := 82) hx hb dX8_count_1 (by rw [c_7]; decide) (by rw [c_7]; decide) (by rw [c_7]; decide) (by decide) ?_
                refine lv_aload_n hx hb dX8_count_82 rfl (lv_at hl 0 rfl) ?_
                refine lv_iconst (v := 2) hx hb dX8_count_83 (by decide) ?_
                refine lv_iconst (v := 2) hx hb dX8_count_84 (by decide) ?_
                refine kX8_mealsWith hF (cwV 2 hts gX8_count_X8_mealsWith rfl rfl rfl hdX8_mealsWith ⟨Nat.le_of_ble_eq_true rfl, Nat.le_of_ble_eq_true rfl⟩) hC hMo hInv  hl.1 (Nat.le_of_ble_eq_true rfl) dX8_count_85 ⟨Nat.zero_le _, Nat.zero_le _⟩ ?_
                exact W.iret (v := (zX8_mealsWith μ 2 2)) hx hb hr (fun t ht hW => ⟨(zX8_mealsWith μ 2 2), rfl, (by unfold zX8_count; rw [if_neg c_1, if_neg c_2, if_neg c_3, if_neg c_4, if_neg c_5, if_neg c_6, if_pos c_7]), ht⟩) (fun q hq => absurd hq List.not_mem_nil) dX8_count_88
              · refine (Decidable.em (x1 = 7)).elim (fun c_8 => ?_) (fun c_8 => ?_)
                · refine lv_tableIn (off := 88) (tgt := 89) hx hb dX8_count_1 (by rw [c_8]; decide) (by rw [c_8]; decide) (by rw [c_8]; decide) (by decide) ?_
                  refine lv_aload_n hx hb dX8_count_89 rfl (lv_at hl 0 rfl) ?_
                  refine va_get (D := D) (ci := 8) (v := .ref (mo 1)) (C := RX8) (T := TX8) (N := 10) hx hb hts iwX8_count_X8 hown hC.1 hMo 0 rfl rfl 0 (by decide) (hts (.fieldLink RX8 7 "MealLockersModel" "s" "[I") (List.mem_of_getElem? (i := 1) rfl)) (fun _ h9 => h9) rfl dX8_count_90 ?_
                  refine lv_bipush (v := 9) hx hb dX8_count_93 (by decide) ?_
                  refine lv_iload_n hx hb dX8_count_95 rfl (lv_at hl 1 rfl) ?_
                  refine lv_iadd hx hb dX8_count_96 ?_
                  refine lv_bipush (v := 7) hx hb dX8_count_97 (by decide) ?_
                  refine lv_isub hx hb dX8_count_99 ?_
                  refine va_iald hx hb hC.1 hMo 1 0 rfl rfl (by rw [c_8]; exact vpl (by decide)) dX8_count_100 ?_
                  exact W.iret (v := (μ 0 ((9 + x1) - 7).toNatClampNeg)) hx hb hr (fun t ht hW => ⟨(μ 0 ((9 + x1) - 7).toNatClampNeg), rfl, (by unfold zX8_count; rw [if_neg c_1, if_neg c_2, if_neg c_3, if_neg c_4, if_neg c_5, if_neg c_6, if_neg c_7, if_pos c_8]), ht⟩) (fun q hq => absurd hq List.not_mem_nil) dX8_count_101
                · refine (Decidable.em (x1 = 8)).elim (fun c_9 => ?_) (fun c_9 => ?_)
                  · refine lv_tableIn (off := 88) (tgt := 89) hx hb dX8_count_1 (by rw [c_9]; decide) (by rw [c_9]; decide) (by rw [c_9]; decide) (by decide) ?_
                    refine lv_aload_n hx hb dX8_count_89 rfl (lv_at hl 0 rfl) ?_
                    refine va_get (D := D) (ci := 8) (v := .ref (mo 1)) (C := RX8) (T := TX8) (N := 10) hx hb hts iwX8_count_X8 hown hC.1 hMo 0 rfl rfl 0 (by decide) (hts (.fieldLink RX8 7 "MealLockersModel" "s" "[I") (List.mem_of_getElem? (i := 1) rfl)) (fun _ h9 => h9) rfl dX8_count_90 ?_
                    refine lv_bipush (v := 9) hx hb dX8_count_93 (by decide) ?_
                    refine lv_iload_n hx hb dX8_count_95 rfl (lv_at hl 1 rfl) ?_
                    refine lv_iadd hx hb dX8_count_96 ?_
                    refine lv_bipush (v := 7) hx hb dX8_count_97 (by decide) ?_
                    refine lv_isub hx hb dX8_count_99 ?_
                    refine va_iald hx hb hC.1 hMo 1 0 rfl rfl (by rw [c_9]; exact vpl (by decide)) dX8_count_100 ?_
                    exact W.iret (v := (μ 0 ((9 + x1) - 7).toNatClampNeg)) hx hb hr (fun t ht hW => ⟨(μ 0 ((9 + x1) - 7).toNatClampNeg), rfl, (by unfold zX8_count; rw [if_neg c_1, if_neg c_2, if_neg c_3, if_neg c_4, if_neg c_5, if_neg c_6, if_neg c_7, if_neg c_8, if_pos c_9]), ht⟩) (fun q hq => absurd hq List.not_mem_nil) dX8_count_101
                  · refine (Decidable.em (x1 = 9)).elim (fun c_10 => ?_) (fun c_10 => ?_)
                    · refine lv_tableIn (off := 88) (tgt := 89) hx hb dX8_count_1 (by rw [c_10]; decide) (by rw [c_10]; decide) (by rw [c_10]; decide) (by decide) ?_
                      refine lv_aload_n hx hb dX8_count_89 rfl (lv_at hl 0 rfl) ?_
                      refine va_get (D := D) (ci := 8) (v := .ref (mo 1)) (C := RX8) (T := TX8) (N := 10) hx hb hts iwX8_count_X8 hown hC.1 hMo 0 rfl rfl 0 (by decide) (hts (.fieldLink RX8 7 "MealLockersModel" "s" "[I") (List.mem_of_getElem? (i := 1) rfl)) (fun _ h9 => h9) rfl dX8_count_90 ?_
                      refine lv_bipush (v := 9) hx hb dX8_count_93 (by decide) ?_
                      refine lv_iload_n hx hb dX8_count_95 rfl (lv_at hl 1 rfl) ?_
                      refine lv_iadd hx hb dX8_count_96 ?_
                      refine lv_bipush (v := 7) hx hb dX8_count_97 (by decide) ?_
                      refine lv_isub hx hb dX8_count_99 ?_
                      refine va_iald hx hb hC.1 hMo 1 0 rfl rfl (by rw [c_10]; exact vpl (by decide)) dX8_count_100 ?_
                      exact W.iret (v := (μ 0 ((9 + x1) - 7).toNatClampNeg)) hx hb hr (fun t ht hW => ⟨(μ 0 ((9 + x1) - 7).toNatClampNeg), rfl, (by unfold zX8_count; rw [if_neg c_1, if_neg c_2, if_neg c_3, if_neg c_4, if_neg c_5, if_neg c_6, if_neg c_7, if_neg c_8, if_neg c_9, if_pos c_10]), ht⟩) (fun q hq => absurd hq List.not_mem_nil) dX8_count_101
                    · refine (Decidable.em (x1 = 10)).elim (fun c_11 => ?_) (fun c_11 => ?_)
                      · refine lv_tableIn (off := 101) (tgt := 102) hx hb dX8_count_1 (by rw [c_11]; decide) (by rw [c_11]; decide) (by rw [c_11]; decide) (by decide) ?_
                        refine lv_aload_n hx hb dX8_count_102 rfl (lv_at hl 0 rfl) ?_
                        refine lv_iconst (v := 1) hx hb dX8_count_103 (by decide) ?_
                        refine lv_iconst (v := 1) hx hb dX8_count_104 (by decide) ?_
                        refine kX8_mealsWith hF (cwV 2 hts gX8_count_X8_mealsWith rfl rfl rfl hdX8_mealsWith ⟨Nat.le_of_ble_eq_true rfl, Nat.le_of_ble_eq_true rfl⟩) hC hMo hInv  hl.1 (Nat.le_of_ble_eq_true rfl) dX8_count_105 ⟨Nat.zero_le _, Nat.zero_le _⟩ ?_
                        exact W.iret (v := (zX8_mealsWith μ 1 1)) hx hb hr (fun t ht hW => ⟨(zX8_mealsWith μ 1 1), rfl, (by unfold zX8_count; rw [if_neg c_1, if_neg c_2, if_neg c_3, if_neg c_4, if_neg c_5, if_neg c_6, if_neg c_7, if_neg c_8, if_neg c_9, if_neg c_10, if_pos c_11]), ht⟩) (fun q hq => absurd hq List.not_mem_nil) dX8_count_108
                      · refine (Decidable.em (x1 = 11)).elim (fun c_12 => ?_) (fun c_12 => ?_)
                        · refine lv_tableIn (off := 108) (tgt := 109) hx hb dX8_count_1 (by rw [c_12]; decide) (by rw [c_12]; decide) (by rw [c_12]; decide) (by decide) ?_
                          refine lv_aload_n hx hb dX8_count_109 rfl (lv_at hl 0 rfl) ?_
                          refine va_get (D := D) (ci := 8) (v := .int (μ 4 0)) (C := RX8) (T := TX8) (N := 10) hx hb hts iwX8_count_X8 hown hC.1 hMo 0 rfl rfl 3 (by decide) (hts (.fieldLink RX8 25 "MealLockersModel" "states" "I") (List.mem_of_getElem? (i := 2) rfl)) (fun _ h9 => h9) rfl dX8_count_110 ?_
                          exact W.iret (v := (μ 4 0)) hx hb hr (fun t ht hW => ⟨(μ 4 0), rfl, (by unfold zX8_count; rw [if_neg c_1, if_neg c_2, if_neg c_3, if_neg c_4, if_neg c_5, if_neg c_6, if_neg c_7, if_neg c_8, if_neg c_9, if_neg c_10, if_neg c_11, if_pos c_12]), ht⟩) (fun q hq => absurd hq List.not_mem_nil) dX8_count_113
                        · refine (Decidable.em (x1 = 12)).elim (fun c_13 => ?_) (fun c_13 => ?_)
                          · refine lv_tableIn (off := 113) (tgt := 114) hx hb dX8_count_1 (by rw [c_13]; decide) (by rw [c_13]; decide) (by rw [c_13]; decide) (by decide) ?_
                            refine lv_aload_n hx hb dX8_count_114 rfl (lv_at hl 0 rfl) ?_
                            refine va_get (D := D) (ci := 8) (v := .int (μ 4 1)) (C := RX8) (T := TX8) (N := 10) hx hb hts iwX8_count_X8 hown hC.1 hMo 0 rfl rfl 5 (by decide) (hts (.fieldLink RX8 159 "MealLockersModel" "length" "I") (List.mem_of_getElem? (i := 3) rfl)) (fun _ h9 => h9) rfl dX8_count_115 ?_
                            exact W.iret (v := (μ 4 1)) hx hb hr (fun t ht hW => ⟨(μ 4 1), rfl, (by unfold zX8_count; rw [if_neg c_1, if_neg c_2, if_neg c_3, if_neg c_4, if_neg c_5, if_neg c_6, if_neg c_7, if_neg c_8, if_neg c_9, if_neg c_10, if_neg c_11, if_neg c_12, if_pos c_13]), ht⟩) (fun q hq => absurd hq List.not_mem_nil) dX8_count_118
                          · refine lv_tableOut (tgt := 119) hx hb dX8_count_1 (by have q0 := lv_neT (a := 0) c_1 (by decide); have q1 := lv_neT (a := 1) c_2 (by decide); have q2 := lv_neT (a := 2) c_3 (by decide); have q3 := lv_neT (a := 3) c_4 (by decide); have q4 := lv_neT (a := 4) c_5 (by decide); have q5 := lv_neT (a := 5) c_6 (by decide); have q6 := lv_neT (a := 6) c_7 (by decide); have q7 := lv_neT (a := 7) c_8 (by decide); have q8 := lv_neT (a := 8) c_9 (by decide); have q9 := lv_neT (a := 9) c_10 (by decide); have q10 := lv_neT (a := 10) c_11 (by decide); have q11 := lv_neT (a := 11) c_12 (by decide); have q12 := lv_neT (a := 12) c_13 (by decide); omega) (by decide) ?_
                            refine lv_iload_n hx hb dX8_count_119 rfl (lv_at hl 1 rfl) ?_
                            refine lv_bipush (v := 13) hx hb dX8_count_120 (by decide) ?_
                            refine lv_bipush (v := 16) hx hb dX8_count_122 (by decide) ?_
                            refine kX8_in hF (cwS 3 hts gX8_count_X8_in rfl rfl rfl (by decide +kernel) ⟨Nat.le_of_ble_eq_true rfl, Nat.le_of_ble_eq_true rfl⟩) hC hl.1 (Nat.le_of_ble_eq_true rfl) dX8_count_124 ⟨Nat.zero_le _, Nat.zero_le _⟩ ?_
                            refine lv_if_eq (tgt := 144) hx hb dX8_count_127 (by decide) (fun c_14 => ?_) (fun c_14 => ?_)
                            · refine lv_iconst (v := (-1)) hx hb dX8_count_144 (by decide) ?_
                              exact W.iret (v := (-1)) hx hb hr (fun t ht hW => ⟨(-1), rfl, (by unfold zX8_count; rw [if_neg c_1, if_neg c_2, if_neg c_3, if_neg c_4, if_neg c_5, if_neg c_6, if_neg c_7, if_neg c_8, if_neg c_9, if_neg c_10, if_neg c_11, if_neg c_12, if_neg c_13, if_pos c_14]), ht⟩) (fun q hq => absurd hq List.not_mem_nil) dX8_count_145
                            · refine lv_aload_n hx hb dX8_count_130 rfl (lv_at hl 0 rfl) ?_
                              refine va_get (D := D) (ci := 8) (v := .ref (mo 1)) (C := RX8) (T := TX8) (N := 10) hx hb hts iwX8_count_X8 hown hC.1 hMo 0 rfl rfl 0 (by decide) (hts (.fieldLink RX8 7 "MealLockersModel" "s" "[I") (List.mem_of_getElem? (i := 1) rfl)) (fun _ h9 => h9) rfl dX8_count_131 ?_
                              refine lv_iconst (v := 5) hx hb dX8_count_134 (by decide) ?_
                              refine lv_iload_n hx hb dX8_count_135 rfl (lv_at hl 1 rfl) ?_
                              refine lv_iadd hx hb dX8_count_136 ?_
                              refine lv_bipush (v := 13) hx hb dX8_count_137 (by decide) ?_
                              refine lv_isub hx hb dX8_count_139 ?_
                              refine va_iald hx hb hC.1 hMo 1 0 rfl rfl (vp_cnt c_14) dX8_count_140 ?_
                              refine lv_goto (tgt := 145) hx hb dX8_count_141 (by decide) ?_
                              exact W.iret (v := (μ 0 ((5 + x1) - 13).toNatClampNeg)) hx hb hr (fun t ht hW => ⟨(μ 0 ((5 + x1) - 13).toNatClampNeg), rfl, (by unfold zX8_count; rw [if_neg c_1, if_neg c_2, if_neg c_3, if_neg c_4, if_neg c_5, if_neg c_6, if_neg c_7, if_neg c_8, if_neg c_9, if_neg c_10, if_neg c_11, if_neg c_12, if_neg c_13, if_neg c_14]), ht⟩) (fun q hq => absurd hq List.not_mem_nil) dX8_count_145
set_option maxHeartbeats 4000000 in
set_option maxRecDepth 100000 in
theorem kX8_count {p : Program} {l : Launch} {e : Env} {R : Room} {s : State} {m : MethodId} {args : Array Value} {below : List Frame} {meth : Method} {c : Code} {H : Heap} {locs : List Loc} {cells slots : Nat} {Q : State → Prop} {cc : ByteArray} {nL : Nat} {Ts : List Cond} {own : String} {index pc : Nat} {ls : Array Slot} {rest : List Value} {D : va_G} {y : Y3} {mo : Nat → Nat} {μ : Sg} {x1 : Int32} (hF : CallFix p m c cc nL s args Ts own) (cw : CallW R s args own RX8 index yX8_count cX8_count 2 (some .int) wsX8_count ({ frames := 2, cells := 0, slots := 0, locals := 46 } : Room) 0 0 1) (hC : CK D y s) (hMo : MoH D y mo μ H) (hInv : InvM μ) (hsz : ls.size = nL) (hW : (rest.map fun v => v.category).sum ≤ 8) (hdg : decode cc pc = .ok (.invokevirtual index, 3)) (hf : cells ≤ R.cells ∧ slots ≤ R.slots)
    (k : W p l e R s m args below meth c H locs cells slots Q (F0 m (pc + 3) ls (.int (zX8_count μ x1) :: rest))) : W p l e R s m args below meth c H locs cells slots Q (F0 m pc ls (.int x1 :: .ref (mo 0) :: rest)) := by
  refine vp_callSi (W.runV (As := [.int x1]) (rest := rest) hF (mX8_count l D y mo μ x1) cw ⟨fun a U g mk q => by obtain ⟨q0, q1, q2, q3⟩ := q; exact ⟨q0, q1.call g mk a, q2, q3⟩, va_recv hC.1 hMo (ci := 8) (q0 := 0) rfl rfl, fun U hU hW => ⟨rfl, hC.warm hW, by rw [hU]; exact hMo, hInv⟩⟩ rfl rfl hsz rfl (lv_room hW) hdg ⟨hf.1, hf.2⟩) (fun r hr => ?_)
  subst hr
  exact k
def bX8_advice (μ : Sg) (x1 : Int32) (i : Nat) (v : Int32 × Int32) : Int32 × Int32 := if (zX8_mayHave μ x1 (nI i)) = 0 then (v.1, v.2)
  else (if v.1 < 0 then ((nI i), ((((zX8_ofMeal μ (nI i) 2) + (zX8_loss μ (nI i))) - 1) / (zX8_loss μ (nI i))))
    else (if v.2 ≤ ((((zX8_ofMeal μ (nI i) 2) + (zX8_loss μ (nI i))) - 1) / (zX8_loss μ (nI i))) then (v.1, v.2)
      else ((nI i), ((((zX8_ofMeal μ (nI i) 2) + (zX8_loss μ (nI i))) - 1) / (zX8_loss μ (nI i))))))
def zX8_advice (μ : Sg) (x1 : Int32) : Int32 := if (zX8_isPerson μ x1) = 0 then (-1)
  else (upTo (bX8_advice μ x1) ((-4 : Int32), (0 : Int32)) ((μ 0 1).toNatClampNeg)).1
theorem iwX8_advice_X8 : ∀ w ∈ wsX80, w ∈ wsX8_advice := fun _ h => List.mem_cons_of_mem _ (List.mem_append_right _ h)
theorem hdX8_advice : yX8_advice.cls = RX8 ∧ yX8_advice.cls ≠ "java/lang/invoke/MethodHandle" ∧ yX8_advice.cls ≠ "java/lang/invoke/VarHandle" ∧ (parseMethodDescriptor yX8_advice.desc).map (fun d => d.parameters.length) = some 1 := by decide +kernel
set_option maxHeartbeats 4000000 in
set_option maxRecDepth 100000 in
theorem lpX8_advice {p : Program} {l : Launch} {e : Env} {s : State} {m : MethodId} {args : Array Value} {below : List Frame} {meth : Method} {c : Code} {Q : State → Prop} {D : va_G} {y : Y3} {mo : Nat → Nat} {μ : Sg} {x1 : Int32} {H : Heap} {locs : List Loc} (hx : p.tables.exec = Jvm.exec) (hb : c.code = cX8_advice) (hml : c.maxLocals = 7) (hown : s.vm.findClass RX8 = some m.cls) (hts : ∀ w ∈ wsX8_advice, w.before args s = true) (hC : CK D y s) (hMo : MoH D y mo μ H) (hInv : InvM μ) (r_x1 : rg x1 8)
    (K : ∀ ls : Array Slot, lv_has ls 7 [(4, .int (nI (μ 0 1).toNatClampNeg)), (2, .int ((upTo (bX8_advice μ x1) ((-4 : Int32), (0 : Int32)) ((μ 0 1).toNatClampNeg)).1)), (3, .int ((upTo (bX8_advice μ x1) ((-4 : Int32), (0 : Int32)) ((μ 0 1).toNatClampNeg)).2)), (0, .ref (mo 0)), (1, .int x1)] → W p l e (headSpec wsX8_advice ({ frames := 2, cells := 0, slots := 0, locals := 44 } : Room)).room s m args below meth c H locs 0 0 Q (F0 m 111 ls [])) :
    ∀ (j i : Nat), i + j = (μ 0 1).toNatClampNeg → ∀ ls : Array Slot, lv_has ls 7 [(4, .int (nI i)), (2, .int ((upTo (bX8_advice μ x1) ((-4 : Int32), (0 : Int32)) i).1)), (3, .int ((upTo (bX8_advice μ x1) ((-4 : Int32), (0 : Int32)) i).2)), (0, .ref (mo 0)), (1, .int x1)] → W p l e (headSpec wsX8_advice ({ frames := 2, cells := 0, slots := 0, locals := 44 } : Room)).room s m args below meth c H locs 0 0 Q (F0 m 18 ls []) := by
  have hF := (⟨hx, hb, hml, hown, hts⟩ : CallFix p m c cX8_advice 7 s args wsX8_advice RX8)
  have hN := clamp_lt (μ 0 1)
  intro j
  induction j with
  | zero =>
    intro i hin ls hl
    obtain rfl : i = (μ 0 1).toNatClampNeg := by omega
    refine lv_iload hx hb dX8_advice_18 (lv_at hl 0 rfl) ?_
    refine lv_aload_n hx hb dX8_advice_20 rfl (lv_at hl 3 rfl) ?_
    refine va_get (D := D) (ci := 8) (v := .ref (mo 1)) (C := RX8) (T := TX8) (N := 10) hx hb hts iwX8_advice_X8 hown hC.1 hMo 0 rfl rfl 0 (by decide) (hts (.fieldLink RX8 7 "MealLockersModel" "s" "[I") (List.mem_of_getElem? (i := 1) rfl)) (fun _ h9 => h9) rfl dX8_advice_21 ?_
    refine lv_iconst (v := 1) hx hb dX8_advice_24 (by decide) ?_
    refine va_iald hx hb hC.1 hMo 1 0 rfl rfl (vpl (by decide)) dX8_advice_25 ?_
    rw [cl_1]
    refine lv_icmp_ge (tgt := 111) hx hb dX8_advice_26 (by decide) (fun _ => ?_) (fun c_1 => absurd (up_le _) c_1)
    exact K ls (lv_sub hl [0, 1, 2, 3, 4] rfl)
  | succ j ih =>
    intro i hin ls hl
    obtain ⟨v, hv⟩ : ∃ v, v = (upTo (bX8_advice μ x1) ((-4 : Int32), (0 : Int32)) i) := ⟨_, rfl⟩
    rw [← hv] at hl
    have f_2 : rg (nI i) 24 := inv_m hInv (by omega)
    refine lv_iload hx hb dX8_advice_18 (lv_at hl 0 rfl) ?_
    refine lv_aload_n hx hb dX8_advice_20 rfl (lv_at hl 3 rfl) ?_
    refine va_get (D := D) (ci := 8) (v := .ref (mo 1)) (C := RX8) (T := TX8) (N := 10) hx hb hts iwX8_advice_X8 hown hC.1 hMo 0 rfl rfl 0 (by decide) (hts (.fieldLink RX8 7 "MealLockersModel" "s" "[I") (List.mem_of_getElem? (i := 1) rfl)) (fun _ h9 => h9) rfl dX8_advice_21 ?_
    refine lv_iconst (v := 1) hx hb dX8_advice_24 (by decide) ?_
    refine va_iald hx hb hC.1 hMo 1 0 rfl rfl (vpl (by decide)) dX8_advice_25 ?_
    rw [cl_1]
    refine lv_icmp_ge (tgt := 111) hx hb dX8_advice_26 (by decide) (fun c_3 => absurd c_3 (up_gt (by omega))) (fun _ => ?_)
    refine lv_aload_n hx hb dX8_advice_29 rfl (lv_at hl 3 rfl) ?_
    refine lv_iload_n hx hb dX8_advice_30 rfl (lv_at hl 4 rfl) ?_
    refine lv_iload hx hb dX8_advice_31 (lv_at hl 0 rfl) ?_
    refine kX8_mayHave hF (cwV 2 hts gX8_advice_X8_mayHave rfl rfl rfl hdX8_mayHave ⟨Nat.le_of_ble_eq_true rfl, Nat.le_of_ble_eq_true rfl⟩) hC hMo r_x1 f_2 hl.1 (Nat.le_of_ble_eq_true rfl) dX8_advice_33 ⟨Nat.zero_le _, Nat.zero_le _⟩ ?_
    refine lv_if_eq (tgt := 105) hx hb dX8_advice_36 (by decide) (fun c_4 => ?_) (fun c_4 => ?_)
    · refine lv_iinc (v := (nI (i + 1))) (lv' := [(4, .int (nI (i + 1))), (2, .int v.1), (3, .int v.2), (0, .ref (mo 0)), (1, .int x1)]) hx hb dX8_advice_105 hl (k := 0) rfl (by rw [nI_succ]; rfl) (by decide) rfl (fun ls hl => ?_)
      refine lv_goto (tgt := 18) hx hb dX8_advice_108 (by decide) ?_
      have e9 : (upTo (bX8_advice μ x1) ((-4 : Int32), (0 : Int32)) (i + 1)) = (v.1, v.2) := by show bX8_advice μ x1 i (upTo (bX8_advice μ x1) ((-4 : Int32), (0 : Int32)) i) = _; rw [← hv]; unfold bX8_advice; rw [if_pos c_4]
      exact ih (i + 1) (by omega) ls (by rw [e9]; exact lv_sub hl [0, 1, 2, 3, 4] rfl)
    · refine lv_aload_n hx hb dX8_advice_39 rfl (lv_at hl 3 rfl) ?_
      refine lv_iload hx hb dX8_advice_40 (lv_at hl 0 rfl) ?_
      refine lv_iconst (v := 2) hx hb dX8_advice_42 (by decide) ?_
      refine kX8_ofMeal hF (cwV 2 hts gX8_advice_X8_ofMeal rfl rfl rfl hdX8_ofMeal ⟨Nat.le_of_ble_eq_true rfl, Nat.le_of_ble_eq_true rfl⟩) hC hMo f_2 (by decide) hl.1 (Nat.le_of_ble_eq_true rfl) dX8_advice_43 ⟨Nat.zero_le _, Nat.zero_le _⟩ ?_
      refine lv_aload_n hx hb dX8_advice_46 rfl (lv_at hl 3 rfl) ?_
      refine lv_iload hx hb dX8_advice_47 (lv_at hl 0 rfl) ?_
      refine kX8_loss hF (cwV 1 hts gX8_advice_X8_loss rfl rfl rfl hdX8_loss ⟨Nat.le_of_ble_eq_true rfl, Nat.le_of_ble_eq_true rfl⟩) hC hMo hInv f_2 hl.1 (Nat.le_of_ble_eq_true rfl) dX8_advice_49 ⟨Nat.zero_le _, Nat.zero_le _⟩ ?_
      refine lv_iadd hx hb dX8_advice_52 ?_
      refine lv_iconst (v := 1) hx hb dX8_advice_53 (by decide) ?_
      refine lv_isub hx hb dX8_advice_54 ?_
      refine lv_aload_n hx hb dX8_advice_55 rfl (lv_at hl 3 rfl) ?_
      refine lv_iload hx hb dX8_advice_56 (lv_at hl 0 rfl) ?_
      refine kX8_loss hF (cwV 1 hts gX8_advice_X8_loss rfl rfl rfl hdX8_loss ⟨Nat.le_of_ble_eq_true rfl, Nat.le_of_ble_eq_true rfl⟩) hC hMo hInv f_2 hl.1 (Nat.le_of_ble_eq_true rfl) dX8_advice_58 ⟨Nat.zero_le _, Nat.zero_le _⟩ ?_
      refine lv_idiv hx hb dX8_advice_61 (loss_ne _ _) ?_
      refine lv_istore (lv' := [(5, .int ((((zX8_ofMeal μ (nI i) 2) + (zX8_loss μ (nI i))) - 1) / (zX8_loss μ (nI i)))), (4, .int (nI i)), (2, .int v.1), (3, .int v.2), (0, .ref (mo 0)), (1, .int x1)]) hx hb dX8_advice_62 hl (by decide) rfl (fun ls hl => ?_)
      refine lv_iload_n hx hb dX8_advice_64 rfl (lv_at hl 2 rfl) ?_
      refine lv_if_lt (tgt := 74) hx hb dX8_advice_65 (by decide) (fun c_5 => ?_) (fun c_5 => ?_)
      · refine lv_iconst (v := 1) hx hb dX8_advice_74 (by decide) ?_
        refine lv_goto (tgt := 79) hx hb dX8_advice_75 (by decide) ?_
        refine lv_istore (lv' := [(6, .int 1), (5, .int ((((zX8_ofMeal μ (nI i) 2) + (zX8_loss μ (nI i))) - 1) / (zX8_loss μ (nI i)))), (4, .int (nI i)), (2, .int v.1), (3, .int v.2), (0, .ref (mo 0)), (1, .int x1)]) hx hb dX8_advice_79 hl (by decide) rfl (fun ls hl => ?_)
        refine lv_iload hx hb dX8_advice_81 (lv_at hl 0 rfl) ?_
        refine lv_if_eq (tgt := 91) hx hb dX8_advice_83 (by decide) (fun c_6 => absurd c_6 (by decide)) (fun _ => ?_)
        refine lv_iload hx hb dX8_advice_86 (lv_at hl 2 rfl) ?_
        refine lv_goto (tgt := 92) hx hb dX8_advice_88 (by decide) ?_
        refine lv_istore_n (lv' := [(2, .int (nI i)), (6, .int 1), (5, .int ((((zX8_ofMeal μ (nI i) 2) + (zX8_loss μ (nI i))) - 1) / (zX8_loss μ (nI i)))), (4, .int (nI i)), (3, .int v.2), (0, .ref (mo 0)), (1, .int x1)]) hx hb dX8_advice_92 rfl hl (by decide) rfl (fun ls hl => ?_)
        refine lv_iload hx hb dX8_advice_93 (lv_at hl 1 rfl) ?_
        refine lv_if_eq (tgt := 103) hx hb dX8_advice_95 (by decide) (fun c_7 => absurd c_7 (by decide)) (fun _ => ?_)
        refine lv_iload hx hb dX8_advice_98 (lv_at hl 2 rfl) ?_
        refine lv_goto (tgt := 104) hx hb dX8_advice_100 (by decide) ?_
        refine lv_istore_n (lv' := [(3, .int ((((zX8_ofMeal μ (nI i) 2) + (zX8_loss μ (nI i))) - 1) / (zX8_loss μ (nI i)))), (2, .int (nI i)), (6, .int 1), (5, .int ((((zX8_ofMeal μ (nI i) 2) + (zX8_loss μ (nI i))) - 1) / (zX8_loss μ (nI i)))), (4, .int (nI i)), (0, .ref (mo 0)), (1, .int x1)]) hx hb dX8_advice_104 rfl hl (by decide) rfl (fun ls hl => ?_)
        refine lv_iinc (v := (nI (i + 1))) (lv' := [(4, .int (nI (i + 1))), (3, .int ((((zX8_ofMeal μ (nI i) 2) + (zX8_loss μ (nI i))) - 1) / (zX8_loss μ (nI i)))), (2, .int (nI i)), (6, .int 1), (5, .int ((((zX8_ofMeal μ (nI i) 2) + (zX8_loss μ (nI i))) - 1) / (zX8_loss μ (nI i)))), (0, .ref (mo 0)), (1, .int x1)]) hx hb dX8_advice_105 hl (k := 4) rfl (by rw [nI_succ]; rfl) (by decide) rfl (fun ls hl => ?_)
        refine lv_goto (tgt := 18) hx hb dX8_advice_108 (by decide) ?_
        have e9 : (upTo (bX8_advice μ x1) ((-4 : Int32), (0 : Int32)) (i + 1)) = ((nI i), ((((zX8_ofMeal μ (nI i) 2) + (zX8_loss μ (nI i))) - 1) / (zX8_loss μ (nI i)))) := by show bX8_advice μ x1 i (upTo (bX8_advice μ x1) ((-4 : Int32), (0 : Int32)) i) = _; rw [← hv]; unfold bX8_advice; rw [if_neg c_4, if_pos c_5]
        exact ih (i + 1) (by omega) ls (by rw [e9]; exact lv_sub hl [0, 2, 1, 5, 6] rfl)
      · refine lv_iload hx hb dX8_advice_68 (lv_at hl 0 rfl) ?_
        refine lv_iload_n hx hb dX8_advice_70 rfl (lv_at hl 3 rfl) ?_
        refine lv_icmp_ge (tgt := 78) hx hb dX8_advice_71 (by decide) (fun c_8 => ?_) (fun c_8 => ?_)
        · refine lv_iconst (v := 0) hx hb dX8_advice_78 (by decide) ?_
          refine lv_istore (lv' := [(6, .int 0), (5, .int ((((zX8_ofMeal μ (nI i) 2) + (zX8_loss μ (nI i))) - 1) / (zX8_loss μ (nI i)))), (4, .int (nI i)), (2, .int v.1), (3, .int v.2), (0, .ref (mo 0)), (1, .int x1)]) hx hb dX8_advice_79 hl (by decide) rfl (fun ls hl => ?_)
          refine lv_iload hx hb dX8_advice_81 (lv_at hl 0 rfl) ?_
          refine lv_if_eq (tgt := 91) hx hb dX8_advice_83 (by decide) (fun _ => ?_) (fun c_9 => absurd (by decide) c_9)
          refine lv_iload_n hx hb dX8_advice_91 rfl (lv_at hl 3 rfl) ?_
          refine lv_istore_n (lv' := [(2, .int v.1), (6, .int 0), (5, .int ((((zX8_ofMeal μ (nI i) 2) + (zX8_loss μ (nI i))) - 1) / (zX8_loss μ (nI i)))), (4, .int (nI i)), (3, .int v.2), (0, .ref (mo 0)), (1, .int x1)]) hx hb dX8_advice_92 rfl hl (by decide) rfl (fun ls hl => ?_)
          refine lv_iload hx hb dX8_advice_93 (lv_at hl 1 rfl) ?_
          refine lv_if_eq (tgt := 103) hx hb dX8_advice_95 (by decide) (fun _ => ?_) (fun c_10 => absurd (by decide) c_10)
          refine lv_iload_n hx hb dX8_advice_103 rfl (lv_at hl 4 rfl) ?_
          refine lv_istore_n (lv' := [(3, .int v.2), (2, .int v.1), (6, .int 0), (5, .int ((((zX8_ofMeal μ (nI i) 2) + (zX8_loss μ (nI i))) - 1) / (zX8_loss μ (nI i)))), (4, .int (nI i)), (0, .ref (mo 0)), (1, .int x1)]) hx hb dX8_advice_104 rfl hl (by decide) rfl (fun ls hl => ?_)
          refine lv_iinc (v := (nI (i + 1))) (lv' := [(4, .int (nI (i + 1))), (3, .int v.2), (2, .int v.1), (6, .int 0), (5, .int ((((zX8_ofMeal μ (nI i) 2) + (zX8_loss μ (nI i))) - 1) / (zX8_loss μ (nI i)))), (0, .ref (mo 0)), (1, .int x1)]) hx hb dX8_advice_105 hl (k := 4) rfl (by rw [nI_succ]; rfl) (by decide) rfl (fun ls hl => ?_)
          refine lv_goto (tgt := 18) hx hb dX8_advice_108 (by decide) ?_
          have e9 : (upTo (bX8_advice μ x1) ((-4 : Int32), (0 : Int32)) (i + 1)) = (v.1, v.2) := by show bX8_advice μ x1 i (upTo (bX8_advice μ x1) ((-4 : Int32), (0 : Int32)) i) = _; rw [← hv]; unfold bX8_advice; rw [if_neg c_4, if_neg c_5, if_pos c_8]
          exact ih (i + 1) (by omega) ls (by rw [e9]; exact lv_sub hl [0, 2, 1, 5, 6] rfl)
        · refine lv_iconst (v := 1) hx hb dX8_advice_74 (by decide) ?_
          refine lv_goto (tgt := 79) hx hb dX8_advice_75 (by decide) ?_
          refine lv_istore (lv' := [(6, .int 1), (5, .int ((((zX8_ofMeal μ (nI i) 2) + (zX8_loss μ (nI i))) - 1) / (zX8_loss μ (nI i)))), (4, .int (nI i)), (2, .int v.1), (3, .int v.2), (0, .ref (mo 0)), (1, .int x1)]) hx hb dX8_advice_79 hl (by decide) rfl (fun ls hl => ?_)
          refine lv_iload hx hb dX8_advice_81 (lv_at hl 0 rfl) ?_
          refine lv_if_eq (tgt := 91) hx hb dX8_advice_83 (by decide) (fun c_11 => absurd c_11 (by decide)) (fun _ => ?_)
          refine lv_iload hx hb dX8_advice_86 (lv_at hl 2 rfl) ?_
          refine lv_goto (tgt := 92) hx hb dX8_advice_88 (by decide) ?_
          refine lv_istore_n (lv' := [(2, .int (nI i)), (6, .int 1), (5, .int ((((zX8_ofMeal μ (nI i) 2) + (zX8_loss μ (nI i))) - 1) / (zX8_loss μ (nI i)))), (4, .int (nI i)), (3, .int v.2), (0, .ref (mo 0)), (1, .int x1)]) hx hb dX8_advice_92 rfl hl (by decide) rfl (fun ls hl => ?_)
          refine lv_iload hx hb dX8_advice_93 (lv_at hl 1 rfl) ?_
          refine lv_if_eq (tgt := 103) hx hb dX8_advice_95 (by decide) (fun c_12 => absurd c_12 (by decide)) (fun _ => ?_)
          refine lv_iload hx hb dX8_advice_98 (lv_at hl 2 rfl) ?_
          refine lv_goto (tgt := 104) hx hb dX8_advice_100 (by decide) ?_
          refine lv_istore_n (lv' := [(3, .int ((((zX8_ofMeal μ (nI i) 2) + (zX8_loss μ (nI i))) - 1) / (zX8_loss μ (nI i)))), (2, .int (nI i)), (6, .int 1), (5, .int ((((zX8_ofMeal μ (nI i) 2) + (zX8_loss μ (nI i))) - 1) / (zX8_loss μ (nI i)))), (4, .int (nI i)), (0, .ref (mo 0)), (1, .int x1)]) hx hb dX8_advice_104 rfl hl (by decide) rfl (fun ls hl => ?_)
          refine lv_iinc (v := (nI (i + 1))) (lv' := [(4, .int (nI (i + 1))), (3, .int ((((zX8_ofMeal μ (nI i) 2) + (zX8_loss μ (nI i))) - 1) / (zX8_loss μ (nI i)))), (2, .int (nI i)), (6, .int 1), (5, .int ((((zX8_ofMeal μ (nI i) 2) + (zX8_loss μ (nI i))) - 1) / (zX8_loss μ (nI i)))), (0, .ref (mo 0)), (1, .int x1)]) hx hb dX8_advice_105 hl (k := 4) rfl (by rw [nI_succ]; rfl) (by decide) rfl (fun ls hl => ?_)
          refine lv_goto (tgt := 18) hx hb dX8_advice_108 (by decide) ?_
          have e9 : (upTo (bX8_advice μ x1) ((-4 : Int32), (0 : Int32)) (i + 1)) = ((nI i), ((((zX8_ofMeal μ (nI i) 2) + (zX8_loss μ (nI i))) - 1) / (zX8_loss μ (nI i)))) := by show bX8_advice μ x1 i (upTo (bX8_advice μ x1) ((-4 : Int32), (0 : Int32)) i) = _; rw [← hv]; unfold bX8_advice; rw [if_neg c_4, if_neg c_5, if_neg c_8]
          exact ih (i + 1) (by omega) ls (by rw [e9]; exact lv_sub hl [0, 2, 1, 5, 6] rfl)
set_option maxHeartbeats 4000000 in
set_option maxRecDepth 100000 in
theorem mX8_advice (l : Launch) (D : va_G) (y : Y3) (mo : Nat → Nat) (μ : Sg) (x1 : Int32) : Met l yX8_advice wsX8_advice ({ frames := 2, cells := 0, slots := 0, locals := 44 } : Room) (va_Pc [.ref (mo 0), .int x1] (fun U => CK D y U ∧ MoH D y mo μ U.heap ∧ InvM μ)) (vp_Si (fun r => r = zX8_advice μ x1)) 0 0 (fun _ => False) := by
  refine Met.ofW (cc := cX8_advice) (maxL := 7) (ret := (some .int)) (by decide) rfl ?_
  intro p e s m args below meth c s₁ B hml hv
  obtain ⟨rfl, hC, hMo, hInv⟩ := hv
  have hx := B.exec
  have hb := B.bytes
  have hr := B.returns
  have hts := atoms_spec (ws := wsX8_advice) B.pre
  have hown : s.vm.findClass RX8 = some m.cls := findClass_of_methodNamed B.named
  have hlocks := B.notSynchronized
  have hF := (⟨hx, hb, hml, hown, hts⟩ : CallFix p m c cX8_advice 7 s _ wsX8_advice RX8)
  have hl := lv_entry ([.ref (mo 0), .int x1]) (n := 7) (Nat.le_of_ble_eq_true rfl)
  rw [lg_entry_eq]
  generalize (lg_sl ([.ref (mo 0), .int x1]) ++ List.replicate (7 - (lg_sl ([.ref (mo 0), .int x1])).length) Slot.unset).toArray = ls at hl ⊢
  have hl : lv_has ls 7 [(0, .ref (mo 0)), (1, .int x1)] := hl
  refine lv_aload_n hx hb dX8_advice_0 rfl (lv_at hl 0 rfl) ?_
  refine lv_iload_n hx hb dX8_advice_1 rfl (lv_at hl 1 rfl) ?_
  refine kX8_isPerson hF (cwV 1 hts gX8_advice_X8_isPerson rfl rfl rfl hdX8_isPerson ⟨Nat.le_of_ble_eq_true rfl, Nat.le_of_ble_eq_true rfl⟩) hC hMo  hl.1 (Nat.le_of_ble_eq_true rfl) dX8_advice_2 ⟨Nat.zero_le _, Nat.zero_le _⟩ ?_
  refine lv_if_ne (tgt := 10) hx hb dX8_advice_5 (by decide) (fun c_13 => ?_) (fun c_13 => ?_)
  · have f_14 : rg x1 8 := rg_isP hInv c_13
    refine lv_bipush (v := (-4)) hx hb dX8_advice_10 (by decide) ?_
    refine lv_istore_n (lv' := [(2, .int (-4)), (0, .ref (mo 0)), (1, .int x1)]) hx hb dX8_advice_12 rfl hl (by decide) rfl (fun ls hl => ?_)
    refine lv_iconst (v := 0) hx hb dX8_advice_13 (by decide) ?_
    refine lv_istore_n (lv' := [(3, .int 0), (2, .int (-4)), (0, .ref (mo 0)), (1, .int x1)]) hx hb dX8_advice_14 rfl hl (by decide) rfl (fun ls hl => ?_)
    refine lv_iconst (v := 0) hx hb dX8_advice_15 (by decide) ?_
    refine lv_istore (lv' := [(4, .int 0), (3, .int 0), (2, .int (-4)), (0, .ref (mo 0)), (1, .int x1)]) hx hb dX8_advice_16 hl (by decide) rfl (fun ls hl => ?_)
    have r_x1 := f_14
    refine lpX8_advice hx hb hml hown hts hC hMo hInv r_x1 (fun ls hl => ?_) _ 0 (Nat.zero_add _) ls (lv_sub hl [0, 2, 1, 3, 4] rfl)
    refine lv_iload_n hx hb dX8_advice_111 rfl (lv_at hl 1 rfl) ?_
    exact W.iret (v := (upTo (bX8_advice μ x1) ((-4 : Int32), (0 : Int32)) ((μ 0 1).toNatClampNeg)).1) hx hb hr (fun t ht hW => ⟨(upTo (bX8_advice μ x1) ((-4 : Int32), (0 : Int32)) ((μ 0 1).toNatClampNeg)).1, rfl, (by unfold zX8_advice; rw [if_neg c_13]), ht⟩) (fun q hq => absurd hq List.not_mem_nil) dX8_advice_112
  · refine lv_iconst (v := (-1)) hx hb dX8_advice_8 (by decide) ?_
    exact W.iret (v := (-1)) hx hb hr (fun t ht hW => ⟨(-1), rfl, (by unfold zX8_advice; rw [if_pos c_13]), ht⟩) (fun q hq => absurd hq List.not_mem_nil) dX8_advice_9
set_option maxHeartbeats 4000000 in
set_option maxRecDepth 100000 in
theorem kX8_advice {p : Program} {l : Launch} {e : Env} {R : Room} {s : State} {m : MethodId} {args : Array Value} {below : List Frame} {meth : Method} {c : Code} {H : Heap} {locs : List Loc} {cells slots : Nat} {Q : State → Prop} {cc : ByteArray} {nL : Nat} {Ts : List Cond} {own : String} {index pc : Nat} {ls : Array Slot} {rest : List Value} {D : va_G} {y : Y3} {mo : Nat → Nat} {μ : Sg} {x1 : Int32} (hF : CallFix p m c cc nL s args Ts own) (cw : CallW R s args own RX8 index yX8_advice cX8_advice 7 (some .int) wsX8_advice ({ frames := 2, cells := 0, slots := 0, locals := 44 } : Room) 0 0 1) (hC : CK D y s) (hMo : MoH D y mo μ H) (hInv : InvM μ) (hsz : ls.size = nL) (hW : (rest.map fun v => v.category).sum ≤ 8) (hdg : decode cc pc = .ok (.invokevirtual index, 3)) (hf : cells ≤ R.cells ∧ slots ≤ R.slots)
    (k : W p l e R s m args below meth c H locs cells slots Q (F0 m (pc + 3) ls (.int (zX8_advice μ x1) :: rest))) : W p l e R s m args below meth c H locs cells slots Q (F0 m pc ls (.int x1 :: .ref (mo 0) :: rest)) := by
  refine vp_callSi (W.runV (As := [.int x1]) (rest := rest) hF (mX8_advice l D y mo μ x1) cw ⟨fun a U g mk q => by obtain ⟨q0, q1, q2, q3⟩ := q; exact ⟨q0, q1.call g mk a, q2, q3⟩, va_recv hC.1 hMo (ci := 8) (q0 := 0) rfl rfl, fun U hU hW => ⟨rfl, hC.warm hW, by rw [hU]; exact hMo, hInv⟩⟩ rfl rfl hsz rfl (lv_room hW) hdg ⟨hf.1, hf.2⟩) (fun r hr => ?_)
  subst hr
  exact k
