theorem nlt4 : ∀ z : Nat, z < 5 → (nI z < 4 ↔ z < 4) := by decide +kernel
theorem nle0 : ∀ z : Nat, z < 5 → (nI z ≤ 0 ↔ z = 0) := by decide +kernel
theorem nsub1 : ∀ z : Nat, z < 5 → 0 < z → nI z - 1 = nI (z - 1) := by decide +kernel
theorem slot_ok {AD : Nat → Nat → Nat} {o z : Nat} (ho : o < 4) (hz : z < 5) : zX1_slotAt AD (nI o) (nI z) = some (AD ((o + z) % 4 + 2) 0) := by
  unfold zX1_slotAt
  rw [nI_add, rem4 (o + z) (by omega)]
  have h4 : (o + z) % 4 < 4 := Nat.mod_lt _ (by decide)
  have h5 : ¬ (4 : Int32) ≤ nI ((o + z) % 4) := nI_ge (a := (o + z) % 4) (b := 4) h4 (by decide)
  rw [if_neg (nI_pos (by omega)), if_neg h5, nI_clamp (by omega)]
/-- what the history's numbers become when a State is kept: oldest, size, and the place -/
def keepN (o z : Nat) : Nat × Nat × Nat := if z < 4 then (o, z + 1, (o + z) % 4) else ((o + 1) % 4, 4, ((o + 1) % 4 + 3) % 4)
theorem iwX1_keep_X1 : ∀ w ∈ wsX10, w ∈ wsX1_keep := fun _ h => List.mem_cons_of_mem _ (List.mem_append_left _ (List.mem_append_left _ (List.mem_append_right _ h)))
theorem hdX1_keep : yX1_keep.cls = RX1 ∧ yX1_keep.cls ≠ "java/lang/invoke/MethodHandle" ∧ yX1_keep.cls ≠ "java/lang/invoke/VarHandle" ∧ (parseMethodDescriptor yX1_keep.desc).map (fun d => d.parameters.length) = some 1 := by decide +kernel
set_option maxHeartbeats 4000000 in
set_option maxRecDepth 100000 in
theorem mX1_keep (l : Launch) (D : va_G) (y : Y3) (a b : Nat) (AD : Nat → Nat → Nat) (o z : Nat) (Ω : Og) : Met l yX1_keep wsX1_keep ({ frames := 2, cells := 0, slots := 0, locals := 43 } : Room) (va_Pc [.ref a, .ref (AD 0 0)] (fun U => CK D y U ∧ HisH D y a b AD (nI o) (nI z) U.heap ∧ SsH D y AD Ω U.heap ∧ adJ AD ∧ b ≠ a ∧ (∀ k i, k < 6 → i < 11 → AD k i ≠ a ∧ AD k i ≠ b) ∧ o < 4 ∧ z < 5)) (va_Qv (fun u : Og => u = oS Ω ((keepN o z).2.2 + 2) (Ω 0)) (fun u t => HisH D y a b AD (nI (keepN o z).1) (nI (keepN o z).2.1) t.heap ∧ SsH D y AD u t.heap) (hisA a AD)) 0 0 (hisA a AD) := by
  refine Met.ofW (cc := cX1_keep) (maxL := 3) (ret := none) (by decide) rfl ?_
  intro p e s m args below meth c s₁ B hml hv
  obtain ⟨rfl, hC, hHi, hSs, hJ, hba, hdj, ho, hz⟩ := hv
  have hx := B.exec
  have hb := B.bytes
  have hr := B.returns
  have hts := atoms_spec (ws := wsX1_keep) B.pre
  have hown : s.vm.findClass RX1 = some m.cls := findClass_of_methodNamed B.named
  have hlocks := B.notSynchronized
  have hF := (⟨hx, hb, hml, hown, hts⟩ : CallFix p m c cX1_keep 3 s _ wsX1_keep RX1)
  have hS : va_S (hisA a AD) s.heap s.heap [] := va_S.rf
  have hl := lv_entry ([.ref a, .ref (AD 0 0)]) (n := 3) (Nat.le_of_ble_eq_true rfl)
  rw [lg_entry_eq]
  generalize (lg_sl ([.ref a, .ref (AD 0 0)]) ++ List.replicate (3 - (lg_sl ([.ref a, .ref (AD 0 0)])).length) Slot.unset).toArray = ls at hl ⊢
  have hl : lv_has ls 3 [(0, .ref a), (1, .ref (AD 0 0))] := hl
  refine lv_aload_n hx hb dX1_keep_0 rfl (lv_at hl 0 rfl) ?_
  refine va_get (D := D) (ci := 1) (v := .int (nI z)) (C := RX1) (T := TX1) (N := 3) hx hb hts iwX1_keep_X1 hown hC.1 hHi 0 rfl rfl 2 (by decide) (hts (.fieldLink RX1 18 "MealLockers$History" "size" "I") (List.mem_of_getElem? (i := 1) rfl)) (fun _ h9 => h9) rfl dX1_keep_1 ?_
  refine lv_iconst (v := 4) hx hb dX1_keep_4 (by decide) ?_
  refine lv_icmp_lt (tgt := 30) hx hb dX1_keep_5 (by decide) (fun c9 => ?_) (fun c9 => ?_)
  · have hz4 := (nlt4 z hz).mp c9
    refine lv_aload_n hx hb dX1_keep_30 rfl (lv_at hl 0 rfl) ?_
    refine lv_aload_n hx hb dX1_keep_31 rfl (lv_at hl 0 rfl) ?_
    refine va_get (D := D) (ci := 1) (v := .int (nI z)) (C := RX1) (T := TX1) (N := 3) hx hb hts iwX1_keep_X1 hown hC.1 hHi 0 rfl rfl 2 (by decide) (hts (.fieldLink RX1 18 "MealLockers$History" "size" "I") (List.mem_of_getElem? (i := 1) rfl)) (fun _ h9 => h9) rfl dX1_keep_32 ?_
    refine kX1_slotAt hF (cwV 1 hts gX1_keep_X1_slotAt rfl rfl rfl hdX1_slotAt ⟨Nat.le_of_ble_eq_true rfl, Nat.le_of_ble_eq_true rfl⟩) hC hHi hl.1 (Nat.le_of_ble_eq_true rfl) dX1_keep_35 ⟨Nat.zero_le _, Nat.zero_le _⟩ ?_
    rw [slot_ok (AD := AD) (o := o) (z := z) ho hz]
    refine lv_astore_n (lv' := [(2, .ref (AD ((o + z) % 4 + 2) 0)), (0, .ref a), (1, .ref (AD 0 0))]) hx hb dX1_keep_38 rfl hl (by decide) rfl (fun ls hl => ?_)
    refine lv_aload_n hx hb dX1_keep_39 rfl (lv_at hl 0 rfl) ?_
    refine lv_ifnull hx hb dX1_keep_40 ?_
    refine lv_aload_n hx hb dX1_keep_43 rfl (lv_at hl 0 rfl) ?_
    refine lv_aload_n hx hb dX1_keep_44 rfl (lv_at hl 2 rfl) ?_
    refine kX4_copyFrom (ad := AD ((o + z) % 4 + 2)) (ad2 := AD 0) hF (cwV 1 hts gX1_keep_X4_copyFrom rfl rfl rfl hdX4_copyFrom ⟨Nat.le_of_ble_eq_true rfl, Nat.le_of_ble_eq_true rfl⟩) hC (hSs ((o + z) % 4 + 2) (by omega)) (hSs 0 (by decide)) (hJ.one (by omega)) (hJ.two (by omega) (by decide) (by omega)) hS (fun q h => Or.inr ⟨((o + z) % 4 + 2), (by omega), h⟩) hl.1 (Nat.le_of_ble_eq_true rfl) dX1_keep_45 ⟨Nat.zero_le _, Nat.zero_le _⟩ (fun H locs hSt _ hk hS => ?_)
    have hHi := hi_kept hHi (hk a (hi_lt hHi).1 (fun z => by obtain ⟨i, hi, e⟩ := z; exact (hdj ((o + z) % 4 + 2) i (by omega) hi).1 e.symm)) (hk b (hi_lt hHi).2 (fun z => by obtain ⟨i, hi, e⟩ := z; exact (hdj ((o + z) % 4 + 2) i (by omega) hi).2 e.symm))
    have hSs := ss_set hSs hJ (by omega) hSt hk
    refine lv_aload_n hx hb dX1_keep_48 rfl (lv_at hl 1 rfl) ?_
    refine lv_dup hx hb dX1_keep_49 rfl ?_
    refine va_get (D := D) (ci := 1) (v := .int (nI z)) (C := RX1) (T := TX1) (N := 3) hx hb hts iwX1_keep_X1 hown hC.1 hHi 0 rfl rfl 2 (by decide) (hts (.fieldLink RX1 18 "MealLockers$History" "size" "I") (List.mem_of_getElem? (i := 1) rfl)) (fun _ h9 => h9) rfl dX1_keep_50 ?_
    refine lv_iconst (v := 1) hx hb dX1_keep_53 (by decide) ?_
    refine lv_iadd hx hb dX1_keep_54 ?_
    refine va_put1 (D := D) (ci := 1) (v := .int ((nI z) + 1)) (ty := .int) (C := RX1) (T := TX1) (N := 3) (A := hisA a AD) hx hb hts iwX1_keep_X1 tyX1 tyX1_ok nmX1 hown hC.1 (hi_one hHi) hS (Or.inl rfl) rfl 2 (by decide) (hts (.fieldLink RX1 18 "MealLockers$History" "size" "I") (List.mem_of_getElem? (i := 1) rfl)) rfl (by decide +kernel) rfl rfl (Nat.le_of_ble_eq_true rfl) dX1_keep_55 (fun H locs hP1 _ hk1 hS => ?_)
    have hSs := ss_kept hSs (fun x _ hx => hk1 x (fun e => by obtain ⟨k, hk, i, hi, e2⟩ := hx; exact (hdj k i hk hi).1 (e2.symm.trans e)))
    have hHi : HisH D y a b AD (nI o) ((nI z) + 1) H := hi_two hHi hP1 (hk1 _ hba)
    have hHi : HisH D y a b AD (nI o) (nI (z + 1)) H := by rw [nI_succ]; exact hHi
    exact W.vret hx hb hr (fun t ht hW => ⟨⟨oS Ω ((o + z) % 4 + 2) (Ω 0), rfl, (by unfold keepN; rw [if_pos hz4]), by dsimp only; rw [ht]; exact ⟨by unfold keepN; first | (rw [if_pos hz4]; exact hHi) | exact hHi, hSs⟩⟩, hS.F ht⟩) hS.2.2 dX1_keep_58
  · obtain rfl : z = 4 := by have hn4 : ¬ z < 4 := (fun h => c9 ((nlt4 z hz).mpr h)); omega
    refine lv_aload_n hx hb dX1_keep_8 rfl (lv_at hl 0 rfl) ?_
    refine lv_aload_n hx hb dX1_keep_9 rfl (lv_at hl 0 rfl) ?_
    refine va_get (D := D) (ci := 1) (v := .int (nI o)) (C := RX1) (T := TX1) (N := 3) hx hb hts iwX1_keep_X1 hown hC.1 hHi 0 rfl rfl 1 (by decide) (hts (.fieldLink RX1 22 "MealLockers$History" "oldest" "I") (List.mem_of_getElem? (i := 2) rfl)) (fun _ h9 => h9) rfl dX1_keep_10 ?_
    refine lv_iconst (v := 1) hx hb dX1_keep_13 (by decide) ?_
    refine lv_iadd hx hb dX1_keep_14 ?_
    refine lv_iconst (v := 4) hx hb dX1_keep_15 (by decide) ?_
    refine lv_irem hx hb dX1_keep_16 (by decide) ?_
    rw [show (nI o + 1) - (nI o + 1) / 4 * 4 = nI ((o + 1) % 4) by rw [← nI_succ]; exact rem4 (o + 1) (by omega)]
    refine va_put1 (D := D) (ci := 1) (v := .int (nI ((o + 1) % 4))) (ty := .int) (C := RX1) (T := TX1) (N := 3) (A := hisA a AD) hx hb hts iwX1_keep_X1 tyX1 tyX1_ok nmX1 hown hC.1 (hi_one hHi) hS (Or.inl rfl) rfl 1 (by decide) (hts (.fieldLink RX1 22 "MealLockers$History" "oldest" "I") (List.mem_of_getElem? (i := 2) rfl)) rfl (by decide +kernel) rfl rfl (Nat.le_of_ble_eq_true rfl) dX1_keep_17 (fun H locs hP1 _ hk1 hS => ?_)
    have hSs := ss_kept hSs (fun x _ hx => hk1 x (fun e => by obtain ⟨k, hk, i, hi, e2⟩ := hx; exact (hdj k i hk hi).1 (e2.symm.trans e)))
    have hHi : HisH D y a b AD (nI ((o + 1) % 4)) (nI 4) H := hi_two hHi hP1 (hk1 _ hba)
    refine lv_aload_n hx hb dX1_keep_20 rfl (lv_at hl 0 rfl) ?_
    refine lv_dup hx hb dX1_keep_21 rfl ?_
    refine va_get (D := D) (ci := 1) (v := .int (nI 4)) (C := RX1) (T := TX1) (N := 3) hx hb hts iwX1_keep_X1 hown hC.1 hHi 0 rfl rfl 2 (by decide) (hts (.fieldLink RX1 18 "MealLockers$History" "size" "I") (List.mem_of_getElem? (i := 1) rfl)) (fun _ h9 => h9) rfl dX1_keep_22 ?_
    refine lv_iconst (v := 1) hx hb dX1_keep_25 (by decide) ?_
    refine lv_isub hx hb dX1_keep_26 ?_
    rw [show nI 4 - 1 = nI 3 by decide]
    refine va_put1 (D := D) (ci := 1) (v := .int (nI 3)) (ty := .int) (C := RX1) (T := TX1) (N := 3) (A := hisA a AD) hx hb hts iwX1_keep_X1 tyX1 tyX1_ok nmX1 hown hC.1 (hi_one hHi) hS (Or.inl rfl) rfl 2 (by decide) (hts (.fieldLink RX1 18 "MealLockers$History" "size" "I") (List.mem_of_getElem? (i := 1) rfl)) rfl (by decide +kernel) rfl rfl (Nat.le_of_ble_eq_true rfl) dX1_keep_27 (fun H locs hP1 _ hk1 hS => ?_)
    have hSs := ss_kept hSs (fun x _ hx => hk1 x (fun e => by obtain ⟨k, hk, i, hi, e2⟩ := hx; exact (hdj k i hk hi).1 (e2.symm.trans e)))
    have hHi : HisH D y a b AD (nI ((o + 1) % 4)) (nI 3) H := hi_two hHi hP1 (hk1 _ hba)
    refine lv_aload_n hx hb dX1_keep_30 rfl (lv_at hl 0 rfl) ?_
    refine lv_aload_n hx hb dX1_keep_31 rfl (lv_at hl 0 rfl) ?_
    refine va_get (D := D) (ci := 1) (v := .int (nI 3)) (C := RX1) (T := TX1) (N := 3) hx hb hts iwX1_keep_X1 hown hC.1 hHi 0 rfl rfl 2 (by decide) (hts (.fieldLink RX1 18 "MealLockers$History" "size" "I") (List.mem_of_getElem? (i := 1) rfl)) (fun _ h9 => h9) rfl dX1_keep_32 ?_
    refine kX1_slotAt hF (cwV 1 hts gX1_keep_X1_slotAt rfl rfl rfl hdX1_slotAt ⟨Nat.le_of_ble_eq_true rfl, Nat.le_of_ble_eq_true rfl⟩) hC hHi hl.1 (Nat.le_of_ble_eq_true rfl) dX1_keep_35 ⟨Nat.zero_le _, Nat.zero_le _⟩ ?_
    rw [slot_ok (AD := AD) (o := ((o + 1) % 4)) (z := 3) (Nat.mod_lt _ (by decide)) (by decide)]
    refine lv_astore_n (lv' := [(2, .ref (AD ((((o + 1) % 4) + 3) % 4 + 2) 0)), (0, .ref a), (1, .ref (AD 0 0))]) hx hb dX1_keep_38 rfl hl (by decide) rfl (fun ls hl => ?_)
    refine lv_aload_n hx hb dX1_keep_39 rfl (lv_at hl 0 rfl) ?_
    refine lv_ifnull hx hb dX1_keep_40 ?_
    refine lv_aload_n hx hb dX1_keep_43 rfl (lv_at hl 0 rfl) ?_
    refine lv_aload_n hx hb dX1_keep_44 rfl (lv_at hl 2 rfl) ?_
    refine kX4_copyFrom (ad := AD ((((o + 1) % 4) + 3) % 4 + 2)) (ad2 := AD 0) hF (cwV 1 hts gX1_keep_X4_copyFrom rfl rfl rfl hdX4_copyFrom ⟨Nat.le_of_ble_eq_true rfl, Nat.le_of_ble_eq_true rfl⟩) hC (hSs ((((o + 1) % 4) + 3) % 4 + 2) (by omega)) (hSs 0 (by decide)) (hJ.one (by omega)) (hJ.two (by omega) (by decide) (by omega)) hS (fun q h => Or.inr ⟨((((o + 1) % 4) + 3) % 4 + 2), (by omega), h⟩) hl.1 (Nat.le_of_ble_eq_true rfl) dX1_keep_45 ⟨Nat.zero_le _, Nat.zero_le _⟩ (fun H locs hSt _ hk hS => ?_)
    have hHi := hi_kept hHi (hk a (hi_lt hHi).1 (fun z => by obtain ⟨i, hi, e⟩ := z; exact (hdj ((((o + 1) % 4) + 3) % 4 + 2) i (by omega) hi).1 e.symm)) (hk b (hi_lt hHi).2 (fun z => by obtain ⟨i, hi, e⟩ := z; exact (hdj ((((o + 1) % 4) + 3) % 4 + 2) i (by omega) hi).2 e.symm))
    have hSs := ss_set hSs hJ (by omega) hSt hk
    refine lv_aload_n hx hb dX1_keep_48 rfl (lv_at hl 1 rfl) ?_
    refine lv_dup hx hb dX1_keep_49 rfl ?_
    refine va_get (D := D) (ci := 1) (v := .int (nI 3)) (C := RX1) (T := TX1) (N := 3) hx hb hts iwX1_keep_X1 hown hC.1 hHi 0 rfl rfl 2 (by decide) (hts (.fieldLink RX1 18 "MealLockers$History" "size" "I") (List.mem_of_getElem? (i := 1) rfl)) (fun _ h9 => h9) rfl dX1_keep_50 ?_
    refine lv_iconst (v := 1) hx hb dX1_keep_53 (by decide) ?_
    refine lv_iadd hx hb dX1_keep_54 ?_
    refine va_put1 (D := D) (ci := 1) (v := .int ((nI 3) + 1)) (ty := .int) (C := RX1) (T := TX1) (N := 3) (A := hisA a AD) hx hb hts iwX1_keep_X1 tyX1 tyX1_ok nmX1 hown hC.1 (hi_one hHi) hS (Or.inl rfl) rfl 2 (by decide) (hts (.fieldLink RX1 18 "MealLockers$History" "size" "I") (List.mem_of_getElem? (i := 1) rfl)) rfl (by decide +kernel) rfl rfl (Nat.le_of_ble_eq_true rfl) dX1_keep_55 (fun H locs hP1 _ hk1 hS => ?_)
    have hSs := ss_kept hSs (fun x _ hx => hk1 x (fun e => by obtain ⟨k, hk, i, hi, e2⟩ := hx; exact (hdj k i hk hi).1 (e2.symm.trans e)))
    have hHi : HisH D y a b AD (nI ((o + 1) % 4)) ((nI 3) + 1) H := hi_two hHi hP1 (hk1 _ hba)
    have hHi : HisH D y a b AD (nI ((o + 1) % 4)) (nI 4) H := hHi
    exact W.vret hx hb hr (fun t ht hW => ⟨⟨oS Ω ((((o + 1) % 4) + 3) % 4 + 2) (Ω 0), rfl, (by unfold keepN; rw [if_neg (by decide)]), by dsimp only; rw [ht]; exact ⟨by unfold keepN; first | (rw [if_pos hz4]; exact hHi) | exact hHi, hSs⟩⟩, hS.F ht⟩) hS.2.2 dX1_keep_58
set_option maxHeartbeats 4000000 in
set_option maxRecDepth 100000 in
theorem kX1_keep {p : Program} {l : Launch} {e : Env} {R : Room} {s : State} {m : MethodId} {args : Array Value} {below : List Frame} {meth : Method} {c : Code} {H : Heap} {locs : List Loc} {cells slots : Nat} {Q : State → Prop} {cc : ByteArray} {nL : Nat} {Ts : List Cond} {own : String} {index pc : Nat} {ls : Array Slot} {rest : List Value} {D : va_G} {y : Y3} {a b : Nat} {AD : Nat → Nat → Nat} {o z : Nat} {Ω : Og} {A0 : Nat → Prop} {H0 : Heap} (hF : CallFix p m c cc nL s args Ts own) (cw : CallW R s args own RX1 index yX1_keep cX1_keep 3 none wsX1_keep ({ frames := 2, cells := 0, slots := 0, locals := 43 } : Room) 0 0 1) (hC : CK D y s) (hHi : HisH D y a b AD (nI o) (nI z) H) (hSs : SsH D y AD Ω H) (hJ : adJ AD) (hba : b ≠ a) (hdj : (∀ k i, k < 6 → i < 11 → AD k i ≠ a ∧ AD k i ≠ b)) (ho : o < 4) (hz : z < 5) (hS : va_S A0 H0 H locs) (hA : ∀ q, (hisA a AD) q → A0 q) (hsz : ls.size = nL) (hW : (rest.map fun v => v.category).sum ≤ 8) (hdg : decode cc pc = .ok (.invokevirtual index, 3)) (hf : cells ≤ R.cells ∧ slots ≤ R.slots)
    (k : ∀ (H1 : Heap) (locs1 : List Loc), (HisH D y a b AD (nI (keepN o z).1) (nI (keepN o z).2.1) H1 ∧ SsH D y AD (oS Ω ((keepN o z).2.2 + 2) (Ω 0)) H1) → H.size ≤ H1.size → (∀ q : Nat, q < H.size → ¬ (hisA a AD) q → H1[q]? = H[q]?) → va_S A0 H0 H1 locs1 → W p l e R s m args below meth c H1 locs1 cells slots Q (F0 m (pc + 3) ls (rest))) : W p l e R s m args below meth c H locs cells slots Q (F0 m pc ls (.ref (AD 0 0) :: .ref a :: rest)) := by
  refine va_callv (va_runV (As := [.ref (AD 0 0)]) (rest := rest) hF (mX1_keep l D y a b AD o z Ω) cw ⟨fun a U g mk q => by obtain ⟨q0, q1, q2, q3, q4, q5, q6, q7, q8⟩ := q; exact ⟨q0, q1.call g mk a, q2, q3, q4, q5, q6, q7, q8⟩, va_recv hC.1 hHi (ci := 1) (q0 := 0) rfl rfl, fun U hU hW => ⟨rfl, hC.warm hW, by rw [hU]; exact hHi, by rw [hU]; exact hSs, hJ, hba, hdj, ho, hz⟩⟩ rfl rfl hsz rfl (lv_room hW) hdg ⟨hf.1, hf.2⟩) hS (fun q _ h => hA q h) hA (fun u t H1 locs1 ht hvm hp hB hz1 hk1 hS1 => ?_)
  subst hp
  rw [ht] at hB
  exact k H1 locs1 hB hz1 hk1 hS1
theorem iwX1_restoreLatest_X1 : ∀ w ∈ wsX10, w ∈ wsX1_restoreLatest := fun _ h => List.mem_cons_of_mem _ (List.mem_append_left _ (List.mem_append_left _ (List.mem_append_right _ h)))
theorem hdX1_restoreLatest : yX1_restoreLatest.cls = RX1 ∧ yX1_restoreLatest.cls ≠ "java/lang/invoke/MethodHandle" ∧ yX1_restoreLatest.cls ≠ "java/lang/invoke/VarHandle" ∧ (parseMethodDescriptor yX1_restoreLatest.desc).map (fun d => d.parameters.length) = some 1 := by decide +kernel
def restN (o z : Nat) : Nat × Int32 := if z = 0 then (0, -2) else (z - 1, nI (z - 1))
def restO (o z : Nat) (Ω : Og) : Og := if z = 0 then Ω else oS Ω 0 (Ω ((o + (z - 1)) % 4 + 2))
set_option maxHeartbeats 4000000 in
set_option maxRecDepth 100000 in
theorem mX1_restoreLatest (l : Launch) (D : va_G) (y : Y3) (a b : Nat) (AD : Nat → Nat → Nat) (o z : Nat) (Ω : Og) : Met l yX1_restoreLatest wsX1_restoreLatest ({ frames := 2, cells := 0, slots := 0, locals := 43 } : Room) (va_Pc [.ref a, .ref (AD 0 0)] (fun U => CK D y U ∧ HisH D y a b AD (nI o) (nI z) U.heap ∧ SsH D y AD Ω U.heap ∧ adJ AD ∧ b ≠ a ∧ (∀ k i, k < 6 → i < 11 → AD k i ≠ a ∧ AD k i ≠ b) ∧ o < 4 ∧ z < 5)) (va_Qi (fun (r : Int32) (u : Og) => r = (restN o z).2 ∧ u = restO o z Ω) (fun u t => HisH D y a b AD (nI o) (nI (restN o z).1) t.heap ∧ SsH D y AD u t.heap) (hisA a AD)) 0 0 (hisA a AD) := by
  refine Met.ofW (cc := cX1_restoreLatest) (maxL := 3) (ret := (some .int)) (by decide) rfl ?_
  intro p e s m args below meth c s₁ B hml hv
  obtain ⟨rfl, hC, hHi, hSs, hJ, hba, hdj, ho, hz⟩ := hv
  have hx := B.exec
  have hb := B.bytes
  have hr := B.returns
  have hts := atoms_spec (ws := wsX1_restoreLatest) B.pre
  have hown : s.vm.findClass RX1 = some m.cls := findClass_of_methodNamed B.named
  have hlocks := B.notSynchronized
  have hF := (⟨hx, hb, hml, hown, hts⟩ : CallFix p m c cX1_restoreLatest 3 s _ wsX1_restoreLatest RX1)
  have hS : va_S (hisA a AD) s.heap s.heap [] := va_S.rf
  have hl := lv_entry ([.ref a, .ref (AD 0 0)]) (n := 3) (Nat.le_of_ble_eq_true rfl)
  rw [lg_entry_eq]
  generalize (lg_sl ([.ref a, .ref (AD 0 0)]) ++ List.replicate (3 - (lg_sl ([.ref a, .ref (AD 0 0)])).length) Slot.unset).toArray = ls at hl ⊢
  have hl : lv_has ls 3 [(0, .ref a), (1, .ref (AD 0 0))] := hl
  rcases Nat.eq_zero_or_pos z with rfl | hz0
  · refine lv_aload_n hx hb dX1_restoreLatest_0 rfl (lv_at hl 0 rfl) ?_
    refine va_get (D := D) (ci := 1) (v := .int (nI 0)) (C := RX1) (T := TX1) (N := 3) hx hb hts iwX1_restoreLatest_X1 hown hC.1 hHi 0 rfl rfl 2 (by decide) (hts (.fieldLink RX1 18 "MealLockers$History" "size" "I") (List.mem_of_getElem? (i := 1) rfl)) (fun _ h9 => h9) rfl dX1_restoreLatest_1 ?_
    refine lv_if_le (tgt := 20) hx hb dX1_restoreLatest_4 (by decide) (fun _ => ?_) (fun c_1 => absurd (by decide) c_1)
    refine lv_null hx hb dX1_restoreLatest_20 ?_
    refine lv_astore_nN (lv' := [(2, .null), (0, .ref a), (1, .ref (AD 0 0))]) hx hb dX1_restoreLatest_21 rfl hl (by decide) rfl (fun ls hl => ?_)
    refine lv_aload_nN hx hb dX1_restoreLatest_22 rfl (lv_at hl 0 rfl) ?_
    refine lv_ifnonnullN hx hb dX1_restoreLatest_23 ?_
    refine lv_bipush (v := (-2)) hx hb dX1_restoreLatest_26 (by decide) ?_
    exact W.iret (v := -2) hx hb hr (fun t ht hW => ⟨⟨-2, Ω, rfl, ⟨rfl, rfl⟩, by dsimp only; rw [ht]; exact ⟨hHi, hSs⟩⟩, hS.F ht⟩) hS.2.2 dX1_restoreLatest_28
  · refine lv_aload_n hx hb dX1_restoreLatest_0 rfl (lv_at hl 0 rfl) ?_
    refine va_get (D := D) (ci := 1) (v := .int (nI z)) (C := RX1) (T := TX1) (N := 3) hx hb hts iwX1_restoreLatest_X1 hown hC.1 hHi 0 rfl rfl 2 (by decide) (hts (.fieldLink RX1 18 "MealLockers$History" "size" "I") (List.mem_of_getElem? (i := 1) rfl)) (fun _ h9 => h9) rfl dX1_restoreLatest_1 ?_
    refine lv_if_le (tgt := 20) hx hb dX1_restoreLatest_4 (by decide) (fun c_3 => absurd c_3 (fun h => absurd ((nle0 z hz).mp h) (by omega))) (fun _ => ?_)
    refine lv_aload_n hx hb dX1_restoreLatest_7 rfl (lv_at hl 0 rfl) ?_
    refine lv_aload_n hx hb dX1_restoreLatest_8 rfl (lv_at hl 0 rfl) ?_
    refine va_get (D := D) (ci := 1) (v := .int (nI z)) (C := RX1) (T := TX1) (N := 3) hx hb hts iwX1_restoreLatest_X1 hown hC.1 hHi 0 rfl rfl 2 (by decide) (hts (.fieldLink RX1 18 "MealLockers$History" "size" "I") (List.mem_of_getElem? (i := 1) rfl)) (fun _ h9 => h9) rfl dX1_restoreLatest_9 ?_
    refine lv_iconst (v := 1) hx hb dX1_restoreLatest_12 (by decide) ?_
    refine lv_isub hx hb dX1_restoreLatest_13 ?_
    refine kX1_slotAt hF (cwV 1 hts gX1_restoreLatest_X1_slotAt rfl rfl rfl hdX1_slotAt ⟨Nat.le_of_ble_eq_true rfl, Nat.le_of_ble_eq_true rfl⟩) hC hHi hl.1 (Nat.le_of_ble_eq_true rfl) dX1_restoreLatest_14 ⟨Nat.zero_le _, Nat.zero_le _⟩ ?_
    rw [nsub1 z hz hz0, slot_ok (AD := AD) (o := o) (z := z - 1) ho (by omega)]
    refine lv_goto (tgt := 21) hx hb dX1_restoreLatest_17 (by decide) ?_
    refine lv_astore_n (lv' := [(2, .ref (AD ((o + (z - 1)) % 4 + 2) 0)), (0, .ref a), (1, .ref (AD 0 0))]) hx hb dX1_restoreLatest_21 rfl hl (by decide) rfl (fun ls hl => ?_)
    refine lv_aload_n hx hb dX1_restoreLatest_22 rfl (lv_at hl 0 rfl) ?_
    refine lv_ifnonnull (tgt := 29) hx hb dX1_restoreLatest_23 (by decide) ?_
    refine lv_aload_n hx hb dX1_restoreLatest_29 rfl (lv_at hl 2 rfl) ?_
    refine lv_aload_n hx hb dX1_restoreLatest_30 rfl (lv_at hl 0 rfl) ?_
    refine kX4_copyFrom (ad := AD 0) (ad2 := AD ((o + (z - 1)) % 4 + 2)) hF (cwV 1 hts gX1_restoreLatest_X4_copyFrom rfl rfl rfl hdX4_copyFrom ⟨Nat.le_of_ble_eq_true rfl, Nat.le_of_ble_eq_true rfl⟩) hC (hSs 0 (by decide)) (hSs ((o + (z - 1)) % 4 + 2) (by omega)) (hJ.one (by decide)) (hJ.two (by decide) (by omega) (by omega)) hS (fun q h => Or.inr ⟨0, (by decide), h⟩) hl.1 (Nat.le_of_ble_eq_true rfl) dX1_restoreLatest_31 ⟨Nat.zero_le _, Nat.zero_le _⟩ (fun H locs hSt _ hk hS => ?_)
    have hHi := hi_kept hHi (hk a (hi_lt hHi).1 (fun z => by obtain ⟨i, hi, e⟩ := z; exact (hdj 0 i (by decide) hi).1 e.symm)) (hk b (hi_lt hHi).2 (fun z => by obtain ⟨i, hi, e⟩ := z; exact (hdj 0 i (by decide) hi).2 e.symm))
    have hSs := ss_set hSs hJ (by decide) hSt hk
    refine lv_aload_n hx hb dX1_restoreLatest_34 rfl (lv_at hl 1 rfl) ?_
    refine lv_dup hx hb dX1_restoreLatest_35 rfl ?_
    refine va_get (D := D) (ci := 1) (v := .int (nI z)) (C := RX1) (T := TX1) (N := 3) hx hb hts iwX1_restoreLatest_X1 hown hC.1 hHi 0 rfl rfl 2 (by decide) (hts (.fieldLink RX1 18 "MealLockers$History" "size" "I") (List.mem_of_getElem? (i := 1) rfl)) (fun _ h9 => h9) rfl dX1_restoreLatest_36 ?_
    refine lv_iconst (v := 1) hx hb dX1_restoreLatest_39 (by decide) ?_
    refine lv_isub hx hb dX1_restoreLatest_40 ?_
    rw [nsub1 z hz hz0]
    refine va_put1 (D := D) (ci := 1) (v := .int (nI (z - 1))) (ty := .int) (C := RX1) (T := TX1) (N := 3) (A := hisA a AD) hx hb hts iwX1_restoreLatest_X1 tyX1 tyX1_ok nmX1 hown hC.1 (hi_one hHi) hS (Or.inl rfl) rfl 2 (by decide) (hts (.fieldLink RX1 18 "MealLockers$History" "size" "I") (List.mem_of_getElem? (i := 1) rfl)) rfl (by decide +kernel) rfl rfl (Nat.le_of_ble_eq_true rfl) dX1_restoreLatest_41 (fun H locs hP1 _ hk1 hS => ?_)
    have hSs := ss_kept hSs (fun x _ hx => hk1 x (fun e => by obtain ⟨k, hk, i, hi, e2⟩ := hx; exact (hdj k i hk hi).1 (e2.symm.trans e)))
    have hHi : HisH D y a b AD (nI o) (nI (z - 1)) H := hi_two hHi hP1 (hk1 _ hba)
    refine lv_aload_n hx hb dX1_restoreLatest_44 rfl (lv_at hl 1 rfl) ?_
    refine va_get (D := D) (ci := 1) (v := .int (nI (z - 1))) (C := RX1) (T := TX1) (N := 3) hx hb hts iwX1_restoreLatest_X1 hown hC.1 hHi 0 rfl rfl 2 (by decide) (hts (.fieldLink RX1 18 "MealLockers$History" "size" "I") (List.mem_of_getElem? (i := 1) rfl)) (fun _ h9 => h9) rfl dX1_restoreLatest_45 ?_
    have e9 : restN o z = (z - 1, nI (z - 1)) := by unfold restN; rw [if_neg (by omega)]
    have e8 : restO o z Ω = oS Ω 0 (Ω ((o + (z - 1)) % 4 + 2)) := by unfold restO; rw [if_neg (by omega)]
    exact W.iret (v := nI (z - 1)) hx hb hr (fun t ht hW => ⟨⟨nI (z - 1), oS Ω 0 (Ω ((o + (z - 1)) % 4 + 2)), rfl, ⟨by rw [e9], e8.symm⟩, by dsimp only; rw [ht, e9]; exact ⟨hHi, hSs⟩⟩, hS.F ht⟩) hS.2.2 dX1_restoreLatest_48
set_option maxHeartbeats 4000000 in
set_option maxRecDepth 100000 in
theorem kX1_restoreLatest {p : Program} {l : Launch} {e : Env} {R : Room} {s : State} {m : MethodId} {args : Array Value} {below : List Frame} {meth : Method} {c : Code} {H : Heap} {locs : List Loc} {cells slots : Nat} {Q : State → Prop} {cc : ByteArray} {nL : Nat} {Ts : List Cond} {own : String} {index pc : Nat} {ls : Array Slot} {rest : List Value} {D : va_G} {y : Y3} {a b : Nat} {AD : Nat → Nat → Nat} {o z : Nat} {Ω : Og} {A0 : Nat → Prop} {H0 : Heap} (hF : CallFix p m c cc nL s args Ts own) (cw : CallW R s args own RX1 index yX1_restoreLatest cX1_restoreLatest 3 (some .int) wsX1_restoreLatest ({ frames := 2, cells := 0, slots := 0, locals := 43 } : Room) 0 0 1) (hC : CK D y s) (hHi : HisH D y a b AD (nI o) (nI z) H) (hSs : SsH D y AD Ω H) (hJ : adJ AD) (hba : b ≠ a) (hdj : (∀ k i, k < 6 → i < 11 → AD k i ≠ a ∧ AD k i ≠ b)) (ho : o < 4) (hz : z < 5) (hS : va_S A0 H0 H locs) (hA : ∀ q, (hisA a AD) q → A0 q) (hsz : ls.size = nL) (hW : (rest.map fun v => v.category).sum ≤ 8) (hdg : decode cc pc = .ok (.invokevirtual index, 3)) (hf : cells ≤ R.cells ∧ slots ≤ R.slots)
    (k : ∀ (H1 : Heap) (locs1 : List Loc), (HisH D y a b AD (nI o) (nI (restN o z).1) H1 ∧ SsH D y AD (restO o z Ω) H1) → H.size ≤ H1.size → (∀ q : Nat, q < H.size → ¬ (hisA a AD) q → H1[q]? = H[q]?) → va_S A0 H0 H1 locs1 → W p l e R s m args below meth c H1 locs1 cells slots Q (F0 m (pc + 3) ls (.int ((restN o z).2) :: rest))) : W p l e R s m args below meth c H locs cells slots Q (F0 m pc ls (.ref (AD 0 0) :: .ref a :: rest)) := by
  refine va_calli (va_runV (As := [.ref (AD 0 0)]) (rest := rest) hF (mX1_restoreLatest l D y a b AD o z Ω) cw ⟨fun a U g mk q => by obtain ⟨q0, q1, q2, q3, q4, q5, q6, q7, q8⟩ := q; exact ⟨q0, q1.call g mk a, q2, q3, q4, q5, q6, q7, q8⟩, va_recv hC.1 hHi (ci := 1) (q0 := 0) rfl rfl, fun U hU hW => ⟨rfl, hC.warm hW, by rw [hU]; exact hHi, by rw [hU]; exact hSs, hJ, hba, hdj, ho, hz⟩⟩ rfl rfl hsz rfl (lv_room hW) hdg ⟨hf.1, hf.2⟩) hS (fun q _ h => hA q h) hA (fun r u t H1 locs1 ht hvm hp hB hz1 hk1 hS1 => ?_)
  obtain ⟨hp1, hp2⟩ := hp
  subst hp1; subst hp2
  rw [ht] at hB
  exact k H1 locs1 hB hz1 hk1 hS1
