/-- the history: its object, its row of States; AD k the addresses of State k, those of the history from 2 on -/
def hiW (cO : ClassId) (a b : Nat) (AD : Nat → Nat → Nat) (o z : Int32) : va_W := [(a, .inr (1, [.ref b, .int o, .int z])), (b, .inl (cO, 4, .inr (.inr (.inr (.inr (fun i => some (AD (i + 2) 0)))))))]
def HisH (D : va_G) (y : Y3) (a b : Nat) (AD : Nat → Nat → Nat) (o z : Int32) (H : Heap) : Prop := va_P D vwCl (hiW y.2.2 a b AD o z) H
theorem hi_kept {D : va_G} {y : Y3} {a b : Nat} {AD : Nat → Nat → Nat} {o z : Int32} {H H1 : Heap} (h : HisH D y a b AD o z H) (ha : H1[a]? = H[a]?) (hb : H1[b]? = H[b]?) : HisH D y a b AD o z H1 :=
  va_P.kept h (fun k q hk => by
    match k, hk with
    | 0, hk => cases hk; exact ha
    | 1, hk => cases hk; exact hb
    | k + 2, hk => simp [hiW] at hk)
theorem hi_lt {D : va_G} {y : Y3} {a b : Nat} {AD : Nat → Nat → Nat} {o z : Int32} {H : Heap} (h : HisH D y a b AD o z H) : a < H.size ∧ b < H.size := ⟨(h 0 _ rfl).lt, (h 1 _ rfl).lt⟩
theorem hi_one {D : va_G} {y : Y3} {a b : Nat} {AD : Nat → Nat → Nat} {o z : Int32} {H : Heap} (h : HisH D y a b AD o z H) : va_P D vwCl [(a, .inr (1, [.ref b, .int o, .int z]))] H := h.sub [0] rfl
theorem hi_two {D : va_G} {y : Y3} {a b : Nat} {AD : Nat → Nat → Nat} {o z o2 z2 : Int32} {H H1 : Heap} (h : HisH D y a b AD o z H) (h1 : va_P D vwCl [(a, .inr (1, [.ref b, .int o2, .int z2]))] H1) (hb : H1[b]? = H[b]?) : HisH D y a b AD o2 z2 H1 := by
  intro k q hk
  match k, hk with
  | 0, hk => cases hk; exact h1 0 _ rfl
  | 1, hk => cases hk; exact (h 1 _ rfl).kept hb
  | k + 2, hk => simp [hiW] at hk
def SsH (D : va_G) (y : Y3) (AD : Nat → Nat → Nat) (Ω : Og) (H : Heap) : Prop := ∀ k, k < 6 → StH D y (AD k) (Ω k) H
/-- the addresses of the six States are apart -/
def adJ (AD : Nat → Nat → Nat) : Prop := ∀ k i k2 i2, k < 6 → i < 11 → k2 < 6 → i2 < 11 → AD k i = AD k2 i2 → k = k2 ∧ i = i2
def alA (AD : Nat → Nat → Nat) : Nat → Prop := fun q => ∃ k, k < 6 ∧ stA (AD k) q
theorem adJ.one {AD : Nat → Nat → Nat} (h : adJ AD) {k : Nat} (hk : k < 6) : adI (AD k) := fun i j hi hj e => (h k i k j hk hi hk hj e).2
theorem adJ.two {AD : Nat → Nat → Nat} (h : adJ AD) {k k2 : Nat} (hk : k < 6) (hk2 : k2 < 6) (hne : k2 ≠ k) : ∀ i j, i < 11 → j < 11 → AD k2 i ≠ AD k j := fun i j hi hj e => hne (h k2 i k j hk2 hi hk hj e).1
theorem ss_set {D : va_G} {y : Y3} {AD : Nat → Nat → Nat} {Ω : Og} {H H1 : Heap} {k : Nat} {σ : Sg} (h : SsH D y AD Ω H) (hJ : adJ AD) (hk : k < 6) (h1 : StH D y (AD k) σ H1) (hq : ∀ q : Nat, q < H.size → ¬ stA (AD k) q → H1[q]? = H[q]?) : SsH D y AD (oS Ω k σ) H1 := by
  intro j hj
  by_cases e : j = k
  · subst e
    unfold oS
    rw [if_pos rfl]
    exact h1
  · unfold oS
    rw [if_neg e]
    exact st_kept (h j hj) (fun i hi => hq _ (st_lt (h j hj) hi) (fun z => by
      obtain ⟨i2, hi2, e2⟩ := z
      exact e (hJ j i k i2 hj hi hk hi2 e2).1))
theorem ss_kept {D : va_G} {y : Y3} {AD : Nat → Nat → Nat} {Ω : Og} {H H1 : Heap} (h : SsH D y AD Ω H) (hq : ∀ q : Nat, q < H.size → alA AD q → H1[q]? = H[q]?) : SsH D y AD Ω H1 := fun j hj => st_kept (h j hj) (fun i hi => hq _ (st_lt (h j hj) hi) ⟨j, hj, i, hi, rfl⟩)
theorem rem4 : ∀ n : Nat, n < 16 → (nI n - nI n / 4 * 4) = nI (n % 4) := by decide +kernel
def hisA (a : Nat) (AD : Nat → Nat → Nat) : Nat → Prop := fun x => x = a ∨ alA AD x
theorem iwX1_size_X1 : ∀ w ∈ wsX10, w ∈ wsX1_size := fun _ h => List.mem_cons_of_mem _ (List.mem_append_right _ h)
theorem hdX1_size : yX1_size.cls = RX1 ∧ yX1_size.cls ≠ "java/lang/invoke/MethodHandle" ∧ yX1_size.cls ≠ "java/lang/invoke/VarHandle" ∧ (parseMethodDescriptor yX1_size.desc).map (fun d => d.parameters.length) = some 0 := by decide +kernel
def zX1_size (z : Int32) : Int32 := z
set_option maxHeartbeats 4000000 in
set_option maxRecDepth 100000 in
theorem mX1_size (l : Launch) (D : va_G) (y : Y3) (a b : Nat) (AD : Nat → Nat → Nat) (o z : Int32) : Met l yX1_size wsX1_size ({ frames := 0, cells := 0, slots := 0, locals := 0 } : Room) (va_Pc [.ref a] (fun U => CK D y U ∧ HisH D y a b AD o z U.heap)) (vp_Si (fun r => r = zX1_size z)) 0 0 (fun _ => False) := by
  refine Met.ofW (cc := cX1_size) (maxL := 1) (ret := (some .int)) (by decide) rfl ?_
  intro p e s m args below meth c s₁ B hml hv
  obtain ⟨rfl, hC, hHi⟩ := hv
  have hx := B.exec
  have hb := B.bytes
  have hr := B.returns
  have hts := atoms_spec (ws := wsX1_size) B.pre
  have hown : s.vm.findClass RX1 = some m.cls := findClass_of_methodNamed B.named
  have hlocks := B.notSynchronized
  have hF := (⟨hx, hb, hml, hown, hts⟩ : CallFix p m c cX1_size 1 s _ wsX1_size RX1)
  have hl := lv_entry ([.ref a]) (n := 1) (Nat.le_of_ble_eq_true rfl)
  rw [lg_entry_eq]
  generalize (lg_sl ([.ref a]) ++ List.replicate (1 - (lg_sl ([.ref a])).length) Slot.unset).toArray = ls at hl ⊢
  have hl : lv_has ls 1 [(0, .ref a)] := hl
  refine lv_aload_n hx hb dX1_size_0 rfl (lv_at hl 0 rfl) ?_
  refine va_get (D := D) (ci := 1) (v := .int z) (C := RX1) (T := TX1) (N := 3) hx hb hts iwX1_size_X1 hown hC.1 hHi 0 rfl rfl 2 (by decide) (hts (.fieldLink RX1 18 "MealLockers$History" "size" "I") (List.mem_of_getElem? (i := 1) rfl)) (fun _ h9 => h9) rfl dX1_size_1 ?_
  exact W.iret (v := z) hx hb hr (fun t ht hW => ⟨z, rfl, rfl, ht⟩) (fun q hq => absurd hq List.not_mem_nil) dX1_size_4
set_option maxHeartbeats 4000000 in
set_option maxRecDepth 100000 in
theorem kX1_size {p : Program} {l : Launch} {e : Env} {R : Room} {s : State} {m : MethodId} {args : Array Value} {below : List Frame} {meth : Method} {c : Code} {H : Heap} {locs : List Loc} {cells slots : Nat} {Q : State → Prop} {cc : ByteArray} {nL : Nat} {Ts : List Cond} {own : String} {index pc : Nat} {ls : Array Slot} {rest : List Value} {D : va_G} {y : Y3} {a b : Nat} {AD : Nat → Nat → Nat} {o z : Int32} (hF : CallFix p m c cc nL s args Ts own) (cw : CallW R s args own RX1 index yX1_size cX1_size 1 (some .int) wsX1_size ({ frames := 0, cells := 0, slots := 0, locals := 0 } : Room) 0 0 0) (hC : CK D y s) (hHi : HisH D y a b AD o z H) (hsz : ls.size = nL) (hW : (rest.map fun v => v.category).sum ≤ 8) (hdg : decode cc pc = .ok (.invokevirtual index, 3)) (hf : cells ≤ R.cells ∧ slots ≤ R.slots)
    (k : W p l e R s m args below meth c H locs cells slots Q (F0 m (pc + 3) ls (.int (zX1_size z) :: rest))) : W p l e R s m args below meth c H locs cells slots Q (F0 m pc ls (.ref a :: rest)) := by
  refine vp_callSi (W.runV (As := []) (rest := rest) hF (mX1_size l D y a b AD o z) cw ⟨fun a U g mk q => by obtain ⟨q0, q1, q2⟩ := q; exact ⟨q0, q1.call g mk a, q2⟩, va_recv hC.1 hHi (ci := 1) (q0 := 0) rfl rfl, fun U hU hW => ⟨rfl, hC.warm hW, by rw [hU]; exact hHi⟩⟩ rfl rfl hsz rfl (lv_room hW) hdg ⟨hf.1, hf.2⟩) (fun r hr => ?_)
  subst hr
  exact k
theorem iwX1_slotAt_X1 : ∀ w ∈ wsX10, w ∈ wsX1_slotAt := fun _ h => List.mem_cons_of_mem _ (List.mem_append_right _ h)
theorem hdX1_slotAt : yX1_slotAt.cls = RX1 ∧ yX1_slotAt.cls ≠ "java/lang/invoke/MethodHandle" ∧ yX1_slotAt.cls ≠ "java/lang/invoke/VarHandle" ∧ (parseMethodDescriptor yX1_slotAt.desc).map (fun d => d.parameters.length) = some 1 := by decide +kernel
def zX1_slotAt (AD : Nat → Nat → Nat) (o x1 : Int32) : Option Nat := if ((o + x1) - (o + x1) / 4 * 4) < 0 then none
  else (if 4 ≤ ((o + x1) - (o + x1) / 4 * 4) then none
    else some (AD ((((o + x1) - (o + x1) / 4 * 4)).toNatClampNeg + 2) 0))
set_option maxHeartbeats 4000000 in
set_option maxRecDepth 100000 in
theorem mX1_slotAt (l : Launch) (D : va_G) (y : Y3) (a b : Nat) (AD : Nat → Nat → Nat) (o z : Int32) (x1 : Int32) : Met l yX1_slotAt wsX1_slotAt ({ frames := 0, cells := 0, slots := 0, locals := 0 } : Room) (va_Pc [.ref a, .int x1] (fun U => CK D y U ∧ HisH D y a b AD o z U.heap)) (va_Sq (fun r => r = zX1_slotAt AD o x1)) 0 0 (fun _ => False) := by
  refine Met.ofW (cc := cX1_slotAt) (maxL := 3) (ret := (some (.object "MealLockers$State"))) (by decide) rfl ?_
  intro p e s m args below meth c s₁ B hml hv
  obtain ⟨rfl, hC, hHi⟩ := hv
  have hx := B.exec
  have hb := B.bytes
  have hr := B.returns
  have hts := atoms_spec (ws := wsX1_slotAt) B.pre
  have hown : s.vm.findClass RX1 = some m.cls := findClass_of_methodNamed B.named
  have hlocks := B.notSynchronized
  have hF := (⟨hx, hb, hml, hown, hts⟩ : CallFix p m c cX1_slotAt 3 s _ wsX1_slotAt RX1)
  have hl := lv_entry ([.ref a, .int x1]) (n := 3) (Nat.le_of_ble_eq_true rfl)
  rw [lg_entry_eq]
  generalize (lg_sl ([.ref a, .int x1]) ++ List.replicate (3 - (lg_sl ([.ref a, .int x1])).length) Slot.unset).toArray = ls at hl ⊢
  have hl : lv_has ls 3 [(0, .ref a), (1, .int x1)] := hl
  refine lv_aload_n hx hb dX1_slotAt_0 rfl (lv_at hl 0 rfl) ?_
  refine va_get (D := D) (ci := 1) (v := .int o) (C := RX1) (T := TX1) (N := 3) hx hb hts iwX1_slotAt_X1 hown hC.1 hHi 0 rfl rfl 1 (by decide) (hts (.fieldLink RX1 22 "MealLockers$History" "oldest" "I") (List.mem_of_getElem? (i := 1) rfl)) (fun _ h9 => h9) rfl dX1_slotAt_1 ?_
  refine lv_iload_n hx hb dX1_slotAt_4 rfl (lv_at hl 1 rfl) ?_
  refine lv_iadd hx hb dX1_slotAt_5 ?_
  refine lv_iconst (v := 4) hx hb dX1_slotAt_6 (by decide) ?_
  refine lv_irem hx hb dX1_slotAt_7 (by decide) ?_
  refine lv_istore_n (lv' := [(2, .int ((o + x1) - (o + x1) / 4 * 4)), (0, .ref a), (1, .int x1)]) hx hb dX1_slotAt_8 rfl hl (by decide) rfl (fun ls hl => ?_)
  refine lv_iload_n hx hb dX1_slotAt_9 rfl (lv_at hl 0 rfl) ?_
  refine lv_if_lt (tgt := 31) hx hb dX1_slotAt_10 (by decide) (fun c_1 => ?_) (fun c_1 => ?_)
  · refine lv_null hx hb dX1_slotAt_31 ?_
    exact W.aret (v := va_rf (none)) hx hb hr (Or.inl ⟨_, rfl⟩) (va_rf_or _) (fun t ht hW => ⟨none, rfl, (by unfold zX1_slotAt; rw [if_pos c_1]), ht⟩) (fun q hq => absurd hq List.not_mem_nil) dX1_slotAt_32
  · refine lv_iload_n hx hb dX1_slotAt_13 rfl (lv_at hl 0 rfl) ?_
    refine lv_aload_n hx hb dX1_slotAt_14 rfl (lv_at hl 1 rfl) ?_
    refine va_get (D := D) (ci := 1) (v := .ref b) (C := RX1) (T := TX1) (N := 3) hx hb hts iwX1_slotAt_X1 hown hC.1 hHi 0 rfl rfl 0 (by decide) (hts (.fieldLink RX1 11 "MealLockers$History" "states" "[LMealLockers$State;") (List.mem_of_getElem? (i := 2) rfl)) (fun _ h9 => h9) rfl dX1_slotAt_15 ?_
    refine va_alen (v := 4) hx hb hC.1 hHi 1 2 rfl rfl rfl dX1_slotAt_18 ?_
    refine lv_icmp_ge (tgt := 31) hx hb dX1_slotAt_19 (by decide) (fun c_2 => ?_) (fun c_2 => ?_)
    · refine lv_null hx hb dX1_slotAt_31 ?_
      exact W.aret (v := va_rf (none)) hx hb hr (Or.inl ⟨_, rfl⟩) (va_rf_or _) (fun t ht hW => ⟨none, rfl, (by unfold zX1_slotAt; rw [if_neg c_1, if_pos c_2]), ht⟩) (fun q hq => absurd hq List.not_mem_nil) dX1_slotAt_32
    · refine lv_aload_n hx hb dX1_slotAt_22 rfl (lv_at hl 1 rfl) ?_
      refine va_get (D := D) (ci := 1) (v := .ref b) (C := RX1) (T := TX1) (N := 3) hx hb hts iwX1_slotAt_X1 hown hC.1 hHi 0 rfl rfl 0 (by decide) (hts (.fieldLink RX1 11 "MealLockers$History" "states" "[LMealLockers$State;") (List.mem_of_getElem? (i := 2) rfl)) (fun _ h9 => h9) rfl dX1_slotAt_23 ?_
      refine lv_iload_n hx hb dX1_slotAt_26 rfl (lv_at hl 0 rfl) ?_
      refine va_aldq hx hb hC.1 hHi 1 2 rfl rfl (zin_of (n := 4) c_1 c_2 (by decide)) dX1_slotAt_27 ?_
      refine lv_goto (tgt := 32) hx hb dX1_slotAt_28 (by decide) ?_
      exact W.aret (v := va_rf (some (AD ((((o + x1) - (o + x1) / 4 * 4)).toNatClampNeg + 2) 0))) hx hb hr (Or.inl ⟨_, rfl⟩) (va_rf_or _) (fun t ht hW => ⟨some (AD ((((o + x1) - (o + x1) / 4 * 4)).toNatClampNeg + 2) 0), rfl, (by unfold zX1_slotAt; rw [if_neg c_1, if_neg c_2]), ht⟩) (fun q hq => absurd hq List.not_mem_nil) dX1_slotAt_32
set_option maxHeartbeats 4000000 in
set_option maxRecDepth 100000 in
theorem kX1_slotAt {p : Program} {l : Launch} {e : Env} {R : Room} {s : State} {m : MethodId} {args : Array Value} {below : List Frame} {meth : Method} {c : Code} {H : Heap} {locs : List Loc} {cells slots : Nat} {Q : State → Prop} {cc : ByteArray} {nL : Nat} {Ts : List Cond} {own : String} {index pc : Nat} {ls : Array Slot} {rest : List Value} {D : va_G} {y : Y3} {a b : Nat} {AD : Nat → Nat → Nat} {o z x1 : Int32} (hF : CallFix p m c cc nL s args Ts own) (cw : CallW R s args own RX1 index yX1_slotAt cX1_slotAt 3 (some (.object "MealLockers$State")) wsX1_slotAt ({ frames := 0, cells := 0, slots := 0, locals := 0 } : Room) 0 0 1) (hC : CK D y s) (hHi : HisH D y a b AD o z H) (hsz : ls.size = nL) (hW : (rest.map fun v => v.category).sum ≤ 8) (hdg : decode cc pc = .ok (.invokevirtual index, 3)) (hf : cells ≤ R.cells ∧ slots ≤ R.slots)
    (k : W p l e R s m args below meth c H locs cells slots Q (F0 m (pc + 3) ls (va_rf (zX1_slotAt AD o x1) :: rest))) : W p l e R s m args below meth c H locs cells slots Q (F0 m pc ls (.int x1 :: .ref a :: rest)) := by
  refine va_csq (W.runV (As := [.int x1]) (rest := rest) hF (mX1_slotAt l D y a b AD o z x1) cw ⟨fun a U g mk q => by obtain ⟨q0, q1, q2⟩ := q; exact ⟨q0, q1.call g mk a, q2⟩, va_recv hC.1 hHi (ci := 1) (q0 := 0) rfl rfl, fun U hU hW => ⟨rfl, hC.warm hW, by rw [hU]; exact hHi⟩⟩ rfl rfl hsz rfl (lv_room hW) hdg ⟨hf.1, hf.2⟩) (fun r hr => ?_)
  subst hr
  exact k
