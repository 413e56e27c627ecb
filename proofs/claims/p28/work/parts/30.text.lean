/-- a text: τ 0 its characters, τ 1 its numbers: length, next, number, letter, first, second -/
def txW (cC : ClassId) (a b : Nat) (τ : Sg) : va_W := [(a, .inr (6, [.ref b, .int (τ 1 0), .int (τ 1 1), .int (τ 1 2), .int (τ 1 3), .int (τ 1 4), .int (τ 1 5)])), (b, .inl (cC, 60, .inl (τ 0)))]
def TxH (D : va_G) (y : Y3) (a b : Nat) (τ : Sg) (H : Heap) : Prop := va_P D vwCl (txW y.2.1 a b τ) H
def sT (τ : Sg) (k : Nat) (v : Int32) : Sg := fun j => if j = 1 then upd (τ 1) k v else τ j
def sF (τ : Sg) (f : Nat → Int32) : Sg := fun j => if j = 0 then f else τ j
def okC (τ : Sg) : Prop := ∀ i, narrow .char (.int (τ 0 i)) = .int (τ 0 i)
theorem okC_sT {τ : Sg} {k : Nat} {v : Int32} (h : okC τ) : okC (sT τ k v) := h
theorem tx_put0 {D : va_G} {y : Y3} {a b : Nat} {τ : Sg} {H : Heap} {v : Int32} (h : va_P D vwCl ((txW y.2.1 a b τ).set 0 (a, .inr (6, ([.ref b, .int (τ 1 0), .int (τ 1 1), .int (τ 1 2), .int (τ 1 3), .int (τ 1 4), .int (τ 1 5)] : List Value).set 1 (.int v)))) H) : TxH D y a b (sT τ 0 v) H := h
theorem tx_put1 {D : va_G} {y : Y3} {a b : Nat} {τ : Sg} {H : Heap} {v : Int32} (h : va_P D vwCl ((txW y.2.1 a b τ).set 0 (a, .inr (6, ([.ref b, .int (τ 1 0), .int (τ 1 1), .int (τ 1 2), .int (τ 1 3), .int (τ 1 4), .int (τ 1 5)] : List Value).set 2 (.int v)))) H) : TxH D y a b (sT τ 1 v) H := h
theorem tx_put2 {D : va_G} {y : Y3} {a b : Nat} {τ : Sg} {H : Heap} {v : Int32} (h : va_P D vwCl ((txW y.2.1 a b τ).set 0 (a, .inr (6, ([.ref b, .int (τ 1 0), .int (τ 1 1), .int (τ 1 2), .int (τ 1 3), .int (τ 1 4), .int (τ 1 5)] : List Value).set 3 (.int v)))) H) : TxH D y a b (sT τ 2 v) H := h
theorem tx_put3 {D : va_G} {y : Y3} {a b : Nat} {τ : Sg} {H : Heap} {v : Int32} (h : va_P D vwCl ((txW y.2.1 a b τ).set 0 (a, .inr (6, ([.ref b, .int (τ 1 0), .int (τ 1 1), .int (τ 1 2), .int (τ 1 3), .int (τ 1 4), .int (τ 1 5)] : List Value).set 4 (.int v)))) H) : TxH D y a b (sT τ 3 v) H := h
theorem tx_put4 {D : va_G} {y : Y3} {a b : Nat} {τ : Sg} {H : Heap} {v : Int32} (h : va_P D vwCl ((txW y.2.1 a b τ).set 0 (a, .inr (6, ([.ref b, .int (τ 1 0), .int (τ 1 1), .int (τ 1 2), .int (τ 1 3), .int (τ 1 4), .int (τ 1 5)] : List Value).set 5 (.int v)))) H) : TxH D y a b (sT τ 4 v) H := h
theorem tx_put5 {D : va_G} {y : Y3} {a b : Nat} {τ : Sg} {H : Heap} {v : Int32} (h : va_P D vwCl ((txW y.2.1 a b τ).set 0 (a, .inr (6, ([.ref b, .int (τ 1 0), .int (τ 1 1), .int (τ 1 2), .int (τ 1 3), .int (τ 1 4), .int (τ 1 5)] : List Value).set 6 (.int v)))) H) : TxH D y a b (sT τ 5 v) H := h
theorem tx_D {cC : ClassId} {a b : Nat} {τ : Sg} (h : a ≠ b) : va_D (tbA a b) (txW cC a b τ) := by
  refine ⟨fun i j p q hi hj e => ?_, fun k q hk => ?_⟩
  · match i, j, hi, hj with
    | 0, 0, _, _ => rfl
    | 1, 1, _, _ => rfl
    | 0, 1, hi, hj => cases hi; cases hj; exact absurd e h
    | 1, 0, hi, hj => cases hi; cases hj; exact absurd e.symm h
    | i + 2, _, hi, _ => simp [txW] at hi
    | 0, j + 2, _, hj => simp [txW] at hj
    | 1, j + 2, _, hj => simp [txW] at hj
  · match k, hk with
    | 0, hk => cases hk; exact Or.inl rfl
    | 1, hk => cases hk; exact Or.inr rfl
    | k + 2, hk => simp [txW] at hk
theorem tx_kept {D : va_G} {y : Y3} {a b : Nat} {τ : Sg} {H H1 : Heap} (h : TxH D y a b τ H) (hq : ∀ q : Nat, tbA a b q → H1[q]? = H[q]?) : TxH D y a b τ H1 :=
  va_P.kept h (fun k q hk => by
    match k, hk with
    | 0, hk => cases hk; exact hq _ (Or.inl rfl)
    | 1, hk => cases hk; exact hq _ (Or.inr rfl)
    | k + 2, hk => simp [txW] at hk)
def zX6_length (τ : Sg) : Int32 := (τ 1 0)
theorem iwX6_length_X6 : ∀ w ∈ wsX60, w ∈ wsX6_length := fun _ h => List.mem_cons_of_mem _ (List.mem_append_right _ h)
theorem hdX6_length : yX6_length.cls = RX6 ∧ yX6_length.cls ≠ "java/lang/invoke/MethodHandle" ∧ yX6_length.cls ≠ "java/lang/invoke/VarHandle" ∧ (parseMethodDescriptor yX6_length.desc).map (fun d => d.parameters.length) = some 0 := by decide +kernel
set_option maxHeartbeats 4000000 in
set_option maxRecDepth 100000 in
theorem mX6_length (l : Launch) (D : va_G) (y : Y3) (a b : Nat) (τ : Sg) : Met l yX6_length wsX6_length ({ frames := 0, cells := 0, slots := 0, locals := 0 } : Room) (va_Pc [.ref a] (fun U => CK D y U ∧ TxH D y a b τ U.heap)) (vp_Si (fun r => r = zX6_length τ)) 0 0 (fun _ => False) := by
  refine Met.ofW (cc := cX6_length) (maxL := 1) (ret := (some .int)) (by decide) rfl ?_
  intro p e s m args below meth c s₁ B hml hv
  obtain ⟨rfl, hC, hTx⟩ := hv
  have hx := B.exec
  have hb := B.bytes
  have hr := B.returns
  have hts := atoms_spec (ws := wsX6_length) B.pre
  have hown : s.vm.findClass RX6 = some m.cls := findClass_of_methodNamed B.named
  have hlocks := B.notSynchronized
  have hF := (⟨hx, hb, hml, hown, hts⟩ : CallFix p m c cX6_length 1 s _ wsX6_length RX6)
  have hl := lv_entry ([.ref a]) (n := 1) (Nat.le_of_ble_eq_true rfl)
  rw [lg_entry_eq]
  generalize (lg_sl ([.ref a]) ++ List.replicate (1 - (lg_sl ([.ref a])).length) Slot.unset).toArray = ls at hl ⊢
  have hl : lv_has ls 1 [(0, .ref a)] := hl
  refine lv_aload_n hx hb dX6_length_0 rfl (lv_at hl 0 rfl) ?_
  refine va_get (D := D) (ci := 6) (v := .int (τ 1 0)) (C := RX6) (T := TX6) (N := 7) hx hb hts iwX6_length_X6 hown hC.1 hTx 0 rfl rfl 1 (by decide) (hts (.fieldLink RX6 15 "MealLockers$Text" "length" "I") (List.mem_of_getElem? (i := 1) rfl)) (fun _ h9 => h9) rfl dX6_length_1 ?_
  exact W.iret (v := (τ 1 0)) hx hb hr (fun t ht hW => ⟨(τ 1 0), rfl, rfl, ht⟩) (fun q hq => absurd hq List.not_mem_nil) dX6_length_4
set_option maxHeartbeats 4000000 in
set_option maxRecDepth 100000 in
theorem kX6_length {p : Program} {l : Launch} {e : Env} {R : Room} {s : State} {m : MethodId} {args : Array Value} {below : List Frame} {meth : Method} {c : Code} {H : Heap} {locs : List Loc} {cells slots : Nat} {Q : State → Prop} {cc : ByteArray} {nL : Nat} {Ts : List Cond} {own : String} {index pc : Nat} {ls : Array Slot} {rest : List Value} {D : va_G} {y : Y3} {a b : Nat} {τ : Sg} (hF : CallFix p m c cc nL s args Ts own) (cw : CallW R s args own RX6 index yX6_length cX6_length 1 (some .int) wsX6_length ({ frames := 0, cells := 0, slots := 0, locals := 0 } : Room) 0 0 0) (hC : CK D y s) (hTx : TxH D y a b τ H) (hsz : ls.size = nL) (hW : (rest.map fun v => v.category).sum ≤ 8) (hdg : decode cc pc = .ok (.invokevirtual index, 3)) (hf : cells ≤ R.cells ∧ slots ≤ R.slots)
    (k : W p l e R s m args below meth c H locs cells slots Q (F0 m (pc + 3) ls (.int (zX6_length τ) :: rest))) : W p l e R s m args below meth c H locs cells slots Q (F0 m pc ls (.ref a :: rest)) := by
  refine vp_callSi (W.runV (As := []) (rest := rest) hF (mX6_length l D y a b τ) cw ⟨fun a U g mk q => by obtain ⟨q0, q1, q2⟩ := q; exact ⟨q0, q1.call g mk a, q2⟩, va_recv hC.1 hTx (ci := 6) (q0 := 0) rfl rfl, fun U hU hW => ⟨rfl, hC.warm hW, by rw [hU]; exact hTx⟩⟩ rfl rfl hsz rfl (lv_room hW) hdg ⟨hf.1, hf.2⟩) (fun r hr => ?_)
  subst hr
  exact k
def zX6_signAt (τ : Sg) (x1 : Int32) : Int32 := if x1 < 0 then 0
  else (if (τ 1 0) ≤ x1 then 0
    else (if 60 ≤ x1 then 0
      else (τ 0 x1.toNatClampNeg)))
theorem iwX6_signAt_X6 : ∀ w ∈ wsX60, w ∈ wsX6_signAt := fun _ h => List.mem_cons_of_mem _ (List.mem_append_right _ h)
theorem hdX6_signAt : yX6_signAt.cls = RX6 ∧ yX6_signAt.cls ≠ "java/lang/invoke/MethodHandle" ∧ yX6_signAt.cls ≠ "java/lang/invoke/VarHandle" ∧ (parseMethodDescriptor yX6_signAt.desc).map (fun d => d.parameters.length) = some 1 := by decide +kernel
set_option maxHeartbeats 4000000 in
set_option maxRecDepth 100000 in
theorem mX6_signAt (l : Launch) (D : va_G) (y : Y3) (a b : Nat) (τ : Sg) (x1 : Int32) : Met l yX6_signAt wsX6_signAt ({ frames := 0, cells := 0, slots := 0, locals := 0 } : Room) (va_Pc [.ref a, .int x1] (fun U => CK D y U ∧ TxH D y a b τ U.heap ∧ okC τ)) (vp_Si (fun r => r = zX6_signAt τ x1)) 0 0 (fun _ => False) := by
  refine Met.ofW (cc := cX6_signAt) (maxL := 2) (ret := (some .char)) (by decide) rfl ?_
  intro p e s m args below meth c s₁ B hml hv
  obtain ⟨rfl, hC, hTx, hch⟩ := hv
  have hx := B.exec
  have hb := B.bytes
  have hr := B.returns
  have hts := atoms_spec (ws := wsX6_signAt) B.pre
  have hown : s.vm.findClass RX6 = some m.cls := findClass_of_methodNamed B.named
  have hlocks := B.notSynchronized
  have hF := (⟨hx, hb, hml, hown, hts⟩ : CallFix p m c cX6_signAt 2 s _ wsX6_signAt RX6)
  have hl := lv_entry ([.ref a, .int x1]) (n := 2) (Nat.le_of_ble_eq_true rfl)
  rw [lg_entry_eq]
  generalize (lg_sl ([.ref a, .int x1]) ++ List.replicate (2 - (lg_sl ([.ref a, .int x1])).length) Slot.unset).toArray = ls at hl ⊢
  have hl : lv_has ls 2 [(0, .ref a), (1, .int x1)] := hl
  refine lv_iload_n hx hb dX6_signAt_0 rfl (lv_at hl 1 rfl) ?_
  refine lv_if_lt (tgt := 30) hx hb dX6_signAt_1 (by decide) (fun c_1 => ?_) (fun c_1 => ?_)
  · refine lv_iconst (v := 0) hx hb dX6_signAt_30 (by decide) ?_
    exact W.zret (v := 0) hx hb hr (by decide) (fun t ht hW => ⟨0, rfl, (by unfold zX6_signAt; rw [if_pos c_1]), ht⟩) (fun q hq => absurd hq List.not_mem_nil) dX6_signAt_31
  · refine lv_iload_n hx hb dX6_signAt_4 rfl (lv_at hl 1 rfl) ?_
    refine lv_aload_n hx hb dX6_signAt_5 rfl (lv_at hl 0 rfl) ?_
    refine va_get (D := D) (ci := 6) (v := .int (τ 1 0)) (C := RX6) (T := TX6) (N := 7) hx hb hts iwX6_signAt_X6 hown hC.1 hTx 0 rfl rfl 1 (by decide) (hts (.fieldLink RX6 15 "MealLockers$Text" "length" "I") (List.mem_of_getElem? (i := 1) rfl)) (fun _ h9 => h9) rfl dX6_signAt_6 ?_
    refine lv_icmp_ge (tgt := 30) hx hb dX6_signAt_9 (by decide) (fun c_2 => ?_) (fun c_2 => ?_)
    · refine lv_iconst (v := 0) hx hb dX6_signAt_30 (by decide) ?_
      exact W.zret (v := 0) hx hb hr (by decide) (fun t ht hW => ⟨0, rfl, (by unfold zX6_signAt; rw [if_neg c_1, if_pos c_2]), ht⟩) (fun q hq => absurd hq List.not_mem_nil) dX6_signAt_31
    · refine lv_iload_n hx hb dX6_signAt_12 rfl (lv_at hl 1 rfl) ?_
      refine lv_aload_n hx hb dX6_signAt_13 rfl (lv_at hl 0 rfl) ?_
      refine va_get (D := D) (ci := 6) (v := .ref b) (C := RX6) (T := TX6) (N := 7) hx hb hts iwX6_signAt_X6 hown hC.1 hTx 0 rfl rfl 0 (by decide) (hts (.fieldLink RX6 9 "MealLockers$Text" "signs" "[C") (List.mem_of_getElem? (i := 2) rfl)) (fun _ h9 => h9) rfl dX6_signAt_14 ?_
      refine va_alen (v := 60) hx hb hC.1 hTx 1 1 rfl rfl rfl dX6_signAt_17 ?_
      refine lv_icmp_ge (tgt := 30) hx hb dX6_signAt_18 (by decide) (fun c_3 => ?_) (fun c_3 => ?_)
      · refine lv_iconst (v := 0) hx hb dX6_signAt_30 (by decide) ?_
        exact W.zret (v := 0) hx hb hr (by decide) (fun t ht hW => ⟨0, rfl, (by unfold zX6_signAt; rw [if_neg c_1, if_neg c_2, if_pos c_3]), ht⟩) (fun q hq => absurd hq List.not_mem_nil) dX6_signAt_31
      · refine lv_aload_n hx hb dX6_signAt_21 rfl (lv_at hl 0 rfl) ?_
        refine va_get (D := D) (ci := 6) (v := .ref b) (C := RX6) (T := TX6) (N := 7) hx hb hts iwX6_signAt_X6 hown hC.1 hTx 0 rfl rfl 0 (by decide) (hts (.fieldLink RX6 9 "MealLockers$Text" "signs" "[C") (List.mem_of_getElem? (i := 2) rfl)) (fun _ h9 => h9) rfl dX6_signAt_22 ?_
        refine lv_iload_n hx hb dX6_signAt_25 rfl (lv_at hl 1 rfl) ?_
        refine va_cald hx hb hC.1 hTx 1 1 rfl rfl (n := 60) (zin_of c_1 c_3 (by decide)) dX6_signAt_26 ?_
        refine lv_goto (tgt := 31) hx hb dX6_signAt_27 (by decide) ?_
        exact W.zret (v := (τ 0 x1.toNatClampNeg)) hx hb hr (hch _) (fun t ht hW => ⟨(τ 0 x1.toNatClampNeg), rfl, (by unfold zX6_signAt; rw [if_neg c_1, if_neg c_2, if_neg c_3]), ht⟩) (fun q hq => absurd hq List.not_mem_nil) dX6_signAt_31
set_option maxHeartbeats 4000000 in
set_option maxRecDepth 100000 in
theorem kX6_signAt {p : Program} {l : Launch} {e : Env} {R : Room} {s : State} {m : MethodId} {args : Array Value} {below : List Frame} {meth : Method} {c : Code} {H : Heap} {locs : List Loc} {cells slots : Nat} {Q : State → Prop} {cc : ByteArray} {nL : Nat} {Ts : List Cond} {own : String} {index pc : Nat} {ls : Array Slot} {rest : List Value} {D : va_G} {y : Y3} {a b : Nat} {τ : Sg} {x1 : Int32} (hF : CallFix p m c cc nL s args Ts own) (cw : CallW R s args own RX6 index yX6_signAt cX6_signAt 2 (some .char) wsX6_signAt ({ frames := 0, cells := 0, slots := 0, locals := 0 } : Room) 0 0 1) (hC : CK D y s) (hTx : TxH D y a b τ H) (hch : okC τ) (hsz : ls.size = nL) (hW : (rest.map fun v => v.category).sum ≤ 8) (hdg : decode cc pc = .ok (.invokevirtual index, 3)) (hf : cells ≤ R.cells ∧ slots ≤ R.slots)
    (k : W p l e R s m args below meth c H locs cells slots Q (F0 m (pc + 3) ls (.int (zX6_signAt τ x1) :: rest))) : W p l e R s m args below meth c H locs cells slots Q (F0 m pc ls (.int x1 :: .ref a :: rest)) := by
  refine vp_callSi (W.runV (As := [.int x1]) (rest := rest) hF (mX6_signAt l D y a b τ x1) cw ⟨fun a U g mk q => by obtain ⟨q0, q1, q2, q3⟩ := q; exact ⟨q0, q1.call g mk a, q2, q3⟩, va_recv hC.1 hTx (ci := 6) (q0 := 0) rfl rfl, fun U hU hW => ⟨rfl, hC.warm hW, by rw [hU]; exact hTx, hch⟩⟩ rfl rfl hsz rfl (lv_room hW) hdg ⟨hf.1, hf.2⟩) (fun r hr => ?_)
  subst hr
  exact k
theorem okC_sign {τ : Sg} (h : okC τ) (x : Int32) : narrow .char (.int (zX6_signAt τ x)) = .int (zX6_signAt τ x) := by
  unfold zX6_signAt
  (repeat' split) <;> first | rfl | exact h _
theorem fit_of {v : Int32} (h : narrow .char (.int v) = .int v) : fits .char (.int v) = true := by
  rw [← h]
  exact fits_narrow_char v
theorem sT_0 (τ : Sg) (k : Nat) (v : Int32) : sT τ k v 0 = τ 0 := rfl
theorem zle_of {x : Int32} (h : x < 60) : ¬ Int32.ofNat 60 ≤ x := by
  have e : (Int32.ofNat 60) = (60 : Int32) := rfl
  rw [e]
  rw [Int32.lt_iff_toInt_lt] at h
  rw [Int32.le_iff_toInt_le]
  omega
def zX6_numbersOf (x1 : Int32) : Int32 := if x1 = 102 then 2
  else (if x1 = 103 then 2
    else (if x1 = 104 then 1
      else (if x1 = 105 then 0
        else (if x1 = 106 then 0
          else (if x1 = 107 then 0
            else (if x1 = 108 then 0
              else (if x1 = 109 then 0
                else (if x1 = 110 then 2
                  else (if x1 = 111 then 0
                    else (if x1 = 112 then 1
                      else (if x1 = 113 then 0
                        else (if x1 = 114 then 2
                          else (if x1 = 115 then 0
                            else (if x1 = 116 then 2
                              else 0))))))))))))))
set_option maxHeartbeats 4000000 in
set_option maxRecDepth 100000 in
theorem mX6_numbersOf (l : Launch) (D : va_G) (y : Y3) (x1 : Int32) : Met l yX6_numbersOf wsX6_numbersOf ({ frames := 0, cells := 0, slots := 0, locals := 0 } : Room) (va_Pc [.int x1] (fun U => CK D y U)) (vp_Si (fun r => r = zX6_numbersOf x1)) 0 0 (fun _ => False) := by
  refine Met.ofW (cc := cX6_numbersOf) (maxL := 1) (ret := (some .int)) (by decide) rfl ?_
  intro p e s m args below meth c s₁ B hml hv
  obtain ⟨rfl, hC⟩ := hv
  have hx := B.exec
  have hb := B.bytes
  have hr := B.returns
  have hts := atoms_spec (ws := wsX6_numbersOf) B.pre
  have hown : s.vm.findClass RX6 = some m.cls := findClass_of_methodNamed B.named
  have hlocks := B.notSynchronized
  have hF := (⟨hx, hb, hml, hown, hts⟩ : CallFix p m c cX6_numbersOf 1 s _ wsX6_numbersOf RX6)
  have hl := lv_entry ([.int x1]) (n := 1) (Nat.le_of_ble_eq_true rfl)
  rw [lg_entry_eq]
  generalize (lg_sl ([.int x1]) ++ List.replicate (1 - (lg_sl ([.int x1])).length) Slot.unset).toArray = ls at hl ⊢
  have hl : lv_has ls 1 [(0, .int x1)] := hl
  refine lv_iload_n hx hb dX6_numbersOf_0 rfl (lv_at hl 0 rfl) ?_
  refine (Decidable.em (x1 = 102)).elim (fun c_1 => ?_) (fun c_1 => ?_)
  · refine lv_tableIn (off := 75) (tgt := 76) hx hb dX6_numbersOf_1 (by rw [c_1]; decide) (by rw [c_1]; decide) (by rw [c_1]; decide) (by decide) ?_
    refine lv_iconst (v := 2) hx hb dX6_numbersOf_76 (by decide) ?_
    exact W.iret (v := 2) hx hb hr (fun t ht hW => ⟨2, rfl, (by unfold zX6_numbersOf; rw [if_pos c_1]), ht⟩) (fun q hq => absurd hq List.not_mem_nil) dX6_numbersOf_77
  · refine (Decidable.em (x1 = 103)).elim (fun c_2 => ?_) (fun c_2 => ?_)
    · refine lv_tableIn (off := 75) (tgt := 76) hx hb dX6_numbersOf_1 (by rw [c_2]; decide) (by rw [c_2]; decide) (by rw [c_2]; decide) (by decide) ?_
      refine lv_iconst (v := 2) hx hb dX6_numbersOf_76 (by decide) ?_
      exact W.iret (v := 2) hx hb hr (fun t ht hW => ⟨2, rfl, (by unfold zX6_numbersOf; rw [if_neg c_1, if_pos c_2]), ht⟩) (fun q hq => absurd hq List.not_mem_nil) dX6_numbersOf_77
    · refine (Decidable.em (x1 = 104)).elim (fun c_3 => ?_) (fun c_3 => ?_)
      · refine lv_tableIn (off := 77) (tgt := 78) hx hb dX6_numbersOf_1 (by rw [c_3]; decide) (by rw [c_3]; decide) (by rw [c_3]; decide) (by decide) ?_
        refine lv_iconst (v := 1) hx hb dX6_numbersOf_78 (by decide) ?_
        exact W.iret (v := 1) hx hb hr (fun t ht hW => ⟨1, rfl, (by unfold zX6_numbersOf; rw [if_neg c_1, if_neg c_2, if_pos c_3]), ht⟩) (fun q hq => absurd hq List.not_mem_nil) dX6_numbersOf_79
      · refine (Decidable.em (x1 = 105)).elim (fun c_4 => ?_) (fun c_4 => ?_)
        · refine lv_tableIn (off := 79) (tgt := 80) hx hb dX6_numbersOf_1 (by rw [c_4]; decide) (by rw [c_4]; decide) (by rw [c_4]; decide) (by decide) ?_
          refine lv_iconst (v := 0) hx hb dX6_numbersOf_80 (by decide) ?_
          exact W.iret (v := 0) hx hb hr (fun t ht hW => ⟨0, rfl, (by unfold zX6_numbersOf; rw [if_neg c_1, if_neg c_2, if_neg c_3, if_pos c_4]), ht⟩) (fun q hq => absurd hq List.not_mem_nil) dX6_numbersOf_81
        · refine (Decidable.em (x1 = 106)).elim (fun c_5 => ?_) (fun c_5 => ?_)
          · refine lv_tableIn (off := 79) (tgt := 80) hx hb dX6_numbersOf_1 (by rw [c_5]; decide) (by rw [c_5]; decide) (by rw [c_5]; decide) (by decide) ?_
            refine lv_iconst (v := 0) hx hb dX6_numbersOf_80 (by decide) ?_
            exact W.iret (v := 0) hx hb hr (fun t ht hW => ⟨0, rfl, (by unfold zX6_numbersOf; rw [if_neg c_1, if_neg c_2, if_neg c_3, if_neg c_4, if_pos c_5]), ht⟩) (fun q hq => absurd hq List.not_mem_nil) dX6_numbersOf_81
          · refine (Decidable.em (x1 = 107)).elim (fun c_6 => ?_) (fun c_6 => ?_)
            · refine lv_tableIn (off := 79) (tgt := 80) hx hb dX6_numbersOf_1 (by rw [c_6]; decide) (by rw [c_6]; decide) (by rw [c_6]; decide) (by decide) ?_
              refine lv_iconst (v := 0) hx hb dX6_numbersOf_80 (by decide) ?_
              exact W.iret (v := 0) hx hb hr (fun t ht hW => ⟨0, rfl, (by unfold zX6_numbersOf; rw [if_neg c_1, if_neg c_2, if_neg c_3, if_neg c_4, if_neg c_5, if_pos c_6]), ht⟩) (fun q hq => absurd hq List.not_mem_nil) dX6_numbersOf_81
            · refine (Decidable.em (x1 = 108)).elim (fun c_7 => ?_) (fun c_7 => ?_)
              · refine lv_tableIn (off := 79) (tgt := 80) hx hb dX6_numbersOf_1 (by rw [c_7]; decide) (by rw [c_7]; decide) (by rw [c_7]; decide) (by decide) ?_
                refine lv_iconst (v := 0) hx hb dX6_numbersOf_80 (by decide) ?_
                exact W.iret (v := 0) hx hb hr (fun t ht hW => ⟨0, rfl, (by unfold zX6_numbersOf; rw [if_neg c_1, if_neg c_2, if_neg c_3, if_neg c_4, if_neg c_5, if_neg c_6, if_pos c_7]), ht⟩) (fun q hq => absurd hq List.not_mem_nil) dX6_numbersOf_81
              · refine (Decidable.em (x1 = 109)).elim (fun c_8 => ?_) (fun c_8 => ?_)
                · refine lv_tableIn (off := 79) (tgt := 80) hx hb dX6_numbersOf_1 (by rw [c_8]; decide) (by rw [c_8]; decide) (by rw [c_8]; decide) (by decide) ?_
                  refine lv_iconst (v := 0) hx hb dX6_numbersOf_80 (by decide) ?_
                  exact W.iret (v := 0) hx hb hr (fun t ht hW => ⟨0, rfl, (by unfold zX6_numbersOf; rw [if_neg c_1, if_neg c_2, if_neg c_3, if_neg c_4, if_neg c_5, if_neg c_6, if_neg c_7, if_pos c_8]), ht⟩) (fun q hq => absurd hq List.not_mem_nil) dX6_numbersOf_81
                · refine (Decidable.em (x1 = 110)).elim (fun c_9 => ?_) (fun c_9 => ?_)
                  · refine lv_tableIn (off := 75) (tgt := 76) hx hb dX6_numbersOf_1 (by rw [c_9]; decide) (by rw [c_9]; decide) (by rw [c_9]; decide) (by decide) ?_
                    refine lv_iconst (v := 2) hx hb dX6_numbersOf_76 (by decide) ?_
                    exact W.iret (v := 2) hx hb hr (fun t ht hW => ⟨2, rfl, (by unfold zX6_numbersOf; rw [if_neg c_1, if_neg c_2, if_neg c_3, if_neg c_4, if_neg c_5, if_neg c_6, if_neg c_7, if_neg c_8, if_pos c_9]), ht⟩) (fun q hq => absurd hq List.not_mem_nil) dX6_numbersOf_77
                  · refine (Decidable.em (x1 = 111)).elim (fun c_10 => ?_) (fun c_10 => ?_)
                    · refine lv_tableIn (off := 79) (tgt := 80) hx hb dX6_numbersOf_1 (by rw [c_10]; decide) (by rw [c_10]; decide) (by rw [c_10]; decide) (by decide) ?_
                      refine lv_iconst (v := 0) hx hb dX6_numbersOf_80 (by decide) ?_
                      exact W.iret (v := 0) hx hb hr (fun t ht hW => ⟨0, rfl, (by unfold zX6_numbersOf; rw [if_neg c_1, if_neg c_2, if_neg c_3, if_neg c_4, if_neg c_5, if_neg c_6, if_neg c_7, if_neg c_8, if_neg c_9, if_pos c_10]), ht⟩) (fun q hq => absurd hq List.not_mem_nil) dX6_numbersOf_81
                    · refine (Decidable.em (x1 = 112)).elim (fun c_11 => ?_) (fun c_11 => ?_)
                      · refine lv_tableIn (off := 77) (tgt := 78) hx hb dX6_numbersOf_1 (by rw [c_11]; decide) (by rw [c_11]; decide) (by rw [c_11]; decide) (by decide) ?_
                        refine lv_iconst (v := 1) hx hb dX6_numbersOf_78 (by decide) ?_
                        exact W.iret (v := 1) hx hb hr (fun t ht hW => ⟨1, rfl, (by unfold zX6_numbersOf; rw [if_neg c_1, if_neg c_2, if_neg c_3, if_neg c_4, if_neg c_5, if_neg c_6, if_neg c_7, if_neg c_8, if_neg c_9, if_neg c_10, if_pos c_11]), ht⟩) (fun q hq => absurd hq List.not_mem_nil) dX6_numbersOf_79
                      · refine (Decidable.em (x1 = 113)).elim (fun c_12 => ?_) (fun c_12 => ?_)
                        · refine lv_tableIn (off := 79) (tgt := 80) hx hb dX6_numbersOf_1 (by rw [c_12]; decide) (by rw [c_12]; decide) (by rw [c_12]; decide) (by decide) ?_
                          refine lv_iconst (v := 0) hx hb dX6_numbersOf_80 (by decide) ?_
                          exact W.iret (v := 0) hx hb hr (fun t ht hW => ⟨0, rfl, (by unfold zX6_numbersOf; rw [if_neg c_1, if_neg c_2, if_neg c_3, if_neg c_4, if_neg c_5, if_neg c_6, if_neg c_7, if_neg c_8, if_neg c_9, if_neg c_10, if_neg c_11, if_pos c_12]), ht⟩) (fun q hq => absurd hq List.not_mem_nil) dX6_numbersOf_81
                        · refine (Decidable.em (x1 = 114)).elim (fun c_13 => ?_) (fun c_13 => ?_)
                          · refine lv_tableIn (off := 75) (tgt := 76) hx hb dX6_numbersOf_1 (by rw [c_13]; decide) (by rw [c_13]; decide) (by rw [c_13]; decide) (by decide) ?_
                            refine lv_iconst (v := 2) hx hb dX6_numbersOf_76 (by decide) ?_
                            exact W.iret (v := 2) hx hb hr (fun t ht hW => ⟨2, rfl, (by unfold zX6_numbersOf; rw [if_neg c_1, if_neg c_2, if_neg c_3, if_neg c_4, if_neg c_5, if_neg c_6, if_neg c_7, if_neg c_8, if_neg c_9, if_neg c_10, if_neg c_11, if_neg c_12, if_pos c_13]), ht⟩) (fun q hq => absurd hq List.not_mem_nil) dX6_numbersOf_77
                          · refine (Decidable.em (x1 = 115)).elim (fun c_14 => ?_) (fun c_14 => ?_)
                            · refine lv_tableIn (off := 79) (tgt := 80) hx hb dX6_numbersOf_1 (by rw [c_14]; decide) (by rw [c_14]; decide) (by rw [c_14]; decide) (by decide) ?_
                              refine lv_iconst (v := 0) hx hb dX6_numbersOf_80 (by decide) ?_
                              exact W.iret (v := 0) hx hb hr (fun t ht hW => ⟨0, rfl, (by unfold zX6_numbersOf; rw [if_neg c_1, if_neg c_2, if_neg c_3, if_neg c_4, if_neg c_5, if_neg c_6, if_neg c_7, if_neg c_8, if_neg c_9, if_neg c_10, if_neg c_11, if_neg c_12, if_neg c_13, if_pos c_14]), ht⟩) (fun q hq => absurd hq List.not_mem_nil) dX6_numbersOf_81
                            · refine (Decidable.em (x1 = 116)).elim (fun c_15 => ?_) (fun c_15 => ?_)
                              · refine lv_tableIn (off := 75) (tgt := 76) hx hb dX6_numbersOf_1 (by rw [c_15]; decide) (by rw [c_15]; decide) (by rw [c_15]; decide) (by decide) ?_
                                refine lv_iconst (v := 2) hx hb dX6_numbersOf_76 (by decide) ?_
                                exact W.iret (v := 2) hx hb hr (fun t ht hW => ⟨2, rfl, (by unfold zX6_numbersOf; rw [if_neg c_1, if_neg c_2, if_neg c_3, if_neg c_4, if_neg c_5, if_neg c_6, if_neg c_7, if_neg c_8, if_neg c_9, if_neg c_10, if_neg c_11, if_neg c_12, if_neg c_13, if_neg c_14, if_pos c_15]), ht⟩) (fun q hq => absurd hq List.not_mem_nil) dX6_numbersOf_77
                              · refine lv_tableOut (tgt := 80) hx hb dX6_numbersOf_1 (by have q0 := lv_neT (a := 102) c_1 (by decide); have q1 := lv_neT (a := 103) c_2 (by decide); have q2 := lv_neT (a := 104) c_3 (by decide); have q3 := lv_neT (a := 105) c_4 (by decide); have q4 := lv_neT (a := 106) c_5 (by decide); have q5 := lv_neT (a := 107) c_6 (by decide); have q6 := lv_neT (a := 108) c_7 (by decide); have q7 := lv_neT (a := 109) c_8 (by decide); have q8 := lv_neT (a := 110) c_9 (by decide); have q9 := lv_neT (a := 111) c_10 (by decide); have q10 := lv_neT (a := 112) c_11 (by decide); have q11 := lv_neT (a := 113) c_12 (by decide); have q12 := lv_neT (a := 114) c_13 (by decide); have q13 := lv_neT (a := 115) c_14 (by decide); have q14 := lv_neT (a := 116) c_15 (by decide); omega) (by decide) ?_
                                refine lv_iconst (v := 0) hx hb dX6_numbersOf_80 (by decide) ?_
                                exact W.iret (v := 0) hx hb hr (fun t ht hW => ⟨0, rfl, (by unfold zX6_numbersOf; rw [if_neg c_1, if_neg c_2, if_neg c_3, if_neg c_4, if_neg c_5, if_neg c_6, if_neg c_7, if_neg c_8, if_neg c_9, if_neg c_10, if_neg c_11, if_neg c_12, if_neg c_13, if_neg c_14, if_neg c_15]), ht⟩) (fun q hq => absurd hq List.not_mem_nil) dX6_numbersOf_81
set_option maxHeartbeats 4000000 in
set_option maxRecDepth 100000 in
theorem kX6_numbersOf {p : Program} {l : Launch} {e : Env} {R : Room} {s : State} {m : MethodId} {args : Array Value} {below : List Frame} {meth : Method} {c : Code} {H : Heap} {locs : List Loc} {cells slots : Nat} {Q : State → Prop} {cc : ByteArray} {nL : Nat} {Ts : List Cond} {own : String} {index pc : Nat} {ls : Array Slot} {rest : List Value} {D : va_G} {y : Y3} {x1 : Int32} (hF : CallFix p m c cc nL s args Ts own) (cw : CallB R s args own index yX6_numbersOf cX6_numbersOf 1 (some .int) wsX6_numbersOf ({ frames := 0, cells := 0, slots := 0, locals := 0 } : Room) 0 0 1 ∧ (Cond.static yX6_numbersOf).before args s = true) (hC : CK D y s) (hsz : ls.size = nL) (hW : (rest.map fun v => v.category).sum ≤ 8) (hdg : decode cc pc = .ok (.invokestatic index, 3)) (hf : cells ≤ R.cells ∧ slots ≤ R.slots)
    (k : W p l e R s m args below meth c H locs cells slots Q (F0 m (pc + 3) ls (.int (zX6_numbersOf x1) :: rest))) : W p l e R s m args below meth c H locs cells slots Q (F0 m pc ls (.int x1 :: rest)) := by
  refine vp_callSi (W.runS (As := [.int x1]) (rest := rest) hF (mX6_numbersOf l D y x1) cw ⟨fun a U g mk q => by obtain ⟨q0, q1⟩ := q; exact ⟨q0, q1.call g mk a⟩, fun U hU hW => ⟨rfl, hC.warm hW⟩⟩ rfl rfl hsz rfl (lv_room hW) hdg ⟨hf.1, hf.2⟩) (fun r hr => ?_)
  subst hr
  exact k
theorem okC_of {τ τ2 : Sg} (e : τ2 0 = τ 0) (h : okC τ) : okC τ2 := by
  intro i
  rw [e]
  exact h i
def zX6_append (τ : Sg) (x1 : Int32) : Int32 × Sg := if (zX7_isWithin x1 32 126) = 0 then ((-1), τ)
  else (if (τ 1 0) < 0 then ((-3), τ)
    else (if (τ 1 0) < 60 then (((sT (sF τ (upd (τ 0) (τ 1 0).toNatClampNeg (vp_nar .char ((x1.toUInt32 % 65536).toInt32)))) 0 (((sF τ (upd (τ 0) (τ 1 0).toNatClampNeg (vp_nar .char ((x1.toUInt32 % 65536).toInt32)))) 1 0) + 1)) 1 0), sT (sF τ (upd (τ 0) (τ 1 0).toNatClampNeg (vp_nar .char ((x1.toUInt32 % 65536).toInt32)))) 0 (((sF τ (upd (τ 0) (τ 1 0).toNatClampNeg (vp_nar .char ((x1.toUInt32 % 65536).toInt32)))) 1 0) + 1))
      else ((-3), τ)))
theorem iwX6_append_X6 : ∀ w ∈ wsX60, w ∈ wsX6_append := fun _ h => List.mem_cons_of_mem _ (List.mem_append_right _ h)
theorem hdX6_append : yX6_append.cls = RX6 ∧ yX6_append.cls ≠ "java/lang/invoke/MethodHandle" ∧ yX6_append.cls ≠ "java/lang/invoke/VarHandle" ∧ (parseMethodDescriptor yX6_append.desc).map (fun d => d.parameters.length) = some 1 := by decide +kernel
set_option maxHeartbeats 4000000 in
set_option maxRecDepth 100000 in
theorem mX6_append (l : Launch) (D : va_G) (y : Y3) (a b : Nat) (τ : Sg) (x1 : Int32) : Met l yX6_append wsX6_append ({ frames := 1, cells := 0, slots := 0, locals := 22 } : Room) (va_Pc [.ref a, .int x1] (fun U => CK D y U ∧ TxH D y a b τ U.heap ∧ okC τ ∧ a ≠ b)) (va_Qi (fun (r : Int32) (u : Sg) => r = (zX6_append τ x1).1 ∧ u = (zX6_append τ x1).2) (fun u t => TxH D y a b u t.heap) (tbA a b)) 0 0 (tbA a b) := by
  refine Met.ofW (cc := cX6_append) (maxL := 2) (ret := (some .int)) (by decide) rfl ?_
  intro p e s m args below meth c s₁ B hml hv
  obtain ⟨rfl, hC, hTx, hch, hne⟩ := hv
  have hx := B.exec
  have hb := B.bytes
  have hr := B.returns
  have hts := atoms_spec (ws := wsX6_append) B.pre
  have hown : s.vm.findClass RX6 = some m.cls := findClass_of_methodNamed B.named
  have hlocks := B.notSynchronized
  have hF := (⟨hx, hb, hml, hown, hts⟩ : CallFix p m c cX6_append 2 s _ wsX6_append RX6)
  have hS : va_S (tbA a b) s.heap s.heap [] := va_S.rf
  have hl := lv_entry ([.ref a, .int x1]) (n := 2) (Nat.le_of_ble_eq_true rfl)
  rw [lg_entry_eq]
  generalize (lg_sl ([.ref a, .int x1]) ++ List.replicate (2 - (lg_sl ([.ref a, .int x1])).length) Slot.unset).toArray = ls at hl ⊢
  have hl : lv_has ls 2 [(0, .ref a), (1, .int x1)] := hl
  refine lv_iload_n hx hb dX6_append_0 rfl (lv_at hl 1 rfl) ?_
  refine lv_bipush (v := 32) hx hb dX6_append_1 (by decide) ?_
  refine lv_bipush (v := 126) hx hb dX6_append_3 (by decide) ?_
  refine kX7_isWithinN hF ⟨va_cnB 3 hts gX6_append_X7_isWithin_n19 rfl rfl rfl (nw_m2 hC) (hts (.initialized RX7) (List.mem_of_getElem? (i := 4) rfl)) hdX7_isWithin ⟨Nat.le_of_ble_eq_true rfl, Nat.le_of_ble_eq_true rfl⟩, (hts (.static yX7_isWithin) (List.mem_of_getElem? (i := 3) rfl)), trivial⟩ hC hl.1 (Nat.le_of_ble_eq_true rfl) dX6_append_5 ⟨Nat.zero_le _, Nat.zero_le _⟩ ?_
  refine lv_if_ne (tgt := 13) hx hb dX6_append_8 (by decide) (fun c_1 => ?_) (fun c_1 => ?_)
  · refine lv_aload_n hx hb dX6_append_13 rfl (lv_at hl 0 rfl) ?_
    refine va_get (D := D) (ci := 6) (v := .int (τ 1 0)) (C := RX6) (T := TX6) (N := 7) hx hb hts iwX6_append_X6 hown hC.1 hTx 0 rfl rfl 1 (by decide) (hts (.fieldLink RX6 15 "MealLockers$Text" "length" "I") (List.mem_of_getElem? (i := 1) rfl)) (fun _ h9 => h9) rfl dX6_append_14 ?_
    refine lv_if_lt (tgt := 32) hx hb dX6_append_17 (by decide) (fun c_2 => ?_) (fun c_2 => ?_)
    · refine lv_bipush (v := (-3)) hx hb dX6_append_32 (by decide) ?_
      exact W.iret (v := (-3)) hx hb hr (fun t ht hW => ⟨⟨(-3), τ, rfl, ⟨(by unfold zX6_append; rw [if_neg c_1, if_pos c_2]), (by unfold zX6_append; rw [if_neg c_1, if_pos c_2])⟩, by dsimp only; rw [ht]; exact hTx⟩, hS.F ht⟩) hS.2.2 dX6_append_34
    · refine lv_aload_n hx hb dX6_append_20 rfl (lv_at hl 0 rfl) ?_
      refine va_get (D := D) (ci := 6) (v := .int (τ 1 0)) (C := RX6) (T := TX6) (N := 7) hx hb hts iwX6_append_X6 hown hC.1 hTx 0 rfl rfl 1 (by decide) (hts (.fieldLink RX6 15 "MealLockers$Text" "length" "I") (List.mem_of_getElem? (i := 1) rfl)) (fun _ h9 => h9) rfl dX6_append_21 ?_
      refine lv_aload_n hx hb dX6_append_24 rfl (lv_at hl 0 rfl) ?_
      refine va_get (D := D) (ci := 6) (v := .ref b) (C := RX6) (T := TX6) (N := 7) hx hb hts iwX6_append_X6 hown hC.1 hTx 0 rfl rfl 0 (by decide) (hts (.fieldLink RX6 9 "MealLockers$Text" "signs" "[C") (List.mem_of_getElem? (i := 2) rfl)) (fun _ h9 => h9) rfl dX6_append_25 ?_
      refine va_alen (v := 60) hx hb hC.1 hTx 1 1 rfl rfl rfl dX6_append_28 ?_
      refine lv_icmp_lt (tgt := 35) hx hb dX6_append_29 (by decide) (fun c_3 => ?_) (fun c_3 => ?_)
      · refine lv_aload_n hx hb dX6_append_35 rfl (lv_at hl 0 rfl) ?_
        refine va_get (D := D) (ci := 6) (v := .ref b) (C := RX6) (T := TX6) (N := 7) hx hb hts iwX6_append_X6 hown hC.1 hTx 0 rfl rfl 0 (by decide) (hts (.fieldLink RX6 9 "MealLockers$Text" "signs" "[C") (List.mem_of_getElem? (i := 2) rfl)) (fun _ h9 => h9) rfl dX6_append_36 ?_
        refine lv_aload_n hx hb dX6_append_39 rfl (lv_at hl 0 rfl) ?_
        refine va_get (D := D) (ci := 6) (v := .int (τ 1 0)) (C := RX6) (T := TX6) (N := 7) hx hb hts iwX6_append_X6 hown hC.1 hTx 0 rfl rfl 1 (by decide) (hts (.fieldLink RX6 15 "MealLockers$Text" "length" "I") (List.mem_of_getElem? (i := 1) rfl)) (fun _ h9 => h9) rfl dX6_append_40 ?_
        refine lv_iload_n hx hb dX6_append_43 rfl (lv_at hl 1 rfl) ?_
        refine lv_i2c (v := (x1.toUInt32 % 65536).toInt32) hx hb dX6_append_44 rfl ?_
        refine va_cast hx hb hC.1 hTx (tx_D hne) hS 1 1 rfl rfl (n := 60) (zin_of c_2 (zle_of c_3) (by decide)) dX6_append_45 (fun H locs hTx _ hS => ?_)
        have hTx : TxH D y a b (sF τ (upd (τ 0) (τ 1 0).toNatClampNeg (vp_nar .char ((x1.toUInt32 % 65536).toInt32)))) H := hTx
        refine lv_aload_n hx hb dX6_append_46 rfl (lv_at hl 0 rfl) ?_
        refine lv_dup hx hb dX6_append_47 rfl ?_
        refine va_get (D := D) (ci := 6) (v := .int ((sF τ (upd (τ 0) (τ 1 0).toNatClampNeg (vp_nar .char ((x1.toUInt32 % 65536).toInt32)))) 1 0)) (C := RX6) (T := TX6) (N := 7) hx hb hts iwX6_append_X6 hown hC.1 hTx 0 rfl rfl 1 (by decide) (hts (.fieldLink RX6 15 "MealLockers$Text" "length" "I") (List.mem_of_getElem? (i := 1) rfl)) (fun _ h9 => h9) rfl dX6_append_48 ?_
        refine lv_iconst (v := 1) hx hb dX6_append_51 (by decide) ?_
        refine lv_iadd hx hb dX6_append_52 ?_
        refine va_put (D := D) (ci := 6) (v := .int (((sF τ (upd (τ 0) (τ 1 0).toNatClampNeg (vp_nar .char ((x1.toUInt32 % 65536).toInt32)))) 1 0) + 1)) (ty := .int) (C := RX6) (T := TX6) (N := 7) hx hb hts iwX6_append_X6 tyX6 tyX6_ok nmX6 hown hC.1 hTx (tx_D hne) hS 0 rfl rfl 1 (by decide) (hts (.fieldLink RX6 15 "MealLockers$Text" "length" "I") (List.mem_of_getElem? (i := 1) rfl)) (fun _ h9 => h9) rfl (by decide +kernel) rfl rfl (Nat.le_of_ble_eq_true rfl) dX6_append_53 (fun H locs hTx _ hS => ?_)
        have hTx := tx_put0 hTx
        refine lv_aload_n hx hb dX6_append_56 rfl (lv_at hl 0 rfl) ?_
        refine va_get (D := D) (ci := 6) (v := .int ((sT (sF τ (upd (τ 0) (τ 1 0).toNatClampNeg (vp_nar .char ((x1.toUInt32 % 65536).toInt32)))) 0 (((sF τ (upd (τ 0) (τ 1 0).toNatClampNeg (vp_nar .char ((x1.toUInt32 % 65536).toInt32)))) 1 0) + 1)) 1 0)) (C := RX6) (T := TX6) (N := 7) hx hb hts iwX6_append_X6 hown hC.1 hTx 0 rfl rfl 1 (by decide) (hts (.fieldLink RX6 15 "MealLockers$Text" "length" "I") (List.mem_of_getElem? (i := 1) rfl)) (fun _ h9 => h9) rfl dX6_append_57 ?_
        exact W.iret (v := ((sT (sF τ (upd (τ 0) (τ 1 0).toNatClampNeg (vp_nar .char ((x1.toUInt32 % 65536).toInt32)))) 0 (((sF τ (upd (τ 0) (τ 1 0).toNatClampNeg (vp_nar .char ((x1.toUInt32 % 65536).toInt32)))) 1 0) + 1)) 1 0)) hx hb hr (fun t ht hW => ⟨⟨((sT (sF τ (upd (τ 0) (τ 1 0).toNatClampNeg (vp_nar .char ((x1.toUInt32 % 65536).toInt32)))) 0 (((sF τ (upd (τ 0) (τ 1 0).toNatClampNeg (vp_nar .char ((x1.toUInt32 % 65536).toInt32)))) 1 0) + 1)) 1 0), sT (sF τ (upd (τ 0) (τ 1 0).toNatClampNeg (vp_nar .char ((x1.toUInt32 % 65536).toInt32)))) 0 (((sF τ (upd (τ 0) (τ 1 0).toNatClampNeg (vp_nar .char ((x1.toUInt32 % 65536).toInt32)))) 1 0) + 1), rfl, ⟨(by unfold zX6_append; rw [if_neg c_1, if_neg c_2, if_pos c_3]), (by unfold zX6_append; rw [if_neg c_1, if_neg c_2, if_pos c_3])⟩, by dsimp only; rw [ht]; exact hTx⟩, hS.F ht⟩) hS.2.2 dX6_append_60
      · refine lv_bipush (v := (-3)) hx hb dX6_append_32 (by decide) ?_
        exact W.iret (v := (-3)) hx hb hr (fun t ht hW => ⟨⟨(-3), τ, rfl, ⟨(by unfold zX6_append; rw [if_neg c_1, if_neg c_2, if_neg c_3]), (by unfold zX6_append; rw [if_neg c_1, if_neg c_2, if_neg c_3])⟩, by dsimp only; rw [ht]; exact hTx⟩, hS.F ht⟩) hS.2.2 dX6_append_34
  · refine lv_iconst (v := (-1)) hx hb dX6_append_11 (by decide) ?_
    exact W.iret (v := (-1)) hx hb hr (fun t ht hW => ⟨⟨(-1), τ, rfl, ⟨(by unfold zX6_append; rw [if_pos c_1]), (by unfold zX6_append; rw [if_pos c_1])⟩, by dsimp only; rw [ht]; exact hTx⟩, hS.F ht⟩) hS.2.2 dX6_append_12
set_option maxHeartbeats 4000000 in
set_option maxRecDepth 100000 in
theorem kX6_append {p : Program} {l : Launch} {e : Env} {R : Room} {s : State} {m : MethodId} {args : Array Value} {below : List Frame} {meth : Method} {c : Code} {H : Heap} {locs : List Loc} {cells slots : Nat} {Q : State → Prop} {cc : ByteArray} {nL : Nat} {Ts : List Cond} {own : String} {index pc : Nat} {ls : Array Slot} {rest : List Value} {D : va_G} {y : Y3} {a b : Nat} {τ : Sg} {x1 : Int32} {A0 : Nat → Prop} {H0 : Heap} (hF : CallFix p m c cc nL s args Ts own) (cw : CallW R s args own RX6 index yX6_append cX6_append 2 (some .int) wsX6_append ({ frames := 1, cells := 0, slots := 0, locals := 22 } : Room) 0 0 1) (hC : CK D y s) (hTx : TxH D y a b τ H) (hch : okC τ) (hne : a ≠ b) (hS : va_S A0 H0 H locs) (hA : ∀ q, (tbA a b) q → A0 q) (hsz : ls.size = nL) (hW : (rest.map fun v => v.category).sum ≤ 8) (hdg : decode cc pc = .ok (.invokevirtual index, 3)) (hf : cells ≤ R.cells ∧ slots ≤ R.slots)
    (k : ∀ (H1 : Heap) (locs1 : List Loc), TxH D y a b (zX6_append τ x1).2 H1 → H.size ≤ H1.size → (∀ q : Nat, q < H.size → ¬ (tbA a b) q → H1[q]? = H[q]?) → va_S A0 H0 H1 locs1 → W p l e R s m args below meth c H1 locs1 cells slots Q (F0 m (pc + 3) ls (.int ((zX6_append τ x1).1) :: rest))) : W p l e R s m args below meth c H locs cells slots Q (F0 m pc ls (.int x1 :: .ref a :: rest)) := by
  refine va_calli (va_runV (As := [.int x1]) (rest := rest) hF (mX6_append l D y a b τ x1) cw ⟨fun a U g mk q => by obtain ⟨q0, q1, q2, q3, q4⟩ := q; exact ⟨q0, q1.call g mk a, q2, q3, q4⟩, va_recv hC.1 hTx (ci := 6) (q0 := 0) rfl rfl, fun U hU hW => ⟨rfl, hC.warm hW, by rw [hU]; exact hTx, hch, hne⟩⟩ rfl rfl hsz rfl (lv_room hW) hdg ⟨hf.1, hf.2⟩) hS (fun q _ h => hA q h) hA (fun r u t H1 locs1 ht hvm hp hB hz1 hk1 hS1 => ?_)
  obtain ⟨hp1, hp2⟩ := hp
  subst hp1; subst hp2
  rw [ht] at hB
  exact k H1 locs1 hB hz1 hk1 hS1
def zX6_empty (τ : Sg) : Int32 × Sg := ((τ 1 0), sT τ 0 0)
theorem iwX6_empty_X6 : ∀ w ∈ wsX60, w ∈ wsX6_empty := fun _ h => List.mem_cons_of_mem _ (List.mem_append_right _ h)
theorem hdX6_empty : yX6_empty.cls = RX6 ∧ yX6_empty.cls ≠ "java/lang/invoke/MethodHandle" ∧ yX6_empty.cls ≠ "java/lang/invoke/VarHandle" ∧ (parseMethodDescriptor yX6_empty.desc).map (fun d => d.parameters.length) = some 0 := by decide +kernel
set_option maxHeartbeats 4000000 in
set_option maxRecDepth 100000 in
theorem mX6_empty (l : Launch) (D : va_G) (y : Y3) (a b : Nat) (τ : Sg) : Met l yX6_empty wsX6_empty ({ frames := 0, cells := 0, slots := 0, locals := 0 } : Room) (va_Pc [.ref a] (fun U => CK D y U ∧ TxH D y a b τ U.heap ∧ okC τ ∧ a ≠ b)) (va_Qi (fun (r : Int32) (u : Sg) => r = (zX6_empty τ).1 ∧ u = (zX6_empty τ).2) (fun u t => TxH D y a b u t.heap) (tbA a b)) 0 0 (tbA a b) := by
  refine Met.ofW (cc := cX6_empty) (maxL := 2) (ret := (some .int)) (by decide) rfl ?_
  intro p e s m args below meth c s₁ B hml hv
  obtain ⟨rfl, hC, hTx, hch, hne⟩ := hv
  have hx := B.exec
  have hb := B.bytes
  have hr := B.returns
  have hts := atoms_spec (ws := wsX6_empty) B.pre
  have hown : s.vm.findClass RX6 = some m.cls := findClass_of_methodNamed B.named
  have hlocks := B.notSynchronized
  have hF := (⟨hx, hb, hml, hown, hts⟩ : CallFix p m c cX6_empty 2 s _ wsX6_empty RX6)
  have hS : va_S (tbA a b) s.heap s.heap [] := va_S.rf
  have hl := lv_entry ([.ref a]) (n := 2) (Nat.le_of_ble_eq_true rfl)
  rw [lg_entry_eq]
  generalize (lg_sl ([.ref a]) ++ List.replicate (2 - (lg_sl ([.ref a])).length) Slot.unset).toArray = ls at hl ⊢
  have hl : lv_has ls 2 [(0, .ref a)] := hl
  refine lv_aload_n hx hb dX6_empty_0 rfl (lv_at hl 0 rfl) ?_
  refine va_get (D := D) (ci := 6) (v := .int (τ 1 0)) (C := RX6) (T := TX6) (N := 7) hx hb hts iwX6_empty_X6 hown hC.1 hTx 0 rfl rfl 1 (by decide) (hts (.fieldLink RX6 15 "MealLockers$Text" "length" "I") (List.mem_of_getElem? (i := 1) rfl)) (fun _ h9 => h9) rfl dX6_empty_1 ?_
  refine lv_istore_n (lv' := [(1, .int (τ 1 0)), (0, .ref a)]) hx hb dX6_empty_4 rfl hl (by decide) rfl (fun ls hl => ?_)
  refine lv_aload_n hx hb dX6_empty_5 rfl (lv_at hl 1 rfl) ?_
  refine lv_iconst (v := 0) hx hb dX6_empty_6 (by decide) ?_
  refine va_put (D := D) (ci := 6) (v := .int 0) (ty := .int) (C := RX6) (T := TX6) (N := 7) hx hb hts iwX6_empty_X6 tyX6 tyX6_ok nmX6 hown hC.1 hTx (tx_D hne) hS 0 rfl rfl 1 (by decide) (hts (.fieldLink RX6 15 "MealLockers$Text" "length" "I") (List.mem_of_getElem? (i := 1) rfl)) (fun _ h9 => h9) rfl (by decide +kernel) rfl rfl (Nat.le_of_ble_eq_true rfl) dX6_empty_7 (fun H locs hTx _ hS => ?_)
  have hTx := tx_put0 hTx
  have hch := okC_sT (k := 0) (v := 0) hch
  refine lv_iload_n hx hb dX6_empty_10 rfl (lv_at hl 0 rfl) ?_
  exact W.iret (v := (τ 1 0)) hx hb hr (fun t ht hW => ⟨⟨(τ 1 0), sT τ 0 0, rfl, ⟨rfl, rfl⟩, by dsimp only; rw [ht]; exact hTx⟩, hS.F ht⟩) hS.2.2 dX6_empty_11
set_option maxHeartbeats 4000000 in
set_option maxRecDepth 100000 in
theorem kX6_empty {p : Program} {l : Launch} {e : Env} {R : Room} {s : State} {m : MethodId} {args : Array Value} {below : List Frame} {meth : Method} {c : Code} {H : Heap} {locs : List Loc} {cells slots : Nat} {Q : State → Prop} {cc : ByteArray} {nL : Nat} {Ts : List Cond} {own : String} {index pc : Nat} {ls : Array Slot} {rest : List Value} {D : va_G} {y : Y3} {a b : Nat} {τ : Sg} {A0 : Nat → Prop} {H0 : Heap} (hF : CallFix p m c cc nL s args Ts own) (cw : CallW R s args own RX6 index yX6_empty cX6_empty 2 (some .int) wsX6_empty ({ frames := 0, cells := 0, slots := 0, locals := 0 } : Room) 0 0 0) (hC : CK D y s) (hTx : TxH D y a b τ H) (hch : okC τ) (hne : a ≠ b) (hS : va_S A0 H0 H locs) (hA : ∀ q, (tbA a b) q → A0 q) (hsz : ls.size = nL) (hW : (rest.map fun v => v.category).sum ≤ 8) (hdg : decode cc pc = .ok (.invokevirtual index, 3)) (hf : cells ≤ R.cells ∧ slots ≤ R.slots)
    (k : ∀ (H1 : Heap) (locs1 : List Loc), TxH D y a b (zX6_empty τ).2 H1 → H.size ≤ H1.size → (∀ q : Nat, q < H.size → ¬ (tbA a b) q → H1[q]? = H[q]?) → va_S A0 H0 H1 locs1 → W p l e R s m args below meth c H1 locs1 cells slots Q (F0 m (pc + 3) ls (.int ((zX6_empty τ).1) :: rest))) : W p l e R s m args below meth c H locs cells slots Q (F0 m pc ls (.ref a :: rest)) := by
  refine va_calli (va_runV (As := []) (rest := rest) hF (mX6_empty l D y a b τ) cw ⟨fun a U g mk q => by obtain ⟨q0, q1, q2, q3, q4⟩ := q; exact ⟨q0, q1.call g mk a, q2, q3, q4⟩, va_recv hC.1 hTx (ci := 6) (q0 := 0) rfl rfl, fun U hU hW => ⟨rfl, hC.warm hW, by rw [hU]; exact hTx, hch, hne⟩⟩ rfl rfl hsz rfl (lv_room hW) hdg ⟨hf.1, hf.2⟩) hS (fun q _ h => hA q h) hA (fun r u t H1 locs1 ht hvm hp hB hz1 hk1 hS1 => ?_)
  obtain ⟨hp1, hp2⟩ := hp
  subst hp1; subst hp2
  rw [ht] at hB
  exact k H1 locs1 hB hz1 hk1 hS1
theorem c0X6_empty (τ : Sg) : (zX6_empty τ).2 0 = τ 0 := by
  unfold zX6_empty
  (repeat' split) <;> rfl
def zX6_readSign (τ : Sg) (x1 : Int32) : Int32 × Sg := if (zX6_signAt τ (τ 1 1)) = x1 then (1, sT τ 1 ((τ 1 1) + 1))
  else (0, τ)
theorem iwX6_readSign_X6 : ∀ w ∈ wsX60, w ∈ wsX6_readSign := fun _ h => List.mem_cons_of_mem _ (List.mem_append_right _ h)
theorem hdX6_readSign : yX6_readSign.cls = RX6 ∧ yX6_readSign.cls ≠ "java/lang/invoke/MethodHandle" ∧ yX6_readSign.cls ≠ "java/lang/invoke/VarHandle" ∧ (parseMethodDescriptor yX6_readSign.desc).map (fun d => d.parameters.length) = some 1 := by decide +kernel
set_option maxHeartbeats 4000000 in
set_option maxRecDepth 100000 in
theorem mX6_readSign (l : Launch) (D : va_G) (y : Y3) (a b : Nat) (τ : Sg) (x1 : Int32) : Met l yX6_readSign wsX6_readSign ({ frames := 1, cells := 0, slots := 0, locals := 21 } : Room) (va_Pc [.ref a, .int x1] (fun U => CK D y U ∧ TxH D y a b τ U.heap ∧ okC τ ∧ a ≠ b)) (va_Qi (fun (r : Int32) (u : Sg) => r = (zX6_readSign τ x1).1 ∧ u = (zX6_readSign τ x1).2) (fun u t => TxH D y a b u t.heap) (tbA a b)) 0 0 (tbA a b) := by
  refine Met.ofW (cc := cX6_readSign) (maxL := 2) (ret := (some .boolean)) (by decide) rfl ?_
  intro p e s m args below meth c s₁ B hml hv
  obtain ⟨rfl, hC, hTx, hch, hne⟩ := hv
  have hx := B.exec
  have hb := B.bytes
  have hr := B.returns
  have hts := atoms_spec (ws := wsX6_readSign) B.pre
  have hown : s.vm.findClass RX6 = some m.cls := findClass_of_methodNamed B.named
  have hlocks := B.notSynchronized
  have hF := (⟨hx, hb, hml, hown, hts⟩ : CallFix p m c cX6_readSign 2 s _ wsX6_readSign RX6)
  have hS : va_S (tbA a b) s.heap s.heap [] := va_S.rf
  have hl := lv_entry ([.ref a, .int x1]) (n := 2) (Nat.le_of_ble_eq_true rfl)
  rw [lg_entry_eq]
  generalize (lg_sl ([.ref a, .int x1]) ++ List.replicate (2 - (lg_sl ([.ref a, .int x1])).length) Slot.unset).toArray = ls at hl ⊢
  have hl : lv_has ls 2 [(0, .ref a), (1, .int x1)] := hl
  refine lv_aload_n hx hb dX6_readSign_0 rfl (lv_at hl 0 rfl) ?_
  refine lv_aload_n hx hb dX6_readSign_1 rfl (lv_at hl 0 rfl) ?_
  refine va_get (D := D) (ci := 6) (v := .int (τ 1 1)) (C := RX6) (T := TX6) (N := 7) hx hb hts iwX6_readSign_X6 hown hC.1 hTx 0 rfl rfl 2 (by decide) (hts (.fieldLink RX6 23 "MealLockers$Text" "next" "I") (List.mem_of_getElem? (i := 1) rfl)) (fun _ h9 => h9) rfl dX6_readSign_2 ?_
  refine kX6_signAt hF (cwV 1 hts gX6_readSign_X6_signAt rfl rfl rfl hdX6_signAt ⟨Nat.le_of_ble_eq_true rfl, Nat.le_of_ble_eq_true rfl⟩) hC hTx hch hl.1 (Nat.le_of_ble_eq_true rfl) dX6_readSign_5 ⟨Nat.zero_le _, Nat.zero_le _⟩ ?_
  refine lv_iload_n hx hb dX6_readSign_8 rfl (lv_at hl 1 rfl) ?_
  refine lv_icmp_eq (tgt := 14) hx hb dX6_readSign_9 (by decide) (fun c_1 => ?_) (fun c_1 => ?_)
  · refine lv_aload_n hx hb dX6_readSign_14 rfl (lv_at hl 0 rfl) ?_
    refine lv_dup hx hb dX6_readSign_15 rfl ?_
    refine va_get (D := D) (ci := 6) (v := .int (τ 1 1)) (C := RX6) (T := TX6) (N := 7) hx hb hts iwX6_readSign_X6 hown hC.1 hTx 0 rfl rfl 2 (by decide) (hts (.fieldLink RX6 23 "MealLockers$Text" "next" "I") (List.mem_of_getElem? (i := 1) rfl)) (fun _ h9 => h9) rfl dX6_readSign_16 ?_
    refine lv_iconst (v := 1) hx hb dX6_readSign_19 (by decide) ?_
    refine lv_iadd hx hb dX6_readSign_20 ?_
    refine va_put (D := D) (ci := 6) (v := .int ((τ 1 1) + 1)) (ty := .int) (C := RX6) (T := TX6) (N := 7) hx hb hts iwX6_readSign_X6 tyX6 tyX6_ok nmX6 hown hC.1 hTx (tx_D hne) hS 0 rfl rfl 2 (by decide) (hts (.fieldLink RX6 23 "MealLockers$Text" "next" "I") (List.mem_of_getElem? (i := 1) rfl)) (fun _ h9 => h9) rfl (by decide +kernel) rfl rfl (Nat.le_of_ble_eq_true rfl) dX6_readSign_21 (fun H locs hTx _ hS => ?_)
    have hTx := tx_put1 hTx
    have hch := okC_sT (k := 1) (v := ((τ 1 1) + 1)) hch
    refine lv_iconst (v := 1) hx hb dX6_readSign_24 (by decide) ?_
    exact W.zret (v := 1) hx hb hr (by decide) (fun t ht hW => ⟨⟨1, sT τ 1 ((τ 1 1) + 1), rfl, ⟨(by unfold zX6_readSign; rw [if_pos c_1]), (by unfold zX6_readSign; rw [if_pos c_1])⟩, by dsimp only; rw [ht]; exact hTx⟩, hS.F ht⟩) hS.2.2 dX6_readSign_25
  · refine lv_iconst (v := 0) hx hb dX6_readSign_12 (by decide) ?_
    exact W.zret (v := 0) hx hb hr (by decide) (fun t ht hW => ⟨⟨0, τ, rfl, ⟨(by unfold zX6_readSign; rw [if_neg c_1]), (by unfold zX6_readSign; rw [if_neg c_1])⟩, by dsimp only; rw [ht]; exact hTx⟩, hS.F ht⟩) hS.2.2 dX6_readSign_13
set_option maxHeartbeats 4000000 in
set_option maxRecDepth 100000 in
theorem kX6_readSign {p : Program} {l : Launch} {e : Env} {R : Room} {s : State} {m : MethodId} {args : Array Value} {below : List Frame} {meth : Method} {c : Code} {H : Heap} {locs : List Loc} {cells slots : Nat} {Q : State → Prop} {cc : ByteArray} {nL : Nat} {Ts : List Cond} {own : String} {index pc : Nat} {ls : Array Slot} {rest : List Value} {D : va_G} {y : Y3} {a b : Nat} {τ : Sg} {x1 : Int32} {A0 : Nat → Prop} {H0 : Heap} (hF : CallFix p m c cc nL s args Ts own) (cw : CallW R s args own RX6 index yX6_readSign cX6_readSign 2 (some .boolean) wsX6_readSign ({ frames := 1, cells := 0, slots := 0, locals := 21 } : Room) 0 0 1) (hC : CK D y s) (hTx : TxH D y a b τ H) (hch : okC τ) (hne : a ≠ b) (hS : va_S A0 H0 H locs) (hA : ∀ q, (tbA a b) q → A0 q) (hsz : ls.size = nL) (hW : (rest.map fun v => v.category).sum ≤ 8) (hdg : decode cc pc = .ok (.invokevirtual index, 3)) (hf : cells ≤ R.cells ∧ slots ≤ R.slots)
    (k : ∀ (H1 : Heap) (locs1 : List Loc), TxH D y a b (zX6_readSign τ x1).2 H1 → H.size ≤ H1.size → (∀ q : Nat, q < H.size → ¬ (tbA a b) q → H1[q]? = H[q]?) → va_S A0 H0 H1 locs1 → W p l e R s m args below meth c H1 locs1 cells slots Q (F0 m (pc + 3) ls (.int ((zX6_readSign τ x1).1) :: rest))) : W p l e R s m args below meth c H locs cells slots Q (F0 m pc ls (.int x1 :: .ref a :: rest)) := by
  refine va_calli (va_runV (As := [.int x1]) (rest := rest) hF (mX6_readSign l D y a b τ x1) cw ⟨fun a U g mk q => by obtain ⟨q0, q1, q2, q3, q4⟩ := q; exact ⟨q0, q1.call g mk a, q2, q3, q4⟩, va_recv hC.1 hTx (ci := 6) (q0 := 0) rfl rfl, fun U hU hW => ⟨rfl, hC.warm hW, by rw [hU]; exact hTx, hch, hne⟩⟩ rfl rfl hsz rfl (lv_room hW) hdg ⟨hf.1, hf.2⟩) hS (fun q _ h => hA q h) hA (fun r u t H1 locs1 ht hvm hp hB hz1 hk1 hS1 => ?_)
  obtain ⟨hp1, hp2⟩ := hp
  subst hp1; subst hp2
  rw [ht] at hB
  exact k H1 locs1 hB hz1 hk1 hS1
theorem c0X6_readSign (τ : Sg) (x1 : Int32) : (zX6_readSign τ x1).2 0 = τ 0 := by
  unfold zX6_readSign
  (repeat' split) <;> rfl
theorem b01X6_readSign (τ : Sg) (x1 : Int32) : narrow .boolean (.int (zX6_readSign τ x1).1) = .int (zX6_readSign τ x1).1 := by
  unfold zX6_readSign
  (repeat' split) <;> (dsimp only; decide)
def bX6_readNumber (τ : Sg) : Sg := sT (sT τ 2 ((10 * (τ 1 2)) + ((zX6_signAt τ (τ 1 1)) - 48))) 1 (((sT τ 2 ((10 * (τ 1 2)) + ((zX6_signAt τ (τ 1 1)) - 48))) 1 1) + 1)
def wX6_readNumber : Nat → Nat → Sg → Int32 × Sg
  | 0, i, τ => (nI i, τ)
  | n + 1, i, τ => if (zX7_isWithin (zX6_signAt τ (τ 1 1)) 48 57) = 0 then (nI i, τ) else wX6_readNumber n (i + 1) (bX6_readNumber τ)
theorem wX6_stop {n i : Nat} {τ : Sg} (h : (zX7_isWithin (zX6_signAt τ (τ 1 1)) 48 57) = 0) : wX6_readNumber (n + 1) i τ = (nI i, τ) := by
  show (if (zX7_isWithin (zX6_signAt τ (τ 1 1)) 48 57) = 0 then (nI i, τ) else _) = _
  rw [if_pos h]
theorem wX6_go {n i : Nat} {τ : Sg} (h : ¬ (zX7_isWithin (zX6_signAt τ (τ 1 1)) 48 57) = 0) : wX6_readNumber (n + 1) i τ = wX6_readNumber n (i + 1) (bX6_readNumber τ) := by
  show (if (zX7_isWithin (zX6_signAt τ (τ 1 1)) 48 57) = 0 then (nI i, τ) else _) = _
  rw [if_neg h]
theorem wX6_chars : ∀ (n i : Nat) (τ : Sg), (wX6_readNumber n i τ).2 0 = τ 0 := by
  intro n
  induction n with
  | zero => intro i τ; rfl
  | succ n ih =>
    intro i τ
    by_cases h : (zX7_isWithin (zX6_signAt τ (τ 1 1)) 48 57) = 0
    · rw [wX6_stop h]
    · rw [wX6_go h, ih]; rfl
def zX6_readNumber (τ : Sg) : Int32 × Sg := if (wX6_readNumber 4 0 (sT τ 2 0)).1 ≤ 0 then (0, (wX6_readNumber 4 0 (sT τ 2 0)).2)
  else (1, (wX6_readNumber 4 0 (sT τ 2 0)).2)
theorem iwX6_readNumber_X6 : ∀ w ∈ wsX60, w ∈ wsX6_readNumber := fun _ h => List.mem_cons_of_mem _ (List.mem_append_right _ h)
theorem hdX6_readNumber : yX6_readNumber.cls = RX6 ∧ yX6_readNumber.cls ≠ "java/lang/invoke/MethodHandle" ∧ yX6_readNumber.cls ≠ "java/lang/invoke/VarHandle" ∧ (parseMethodDescriptor yX6_readNumber.desc).map (fun d => d.parameters.length) = some 0 := by decide +kernel
set_option maxHeartbeats 4000000 in
set_option maxRecDepth 100000 in
theorem lpX6_readNumber {p : Program} {l : Launch} {e : Env} {s : State} {m : MethodId} {args : Array Value} {below : List Frame} {meth : Method} {c : Code} {Q : State → Prop} {D : va_G} {y : Y3} {a b : Nat} {τ0 : Sg} (hx : p.tables.exec = Jvm.exec) (hb : c.code = cX6_readNumber) (hml : c.maxLocals = 2) (hown : s.vm.findClass RX6 = some m.cls) (hts : ∀ w ∈ wsX6_readNumber, w.before args s = true) (hC : CK D y s) (hne : a ≠ b)
    (K : ∀ (x1 : Int32) (τ : Sg) (H : Heap) (locs : List Loc) (ls : Array Slot), (x1, τ) = wX6_readNumber 4 0 τ0 → TxH D y a b τ H → va_S (tbA a b) s.heap H locs → lv_has ls 2 [(1, .int x1), (0, .ref a)] → W p l e (headSpec wsX6_readNumber ({ frames := 1, cells := 0, slots := 0, locals := 22 } : Room)).room s m args below meth c H locs 0 0 Q (F0 m 69 ls [])) :
    ∀ (j i : Nat) (τ : Sg), i + j = 4 → wX6_readNumber 4 0 τ0 = wX6_readNumber j i τ → okC τ → ∀ (H : Heap) (locs : List Loc), TxH D y a b τ H → va_S (tbA a b) s.heap H locs → ∀ ls : Array Slot, lv_has ls 2 [(1, .int (nI i)), (0, .ref a)] → W p l e (headSpec wsX6_readNumber ({ frames := 1, cells := 0, slots := 0, locals := 22 } : Room)).room s m args below meth c H locs 0 0 Q (F0 m 7 ls []) := by
  have hF := (⟨hx, hb, hml, hown, hts⟩ : CallFix p m c cX6_readNumber 2 s args wsX6_readNumber RX6)
  intro j
  induction j with
  | zero =>
    intro i τ hin hv hch H locs hTx hS ls hl
    obtain rfl : i = 4 := by omega
    refine lv_iload_n hx hb dX6_readNumber_7 rfl (lv_at hl 0 rfl) ?_
    refine lv_iconst (v := 4) hx hb dX6_readNumber_8 (by decide) ?_
    refine lv_icmp_ge (tgt := 69) hx hb dX6_readNumber_9 (by decide) (fun _ => ?_) (fun c_1 => absurd (by decide) c_1)
    exact K _ τ H locs ls hv.symm hTx hS (lv_sub hl [0, 1] rfl)
  | succ j ih =>
    intro i τ hin hv hch H locs hTx hS ls hl
    refine lv_iload_n hx hb dX6_readNumber_7 rfl (lv_at hl 0 rfl) ?_
    refine lv_iconst (v := 4) hx hb dX6_readNumber_8 (by decide) ?_
    refine lv_icmp_ge (tgt := 69) hx hb dX6_readNumber_9 (by decide) (fun c_2 => absurd c_2 (nI_ge (a := i) (b := 4) (by omega) (by decide))) (fun _ => ?_)
    refine lv_aload_n hx hb dX6_readNumber_12 rfl (lv_at hl 1 rfl) ?_
    refine lv_aload_n hx hb dX6_readNumber_13 rfl (lv_at hl 1 rfl) ?_
    refine va_get (D := D) (ci := 6) (v := .int (τ 1 1)) (C := RX6) (T := TX6) (N := 7) hx hb hts iwX6_readNumber_X6 hown hC.1 hTx 0 rfl rfl 2 (by decide) (hts (.fieldLink RX6 23 "MealLockers$Text" "next" "I") (List.mem_of_getElem? (i := 2) rfl)) (fun _ h9 => h9) rfl dX6_readNumber_14 ?_
    refine kX6_signAt hF (cwV 1 hts gX6_readNumber_X6_signAt rfl rfl rfl hdX6_signAt ⟨Nat.le_of_ble_eq_true rfl, Nat.le_of_ble_eq_true rfl⟩) hC hTx hch hl.1 (Nat.le_of_ble_eq_true rfl) dX6_readNumber_17 ⟨Nat.zero_le _, Nat.zero_le _⟩ ?_
    refine lv_bipush (v := 48) hx hb dX6_readNumber_20 (by decide) ?_
    refine lv_bipush (v := 57) hx hb dX6_readNumber_22 (by decide) ?_
    refine kX7_isWithinN hF ⟨va_cnB 3 hts gX6_readNumber_X7_isWithin_n19 rfl rfl rfl (nw_m2 hC) (hts (.initialized RX7) (List.mem_of_getElem? (i := 11) rfl)) hdX7_isWithin ⟨Nat.le_of_ble_eq_true rfl, Nat.le_of_ble_eq_true rfl⟩, (hts (.static yX7_isWithin) (List.mem_of_getElem? (i := 10) rfl)), trivial⟩ hC hl.1 (Nat.le_of_ble_eq_true rfl) dX6_readNumber_24 ⟨Nat.zero_le _, Nat.zero_le _⟩ ?_
    refine lv_if_eq (tgt := 69) hx hb dX6_readNumber_27 (by decide) (fun c_3 => ?_) (fun c_3 => ?_)
    · exact K _ τ H locs ls (hv.trans (wX6_stop c_3)).symm hTx hS (lv_sub hl [0, 1] rfl)
    · refine lv_aload_n hx hb dX6_readNumber_30 rfl (lv_at hl 1 rfl) ?_
      refine lv_bipush (v := 10) hx hb dX6_readNumber_31 (by decide) ?_
      refine lv_aload_n hx hb dX6_readNumber_33 rfl (lv_at hl 1 rfl) ?_
      refine va_get (D := D) (ci := 6) (v := .int (τ 1 2)) (C := RX6) (T := TX6) (N := 7) hx hb hts iwX6_readNumber_X6 hown hC.1 hTx 0 rfl rfl 3 (by decide) (hts (.fieldLink RX6 42 "MealLockers$Text" "number" "I") (List.mem_of_getElem? (i := 1) rfl)) (fun _ h9 => h9) rfl dX6_readNumber_34 ?_
      refine lv_imul hx hb dX6_readNumber_37 ?_
      refine lv_aload_n hx hb dX6_readNumber_38 rfl (lv_at hl 1 rfl) ?_
      refine lv_aload_n hx hb dX6_readNumber_39 rfl (lv_at hl 1 rfl) ?_
      refine va_get (D := D) (ci := 6) (v := .int (τ 1 1)) (C := RX6) (T := TX6) (N := 7) hx hb hts iwX6_readNumber_X6 hown hC.1 hTx 0 rfl rfl 2 (by decide) (hts (.fieldLink RX6 23 "MealLockers$Text" "next" "I") (List.mem_of_getElem? (i := 2) rfl)) (fun _ h9 => h9) rfl dX6_readNumber_40 ?_
      refine kX6_signAt hF (cwV 1 hts gX6_readNumber_X6_signAt rfl rfl rfl hdX6_signAt ⟨Nat.le_of_ble_eq_true rfl, Nat.le_of_ble_eq_true rfl⟩) hC hTx hch hl.1 (Nat.le_of_ble_eq_true rfl) dX6_readNumber_43 ⟨Nat.zero_le _, Nat.zero_le _⟩ ?_
      refine lv_bipush (v := 48) hx hb dX6_readNumber_46 (by decide) ?_
      refine lv_isub hx hb dX6_readNumber_48 ?_
      refine lv_iadd hx hb dX6_readNumber_49 ?_
      refine va_put (D := D) (ci := 6) (v := .int ((10 * (τ 1 2)) + ((zX6_signAt τ (τ 1 1)) - 48))) (ty := .int) (C := RX6) (T := TX6) (N := 7) hx hb hts iwX6_readNumber_X6 tyX6 tyX6_ok nmX6 hown hC.1 hTx (tx_D hne) hS 0 rfl rfl 3 (by decide) (hts (.fieldLink RX6 42 "MealLockers$Text" "number" "I") (List.mem_of_getElem? (i := 1) rfl)) (fun _ h9 => h9) rfl (by decide +kernel) rfl rfl (Nat.le_of_ble_eq_true rfl) dX6_readNumber_50 (fun H locs hTx _ hS => ?_)
      have hTx := tx_put2 hTx
      have hch := okC_sT (k := 2) (v := ((10 * (τ 1 2)) + ((zX6_signAt τ (τ 1 1)) - 48))) hch
      refine lv_aload_n hx hb dX6_readNumber_53 rfl (lv_at hl 1 rfl) ?_
      refine lv_dup hx hb dX6_readNumber_54 rfl ?_
      refine va_get (D := D) (ci := 6) (v := .int ((sT τ 2 ((10 * (τ 1 2)) + ((zX6_signAt τ (τ 1 1)) - 48))) 1 1)) (C := RX6) (T := TX6) (N := 7) hx hb hts iwX6_readNumber_X6 hown hC.1 hTx 0 rfl rfl 2 (by decide) (hts (.fieldLink RX6 23 "MealLockers$Text" "next" "I") (List.mem_of_getElem? (i := 2) rfl)) (fun _ h9 => h9) rfl dX6_readNumber_55 ?_
      refine lv_iconst (v := 1) hx hb dX6_readNumber_58 (by decide) ?_
      refine lv_iadd hx hb dX6_readNumber_59 ?_
      refine va_put (D := D) (ci := 6) (v := .int (((sT τ 2 ((10 * (τ 1 2)) + ((zX6_signAt τ (τ 1 1)) - 48))) 1 1) + 1)) (ty := .int) (C := RX6) (T := TX6) (N := 7) hx hb hts iwX6_readNumber_X6 tyX6 tyX6_ok nmX6 hown hC.1 hTx (tx_D hne) hS 0 rfl rfl 2 (by decide) (hts (.fieldLink RX6 23 "MealLockers$Text" "next" "I") (List.mem_of_getElem? (i := 2) rfl)) (fun _ h9 => h9) rfl (by decide +kernel) rfl rfl (Nat.le_of_ble_eq_true rfl) dX6_readNumber_60 (fun H locs hTx _ hS => ?_)
      have hTx := tx_put1 hTx
      have hch := okC_sT (k := 1) (v := (((sT τ 2 ((10 * (τ 1 2)) + ((zX6_signAt τ (τ 1 1)) - 48))) 1 1) + 1)) hch
      refine lv_iinc (v := (nI (i + 1))) (lv' := [(1, .int (nI (i + 1))), (0, .ref a)]) hx hb dX6_readNumber_63 hl (k := 0) rfl (by rw [nI_succ]; rfl) (by decide) rfl (fun ls hl => ?_)
      refine lv_goto (tgt := 7) hx hb dX6_readNumber_66 (by decide) ?_
      exact ih (i + 1) (sT (sT τ 2 ((10 * (τ 1 2)) + ((zX6_signAt τ (τ 1 1)) - 48))) 1 (((sT τ 2 ((10 * (τ 1 2)) + ((zX6_signAt τ (τ 1 1)) - 48))) 1 1) + 1)) (by omega) (by rw [hv, wX6_go c_3]; rfl) hch H locs hTx hS ls (lv_sub hl [0, 1] rfl)
set_option maxHeartbeats 4000000 in
set_option maxRecDepth 100000 in
theorem mX6_readNumber (l : Launch) (D : va_G) (y : Y3) (a b : Nat) (τ : Sg) : Met l yX6_readNumber wsX6_readNumber ({ frames := 1, cells := 0, slots := 0, locals := 22 } : Room) (va_Pc [.ref a] (fun U => CK D y U ∧ TxH D y a b τ U.heap ∧ okC τ ∧ a ≠ b)) (va_Qi (fun (r : Int32) (u : Sg) => r = (zX6_readNumber τ).1 ∧ u = (zX6_readNumber τ).2) (fun u t => TxH D y a b u t.heap) (tbA a b)) 0 0 (tbA a b) := by
  refine Met.ofW (cc := cX6_readNumber) (maxL := 2) (ret := (some .boolean)) (by decide) rfl ?_
  intro p e s m args below meth c s₁ B hml hv
  obtain ⟨rfl, hC, hTx, hch, hne⟩ := hv
  have hx := B.exec
  have hb := B.bytes
  have hr := B.returns
  have hts := atoms_spec (ws := wsX6_readNumber) B.pre
  have hown : s.vm.findClass RX6 = some m.cls := findClass_of_methodNamed B.named
  have hlocks := B.notSynchronized
  have hF := (⟨hx, hb, hml, hown, hts⟩ : CallFix p m c cX6_readNumber 2 s _ wsX6_readNumber RX6)
  have hS : va_S (tbA a b) s.heap s.heap [] := va_S.rf
  have hl := lv_entry ([.ref a]) (n := 2) (Nat.le_of_ble_eq_true rfl)
  rw [lg_entry_eq]
  generalize (lg_sl ([.ref a]) ++ List.replicate (2 - (lg_sl ([.ref a])).length) Slot.unset).toArray = ls at hl ⊢
  have hl : lv_has ls 2 [(0, .ref a)] := hl
  refine lv_iconst (v := 0) hx hb dX6_readNumber_0 (by decide) ?_
  refine lv_istore_n (lv' := [(1, .int 0), (0, .ref a)]) hx hb dX6_readNumber_1 rfl hl (by decide) rfl (fun ls hl => ?_)
  refine lv_aload_n hx hb dX6_readNumber_2 rfl (lv_at hl 1 rfl) ?_
  refine lv_iconst (v := 0) hx hb dX6_readNumber_3 (by decide) ?_
  refine va_put (D := D) (ci := 6) (v := .int 0) (ty := .int) (C := RX6) (T := TX6) (N := 7) hx hb hts iwX6_readNumber_X6 tyX6 tyX6_ok nmX6 hown hC.1 hTx (tx_D hne) hS 0 rfl rfl 3 (by decide) (hts (.fieldLink RX6 42 "MealLockers$Text" "number" "I") (List.mem_of_getElem? (i := 1) rfl)) (fun _ h9 => h9) rfl (by decide +kernel) rfl rfl (Nat.le_of_ble_eq_true rfl) dX6_readNumber_4 (fun H locs hTx _ hS => ?_)
  have hTx := tx_put2 hTx
  have hch := okC_sT (k := 2) (v := 0) hch
  refine lpX6_readNumber (τ0 := sT τ 2 0) hx hb hml hown hts hC hne (fun d v H locs ls hv hTx hS hl => ?_) _ 0 _ (Nat.zero_add _) rfl hch _ _ hTx hS ls hl
  refine lv_iload_n hx hb dX6_readNumber_69 rfl (lv_at hl 0 rfl) ?_
  refine lv_if_le (tgt := 77) hx hb dX6_readNumber_70 (by decide) (fun c_4 => ?_) (fun c_4 => ?_)
  · refine lv_iconst (v := 0) hx hb dX6_readNumber_77 (by decide) ?_
    exact W.zret (v := 0) hx hb hr (by decide) (fun t ht hW => ⟨⟨0, v, rfl, ⟨(by unfold zX6_readNumber; rw [← hv]; dsimp only; rw [if_pos c_4]), (by unfold zX6_readNumber; rw [← hv]; dsimp only; rw [if_pos c_4])⟩, by dsimp only; rw [ht]; exact hTx⟩, hS.F ht⟩) hS.2.2 dX6_readNumber_78
  · refine lv_iconst (v := 1) hx hb dX6_readNumber_73 (by decide) ?_
    refine lv_goto (tgt := 78) hx hb dX6_readNumber_74 (by decide) ?_
    exact W.zret (v := 1) hx hb hr (by decide) (fun t ht hW => ⟨⟨1, v, rfl, ⟨(by unfold zX6_readNumber; rw [← hv]; dsimp only; rw [if_neg c_4]), (by unfold zX6_readNumber; rw [← hv]; dsimp only; rw [if_neg c_4])⟩, by dsimp only; rw [ht]; exact hTx⟩, hS.F ht⟩) hS.2.2 dX6_readNumber_78
set_option maxHeartbeats 4000000 in
set_option maxRecDepth 100000 in
theorem kX6_readNumber {p : Program} {l : Launch} {e : Env} {R : Room} {s : State} {m : MethodId} {args : Array Value} {below : List Frame} {meth : Method} {c : Code} {H : Heap} {locs : List Loc} {cells slots : Nat} {Q : State → Prop} {cc : ByteArray} {nL : Nat} {Ts : List Cond} {own : String} {index pc : Nat} {ls : Array Slot} {rest : List Value} {D : va_G} {y : Y3} {a b : Nat} {τ : Sg} {A0 : Nat → Prop} {H0 : Heap} (hF : CallFix p m c cc nL s args Ts own) (cw : CallW R s args own RX6 index yX6_readNumber cX6_readNumber 2 (some .boolean) wsX6_readNumber ({ frames := 1, cells := 0, slots := 0, locals := 22 } : Room) 0 0 0) (hC : CK D y s) (hTx : TxH D y a b τ H) (hch : okC τ) (hne : a ≠ b) (hS : va_S A0 H0 H locs) (hA : ∀ q, (tbA a b) q → A0 q) (hsz : ls.size = nL) (hW : (rest.map fun v => v.category).sum ≤ 8) (hdg : decode cc pc = .ok (.invokevirtual index, 3)) (hf : cells ≤ R.cells ∧ slots ≤ R.slots)
    (k : ∀ (H1 : Heap) (locs1 : List Loc), TxH D y a b (zX6_readNumber τ).2 H1 → H.size ≤ H1.size → (∀ q : Nat, q < H.size → ¬ (tbA a b) q → H1[q]? = H[q]?) → va_S A0 H0 H1 locs1 → W p l e R s m args below meth c H1 locs1 cells slots Q (F0 m (pc + 3) ls (.int ((zX6_readNumber τ).1) :: rest))) : W p l e R s m args below meth c H locs cells slots Q (F0 m pc ls (.ref a :: rest)) := by
  refine va_calli (va_runV (As := []) (rest := rest) hF (mX6_readNumber l D y a b τ) cw ⟨fun a U g mk q => by obtain ⟨q0, q1, q2, q3, q4⟩ := q; exact ⟨q0, q1.call g mk a, q2, q3, q4⟩, va_recv hC.1 hTx (ci := 6) (q0 := 0) rfl rfl, fun U hU hW => ⟨rfl, hC.warm hW, by rw [hU]; exact hTx, hch, hne⟩⟩ rfl rfl hsz rfl (lv_room hW) hdg ⟨hf.1, hf.2⟩) hS (fun q _ h => hA q h) hA (fun r u t H1 locs1 ht hvm hp hB hz1 hk1 hS1 => ?_)
  obtain ⟨hp1, hp2⟩ := hp
  subst hp1; subst hp2
  rw [ht] at hB
  exact k H1 locs1 hB hz1 hk1 hS1
theorem c0X6_readNumber (τ : Sg) : (zX6_readNumber τ).2 0 = τ 0 := by
  unfold zX6_readNumber
  (repeat' split) <;> exact wX6_chars _ _ _
def zX6_readCommand (τ : Sg) (x1 : Int32) : Int32 × Sg := if (zX6_numbersOf ((sT (sT τ 1 (x1 + 1)) 3 (zX6_signAt (sT τ 1 (x1 + 1)) x1)) 1 3)) = 0 then (0, sT (sT τ 1 (x1 + 1)) 3 (zX6_signAt (sT τ 1 (x1 + 1)) x1))
  else (if (zX6_readNumber (sT (sT τ 1 (x1 + 1)) 3 (zX6_signAt (sT τ 1 (x1 + 1)) x1))).1 = 0 then (0, (zX6_readNumber (sT (sT τ 1 (x1 + 1)) 3 (zX6_signAt (sT τ 1 (x1 + 1)) x1))).2)
    else (if (zX6_numbersOf ((sT (sT τ 1 (x1 + 1)) 3 (zX6_signAt (sT τ 1 (x1 + 1)) x1)) 1 3)) = 2 then (if (zX6_readSign (sT (zX6_readNumber (sT (sT τ 1 (x1 + 1)) 3 (zX6_signAt (sT τ 1 (x1 + 1)) x1))).2 4 ((zX6_readNumber (sT (sT τ 1 (x1 + 1)) 3 (zX6_signAt (sT τ 1 (x1 + 1)) x1))).2 1 2)) 44).1 = 0 then (0, (zX6_readSign (sT (zX6_readNumber (sT (sT τ 1 (x1 + 1)) 3 (zX6_signAt (sT τ 1 (x1 + 1)) x1))).2 4 ((zX6_readNumber (sT (sT τ 1 (x1 + 1)) 3 (zX6_signAt (sT τ 1 (x1 + 1)) x1))).2 1 2)) 44).2)
        else (if (zX6_readNumber (zX6_readSign (sT (zX6_readNumber (sT (sT τ 1 (x1 + 1)) 3 (zX6_signAt (sT τ 1 (x1 + 1)) x1))).2 4 ((zX6_readNumber (sT (sT τ 1 (x1 + 1)) 3 (zX6_signAt (sT τ 1 (x1 + 1)) x1))).2 1 2)) 44).2).1 = 0 then (0, (zX6_readNumber (zX6_readSign (sT (zX6_readNumber (sT (sT τ 1 (x1 + 1)) 3 (zX6_signAt (sT τ 1 (x1 + 1)) x1))).2 4 ((zX6_readNumber (sT (sT τ 1 (x1 + 1)) 3 (zX6_signAt (sT τ 1 (x1 + 1)) x1))).2 1 2)) 44).2).2)
          else ((zX6_readSign (sT (zX6_readNumber (zX6_readSign (sT (zX6_readNumber (sT (sT τ 1 (x1 + 1)) 3 (zX6_signAt (sT τ 1 (x1 + 1)) x1))).2 4 ((zX6_readNumber (sT (sT τ 1 (x1 + 1)) 3 (zX6_signAt (sT τ 1 (x1 + 1)) x1))).2 1 2)) 44).2).2 5 ((zX6_readNumber (zX6_readSign (sT (zX6_readNumber (sT (sT τ 1 (x1 + 1)) 3 (zX6_signAt (sT τ 1 (x1 + 1)) x1))).2 4 ((zX6_readNumber (sT (sT τ 1 (x1 + 1)) 3 (zX6_signAt (sT τ 1 (x1 + 1)) x1))).2 1 2)) 44).2).2 1 2)) 59).1, (zX6_readSign (sT (zX6_readNumber (zX6_readSign (sT (zX6_readNumber (sT (sT τ 1 (x1 + 1)) 3 (zX6_signAt (sT τ 1 (x1 + 1)) x1))).2 4 ((zX6_readNumber (sT (sT τ 1 (x1 + 1)) 3 (zX6_signAt (sT τ 1 (x1 + 1)) x1))).2 1 2)) 44).2).2 5 ((zX6_readNumber (zX6_readSign (sT (zX6_readNumber (sT (sT τ 1 (x1 + 1)) 3 (zX6_signAt (sT τ 1 (x1 + 1)) x1))).2 4 ((zX6_readNumber (sT (sT τ 1 (x1 + 1)) 3 (zX6_signAt (sT τ 1 (x1 + 1)) x1))).2 1 2)) 44).2).2 1 2)) 59).2)))
      else ((zX6_readSign (sT (zX6_readNumber (sT (sT τ 1 (x1 + 1)) 3 (zX6_signAt (sT τ 1 (x1 + 1)) x1))).2 4 ((zX6_readNumber (sT (sT τ 1 (x1 + 1)) 3 (zX6_signAt (sT τ 1 (x1 + 1)) x1))).2 1 2)) 59).1, (zX6_readSign (sT (zX6_readNumber (sT (sT τ 1 (x1 + 1)) 3 (zX6_signAt (sT τ 1 (x1 + 1)) x1))).2 4 ((zX6_readNumber (sT (sT τ 1 (x1 + 1)) 3 (zX6_signAt (sT τ 1 (x1 + 1)) x1))).2 1 2)) 59).2)))
theorem iwX6_readCommand_X6 : ∀ w ∈ wsX60, w ∈ wsX6_readCommand := fun _ h => List.mem_cons_of_mem _ (List.mem_append_right _ h)
theorem hdX6_readCommand : yX6_readCommand.cls = RX6 ∧ yX6_readCommand.cls ≠ "java/lang/invoke/MethodHandle" ∧ yX6_readCommand.cls ≠ "java/lang/invoke/VarHandle" ∧ (parseMethodDescriptor yX6_readCommand.desc).map (fun d => d.parameters.length) = some 1 := by decide +kernel
set_option maxHeartbeats 4000000 in
set_option maxRecDepth 100000 in
theorem mX6_readCommand (l : Launch) (D : va_G) (y : Y3) (a b : Nat) (τ : Sg) (x1 : Int32) : Met l yX6_readCommand wsX6_readCommand ({ frames := 2, cells := 0, slots := 0, locals := 43 } : Room) (va_Pc [.ref a, .int x1] (fun U => CK D y U ∧ TxH D y a b τ U.heap ∧ okC τ ∧ a ≠ b)) (va_Qi (fun (r : Int32) (u : Sg) => r = (zX6_readCommand τ x1).1 ∧ u = (zX6_readCommand τ x1).2) (fun u t => TxH D y a b u t.heap) (tbA a b)) 0 0 (tbA a b) := by
  refine Met.ofW (cc := cX6_readCommand) (maxL := 3) (ret := (some .boolean)) (by decide) rfl ?_
  intro p e s m args below meth c s₁ B hml hv
  obtain ⟨rfl, hC, hTx, hch, hne⟩ := hv
  have hx := B.exec
  have hb := B.bytes
  have hr := B.returns
  have hts := atoms_spec (ws := wsX6_readCommand) B.pre
  have hown : s.vm.findClass RX6 = some m.cls := findClass_of_methodNamed B.named
  have hlocks := B.notSynchronized
  have hF := (⟨hx, hb, hml, hown, hts⟩ : CallFix p m c cX6_readCommand 3 s _ wsX6_readCommand RX6)
  have hS : va_S (tbA a b) s.heap s.heap [] := va_S.rf
  have hl := lv_entry ([.ref a, .int x1]) (n := 3) (Nat.le_of_ble_eq_true rfl)
  rw [lg_entry_eq]
  generalize (lg_sl ([.ref a, .int x1]) ++ List.replicate (3 - (lg_sl ([.ref a, .int x1])).length) Slot.unset).toArray = ls at hl ⊢
  have hl : lv_has ls 3 [(0, .ref a), (1, .int x1)] := hl
  refine lv_aload_n hx hb dX6_readCommand_0 rfl (lv_at hl 0 rfl) ?_
  refine lv_iload_n hx hb dX6_readCommand_1 rfl (lv_at hl 1 rfl) ?_
  refine lv_iconst (v := 1) hx hb dX6_readCommand_2 (by decide) ?_
  refine lv_iadd hx hb dX6_readCommand_3 ?_
  refine va_put (D := D) (ci := 6) (v := .int (x1 + 1)) (ty := .int) (C := RX6) (T := TX6) (N := 7) hx hb hts iwX6_readCommand_X6 tyX6 tyX6_ok nmX6 hown hC.1 hTx (tx_D hne) hS 0 rfl rfl 2 (by decide) (hts (.fieldLink RX6 23 "MealLockers$Text" "next" "I") (List.mem_of_getElem? (i := 1) rfl)) (fun _ h9 => h9) rfl (by decide +kernel) rfl rfl (Nat.le_of_ble_eq_true rfl) dX6_readCommand_4 (fun H locs hTx _ hS => ?_)
  have hTx := tx_put1 hTx
  have hch := okC_sT (k := 1) (v := (x1 + 1)) hch
  refine lv_aload_n hx hb dX6_readCommand_7 rfl (lv_at hl 0 rfl) ?_
  refine lv_aload_n hx hb dX6_readCommand_8 rfl (lv_at hl 0 rfl) ?_
  refine lv_iload_n hx hb dX6_readCommand_9 rfl (lv_at hl 1 rfl) ?_
  refine kX6_signAt hF (cwV 1 hts gX6_readCommand_X6_signAt rfl rfl rfl hdX6_signAt ⟨Nat.le_of_ble_eq_true rfl, Nat.le_of_ble_eq_true rfl⟩) hC hTx hch hl.1 (Nat.le_of_ble_eq_true rfl) dX6_readCommand_10 ⟨Nat.zero_le _, Nat.zero_le _⟩ ?_
  refine va_put (D := D) (ci := 6) (v := .int (zX6_signAt (sT τ 1 (x1 + 1)) x1)) (ty := .char) (C := RX6) (T := TX6) (N := 7) hx hb hts iwX6_readCommand_X6 tyX6 tyX6_ok nmX6 hown hC.1 hTx (tx_D hne) hS 0 rfl rfl 4 (by decide) (hts (.fieldLink RX6 30 "MealLockers$Text" "letter" "C") (List.mem_of_getElem? (i := 2) rfl)) (fun _ h9 => h9) rfl (by decide +kernel) (okC_sign hch _) (fit_of (okC_sign hch _)) (Nat.le_of_ble_eq_true rfl) dX6_readCommand_13 (fun H locs hTx _ hS => ?_)
  have hTx := tx_put3 hTx
  have hch := okC_sT (k := 3) (v := (zX6_signAt (sT τ 1 (x1 + 1)) x1)) hch
  refine lv_aload_n hx hb dX6_readCommand_16 rfl (lv_at hl 0 rfl) ?_
  refine va_get (D := D) (ci := 6) (v := .int ((sT (sT τ 1 (x1 + 1)) 3 (zX6_signAt (sT τ 1 (x1 + 1)) x1)) 1 3)) (C := RX6) (T := TX6) (N := 7) hx hb hts iwX6_readCommand_X6 hown hC.1 hTx 0 rfl rfl 4 (by decide) (hts (.fieldLink RX6 30 "MealLockers$Text" "letter" "C") (List.mem_of_getElem? (i := 2) rfl)) (fun _ h9 => h9) rfl dX6_readCommand_17 ?_
  refine kX6_numbersOf hF (cwS 1 hts gX6_readCommand_X6_numbersOf rfl rfl rfl (by decide +kernel) ⟨Nat.le_of_ble_eq_true rfl, Nat.le_of_ble_eq_true rfl⟩) hC hl.1 (Nat.le_of_ble_eq_true rfl) dX6_readCommand_20 ⟨Nat.zero_le _, Nat.zero_le _⟩ ?_
  refine lv_istore_n (lv' := [(2, .int (zX6_numbersOf ((sT (sT τ 1 (x1 + 1)) 3 (zX6_signAt (sT τ 1 (x1 + 1)) x1)) 1 3))), (0, .ref a), (1, .int x1)]) hx hb dX6_readCommand_23 rfl hl (by decide) rfl (fun ls hl => ?_)
  refine lv_iload_n hx hb dX6_readCommand_24 rfl (lv_at hl 0 rfl) ?_
  refine lv_if_eq (tgt := 35) hx hb dX6_readCommand_25 (by decide) (fun c_1 => ?_) (fun c_1 => ?_)
  · refine lv_iconst (v := 0) hx hb dX6_readCommand_35 (by decide) ?_
    exact W.zret (v := 0) hx hb hr (by decide) (fun t ht hW => ⟨⟨0, sT (sT τ 1 (x1 + 1)) 3 (zX6_signAt (sT τ 1 (x1 + 1)) x1), rfl, ⟨(by unfold zX6_readCommand; rw [if_pos c_1]), (by unfold zX6_readCommand; rw [if_pos c_1])⟩, by dsimp only; rw [ht]; exact hTx⟩, hS.F ht⟩) hS.2.2 dX6_readCommand_36
  · refine lv_aload_n hx hb dX6_readCommand_28 rfl (lv_at hl 1 rfl) ?_
    refine kX6_readNumber hF (cwV 0 hts gX6_readCommand_X6_readNumber rfl rfl rfl hdX6_readNumber ⟨Nat.le_of_ble_eq_true rfl, Nat.le_of_ble_eq_true rfl⟩) hC hTx hch hne hS (fun _ h => h) hl.1 (Nat.le_of_ble_eq_true rfl) dX6_readCommand_29 ⟨Nat.zero_le _, Nat.zero_le _⟩ (fun H locs hTx _ _ hS => ?_)
    have hch := okC_of (c0X6_readNumber _) hch
    obtain ⟨p_2, ep_2⟩ : ∃ t, t = (zX6_readNumber (sT (sT τ 1 (x1 + 1)) 3 (zX6_signAt (sT τ 1 (x1 + 1)) x1))) := ⟨_, rfl⟩
    rw [← ep_2] at hTx hch ⊢
    refine lv_if_ne (tgt := 37) hx hb dX6_readCommand_32 (by decide) (fun c_3 => ?_) (fun c_3 => ?_)
    · refine lv_aload_n hx hb dX6_readCommand_37 rfl (lv_at hl 1 rfl) ?_
      refine lv_aload_n hx hb dX6_readCommand_38 rfl (lv_at hl 1 rfl) ?_
      refine va_get (D := D) (ci := 6) (v := .int (p_2.2 1 2)) (C := RX6) (T := TX6) (N := 7) hx hb hts iwX6_readCommand_X6 hown hC.1 hTx 0 rfl rfl 3 (by decide) (hts (.fieldLink RX6 42 "MealLockers$Text" "number" "I") (List.mem_of_getElem? (i := 3) rfl)) (fun _ h9 => h9) rfl dX6_readCommand_39 ?_
      refine va_put (D := D) (ci := 6) (v := .int (p_2.2 1 2)) (ty := .int) (C := RX6) (T := TX6) (N := 7) hx hb hts iwX6_readCommand_X6 tyX6 tyX6_ok nmX6 hown hC.1 hTx (tx_D hne) hS 0 rfl rfl 5 (by decide) (hts (.fieldLink RX6 45 "MealLockers$Text" "first" "I") (List.mem_of_getElem? (i := 4) rfl)) (fun _ h9 => h9) rfl (by decide +kernel) rfl rfl (Nat.le_of_ble_eq_true rfl) dX6_readCommand_42 (fun H locs hTx _ hS => ?_)
      have hTx := tx_put4 hTx
      have hch := okC_sT (k := 4) (v := (p_2.2 1 2)) hch
      refine lv_iload_n hx hb dX6_readCommand_45 rfl (lv_at hl 0 rfl) ?_
      refine lv_iconst (v := 2) hx hb dX6_readCommand_46 (by decide) ?_
      refine lv_icmp_ne (tgt := 76) hx hb dX6_readCommand_47 (by decide) (fun c_4 => ?_) (fun c_4 => ?_)
      · refine lv_aload_n hx hb dX6_readCommand_76 rfl (lv_at hl 1 rfl) ?_
        refine lv_bipush (v := 59) hx hb dX6_readCommand_77 (by decide) ?_
        refine kX6_readSign hF (cwV 1 hts gX6_readCommand_X6_readSign rfl rfl rfl hdX6_readSign ⟨Nat.le_of_ble_eq_true rfl, Nat.le_of_ble_eq_true rfl⟩) hC hTx hch hne hS (fun _ h => h) hl.1 (Nat.le_of_ble_eq_true rfl) dX6_readCommand_79 ⟨Nat.zero_le _, Nat.zero_le _⟩ (fun H locs hTx _ _ hS => ?_)
        have hch := okC_of (c0X6_readSign _ 59) hch
        obtain ⟨p_5, ep_5⟩ : ∃ t, t = (zX6_readSign (sT p_2.2 4 (p_2.2 1 2)) 59) := ⟨_, rfl⟩
        rw [← ep_5] at hTx hch ⊢
        exact W.zret (v := p_5.1) hx hb hr (by subst ep_5; exact b01X6_readSign _ _) (fun t ht hW => ⟨⟨p_5.1, p_5.2, rfl, ⟨(by subst ep_5; subst ep_2; unfold zX6_readCommand; rw [if_neg c_1, if_neg c_3, if_neg c_4]), (by subst ep_5; subst ep_2; unfold zX6_readCommand; rw [if_neg c_1, if_neg c_3, if_neg c_4])⟩, by dsimp only; rw [ht]; exact hTx⟩, hS.F ht⟩) hS.2.2 dX6_readCommand_82
      · refine lv_aload_n hx hb dX6_readCommand_50 rfl (lv_at hl 1 rfl) ?_
        refine lv_bipush (v := 44) hx hb dX6_readCommand_51 (by decide) ?_
        refine kX6_readSign hF (cwV 1 hts gX6_readCommand_X6_readSign rfl rfl rfl hdX6_readSign ⟨Nat.le_of_ble_eq_true rfl, Nat.le_of_ble_eq_true rfl⟩) hC hTx hch hne hS (fun _ h => h) hl.1 (Nat.le_of_ble_eq_true rfl) dX6_readCommand_53 ⟨Nat.zero_le _, Nat.zero_le _⟩ (fun H locs hTx _ _ hS => ?_)
        have hch := okC_of (c0X6_readSign _ 44) hch
        obtain ⟨p_6, ep_6⟩ : ∃ t, t = (zX6_readSign (sT p_2.2 4 (p_2.2 1 2)) 44) := ⟨_, rfl⟩
        rw [← ep_6] at hTx hch ⊢
        refine lv_if_eq (tgt := 66) hx hb dX6_readCommand_56 (by decide) (fun c_7 => ?_) (fun c_7 => ?_)
        · refine lv_iconst (v := 0) hx hb dX6_readCommand_66 (by decide) ?_
          exact W.zret (v := 0) hx hb hr (by decide) (fun t ht hW => ⟨⟨0, p_6.2, rfl, ⟨(by subst ep_6; subst ep_2; unfold zX6_readCommand; rw [if_neg c_1, if_neg c_3, if_pos c_4, if_pos c_7]), (by subst ep_6; subst ep_2; unfold zX6_readCommand; rw [if_neg c_1, if_neg c_3, if_pos c_4, if_pos c_7])⟩, by dsimp only; rw [ht]; exact hTx⟩, hS.F ht⟩) hS.2.2 dX6_readCommand_67
        · refine lv_aload_n hx hb dX6_readCommand_59 rfl (lv_at hl 1 rfl) ?_
          refine kX6_readNumber hF (cwV 0 hts gX6_readCommand_X6_readNumber rfl rfl rfl hdX6_readNumber ⟨Nat.le_of_ble_eq_true rfl, Nat.le_of_ble_eq_true rfl⟩) hC hTx hch hne hS (fun _ h => h) hl.1 (Nat.le_of_ble_eq_true rfl) dX6_readCommand_60 ⟨Nat.zero_le _, Nat.zero_le _⟩ (fun H locs hTx _ _ hS => ?_)
          have hch := okC_of (c0X6_readNumber _) hch
          obtain ⟨p_8, ep_8⟩ : ∃ t, t = (zX6_readNumber p_6.2) := ⟨_, rfl⟩
          rw [← ep_8] at hTx hch ⊢
          refine lv_if_ne (tgt := 68) hx hb dX6_readCommand_63 (by decide) (fun c_9 => ?_) (fun c_9 => ?_)
          · refine lv_aload_n hx hb dX6_readCommand_68 rfl (lv_at hl 1 rfl) ?_
            refine lv_aload_n hx hb dX6_readCommand_69 rfl (lv_at hl 1 rfl) ?_
            refine va_get (D := D) (ci := 6) (v := .int (p_8.2 1 2)) (C := RX6) (T := TX6) (N := 7) hx hb hts iwX6_readCommand_X6 hown hC.1 hTx 0 rfl rfl 3 (by decide) (hts (.fieldLink RX6 42 "MealLockers$Text" "number" "I") (List.mem_of_getElem? (i := 3) rfl)) (fun _ h9 => h9) rfl dX6_readCommand_70 ?_
            refine va_put (D := D) (ci := 6) (v := .int (p_8.2 1 2)) (ty := .int) (C := RX6) (T := TX6) (N := 7) hx hb hts iwX6_readCommand_X6 tyX6 tyX6_ok nmX6 hown hC.1 hTx (tx_D hne) hS 0 rfl rfl 6 (by decide) (hts (.fieldLink RX6 52 "MealLockers$Text" "second" "I") (List.mem_of_getElem? (i := 5) rfl)) (fun _ h9 => h9) rfl (by decide +kernel) rfl rfl (Nat.le_of_ble_eq_true rfl) dX6_readCommand_73 (fun H locs hTx _ hS => ?_)
            have hTx := tx_put5 hTx
            have hch := okC_sT (k := 5) (v := (p_8.2 1 2)) hch
            refine lv_aload_n hx hb dX6_readCommand_76 rfl (lv_at hl 1 rfl) ?_
            refine lv_bipush (v := 59) hx hb dX6_readCommand_77 (by decide) ?_
            refine kX6_readSign hF (cwV 1 hts gX6_readCommand_X6_readSign rfl rfl rfl hdX6_readSign ⟨Nat.le_of_ble_eq_true rfl, Nat.le_of_ble_eq_true rfl⟩) hC hTx hch hne hS (fun _ h => h) hl.1 (Nat.le_of_ble_eq_true rfl) dX6_readCommand_79 ⟨Nat.zero_le _, Nat.zero_le _⟩ (fun H locs hTx _ _ hS => ?_)
            have hch := okC_of (c0X6_readSign _ 59) hch
            obtain ⟨p_10, ep_10⟩ : ∃ t, t = (zX6_readSign (sT p_8.2 5 (p_8.2 1 2)) 59) := ⟨_, rfl⟩
            rw [← ep_10] at hTx hch ⊢
            exact W.zret (v := p_10.1) hx hb hr (by subst ep_10; exact b01X6_readSign _ _) (fun t ht hW => ⟨⟨p_10.1, p_10.2, rfl, ⟨(by subst ep_10; subst ep_8; subst ep_6; subst ep_2; unfold zX6_readCommand; rw [if_neg c_1, if_neg c_3, if_pos c_4, if_neg c_7, if_neg c_9]), (by subst ep_10; subst ep_8; subst ep_6; subst ep_2; unfold zX6_readCommand; rw [if_neg c_1, if_neg c_3, if_pos c_4, if_neg c_7, if_neg c_9])⟩, by dsimp only; rw [ht]; exact hTx⟩, hS.F ht⟩) hS.2.2 dX6_readCommand_82
          · refine lv_iconst (v := 0) hx hb dX6_readCommand_66 (by decide) ?_
            exact W.zret (v := 0) hx hb hr (by decide) (fun t ht hW => ⟨⟨0, p_8.2, rfl, ⟨(by subst ep_8; subst ep_6; subst ep_2; unfold zX6_readCommand; rw [if_neg c_1, if_neg c_3, if_pos c_4, if_neg c_7, if_pos c_9]), (by subst ep_8; subst ep_6; subst ep_2; unfold zX6_readCommand; rw [if_neg c_1, if_neg c_3, if_pos c_4, if_neg c_7, if_pos c_9])⟩, by dsimp only; rw [ht]; exact hTx⟩, hS.F ht⟩) hS.2.2 dX6_readCommand_67
    · refine lv_iconst (v := 0) hx hb dX6_readCommand_35 (by decide) ?_
      exact W.zret (v := 0) hx hb hr (by decide) (fun t ht hW => ⟨⟨0, p_2.2, rfl, ⟨(by subst ep_2; unfold zX6_readCommand; rw [if_neg c_1, if_pos c_3]), (by subst ep_2; unfold zX6_readCommand; rw [if_neg c_1, if_pos c_3])⟩, by dsimp only; rw [ht]; exact hTx⟩, hS.F ht⟩) hS.2.2 dX6_readCommand_36
set_option maxHeartbeats 4000000 in
set_option maxRecDepth 100000 in
theorem kX6_readCommand {p : Program} {l : Launch} {e : Env} {R : Room} {s : State} {m : MethodId} {args : Array Value} {below : List Frame} {meth : Method} {c : Code} {H : Heap} {locs : List Loc} {cells slots : Nat} {Q : State → Prop} {cc : ByteArray} {nL : Nat} {Ts : List Cond} {own : String} {index pc : Nat} {ls : Array Slot} {rest : List Value} {D : va_G} {y : Y3} {a b : Nat} {τ : Sg} {x1 : Int32} {A0 : Nat → Prop} {H0 : Heap} (hF : CallFix p m c cc nL s args Ts own) (cw : CallW R s args own RX6 index yX6_readCommand cX6_readCommand 3 (some .boolean) wsX6_readCommand ({ frames := 2, cells := 0, slots := 0, locals := 43 } : Room) 0 0 1) (hC : CK D y s) (hTx : TxH D y a b τ H) (hch : okC τ) (hne : a ≠ b) (hS : va_S A0 H0 H locs) (hA : ∀ q, (tbA a b) q → A0 q) (hsz : ls.size = nL) (hW : (rest.map fun v => v.category).sum ≤ 8) (hdg : decode cc pc = .ok (.invokevirtual index, 3)) (hf : cells ≤ R.cells ∧ slots ≤ R.slots)
    (k : ∀ (H1 : Heap) (locs1 : List Loc), TxH D y a b (zX6_readCommand τ x1).2 H1 → H.size ≤ H1.size → (∀ q : Nat, q < H.size → ¬ (tbA a b) q → H1[q]? = H[q]?) → va_S A0 H0 H1 locs1 → W p l e R s m args below meth c H1 locs1 cells slots Q (F0 m (pc + 3) ls (.int ((zX6_readCommand τ x1).1) :: rest))) : W p l e R s m args below meth c H locs cells slots Q (F0 m pc ls (.int x1 :: .ref a :: rest)) := by
  refine va_calli (va_runV (As := [.int x1]) (rest := rest) hF (mX6_readCommand l D y a b τ x1) cw ⟨fun a U g mk q => by obtain ⟨q0, q1, q2, q3, q4⟩ := q; exact ⟨q0, q1.call g mk a, q2, q3, q4⟩, va_recv hC.1 hTx (ci := 6) (q0 := 0) rfl rfl, fun U hU hW => ⟨rfl, hC.warm hW, by rw [hU]; exact hTx, hch, hne⟩⟩ rfl rfl hsz rfl (lv_room hW) hdg ⟨hf.1, hf.2⟩) hS (fun q _ h => hA q h) hA (fun r u t H1 locs1 ht hvm hp hB hz1 hk1 hS1 => ?_)
  obtain ⟨hp1, hp2⟩ := hp
  subst hp1; subst hp2
  rw [ht] at hB
  exact k H1 locs1 hB hz1 hk1 hS1
theorem c0X6_readCommand (τ : Sg) (x1 : Int32) : (zX6_readCommand τ x1).2 0 = τ 0 := by
  unfold zX6_readCommand
  (repeat' split) <;> simp only [c0X6_readNumber, c0X6_readSign, sT_0]
