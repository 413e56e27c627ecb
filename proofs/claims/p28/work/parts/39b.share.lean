def fn32 (x : UInt32) : Bool := decide (x &&& 0x7fffffff ≤ 0x7f800000)
theorem fn32_ok {x : UInt32} (h : fn32 x = true) : vf_n32 x := by
  have h2 : x &&& 0x7fffffff ≤ 0x7f800000 := of_decide_eq_true h
  exact h2
/-- doubling a fraction below 1, at most so often -/
def wfb : Nat → UInt32 → Int32 → UInt32 × Int32
  | 0, x, k => (x, k)
  | n + 1, x, k => if 0 ≤ (Op.cmpValue (FP.fcmp x FP.fconst1) .g) then (x, k) else wfb n (FP.fmul x FP.fconst2) (k + (-1))
def okf (x : UInt32) : Bool := fn32 (FP.fsub x FP.fconst1) && fn32 (FP.fmul (FP.fsub x FP.fconst1) 1258291200)
def okfb : Nat → UInt32 → Bool
  | 0, x => okf x
  | n + 1, x => if 0 ≤ (Op.cmpValue (FP.fcmp x FP.fconst1) .g) then okf x else fn32 (FP.fmul x FP.fconst2) && okfb n (FP.fmul x FP.fconst2)
theorem okfb_w : ∀ (n : Nat) (x : UInt32) (k : Int32), okfb n x = true → okf (wfb n x k).1 = true := by
  intro n
  induction n with
  | zero => exact fun x k h => h
  | succ n ih =>
    intro x k h
    rw [okfb] at h
    rw [wfb]
    split
    · rename_i c
      rw [if_pos c] at h
      exact h
    · rename_i c
      rw [if_neg c, Bool.and_eq_true] at h
      exact ih _ _ h.2
set_option maxHeartbeats 4000000 in
set_option maxRecDepth 100000 in
theorem lpX3_floatBits {p : Program} {l : Launch} {e : Env} {s : State} {m : MethodId} {args : Array Value} {below : List Frame} {meth : Method} {c : Code} {Q : State → Prop} {D : va_G} {y : Y3} {x0 x9 : UInt32} {H : Heap} {locs : List Loc} (hx : p.tables.exec = Jvm.exec) (hb : c.code = cX3_floatBits) (hml : c.maxLocals = 4) (hown : s.vm.findClass RX3 = some m.cls) (hts : ∀ w ∈ wsX3_floatBits, w.before args s = true) (hC : CK D y s)
    (K : ∀ (x1 : UInt32) (i x2 : Int32) (ls : Array Slot), (x1, x2) = wfb 5 x9 127 → lv_has ls 4 [(3, .int i), (1, .float x1), (2, .int x2), (0, .float x0)] → W p l e (headSpec wsX3_floatBits ({ frames := 0, cells := 0, slots := 0, locals := 0 } : Room)).room s m args below meth c H locs 0 0 Q (F0 m 39 ls [])) :
    ∀ (j i : Nat) (x : UInt32) (k : Int32), i + j = 5 → wfb 5 x9 127 = wfb j x k → okfb j x = true → ∀ ls : Array Slot, lv_has ls 4 [(3, .int (nI i)), (1, .float x), (2, .int k), (0, .float x0)] → W p l e (headSpec wsX3_floatBits ({ frames := 0, cells := 0, slots := 0, locals := 0 } : Room)).room s m args below meth c H locs 0 0 Q (F0 m 15 ls []) := by
  have hF := (⟨hx, hb, hml, hown, hts⟩ : CallFix p m c cX3_floatBits 4 s args wsX3_floatBits RX3)
  intro j
  induction j with
  | zero =>
    intro i x k hin hv hok ls hl
    obtain rfl : i = 5 := by omega
    refine lv_iload_n hx hb dX3_floatBits_15 rfl (lv_at hl 0 rfl) ?_
    refine lv_iconst (v := 5) hx hb dX3_floatBits_16 (by decide) ?_
    refine lv_icmp_ge (tgt := 39) hx hb dX3_floatBits_17 (by decide) (fun _ => ?_) (fun c_1 => absurd (by decide) c_1)
    exact K x _ k ls hv.symm (lv_sub hl [0, 1, 2, 3] rfl)
  | succ j ih =>
    intro i x k hin hv hok ls hl
    rw [okfb] at hok
    refine lv_iload_n hx hb dX3_floatBits_15 rfl (lv_at hl 0 rfl) ?_
    refine lv_iconst (v := 5) hx hb dX3_floatBits_16 (by decide) ?_
    refine lv_icmp_ge (tgt := 39) hx hb dX3_floatBits_17 (by decide) (fun c_2 => absurd c_2 (nI_ge (a := i) (b := 5) (by omega) (by decide))) (fun _ => ?_)
    refine lv_fload_n hx hb dX3_floatBits_20 rfl (lv_at hl 1 rfl) ?_
    refine lv_fconst1 hx hb dX3_floatBits_21 ?_
    refine lv_fcmp hx hb dX3_floatBits_22 ?_
    refine lv_if_ge (tgt := 39) hx hb dX3_floatBits_23 (by decide) (fun c_3 => ?_) (fun c_3 => ?_)
    · exact K x _ k ls (hv.trans (by rw [wfb]; rw [if_pos c_3])).symm (lv_sub hl [0, 1, 2, 3] rfl)
    · refine lv_fload_n hx hb dX3_floatBits_26 rfl (lv_at hl 1 rfl) ?_
      refine lv_fconst2 hx hb dX3_floatBits_27 ?_
      refine lv_fmul hx hb dX3_floatBits_28 (fn32_ok (by rw [if_neg c_3, Bool.and_eq_true] at hok; exact hok.1)) ?_
      refine lv_fstore_n (lv' := [(1, .float (FP.fmul x FP.fconst2)), (3, .int (nI i)), (2, .int k), (0, .float x0)]) hx hb dX3_floatBits_29 rfl hl (by decide) rfl (fun ls hl => ?_)
      refine lv_iinc (v := (k + (-1))) (lv' := [(2, .int (k + (-1))), (1, .float (FP.fmul x FP.fconst2)), (3, .int (nI i)), (0, .float x0)]) hx hb dX3_floatBits_30 hl (k := 2) rfl rfl (by decide) rfl (fun ls hl => ?_)
      refine lv_iinc (v := (nI (i + 1))) (lv' := [(3, .int (nI (i + 1))), (2, .int (k + (-1))), (1, .float (FP.fmul x FP.fconst2)), (0, .float x0)]) hx hb dX3_floatBits_33 hl (k := 2) rfl (by rw [nI_succ]; rfl) (by decide) rfl (fun ls hl => ?_)
      refine lv_goto (tgt := 15) hx hb dX3_floatBits_36 (by decide) ?_
      exact ih (i + 1) ((FP.fmul x FP.fconst2)) ((k + (-1))) (by omega) (hv.trans (by rw [wfb]; rw [if_neg c_3])) (by rw [if_neg c_3, Bool.and_eq_true] at hok; exact hok.2) ls (lv_sub hl [0, 2, 1, 3] rfl)
def zX3_floatBits (x1 : UInt32) : Int32 := if 0 < (Op.cmpValue (FP.fcmp x1 FP.fconst0) .g) then (((wfb 5 x1 127).2 <<< (23 &&& 31)) ||| (FP.f2i (FP.fmul (FP.fsub (wfb 5 x1 127).1 FP.fconst1) 1258291200)))
  else 0
set_option maxHeartbeats 4000000 in
set_option maxRecDepth 100000 in
theorem mX3_floatBits (l : Launch) (D : va_G) (y : Y3) (x1 : UInt32) : Met l yX3_floatBits wsX3_floatBits ({ frames := 0, cells := 0, slots := 0, locals := 0 } : Room) (va_Pc [.float x1] (fun U => CK D y U ∧ okfb 5 x1 = true)) (vp_Si (fun r => r = zX3_floatBits x1)) 0 0 (fun _ => False) := by
  refine Met.ofW (cc := cX3_floatBits) (maxL := 4) (ret := (some .int)) (by decide) rfl ?_
  intro p e s m args below meth c s₁ B hml hv
  obtain ⟨rfl, hC, hok⟩ := hv
  have hx := B.exec
  have hb := B.bytes
  have hr := B.returns
  have hts := atoms_spec (ws := wsX3_floatBits) B.pre
  have hown : s.vm.findClass RX3 = some m.cls := findClass_of_methodNamed B.named
  have hlocks := B.notSynchronized
  have hF := (⟨hx, hb, hml, hown, hts⟩ : CallFix p m c cX3_floatBits 4 s _ wsX3_floatBits RX3)
  have hl := lv_entry ([.float x1]) (n := 4) (Nat.le_of_ble_eq_true rfl)
  rw [lg_entry_eq]
  generalize (lg_sl ([.float x1]) ++ List.replicate (4 - (lg_sl ([.float x1])).length) Slot.unset).toArray = ls at hl ⊢
  have hl : lv_has ls 4 [(0, .float x1)] := hl
  refine lv_fload_n hx hb dX3_floatBits_0 rfl (lv_at hl 0 rfl) ?_
  refine lv_fconst0 hx hb dX3_floatBits_1 ?_
  refine lv_fcmp hx hb dX3_floatBits_2 ?_
  refine lv_if_gt (tgt := 8) hx hb dX3_floatBits_3 (by decide) (fun c_1 => ?_) (fun c_1 => ?_)
  · refine lv_fload_n hx hb dX3_floatBits_8 rfl (lv_at hl 0 rfl) ?_
    refine lv_fstore_n (lv' := [(1, .float x1), (0, .float x1)]) hx hb dX3_floatBits_9 rfl hl (by decide) rfl (fun ls hl => ?_)
    refine lv_bipush (v := 127) hx hb dX3_floatBits_10 (by decide) ?_
    refine lv_istore_n (lv' := [(2, .int 127), (1, .float x1), (0, .float x1)]) hx hb dX3_floatBits_12 rfl hl (by decide) rfl (fun ls hl => ?_)
    refine lv_iconst (v := 0) hx hb dX3_floatBits_13 (by decide) ?_
    refine lv_istore_n (lv' := [(3, .int 0), (2, .int 127), (1, .float x1), (0, .float x1)]) hx hb dX3_floatBits_14 rfl hl (by decide) rfl (fun ls hl => ?_)
    refine lpX3_floatBits (x9 := x1) hx hb hml hown hts hC (fun v i d ls hv hl => ?_) _ 0 _ _ (Nat.zero_add _) rfl hok ls (lv_sub hl [0, 2, 1, 3] rfl)
    have hk := okfb_w 5 x1 127 hok
    rw [← hv] at hk
    rw [okf, Bool.and_eq_true] at hk
    refine lv_fload_n hx hb dX3_floatBits_39 rfl (lv_at hl 1 rfl) ?_
    refine lv_fconst1 hx hb dX3_floatBits_40 ?_
    refine lv_fsub hx hb dX3_floatBits_41 (fn32_ok hk.1) ?_
    refine lv_ldcf (v := 1258291200) hx hb hown (hts (.constantFloat RX3 107 (1258291200)) (List.mem_of_getElem? (i := 1) rfl)) dX3_floatBits_42 ?_
    refine lv_fmul hx hb dX3_floatBits_44 (fn32_ok hk.2) ?_
    refine lv_f2i hx hb dX3_floatBits_45 ?_
    refine lv_istore_n (lv' := [(3, .int (FP.f2i (FP.fmul (FP.fsub v FP.fconst1) 1258291200))), (1, .float v), (2, .int d), (0, .float x1)]) hx hb dX3_floatBits_46 rfl hl (by decide) rfl (fun ls hl => ?_)
    refine lv_iload_n hx hb dX3_floatBits_47 rfl (lv_at hl 2 rfl) ?_
    refine lv_bipush (v := 23) hx hb dX3_floatBits_48 (by decide) ?_
    refine lv_ishl hx hb dX3_floatBits_50 ?_
    refine lv_iload_n hx hb dX3_floatBits_51 rfl (lv_at hl 0 rfl) ?_
    refine lv_ior hx hb dX3_floatBits_52 ?_
    exact W.iret (v := ((d <<< (23 &&& 31)) ||| (FP.f2i (FP.fmul (FP.fsub v FP.fconst1) 1258291200)))) hx hb hr (fun t ht hW => ⟨((d <<< (23 &&& 31)) ||| (FP.f2i (FP.fmul (FP.fsub v FP.fconst1) 1258291200))), rfl, (by unfold zX3_floatBits; rw [if_pos c_1, ← hv]), ht⟩) (fun q hq => absurd hq List.not_mem_nil) dX3_floatBits_53
  · refine lv_iconst (v := 0) hx hb dX3_floatBits_6 (by decide) ?_
    exact W.iret (v := 0) hx hb hr (fun t ht hW => ⟨0, rfl, (by unfold zX3_floatBits; rw [if_neg c_1]), ht⟩) (fun q hq => absurd hq List.not_mem_nil) dX3_floatBits_7
set_option maxHeartbeats 4000000 in
set_option maxRecDepth 100000 in
theorem kX3_floatBits {p : Program} {l : Launch} {e : Env} {R : Room} {s : State} {m : MethodId} {args : Array Value} {below : List Frame} {meth : Method} {c : Code} {H : Heap} {locs : List Loc} {cells slots : Nat} {Q : State → Prop} {cc : ByteArray} {nL : Nat} {Ts : List Cond} {own : String} {index pc : Nat} {ls : Array Slot} {rest : List Value} {D : va_G} {y : Y3} {x1 : UInt32} (hF : CallFix p m c cc nL s args Ts own) (cw : CallB R s args own index yX3_floatBits cX3_floatBits 4 (some .int) wsX3_floatBits ({ frames := 0, cells := 0, slots := 0, locals := 0 } : Room) 0 0 1 ∧ (Cond.static yX3_floatBits).before args s = true) (hC : CK D y s) (hok : okfb 5 x1 = true) (hsz : ls.size = nL) (hW : (rest.map fun v => v.category).sum ≤ 8) (hdg : decode cc pc = .ok (.invokestatic index, 3)) (hf : cells ≤ R.cells ∧ slots ≤ R.slots)
    (k : W p l e R s m args below meth c H locs cells slots Q (F0 m (pc + 3) ls (.int (zX3_floatBits x1) :: rest))) : W p l e R s m args below meth c H locs cells slots Q (F0 m pc ls (.float x1 :: rest)) := by
  refine vp_callSi (W.runS (As := [.float x1]) (rest := rest) hF (mX3_floatBits l D y x1) cw ⟨fun a U g mk q => by obtain ⟨q0, q1, q2⟩ := q; exact ⟨q0, q1.call g mk a, q2⟩, fun U hU hW => ⟨rfl, hC.warm hW, hok⟩⟩ rfl rfl hsz rfl (lv_room hW) hdg ⟨hf.1, hf.2⟩) (fun r hr => ?_)
  subst hr
  exact k
/-- a share whose bits are told stays within the numbers -/
def okSh (σ : Sg) : Prop := ¬ zX3_mealsAtStages σ 3 5 ≤ 0 → vf_n32 (FP.fdiv (FP.i2f (zX3_mealsAtStages σ 3 3)) (FP.i2f (zX3_mealsAtStages σ 3 5))) ∧ okfb 5 (FP.fdiv (FP.i2f (zX3_mealsAtStages σ 3 3)) (FP.i2f (zX3_mealsAtStages σ 3 5))) = true
theorem nle_of {x : Int32} (h : 0 < x) : ¬ x ≤ 0 := by
  rw [Int32.lt_iff_toInt_lt] at h
  rw [Int32.le_iff_toInt_le]
  omega
def zX3_bitsOfFetchedShare (σ : Sg) : Int32 := if 0 < (zX3_mealsAtStages σ 3 5) then (zX3_floatBits (FP.fdiv (FP.i2f (zX3_mealsAtStages σ 3 3)) (FP.i2f (zX3_mealsAtStages σ 3 5))))
  else (-4)
theorem hdX3_bitsOfFetchedShare : yX3_bitsOfFetchedShare.cls = RX3 ∧ yX3_bitsOfFetchedShare.cls ≠ "java/lang/invoke/MethodHandle" ∧ yX3_bitsOfFetchedShare.cls ≠ "java/lang/invoke/VarHandle" ∧ (parseMethodDescriptor yX3_bitsOfFetchedShare.desc).map (fun d => d.parameters.length) = some 0 := by decide +kernel
set_option maxHeartbeats 4000000 in
set_option maxRecDepth 100000 in
theorem mX3_bitsOfFetchedShare (l : Launch) (D : va_G) (y : Y3) (h : Nat) (ad : Nat → Nat) (σ : Sg) : Met l yX3_bitsOfFetchedShare wsX3_bitsOfFetchedShare ({ frames := 2, cells := 0, slots := 0, locals := 47 } : Room) (va_Pc [.ref h] (fun U => CK D y U ∧ qoH D 3 h ad U.heap ∧ StH D y ad σ U.heap ∧ okSh σ)) (vp_Si (fun r => r = zX3_bitsOfFetchedShare σ)) 0 0 (fun _ => False) := by
  refine Met.ofW (cc := cX3_bitsOfFetchedShare) (maxL := 2) (ret := (some .int)) (by decide) rfl ?_
  intro p e s m args below meth c s₁ B hml hv
  obtain ⟨rfl, hC, hCh, hSt, h24⟩ := hv
  have hx := B.exec
  have hb := B.bytes
  have hr := B.returns
  have hts := atoms_spec (ws := wsX3_bitsOfFetchedShare) B.pre
  have hown : s.vm.findClass RX3 = some m.cls := findClass_of_methodNamed B.named
  have hlocks := B.notSynchronized
  have hF := (⟨hx, hb, hml, hown, hts⟩ : CallFix p m c cX3_bitsOfFetchedShare 2 s _ wsX3_bitsOfFetchedShare RX3)
  have hl := lv_entry ([.ref h]) (n := 2) (Nat.le_of_ble_eq_true rfl)
  rw [lg_entry_eq]
  generalize (lg_sl ([.ref h]) ++ List.replicate (2 - (lg_sl ([.ref h])).length) Slot.unset).toArray = ls at hl ⊢
  have hl : lv_has ls 2 [(0, .ref h)] := hl
  refine lv_aload_n hx hb dX3_bitsOfFetchedShare_0 rfl (lv_at hl 0 rfl) ?_
  refine lv_iconst (v := 3) hx hb dX3_bitsOfFetchedShare_1 (by decide) ?_
  refine lv_iconst (v := 5) hx hb dX3_bitsOfFetchedShare_2 (by decide) ?_
  refine kX3_mealsAtStages hF (cwV 2 hts gX3_bitsOfFetchedShare_X3_mealsAtStages rfl rfl rfl hdX3_mealsAtStages ⟨Nat.le_of_ble_eq_true rfl, Nat.le_of_ble_eq_true rfl⟩) hC hCh hSt hl.1 (Nat.le_of_ble_eq_true rfl) dX3_bitsOfFetchedShare_3 ⟨Nat.zero_le _, Nat.zero_le _⟩ ?_
  refine lv_istore_n (lv' := [(1, .int (zX3_mealsAtStages σ 3 5)), (0, .ref h)]) hx hb dX3_bitsOfFetchedShare_6 rfl hl (by decide) rfl (fun ls hl => ?_)
  refine lv_iload_n hx hb dX3_bitsOfFetchedShare_7 rfl (lv_at hl 0 rfl) ?_
  refine lv_if_gt (tgt := 14) hx hb dX3_bitsOfFetchedShare_8 (by decide) (fun c_1 => ?_) (fun c_1 => ?_)
  · refine lv_aload_n hx hb dX3_bitsOfFetchedShare_14 rfl (lv_at hl 1 rfl) ?_
    refine lv_iconst (v := 3) hx hb dX3_bitsOfFetchedShare_15 (by decide) ?_
    refine lv_iconst (v := 3) hx hb dX3_bitsOfFetchedShare_16 (by decide) ?_
    refine kX3_mealsAtStages hF (cwV 2 hts gX3_bitsOfFetchedShare_X3_mealsAtStages rfl rfl rfl hdX3_mealsAtStages ⟨Nat.le_of_ble_eq_true rfl, Nat.le_of_ble_eq_true rfl⟩) hC hCh hSt hl.1 (Nat.le_of_ble_eq_true rfl) dX3_bitsOfFetchedShare_17 ⟨Nat.zero_le _, Nat.zero_le _⟩ ?_
    refine lv_i2f hx hb dX3_bitsOfFetchedShare_20 ?_
    refine lv_iload_n hx hb dX3_bitsOfFetchedShare_21 rfl (lv_at hl 0 rfl) ?_
    refine lv_i2f hx hb dX3_bitsOfFetchedShare_22 ?_
    refine lv_fdiv hx hb dX3_bitsOfFetchedShare_23 (h24 (nle_of c_1)).1 ?_
    refine kX3_floatBits hF (cwS 1 hts gX3_bitsOfFetchedShare_X3_floatBits rfl rfl rfl (by decide +kernel) ⟨Nat.le_of_ble_eq_true rfl, Nat.le_of_ble_eq_true rfl⟩) hC (h24 (nle_of c_1)).2 hl.1 (Nat.le_of_ble_eq_true rfl) dX3_bitsOfFetchedShare_24 ⟨Nat.zero_le _, Nat.zero_le _⟩ ?_
    exact W.iret (v := (zX3_floatBits (FP.fdiv (FP.i2f (zX3_mealsAtStages σ 3 3)) (FP.i2f (zX3_mealsAtStages σ 3 5))))) hx hb hr (fun t ht hW => ⟨(zX3_floatBits (FP.fdiv (FP.i2f (zX3_mealsAtStages σ 3 3)) (FP.i2f (zX3_mealsAtStages σ 3 5)))), rfl, (by unfold zX3_bitsOfFetchedShare; rw [if_pos c_1]), ht⟩) (fun q hq => absurd hq List.not_mem_nil) dX3_bitsOfFetchedShare_27
  · refine lv_bipush (v := (-4)) hx hb dX3_bitsOfFetchedShare_11 (by decide) ?_
    exact W.iret (v := (-4)) hx hb hr (fun t ht hW => ⟨(-4), rfl, (by unfold zX3_bitsOfFetchedShare; rw [if_neg c_1]), ht⟩) (fun q hq => absurd hq List.not_mem_nil) dX3_bitsOfFetchedShare_13
set_option maxHeartbeats 4000000 in
set_option maxRecDepth 100000 in
theorem kX3_bitsOfFetchedShare {p : Program} {l : Launch} {e : Env} {R : Room} {s : State} {m : MethodId} {args : Array Value} {below : List Frame} {meth : Method} {c : Code} {H : Heap} {locs : List Loc} {cells slots : Nat} {Q : State → Prop} {cc : ByteArray} {nL : Nat} {Ts : List Cond} {own : String} {index pc : Nat} {ls : Array Slot} {rest : List Value} {D : va_G} {y : Y3} {h : Nat} {ad : Nat → Nat} {σ : Sg} (hF : CallFix p m c cc nL s args Ts own) (cw : CallW R s args own RX3 index yX3_bitsOfFetchedShare cX3_bitsOfFetchedShare 2 (some .int) wsX3_bitsOfFetchedShare ({ frames := 2, cells := 0, slots := 0, locals := 47 } : Room) 0 0 0) (hC : CK D y s) (hCh : qoH D 3 h ad H) (hSt : StH D y ad σ H) (h24 : okSh σ) (hsz : ls.size = nL) (hW : (rest.map fun v => v.category).sum ≤ 8) (hdg : decode cc pc = .ok (.invokevirtual index, 3)) (hf : cells ≤ R.cells ∧ slots ≤ R.slots)
    (k : W p l e R s m args below meth c H locs cells slots Q (F0 m (pc + 3) ls (.int (zX3_bitsOfFetchedShare σ) :: rest))) : W p l e R s m args below meth c H locs cells slots Q (F0 m pc ls (.ref h :: rest)) := by
  refine vp_callSi (W.runV (As := []) (rest := rest) hF (mX3_bitsOfFetchedShare l D y h ad σ) cw ⟨fun a U g mk q => by obtain ⟨q0, q1, q2, q3, q4⟩ := q; exact ⟨q0, q1.call g mk a, q2, q3, q4⟩, va_recv hC.1 hCh (ci := 3) (q0 := 0) rfl rfl, fun U hU hW => ⟨rfl, hC.warm hW, by rw [hU]; exact hCh, by rw [hU]; exact hSt, h24⟩⟩ rfl rfl hsz rfl (lv_room hW) hdg ⟨hf.1, hf.2⟩) (fun r hr => ?_)
  subst hr
  exact k
def zX7_shareBits (Ω : Og) : Int32 × Og := ((zX3_bitsOfFetchedShare (Ω 0)), Ω)
theorem iwX7_shareBits_X7 : ∀ w ∈ wsX70, w ∈ wsX7_shareBits := fun _ h => List.mem_cons_of_mem _ (List.mem_append_left _ (List.mem_append_left _ (List.mem_append_right _ h)))
theorem hdX7_shareBits : yX7_shareBits.cls = RX7 ∧ yX7_shareBits.cls ≠ "java/lang/invoke/MethodHandle" ∧ yX7_shareBits.cls ≠ "java/lang/invoke/VarHandle" ∧ (parseMethodDescriptor yX7_shareBits.desc).map (fun d => d.parameters.length) = some 0 := by decide +kernel
set_option maxHeartbeats 4000000 in
set_option maxRecDepth 100000 in
theorem mX7_shareBits (l : Launch) (D : va_G) (y : Y3) (ob : Nat → Nat) (AD : Nat → Nat → Nat) (Ω : Og) : Met l yX7_shareBits wsX7_shareBits ({ frames := 3, cells := 0, slots := 0, locals := 68 } : Room) (va_Pc [.ref (ob 0)] (fun U => CK D y U ∧ SysH D y ob AD Ω U.heap ∧ sysJ ob AD ∧ okO Ω ∧ okSh (Ω 0))) (va_Qi (fun (r : Int32) (u : Og) => r = (zX7_shareBits Ω).1 ∧ u = (zX7_shareBits Ω).2) (fun u t => SysH D y ob AD u t.heap) (sysA ob AD)) 0 0 (sysA ob AD) := by
  refine Met.ofW (cc := cX7_shareBits) (maxL := 1) (ret := (some .int)) (by decide) rfl ?_
  intro p e s m args below meth c s₁ B hml hv
  obtain ⟨rfl, hC, hY, hJ, hOk, h24⟩ := hv
  have hx := B.exec
  have hb := B.bytes
  have hr := B.returns
  have hts := atoms_spec (ws := wsX7_shareBits) B.pre
  have hown : s.vm.findClass RX7 = some m.cls := findClass_of_methodNamed B.named
  have hlocks := B.notSynchronized
  have hF := (⟨hx, hb, hml, hown, hts⟩ : CallFix p m c cX7_shareBits 1 s _ wsX7_shareBits RX7)
  have hS : va_S (sysA ob AD) s.heap s.heap [] := va_S.rf
  have hl := lv_entry ([.ref (ob 0)]) (n := 1) (Nat.le_of_ble_eq_true rfl)
  rw [lg_entry_eq]
  generalize (lg_sl ([.ref (ob 0)]) ++ List.replicate (1 - (lg_sl ([.ref (ob 0)])).length) Slot.unset).toArray = ls at hl ⊢
  have hl : lv_has ls 1 [(0, .ref (ob 0))] := hl
  refine lv_aload_n hx hb dX7_shareBits_0 rfl (lv_at hl 0 rfl) ?_
  refine va_get (D := D) (ci := 7) (v := .ref (ob 2)) (C := RX7) (T := TX7) (N := 7) hx hb hts iwX7_shareBits_X7 hown hC.1 hY.1 0 rfl rfl 3 (by decide) (hts (.fieldLink RX7 31 "MealLockers" "questions" "LMealLockers$Questions;") (List.mem_of_getElem? (i := 1) rfl)) (fun _ h9 => h9) rfl dX7_shareBits_1 ?_
  refine kX3_bitsOfFetchedShare hF (cwV 0 hts gX7_shareBits_X3_bitsOfFetchedShare rfl rfl rfl hdX3_bitsOfFetchedShare ⟨Nat.le_of_ble_eq_true rfl, Nat.le_of_ble_eq_true rfl⟩) hC hY.2.2.1 (hY.2.2.2.2.2.2 0 (by decide)) h24 hl.1 (Nat.le_of_ble_eq_true rfl) dX7_shareBits_4 ⟨Nat.zero_le _, Nat.zero_le _⟩ ?_
  exact W.iret (v := (zX3_bitsOfFetchedShare (Ω 0))) hx hb hr (fun t ht hW => ⟨⟨(zX3_bitsOfFetchedShare (Ω 0)), Ω, rfl, ⟨rfl, rfl⟩, by dsimp only; rw [ht]; exact hY⟩, hS.F ht⟩) hS.2.2 dX7_shareBits_7
set_option maxHeartbeats 4000000 in
set_option maxRecDepth 100000 in
theorem kX7_shareBits {p : Program} {l : Launch} {e : Env} {R : Room} {s : State} {m : MethodId} {args : Array Value} {below : List Frame} {meth : Method} {c : Code} {H : Heap} {locs : List Loc} {cells slots : Nat} {Q : State → Prop} {cc : ByteArray} {nL : Nat} {Ts : List Cond} {own : String} {index pc : Nat} {ls : Array Slot} {rest : List Value} {D : va_G} {y : Y3} {ob : Nat → Nat} {AD : Nat → Nat → Nat} {Ω : Og} {A0 : Nat → Prop} {H0 : Heap} (hF : CallFix p m c cc nL s args Ts own) (cw : CallW R s args own RX7 index yX7_shareBits cX7_shareBits 1 (some .int) wsX7_shareBits ({ frames := 3, cells := 0, slots := 0, locals := 68 } : Room) 0 0 0) (hC : CK D y s) (hY : SysH D y ob AD Ω H) (hJ : sysJ ob AD) (hOk : okO Ω) (h24 : okSh (Ω 0)) (hS : va_S A0 H0 H locs) (hA : ∀ q, (sysA ob AD) q → A0 q) (hsz : ls.size = nL) (hW : (rest.map fun v => v.category).sum ≤ 8) (hdg : decode cc pc = .ok (.invokevirtual index, 3)) (hf : cells ≤ R.cells ∧ slots ≤ R.slots)
    (k : ∀ (H1 : Heap) (locs1 : List Loc), SysH D y ob AD (zX7_shareBits Ω).2 H1 → H.size ≤ H1.size → (∀ q : Nat, q < H.size → ¬ (sysA ob AD) q → H1[q]? = H[q]?) → va_S A0 H0 H1 locs1 → W p l e R s m args below meth c H1 locs1 cells slots Q (F0 m (pc + 3) ls (.int ((zX7_shareBits Ω).1) :: rest))) : W p l e R s m args below meth c H locs cells slots Q (F0 m pc ls (.ref (ob 0) :: rest)) := by
  refine va_calli (va_runV (As := []) (rest := rest) hF (mX7_shareBits l D y ob AD Ω) cw ⟨fun a U g mk q => by obtain ⟨q0, q1, q2, q3, q4, q5⟩ := q; exact ⟨q0, q1.call g mk a, q2, q3, q4, q5⟩, va_recv hC.1 hY.1 (ci := 7) (q0 := 0) rfl rfl, fun U hU hW => ⟨rfl, hC.warm hW, by rw [hU]; exact hY, hJ, hOk, h24⟩⟩ rfl rfl hsz rfl (lv_room hW) hdg ⟨hf.1, hf.2⟩) hS (fun q _ h => hA q h) hA (fun r u t H1 locs1 ht hvm hp hB hz1 hk1 hS1 => ?_)
  obtain ⟨hp1, hp2⟩ := hp
  subst hp1; subst hp2
  rw [ht] at hB
  exact k H1 locs1 hB hz1 hk1 hS1
