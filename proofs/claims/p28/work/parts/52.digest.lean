theorem hdL_low : yL_low.cls ≠ "java/lang/invoke/MethodHandle" ∧ yL_low.cls ≠ "java/lang/invoke/VarHandle" ∧ (parseMethodDescriptor yL_low.desc).map (fun d => d.parameters.length) = some 2 := by decide +kernel
set_option maxHeartbeats 4000000 in
set_option maxRecDepth 100000 in
theorem mL_low (l : Launch) (D : va_G) (y : Y3) (x1 x2 : Int32) : Met l yL_low wsL_low ({ frames := 0, cells := 0, slots := 0, locals := 0 } : Room) (va_Pc [.int x1, .int x2] (fun U => CK D y U ∧ ¬ x2 = 0)) (vp_Si (fun r => r = zL_low x1 x2)) 0 0 (fun _ => False) := by
  refine Met.ofW (cc := cL_low) (maxL := 2) (ret := (some .int)) (by decide) rfl ?_
  intro p e s m args below meth c s₁ B hml hv
  obtain ⟨rfl, hC, hn⟩ := hv
  have hx := B.exec
  have hb := B.bytes
  have hr := B.returns
  have hts := atoms_spec (ws := wsL_low) B.pre
  have hown : s.vm.findClass RL = some m.cls := findClass_of_methodNamed B.named
  have hlocks := B.notSynchronized
  have hF := (⟨hx, hb, hml, hown, hts⟩ : CallFix p m c cL_low 2 s _ wsL_low RL)
  have hl := lv_entry ([.int x1, .int x2]) (n := 2) (Nat.le_of_ble_eq_true rfl)
  rw [lg_entry_eq]
  generalize (lg_sl ([.int x1, .int x2]) ++ List.replicate (2 - (lg_sl ([.int x1, .int x2])).length) Slot.unset).toArray = ls at hl ⊢
  have hl : lv_has ls 2 [(0, .int x1), (1, .int x2)] := hl
  refine lv_iload_n hx hb dL_low_0 rfl (lv_at hl 0 rfl) ?_
  refine lv_ldc (v := 2147483647) hx hb hown (hts (.constant RL 8 (2147483647)) (List.mem_of_getElem? (i := 1) rfl)) dL_low_1 ?_
  refine lv_iand hx hb dL_low_3 ?_
  refine lv_iload_n hx hb dL_low_4 rfl (lv_at hl 1 rfl) ?_
  refine lv_irem hx hb dL_low_5 hn ?_
  exact W.iret (v := ((x1 &&& 2147483647) - (x1 &&& 2147483647) / x2 * x2)) hx hb hr (fun t ht hW => ⟨((x1 &&& 2147483647) - (x1 &&& 2147483647) / x2 * x2), rfl, rfl, ht⟩) (fun q hq => absurd hq List.not_mem_nil) dL_low_6
set_option maxHeartbeats 4000000 in
set_option maxRecDepth 100000 in
theorem kL_low {p : Program} {l : Launch} {e : Env} {R : Room} {s : State} {m : MethodId} {args : Array Value} {below : List Frame} {meth : Method} {c : Code} {H : Heap} {locs : List Loc} {cells slots : Nat} {Q : State → Prop} {cc : ByteArray} {nL : Nat} {Ts : List Cond} {own : String} {index pc : Nat} {ls : Array Slot} {rest : List Value} {D : va_G} {y : Y3} {x1 x2 : Int32} (hF : CallFix p m c cc nL s args Ts own) (cw : CallB R s args own index yL_low cL_low 2 (some .int) wsL_low ({ frames := 0, cells := 0, slots := 0, locals := 0 } : Room) 0 0 2 ∧ (Cond.static yL_low).before args s = true) (hC : CK D y s) (hn : ¬ x2 = 0) (hsz : ls.size = nL) (hW : (rest.map fun v => v.category).sum ≤ 8) (hdg : decode cc pc = .ok (.invokestatic index, 3)) (hf : cells ≤ R.cells ∧ slots ≤ R.slots)
    (k : W p l e R s m args below meth c H locs cells slots Q (F0 m (pc + 3) ls (.int (zL_low x1 x2) :: rest))) : W p l e R s m args below meth c H locs cells slots Q (F0 m pc ls (.int x2 :: .int x1 :: rest)) := by
  refine vp_callSi (W.runS (As := [.int x1, .int x2]) (rest := rest) hF (mL_low l D y x1 x2) cw ⟨fun a U g mk q => by obtain ⟨q0, q1, q2⟩ := q; exact ⟨q0, q1.call g mk a, q2⟩, fun U hU hW => ⟨rfl, hC.warm hW, hn⟩⟩ rfl rfl hsz rfl (lv_room hW) hdg ⟨hf.1, hf.2⟩) (fun r hr => ?_)
  subst hr
  exact k
theorem hdL_digest : yL_digest.cls ≠ "java/lang/invoke/MethodHandle" ∧ yL_digest.cls ≠ "java/lang/invoke/VarHandle" ∧ (parseMethodDescriptor yL_digest.desc).map (fun d => d.parameters.length) = some 1 := by decide +kernel
set_option maxHeartbeats 4000000 in
set_option maxRecDepth 100000 in
theorem lpL_dg1 {p : Program} {l : Launch} {e : Env} {s : State} {m : MethodId} {args : Array Value} {below : List Frame} {meth : Method} {c : Code} {Q : State → Prop} {D : va_G} {y : Y3} {ob : Nat → Nat} {AD : Nat → Nat → Nat} {Ω : Og} {h0 : Int64} (hx : p.tables.exec = Jvm.exec) (hb : c.code = cL_digest) (hml : c.maxLocals = 4) (hown : s.vm.findClass RL = some m.cls) (hts : ∀ w ∈ wsL_digest, w.before args s = true) (hC : CK D y s) (hJ : sysJ ob AD) (hOk : okO Ω)
    (K : ∀ (H : Heap) (locs : List Loc) (ls : Array Slot), SysH D y ob AD Ω H → va_S (sysA ob AD) s.heap H locs → lv_has ls 4 [(3, .int (nI 17)), (1, .long (upTo (dg1 (Ω 0)) h0 17)), (0, .ref (ob 0))] → W p l e (headSpec wsL_digest ({ frames := 4, cells := 0, slots := 0, locals := 90 } : Room)).room s m args below meth c H locs 0 0 Q (F0 m 47 ls [])) :
    ∀ (j i : Nat), i + j = 17 → ∀ (H : Heap) (locs : List Loc), SysH D y ob AD Ω H → va_S (sysA ob AD) s.heap H locs → ∀ ls : Array Slot, lv_has ls 4 [(3, .int (nI i)), (1, .long (upTo (dg1 (Ω 0)) h0 i)), (0, .ref (ob 0))] → W p l e (headSpec wsL_digest ({ frames := 4, cells := 0, slots := 0, locals := 90 } : Room)).room s m args below meth c H locs 0 0 Q (F0 m 6 ls []) := by
  have hF := (⟨hx, hb, hml, hown, hts⟩ : CallFix p m c cL_digest 4 s args wsL_digest RL)
  intro j
  induction j with
  | zero =>
    intro i hin H locs hY hS ls hl
    obtain rfl : i = 17 := by omega
    refine lv_iload_n hx hb dL_digest_6 rfl (lv_at hl 0 rfl) ?_
    refine lv_bipush (v := 17) hx hb dL_digest_7 (by decide) ?_
    refine lv_icmp_ge (tgt := 47) hx hb dL_digest_9 (by decide) (fun _ => ?_) (fun c_1 => absurd (by decide) c_1)
    exact K H locs ls hY hS (lv_sub hl [0, 1, 2] rfl)
  | succ j ih =>
    intro i hin H locs hY hS ls hl
    obtain ⟨v, hv⟩ : ∃ v, v = (upTo (dg1 (Ω 0)) h0 i) := ⟨_, rfl⟩
    rw [← hv] at hl
    refine lv_iload_n hx hb dL_digest_6 rfl (lv_at hl 0 rfl) ?_
    refine lv_bipush (v := 17) hx hb dL_digest_7 (by decide) ?_
    refine lv_icmp_ge (tgt := 47) hx hb dL_digest_9 (by decide) (fun c_2 => absurd c_2 (nI_ge (a := i) (b := 17) (by omega) (by decide))) (fun _ => ?_)
    refine lv_ldc2 (v := 31) hx hb hown (hts (.constantLong RL 11 (31)) (List.mem_of_getElem? (i := 2) rfl)) dL_digest_12 ?_
    refine lv_lload_n hx hb dL_digest_15 rfl (lv_at hl 1 rfl) ?_
    refine lv_lmul hx hb dL_digest_16 ?_
    refine lv_iload_n hx hb dL_digest_17 rfl (lv_at hl 0 rfl) ?_
    refine lv_bipush (v := 11) hx hb dL_digest_18 (by decide) ?_
    refine lv_icmp_eq (tgt := 29) hx hb dL_digest_20 (by decide) (fun c_3 => ?_) (fun c_3 => ?_)
    · refine lv_iconst (v := 0) hx hb dL_digest_29 (by decide) ?_
      refine lv_goto (tgt := 38) hx hb dL_digest_30 (by decide) ?_
      refine lv_i2l hx hb dL_digest_38 rfl ?_
      refine lv_ladd hx hb dL_digest_39 ?_
      refine lv_lstore_n (lv' := [(1, .long ((31 * v) + ((0 : Int32).toInt64))), (3, .int (nI i)), (0, .ref (ob 0))]) hx hb dL_digest_40 rfl hl (by decide) rfl (fun ls hl => ?_)
      refine lv_iinc (v := (nI (i + 1))) (lv' := [(3, .int (nI (i + 1))), (1, .long ((31 * v) + ((0 : Int32).toInt64))), (0, .ref (ob 0))]) hx hb dL_digest_41 hl (k := 1) rfl (by rw [nI_succ]; rfl) (by decide) rfl (fun ls hl => ?_)
      refine lv_goto (tgt := 6) hx hb dL_digest_44 (by decide) ?_
      have e9 : (upTo (dg1 (Ω 0)) h0 (i + 1)) = ((31 * v) + ((0 : Int32).toInt64)) := by show dg1 (Ω 0) i (upTo (dg1 (Ω 0)) h0 i) = _; rw [← hv]; unfold dg1; rw [if_pos c_3]
      exact ih (i + 1) (by omega) H locs hY hS ls (by rw [e9]; exact lv_sub hl [0, 1, 2] rfl)
    · refine lv_iload_n hx hb dL_digest_23 rfl (lv_at hl 0 rfl) ?_
      refine lv_bipush (v := 12) hx hb dL_digest_24 (by decide) ?_
      refine lv_icmp_ne (tgt := 33) hx hb dL_digest_26 (by decide) (fun c_4 => ?_) (fun c_4 => ?_)
      · refine lv_aload_n hx hb dL_digest_33 rfl (lv_at hl 2 rfl) ?_
        refine lv_iload_n hx hb dL_digest_34 rfl (lv_at hl 0 rfl) ?_
        refine rX7_countT hF (cwV 1 hts gL_digest_X7_count rfl rfl rfl hdX7_count ⟨Nat.le_of_ble_eq_true rfl, Nat.le_of_ble_eq_true rfl⟩) hC hY hJ hOk ⟨c_3, c_4⟩ hS (fun _ h => h) hl.1 (Nat.le_of_ble_eq_true rfl) dL_digest_35 ⟨Nat.zero_le _, Nat.zero_le _⟩ (fun H locs hY _ _ hS => ?_)
        refine lv_i2l hx hb dL_digest_38 rfl ?_
        refine lv_ladd hx hb dL_digest_39 ?_
        refine lv_lstore_n (lv' := [(1, .long ((31 * v) + ((zX3_total (Ω 0) (nI i)).toInt64))), (3, .int (nI i)), (0, .ref (ob 0))]) hx hb dL_digest_40 rfl hl (by decide) rfl (fun ls hl => ?_)
        refine lv_iinc (v := (nI (i + 1))) (lv' := [(3, .int (nI (i + 1))), (1, .long ((31 * v) + ((zX3_total (Ω 0) (nI i)).toInt64))), (0, .ref (ob 0))]) hx hb dL_digest_41 hl (k := 1) rfl (by rw [nI_succ]; rfl) (by decide) rfl (fun ls hl => ?_)
        refine lv_goto (tgt := 6) hx hb dL_digest_44 (by decide) ?_
        have e9 : (upTo (dg1 (Ω 0)) h0 (i + 1)) = ((31 * v) + ((zX3_total (Ω 0) (nI i)).toInt64)) := by show dg1 (Ω 0) i (upTo (dg1 (Ω 0)) h0 i) = _; rw [← hv]; unfold dg1; rw [if_neg c_3, if_neg c_4]
        exact ih (i + 1) (by omega) H locs hY hS ls (by rw [e9]; exact lv_sub hl [0, 1, 2] rfl)
      · refine lv_iconst (v := 0) hx hb dL_digest_29 (by decide) ?_
        refine lv_goto (tgt := 38) hx hb dL_digest_30 (by decide) ?_
        refine lv_i2l hx hb dL_digest_38 rfl ?_
        refine lv_ladd hx hb dL_digest_39 ?_
        refine lv_lstore_n (lv' := [(1, .long ((31 * v) + ((0 : Int32).toInt64))), (3, .int (nI i)), (0, .ref (ob 0))]) hx hb dL_digest_40 rfl hl (by decide) rfl (fun ls hl => ?_)
        refine lv_iinc (v := (nI (i + 1))) (lv' := [(3, .int (nI (i + 1))), (1, .long ((31 * v) + ((0 : Int32).toInt64))), (0, .ref (ob 0))]) hx hb dL_digest_41 hl (k := 1) rfl (by rw [nI_succ]; rfl) (by decide) rfl (fun ls hl => ?_)
        refine lv_goto (tgt := 6) hx hb dL_digest_44 (by decide) ?_
        have e9 : (upTo (dg1 (Ω 0)) h0 (i + 1)) = ((31 * v) + ((0 : Int32).toInt64)) := by show dg1 (Ω 0) i (upTo (dg1 (Ω 0)) h0 i) = _; rw [← hv]; unfold dg1; rw [if_neg c_3, if_pos c_4]
        exact ih (i + 1) (by omega) H locs hY hS ls (by rw [e9]; exact lv_sub hl [0, 1, 2] rfl)
set_option maxHeartbeats 4000000 in
set_option maxRecDepth 100000 in
theorem lpL_dg2 {p : Program} {l : Launch} {e : Env} {s : State} {m : MethodId} {args : Array Value} {below : List Frame} {meth : Method} {c : Code} {Q : State → Prop} {D : va_G} {y : Y3} {ob : Nat → Nat} {AD : Nat → Nat → Nat} {Ω : Og} {h0 : Int64} (hx : p.tables.exec = Jvm.exec) (hb : c.code = cL_digest) (hml : c.maxLocals = 4) (hown : s.vm.findClass RL = some m.cls) (hts : ∀ w ∈ wsL_digest, w.before args s = true) (hC : CK D y s) (hJ : sysJ ob AD) (hOk : okO Ω)
    (K : ∀ (H : Heap) (locs : List Loc) (ls : Array Slot), SysH D y ob AD Ω H → va_S (sysA ob AD) s.heap H locs → lv_has ls 4 [(3, .int (nI (((zX3_total (Ω 0) 0) * 9).toNatClampNeg))), (1, .long (upTo (dg2 (Ω 0)) h0 (((zX3_total (Ω 0) 0) * 9).toNatClampNeg))), (0, .ref (ob 0))] → W p l e (headSpec wsL_digest ({ frames := 4, cells := 0, slots := 0, locals := 90 } : Room)).room s m args below meth c H locs 0 0 Q (F0 m 87 ls [])) :
    ∀ (j i : Nat), i + j = ((zX3_total (Ω 0) 0) * 9).toNatClampNeg → ∀ (H : Heap) (locs : List Loc), SysH D y ob AD Ω H → va_S (sysA ob AD) s.heap H locs → ∀ ls : Array Slot, lv_has ls 4 [(3, .int (nI i)), (1, .long (upTo (dg2 (Ω 0)) h0 i)), (0, .ref (ob 0))] → W p l e (headSpec wsL_digest ({ frames := 4, cells := 0, slots := 0, locals := 90 } : Room)).room s m args below meth c H locs 0 0 Q (F0 m 49 ls []) := by
  have hF := (⟨hx, hb, hml, hown, hts⟩ : CallFix p m c cL_digest 4 s args wsL_digest RL)
  have hN := clamp_lt ((zX3_total (Ω 0) 0) * 9)
  intro j
  induction j with
  | zero =>
    intro i hin H locs hY hS ls hl
    obtain rfl : i = ((zX3_total (Ω 0) 0) * 9).toNatClampNeg := by omega
    refine lv_iload_n hx hb dL_digest_49 rfl (lv_at hl 0 rfl) ?_
    refine lv_aload_n hx hb dL_digest_50 rfl (lv_at hl 2 rfl) ?_
    refine lv_iconst (v := 0) hx hb dL_digest_51 (by decide) ?_
    refine rX7_countT hF (cwV 1 hts gL_digest_X7_count rfl rfl rfl hdX7_count ⟨Nat.le_of_ble_eq_true rfl, Nat.le_of_ble_eq_true rfl⟩) hC hY hJ hOk ⟨by decide, by decide⟩ hS (fun _ h => h) hl.1 (Nat.le_of_ble_eq_true rfl) dL_digest_52 ⟨Nat.zero_le _, Nat.zero_le _⟩ (fun H locs hY _ _ hS => ?_)
    refine lv_bipush (v := 9) hx hb dL_digest_55 (by decide) ?_
    refine lv_imul hx hb dL_digest_57 ?_
    refine lv_icmp_ge (tgt := 87) hx hb dL_digest_58 (by decide) (fun _ => ?_) (fun c_5 => absurd (up_le _) c_5)
    exact K H locs ls hY hS (lv_sub hl [0, 1, 2] rfl)
  | succ j ih =>
    intro i hin H locs hY hS ls hl
    obtain ⟨v, hv⟩ : ∃ v, v = (upTo (dg2 (Ω 0)) h0 i) := ⟨_, rfl⟩
    rw [← hv] at hl
    refine lv_iload_n hx hb dL_digest_49 rfl (lv_at hl 0 rfl) ?_
    refine lv_aload_n hx hb dL_digest_50 rfl (lv_at hl 2 rfl) ?_
    refine lv_iconst (v := 0) hx hb dL_digest_51 (by decide) ?_
    refine rX7_countT hF (cwV 1 hts gL_digest_X7_count rfl rfl rfl hdX7_count ⟨Nat.le_of_ble_eq_true rfl, Nat.le_of_ble_eq_true rfl⟩) hC hY hJ hOk ⟨by decide, by decide⟩ hS (fun _ h => h) hl.1 (Nat.le_of_ble_eq_true rfl) dL_digest_52 ⟨Nat.zero_le _, Nat.zero_le _⟩ (fun H locs hY _ _ hS => ?_)
    refine lv_bipush (v := 9) hx hb dL_digest_55 (by decide) ?_
    refine lv_imul hx hb dL_digest_57 ?_
    refine lv_icmp_ge (tgt := 87) hx hb dL_digest_58 (by decide) (fun c_6 => absurd c_6 (up_gt (by omega))) (fun _ => ?_)
    refine lv_ldc2 (v := 31) hx hb hown (hts (.constantLong RL 11 (31)) (List.mem_of_getElem? (i := 2) rfl)) dL_digest_61 ?_
    refine lv_lload_n hx hb dL_digest_64 rfl (lv_at hl 1 rfl) ?_
    refine lv_lmul hx hb dL_digest_65 ?_
    refine lv_aload_n hx hb dL_digest_66 rfl (lv_at hl 2 rfl) ?_
    refine lv_iload_n hx hb dL_digest_67 rfl (lv_at hl 0 rfl) ?_
    refine lv_bipush (v := 9) hx hb dL_digest_68 (by decide) ?_
    refine lv_idiv hx hb dL_digest_70 (by decide) ?_
    refine lv_iload_n hx hb dL_digest_71 rfl (lv_at hl 0 rfl) ?_
    refine lv_bipush (v := 9) hx hb dL_digest_72 (by decide) ?_
    refine lv_irem hx hb dL_digest_74 (by decide) ?_
    refine rX7_lockerOf hF (cwV 2 hts gL_digest_X7_lockerOf rfl rfl rfl hdX7_lockerOf ⟨Nat.le_of_ble_eq_true rfl, Nat.le_of_ble_eq_true rfl⟩) hC hY hJ hOk hS (fun _ h => h) hl.1 (Nat.le_of_ble_eq_true rfl) dL_digest_75 ⟨Nat.zero_le _, Nat.zero_le _⟩ (fun H locs hY _ _ hS => ?_)
    refine lv_i2l hx hb dL_digest_78 rfl ?_
    refine lv_ladd hx hb dL_digest_79 ?_
    refine lv_lstore_n (lv' := [(1, .long ((31 * v) + ((zX3_ofLocker (Ω 0) ((nI i) / 9) ((nI i) - (nI i) / 9 * 9)).toInt64))), (3, .int (nI i)), (0, .ref (ob 0))]) hx hb dL_digest_80 rfl hl (by decide) rfl (fun ls hl => ?_)
    refine lv_iinc (v := (nI (i + 1))) (lv' := [(3, .int (nI (i + 1))), (1, .long ((31 * v) + ((zX3_ofLocker (Ω 0) ((nI i) / 9) ((nI i) - (nI i) / 9 * 9)).toInt64))), (0, .ref (ob 0))]) hx hb dL_digest_81 hl (k := 1) rfl (by rw [nI_succ]; rfl) (by decide) rfl (fun ls hl => ?_)
    refine lv_goto (tgt := 49) hx hb dL_digest_84 (by decide) ?_
    have e9 : (upTo (dg2 (Ω 0)) h0 (i + 1)) = ((31 * v) + ((zX3_ofLocker (Ω 0) ((nI i) / 9) ((nI i) - (nI i) / 9 * 9)).toInt64)) := by show dg2 (Ω 0) i (upTo (dg2 (Ω 0)) h0 i) = _; rw [← hv]; unfold dg2; rfl
    exact ih (i + 1) (by omega) H locs hY hS ls (by rw [e9]; exact lv_sub hl [0, 1, 2] rfl)
set_option maxHeartbeats 4000000 in
set_option maxRecDepth 100000 in
theorem lpL_dg3 {p : Program} {l : Launch} {e : Env} {s : State} {m : MethodId} {args : Array Value} {below : List Frame} {meth : Method} {c : Code} {Q : State → Prop} {D : va_G} {y : Y3} {ob : Nat → Nat} {AD : Nat → Nat → Nat} {Ω : Og} {h0 : Int64} (hx : p.tables.exec = Jvm.exec) (hb : c.code = cL_digest) (hml : c.maxLocals = 4) (hown : s.vm.findClass RL = some m.cls) (hts : ∀ w ∈ wsL_digest, w.before args s = true) (hC : CK D y s) (hJ : sysJ ob AD) (hOk : okO Ω)
    (K : ∀ (H : Heap) (locs : List Loc) (ls : Array Slot), SysH D y ob AD Ω H → va_S (sysA ob AD) s.heap H locs → lv_has ls 4 [(3, .int (nI (((zX3_total (Ω 0) 1) * 7).toNatClampNeg))), (1, .long (upTo (dg3 (Ω 0)) h0 (((zX3_total (Ω 0) 1) * 7).toNatClampNeg))), (0, .ref (ob 0))] → W p l e (headSpec wsL_digest ({ frames := 4, cells := 0, slots := 0, locals := 90 } : Room)).room s m args below meth c H locs 0 0 Q (F0 m 127 ls [])) :
    ∀ (j i : Nat), i + j = ((zX3_total (Ω 0) 1) * 7).toNatClampNeg → ∀ (H : Heap) (locs : List Loc), SysH D y ob AD Ω H → va_S (sysA ob AD) s.heap H locs → ∀ ls : Array Slot, lv_has ls 4 [(3, .int (nI i)), (1, .long (upTo (dg3 (Ω 0)) h0 i)), (0, .ref (ob 0))] → W p l e (headSpec wsL_digest ({ frames := 4, cells := 0, slots := 0, locals := 90 } : Room)).room s m args below meth c H locs 0 0 Q (F0 m 89 ls []) := by
  have hF := (⟨hx, hb, hml, hown, hts⟩ : CallFix p m c cL_digest 4 s args wsL_digest RL)
  have hN := clamp_lt ((zX3_total (Ω 0) 1) * 7)
  intro j
  induction j with
  | zero =>
    intro i hin H locs hY hS ls hl
    obtain rfl : i = ((zX3_total (Ω 0) 1) * 7).toNatClampNeg := by omega
    refine lv_iload_n hx hb dL_digest_89 rfl (lv_at hl 0 rfl) ?_
    refine lv_aload_n hx hb dL_digest_90 rfl (lv_at hl 2 rfl) ?_
    refine lv_iconst (v := 1) hx hb dL_digest_91 (by decide) ?_
    refine rX7_countT hF (cwV 1 hts gL_digest_X7_count rfl rfl rfl hdX7_count ⟨Nat.le_of_ble_eq_true rfl, Nat.le_of_ble_eq_true rfl⟩) hC hY hJ hOk ⟨by decide, by decide⟩ hS (fun _ h => h) hl.1 (Nat.le_of_ble_eq_true rfl) dL_digest_92 ⟨Nat.zero_le _, Nat.zero_le _⟩ (fun H locs hY _ _ hS => ?_)
    refine lv_bipush (v := 7) hx hb dL_digest_95 (by decide) ?_
    refine lv_imul hx hb dL_digest_97 ?_
    refine lv_icmp_ge (tgt := 127) hx hb dL_digest_98 (by decide) (fun _ => ?_) (fun c_7 => absurd (up_le _) c_7)
    exact K H locs ls hY hS (lv_sub hl [0, 1, 2] rfl)
  | succ j ih =>
    intro i hin H locs hY hS ls hl
    obtain ⟨v, hv⟩ : ∃ v, v = (upTo (dg3 (Ω 0)) h0 i) := ⟨_, rfl⟩
    rw [← hv] at hl
    refine lv_iload_n hx hb dL_digest_89 rfl (lv_at hl 0 rfl) ?_
    refine lv_aload_n hx hb dL_digest_90 rfl (lv_at hl 2 rfl) ?_
    refine lv_iconst (v := 1) hx hb dL_digest_91 (by decide) ?_
    refine rX7_countT hF (cwV 1 hts gL_digest_X7_count rfl rfl rfl hdX7_count ⟨Nat.le_of_ble_eq_true rfl, Nat.le_of_ble_eq_true rfl⟩) hC hY hJ hOk ⟨by decide, by decide⟩ hS (fun _ h => h) hl.1 (Nat.le_of_ble_eq_true rfl) dL_digest_92 ⟨Nat.zero_le _, Nat.zero_le _⟩ (fun H locs hY _ _ hS => ?_)
    refine lv_bipush (v := 7) hx hb dL_digest_95 (by decide) ?_
    refine lv_imul hx hb dL_digest_97 ?_
    refine lv_icmp_ge (tgt := 127) hx hb dL_digest_98 (by decide) (fun c_8 => absurd c_8 (up_gt (by omega))) (fun _ => ?_)
    refine lv_ldc2 (v := 31) hx hb hown (hts (.constantLong RL 11 (31)) (List.mem_of_getElem? (i := 2) rfl)) dL_digest_101 ?_
    refine lv_lload_n hx hb dL_digest_104 rfl (lv_at hl 1 rfl) ?_
    refine lv_lmul hx hb dL_digest_105 ?_
    refine lv_aload_n hx hb dL_digest_106 rfl (lv_at hl 2 rfl) ?_
    refine lv_iload_n hx hb dL_digest_107 rfl (lv_at hl 0 rfl) ?_
    refine lv_bipush (v := 7) hx hb dL_digest_108 (by decide) ?_
    refine lv_idiv hx hb dL_digest_110 (by decide) ?_
    refine lv_iload_n hx hb dL_digest_111 rfl (lv_at hl 0 rfl) ?_
    refine lv_bipush (v := 7) hx hb dL_digest_112 (by decide) ?_
    refine lv_irem hx hb dL_digest_114 (by decide) ?_
    refine rX7_mealOf hF (cwV 2 hts gL_digest_X7_mealOf rfl rfl rfl hdX7_mealOf ⟨Nat.le_of_ble_eq_true rfl, Nat.le_of_ble_eq_true rfl⟩) hC hY hJ hOk hS (fun _ h => h) hl.1 (Nat.le_of_ble_eq_true rfl) dL_digest_115 ⟨Nat.zero_le _, Nat.zero_le _⟩ (fun H locs hY _ _ hS => ?_)
    refine lv_i2l hx hb dL_digest_118 rfl ?_
    refine lv_ladd hx hb dL_digest_119 ?_
    refine lv_lstore_n (lv' := [(1, .long ((31 * v) + ((zX3_ofMeal (Ω 0) ((nI i) / 7) ((nI i) - (nI i) / 7 * 7)).toInt64))), (3, .int (nI i)), (0, .ref (ob 0))]) hx hb dL_digest_120 rfl hl (by decide) rfl (fun ls hl => ?_)
    refine lv_iinc (v := (nI (i + 1))) (lv' := [(3, .int (nI (i + 1))), (1, .long ((31 * v) + ((zX3_ofMeal (Ω 0) ((nI i) / 7) ((nI i) - (nI i) / 7 * 7)).toInt64))), (0, .ref (ob 0))]) hx hb dL_digest_121 hl (k := 1) rfl (by rw [nI_succ]; rfl) (by decide) rfl (fun ls hl => ?_)
    refine lv_goto (tgt := 89) hx hb dL_digest_124 (by decide) ?_
    have e9 : (upTo (dg3 (Ω 0)) h0 (i + 1)) = ((31 * v) + ((zX3_ofMeal (Ω 0) ((nI i) / 7) ((nI i) - (nI i) / 7 * 7)).toInt64)) := by show dg3 (Ω 0) i (upTo (dg3 (Ω 0)) h0 i) = _; rw [← hv]; unfold dg3; rfl
    exact ih (i + 1) (by omega) H locs hY hS ls (by rw [e9]; exact lv_sub hl [0, 1, 2] rfl)
set_option maxHeartbeats 4000000 in
set_option maxRecDepth 100000 in
theorem lpL_dg4 {p : Program} {l : Launch} {e : Env} {s : State} {m : MethodId} {args : Array Value} {below : List Frame} {meth : Method} {c : Code} {Q : State → Prop} {D : va_G} {y : Y3} {ob : Nat → Nat} {AD : Nat → Nat → Nat} {Ω : Og} {h0 : Int64} (hx : p.tables.exec = Jvm.exec) (hb : c.code = cL_digest) (hml : c.maxLocals = 4) (hown : s.vm.findClass RL = some m.cls) (hts : ∀ w ∈ wsL_digest, w.before args s = true) (hC : CK D y s) (hJ : sysJ ob AD) (hOk : okO Ω)
    (K : ∀ (H : Heap) (locs : List Loc) (ls : Array Slot), SysH D y ob AD Ω H → va_S (sysA ob AD) s.heap H locs → lv_has ls 4 [(3, .int (nI (((zX3_total (Ω 0) 2) * 6).toNatClampNeg))), (1, .long (upTo (dg4 (Ω 0)) h0 (((zX3_total (Ω 0) 2) * 6).toNatClampNeg))), (0, .ref (ob 0))] → W p l e (headSpec wsL_digest ({ frames := 4, cells := 0, slots := 0, locals := 90 } : Room)).room s m args below meth c H locs 0 0 Q (F0 m 167 ls [])) :
    ∀ (j i : Nat), i + j = ((zX3_total (Ω 0) 2) * 6).toNatClampNeg → ∀ (H : Heap) (locs : List Loc), SysH D y ob AD Ω H → va_S (sysA ob AD) s.heap H locs → ∀ ls : Array Slot, lv_has ls 4 [(3, .int (nI i)), (1, .long (upTo (dg4 (Ω 0)) h0 i)), (0, .ref (ob 0))] → W p l e (headSpec wsL_digest ({ frames := 4, cells := 0, slots := 0, locals := 90 } : Room)).room s m args below meth c H locs 0 0 Q (F0 m 129 ls []) := by
  have hF := (⟨hx, hb, hml, hown, hts⟩ : CallFix p m c cL_digest 4 s args wsL_digest RL)
  have hN := clamp_lt ((zX3_total (Ω 0) 2) * 6)
  intro j
  induction j with
  | zero =>
    intro i hin H locs hY hS ls hl
    obtain rfl : i = ((zX3_total (Ω 0) 2) * 6).toNatClampNeg := by omega
    refine lv_iload_n hx hb dL_digest_129 rfl (lv_at hl 0 rfl) ?_
    refine lv_aload_n hx hb dL_digest_130 rfl (lv_at hl 2 rfl) ?_
    refine lv_iconst (v := 2) hx hb dL_digest_131 (by decide) ?_
    refine rX7_countT hF (cwV 1 hts gL_digest_X7_count rfl rfl rfl hdX7_count ⟨Nat.le_of_ble_eq_true rfl, Nat.le_of_ble_eq_true rfl⟩) hC hY hJ hOk ⟨by decide, by decide⟩ hS (fun _ h => h) hl.1 (Nat.le_of_ble_eq_true rfl) dL_digest_132 ⟨Nat.zero_le _, Nat.zero_le _⟩ (fun H locs hY _ _ hS => ?_)
    refine lv_bipush (v := 6) hx hb dL_digest_135 (by decide) ?_
    refine lv_imul hx hb dL_digest_137 ?_
    refine lv_icmp_ge (tgt := 167) hx hb dL_digest_138 (by decide) (fun _ => ?_) (fun c_9 => absurd (up_le _) c_9)
    exact K H locs ls hY hS (lv_sub hl [0, 1, 2] rfl)
  | succ j ih =>
    intro i hin H locs hY hS ls hl
    obtain ⟨v, hv⟩ : ∃ v, v = (upTo (dg4 (Ω 0)) h0 i) := ⟨_, rfl⟩
    rw [← hv] at hl
    refine lv_iload_n hx hb dL_digest_129 rfl (lv_at hl 0 rfl) ?_
    refine lv_aload_n hx hb dL_digest_130 rfl (lv_at hl 2 rfl) ?_
    refine lv_iconst (v := 2) hx hb dL_digest_131 (by decide) ?_
    refine rX7_countT hF (cwV 1 hts gL_digest_X7_count rfl rfl rfl hdX7_count ⟨Nat.le_of_ble_eq_true rfl, Nat.le_of_ble_eq_true rfl⟩) hC hY hJ hOk ⟨by decide, by decide⟩ hS (fun _ h => h) hl.1 (Nat.le_of_ble_eq_true rfl) dL_digest_132 ⟨Nat.zero_le _, Nat.zero_le _⟩ (fun H locs hY _ _ hS => ?_)
    refine lv_bipush (v := 6) hx hb dL_digest_135 (by decide) ?_
    refine lv_imul hx hb dL_digest_137 ?_
    refine lv_icmp_ge (tgt := 167) hx hb dL_digest_138 (by decide) (fun c_10 => absurd c_10 (up_gt (by omega))) (fun _ => ?_)
    refine lv_ldc2 (v := 31) hx hb hown (hts (.constantLong RL 11 (31)) (List.mem_of_getElem? (i := 2) rfl)) dL_digest_141 ?_
    refine lv_lload_n hx hb dL_digest_144 rfl (lv_at hl 1 rfl) ?_
    refine lv_lmul hx hb dL_digest_145 ?_
    refine lv_aload_n hx hb dL_digest_146 rfl (lv_at hl 2 rfl) ?_
    refine lv_iload_n hx hb dL_digest_147 rfl (lv_at hl 0 rfl) ?_
    refine lv_bipush (v := 6) hx hb dL_digest_148 (by decide) ?_
    refine lv_idiv hx hb dL_digest_150 (by decide) ?_
    refine lv_iload_n hx hb dL_digest_151 rfl (lv_at hl 0 rfl) ?_
    refine lv_bipush (v := 6) hx hb dL_digest_152 (by decide) ?_
    refine lv_irem hx hb dL_digest_154 (by decide) ?_
    refine rX7_personOf hF (cwV 2 hts gL_digest_X7_personOf rfl rfl rfl hdX7_personOf ⟨Nat.le_of_ble_eq_true rfl, Nat.le_of_ble_eq_true rfl⟩) hC hY hJ hOk hS (fun _ h => h) hl.1 (Nat.le_of_ble_eq_true rfl) dL_digest_155 ⟨Nat.zero_le _, Nat.zero_le _⟩ (fun H locs hY _ _ hS => ?_)
    refine lv_i2l hx hb dL_digest_158 rfl ?_
    refine lv_ladd hx hb dL_digest_159 ?_
    refine lv_lstore_n (lv' := [(1, .long ((31 * v) + ((zX3_ofPerson (Ω 0) ((nI i) / 6) ((nI i) - (nI i) / 6 * 6)).toInt64))), (3, .int (nI i)), (0, .ref (ob 0))]) hx hb dL_digest_160 rfl hl (by decide) rfl (fun ls hl => ?_)
    refine lv_iinc (v := (nI (i + 1))) (lv' := [(3, .int (nI (i + 1))), (1, .long ((31 * v) + ((zX3_ofPerson (Ω 0) ((nI i) / 6) ((nI i) - (nI i) / 6 * 6)).toInt64))), (0, .ref (ob 0))]) hx hb dL_digest_161 hl (k := 1) rfl (by rw [nI_succ]; rfl) (by decide) rfl (fun ls hl => ?_)
    refine lv_goto (tgt := 129) hx hb dL_digest_164 (by decide) ?_
    have e9 : (upTo (dg4 (Ω 0)) h0 (i + 1)) = ((31 * v) + ((zX3_ofPerson (Ω 0) ((nI i) / 6) ((nI i) - (nI i) / 6 * 6)).toInt64)) := by show dg4 (Ω 0) i (upTo (dg4 (Ω 0)) h0 i) = _; rw [← hv]; unfold dg4; rfl
    exact ih (i + 1) (by omega) H locs hY hS ls (by rw [e9]; exact lv_sub hl [0, 1, 2] rfl)
set_option maxHeartbeats 4000000 in
set_option maxRecDepth 100000 in
theorem lpL_dg5 {p : Program} {l : Launch} {e : Env} {s : State} {m : MethodId} {args : Array Value} {below : List Frame} {meth : Method} {c : Code} {Q : State → Prop} {D : va_G} {y : Y3} {ob : Nat → Nat} {AD : Nat → Nat → Nat} {Ω : Og} {h0 : Int64} (hx : p.tables.exec = Jvm.exec) (hb : c.code = cL_digest) (hml : c.maxLocals = 4) (hown : s.vm.findClass RL = some m.cls) (hts : ∀ w ∈ wsL_digest, w.before args s = true) (hC : CK D y s) (hJ : sysJ ob AD) (hOk : okO Ω)
    (K : ∀ (H : Heap) (locs : List Loc) (ls : Array Slot), SysH D y ob AD Ω H → va_S (sysA ob AD) s.heap H locs → lv_has ls 4 [(3, .int (nI (((zX3_total (Ω 0) 3) * 5).toNatClampNeg))), (1, .long (upTo (dg5 (Ω 0)) h0 (((zX3_total (Ω 0) 3) * 5).toNatClampNeg))), (0, .ref (ob 0))] → W p l e (headSpec wsL_digest ({ frames := 4, cells := 0, slots := 0, locals := 90 } : Room)).room s m args below meth c H locs 0 0 Q (F0 m 204 ls [])) :
    ∀ (j i : Nat), i + j = ((zX3_total (Ω 0) 3) * 5).toNatClampNeg → ∀ (H : Heap) (locs : List Loc), SysH D y ob AD Ω H → va_S (sysA ob AD) s.heap H locs → ∀ ls : Array Slot, lv_has ls 4 [(3, .int (nI i)), (1, .long (upTo (dg5 (Ω 0)) h0 i)), (0, .ref (ob 0))] → W p l e (headSpec wsL_digest ({ frames := 4, cells := 0, slots := 0, locals := 90 } : Room)).room s m args below meth c H locs 0 0 Q (F0 m 169 ls []) := by
  have hF := (⟨hx, hb, hml, hown, hts⟩ : CallFix p m c cL_digest 4 s args wsL_digest RL)
  have hN := clamp_lt ((zX3_total (Ω 0) 3) * 5)
  intro j
  induction j with
  | zero =>
    intro i hin H locs hY hS ls hl
    obtain rfl : i = ((zX3_total (Ω 0) 3) * 5).toNatClampNeg := by omega
    refine lv_iload_n hx hb dL_digest_169 rfl (lv_at hl 0 rfl) ?_
    refine lv_aload_n hx hb dL_digest_170 rfl (lv_at hl 2 rfl) ?_
    refine lv_iconst (v := 3) hx hb dL_digest_171 (by decide) ?_
    refine rX7_countT hF (cwV 1 hts gL_digest_X7_count rfl rfl rfl hdX7_count ⟨Nat.le_of_ble_eq_true rfl, Nat.le_of_ble_eq_true rfl⟩) hC hY hJ hOk ⟨by decide, by decide⟩ hS (fun _ h => h) hl.1 (Nat.le_of_ble_eq_true rfl) dL_digest_172 ⟨Nat.zero_le _, Nat.zero_le _⟩ (fun H locs hY _ _ hS => ?_)
    refine lv_iconst (v := 5) hx hb dL_digest_175 (by decide) ?_
    refine lv_imul hx hb dL_digest_176 ?_
    refine lv_icmp_ge (tgt := 204) hx hb dL_digest_177 (by decide) (fun _ => ?_) (fun c_11 => absurd (up_le _) c_11)
    exact K H locs ls hY hS (lv_sub hl [0, 1, 2] rfl)
  | succ j ih =>
    intro i hin H locs hY hS ls hl
    obtain ⟨v, hv⟩ : ∃ v, v = (upTo (dg5 (Ω 0)) h0 i) := ⟨_, rfl⟩
    rw [← hv] at hl
    refine lv_iload_n hx hb dL_digest_169 rfl (lv_at hl 0 rfl) ?_
    refine lv_aload_n hx hb dL_digest_170 rfl (lv_at hl 2 rfl) ?_
    refine lv_iconst (v := 3) hx hb dL_digest_171 (by decide) ?_
    refine rX7_countT hF (cwV 1 hts gL_digest_X7_count rfl rfl rfl hdX7_count ⟨Nat.le_of_ble_eq_true rfl, Nat.le_of_ble_eq_true rfl⟩) hC hY hJ hOk ⟨by decide, by decide⟩ hS (fun _ h => h) hl.1 (Nat.le_of_ble_eq_true rfl) dL_digest_172 ⟨Nat.zero_le _, Nat.zero_le _⟩ (fun H locs hY _ _ hS => ?_)
    refine lv_iconst (v := 5) hx hb dL_digest_175 (by decide) ?_
    refine lv_imul hx hb dL_digest_176 ?_
    refine lv_icmp_ge (tgt := 204) hx hb dL_digest_177 (by decide) (fun c_12 => absurd c_12 (up_gt (by omega))) (fun _ => ?_)
    refine lv_ldc2 (v := 31) hx hb hown (hts (.constantLong RL 11 (31)) (List.mem_of_getElem? (i := 2) rfl)) dL_digest_180 ?_
    refine lv_lload_n hx hb dL_digest_183 rfl (lv_at hl 1 rfl) ?_
    refine lv_lmul hx hb dL_digest_184 ?_
    refine lv_aload_n hx hb dL_digest_185 rfl (lv_at hl 2 rfl) ?_
    refine lv_iload_n hx hb dL_digest_186 rfl (lv_at hl 0 rfl) ?_
    refine lv_iconst (v := 5) hx hb dL_digest_187 (by decide) ?_
    refine lv_idiv hx hb dL_digest_188 (by decide) ?_
    refine lv_iload_n hx hb dL_digest_189 rfl (lv_at hl 0 rfl) ?_
    refine lv_iconst (v := 5) hx hb dL_digest_190 (by decide) ?_
    refine lv_irem hx hb dL_digest_191 (by decide) ?_
    refine rX7_volunteerOf hF (cwV 2 hts gL_digest_X7_volunteerOf rfl rfl rfl hdX7_volunteerOf ⟨Nat.le_of_ble_eq_true rfl, Nat.le_of_ble_eq_true rfl⟩) hC hY hJ hOk hS (fun _ h => h) hl.1 (Nat.le_of_ble_eq_true rfl) dL_digest_192 ⟨Nat.zero_le _, Nat.zero_le _⟩ (fun H locs hY _ _ hS => ?_)
    refine lv_i2l hx hb dL_digest_195 rfl ?_
    refine lv_ladd hx hb dL_digest_196 ?_
    refine lv_lstore_n (lv' := [(1, .long ((31 * v) + ((zX3_ofVolunteer (Ω 0) ((nI i) / 5) ((nI i) - (nI i) / 5 * 5)).toInt64))), (3, .int (nI i)), (0, .ref (ob 0))]) hx hb dL_digest_197 rfl hl (by decide) rfl (fun ls hl => ?_)
    refine lv_iinc (v := (nI (i + 1))) (lv' := [(3, .int (nI (i + 1))), (1, .long ((31 * v) + ((zX3_ofVolunteer (Ω 0) ((nI i) / 5) ((nI i) - (nI i) / 5 * 5)).toInt64))), (0, .ref (ob 0))]) hx hb dL_digest_198 hl (k := 1) rfl (by rw [nI_succ]; rfl) (by decide) rfl (fun ls hl => ?_)
    refine lv_goto (tgt := 169) hx hb dL_digest_201 (by decide) ?_
    have e9 : (upTo (dg5 (Ω 0)) h0 (i + 1)) = ((31 * v) + ((zX3_ofVolunteer (Ω 0) ((nI i) / 5) ((nI i) - (nI i) / 5 * 5)).toInt64)) := by show dg5 (Ω 0) i (upTo (dg5 (Ω 0)) h0 i) = _; rw [← hv]; unfold dg5; rfl
    exact ih (i + 1) (by omega) H locs hY hS ls (by rw [e9]; exact lv_sub hl [0, 1, 2] rfl)
set_option maxHeartbeats 4000000 in
set_option maxRecDepth 100000 in
theorem mL_digest (l : Launch) (D : va_G) (y : Y3) (ob : Nat → Nat) (AD : Nat → Nat → Nat) (Ω : Og) : Met l yL_digest wsL_digest ({ frames := 4, cells := 0, slots := 0, locals := 90 } : Room) (va_Pc [.ref (ob 0)] (fun U => CK D y U ∧ SysH D y ob AD Ω U.heap ∧ sysJ ob AD ∧ okO Ω)) (va_Ql (fun (r : Int64) (u : Og) => r = zdg (Ω 0) ∧ u = Ω) (fun u t => SysH D y ob AD u t.heap) (sysA ob AD)) 0 0 (sysA ob AD) := by
  refine Met.ofW (cc := cL_digest) (maxL := 4) (ret := (some .long)) (by decide) rfl ?_
  intro p e s m args below meth c s₁ B hml hv
  obtain ⟨rfl, hC, hY, hJ, hOk⟩ := hv
  have hx := B.exec
  have hb := B.bytes
  have hr := B.returns
  have hts := atoms_spec (ws := wsL_digest) B.pre
  have hown : s.vm.findClass RL = some m.cls := findClass_of_methodNamed B.named
  have hlocks := B.notSynchronized
  have hF := (⟨hx, hb, hml, hown, hts⟩ : CallFix p m c cL_digest 4 s _ wsL_digest RL)
  have hS : va_S (sysA ob AD) s.heap s.heap [] := va_S.rf
  have hl := lv_entry ([.ref (ob 0)]) (n := 4) (Nat.le_of_ble_eq_true rfl)
  rw [lg_entry_eq]
  generalize (lg_sl ([.ref (ob 0)]) ++ List.replicate (4 - (lg_sl ([.ref (ob 0)])).length) Slot.unset).toArray = ls at hl ⊢
  have hl : lv_has ls 4 [(0, .ref (ob 0))] := hl
  refine lv_ldc2 (v := 61) hx hb hown (hts (.constantLong RL 9 (61)) (List.mem_of_getElem? (i := 1) rfl)) dL_digest_0 ?_
  refine lv_lstore_n (lv' := [(1, .long 61), (0, .ref (ob 0))]) hx hb dL_digest_3 rfl hl (by decide) rfl (fun ls hl => ?_)
  refine lv_iconst (v := 0) hx hb dL_digest_4 (by decide) ?_
  refine lv_istore_n (lv' := [(3, .int 0), (1, .long 61), (0, .ref (ob 0))]) hx hb dL_digest_5 rfl hl (by decide) rfl (fun ls hl => ?_)
  refine lpL_dg1 (h0 := 61) hx hb hml hown hts hC hJ hOk (fun H locs ls hY hS hl => ?_) _ 0 (Nat.zero_add _) _ _ hY hS ls (lv_sub hl [0, 1, 2] rfl)
  refine lv_iconst (v := 0) hx hb dL_digest_47 (by decide) ?_
  refine lv_istore_n (lv' := [(3, .int 0), (1, .long (upTo (dg1 (Ω 0)) 61 17)), (0, .ref (ob 0))]) hx hb dL_digest_48 rfl hl (by decide) rfl (fun ls hl => ?_)
  refine lpL_dg2 (h0 := (upTo (dg1 (Ω 0)) 61 17)) hx hb hml hown hts hC hJ hOk (fun H locs ls hY hS hl => ?_) _ 0 (Nat.zero_add _) _ _ hY hS ls (lv_sub hl [0, 1, 2] rfl)
  refine lv_iconst (v := 0) hx hb dL_digest_87 (by decide) ?_
  refine lv_istore_n (lv' := [(3, .int 0), (1, .long (upTo (dg2 (Ω 0)) (upTo (dg1 (Ω 0)) 61 17) (((zX3_total (Ω 0) 0) * 9).toNatClampNeg))), (0, .ref (ob 0))]) hx hb dL_digest_88 rfl hl (by decide) rfl (fun ls hl => ?_)
  refine lpL_dg3 (h0 := (upTo (dg2 (Ω 0)) (upTo (dg1 (Ω 0)) 61 17) (((zX3_total (Ω 0) 0) * 9).toNatClampNeg))) hx hb hml hown hts hC hJ hOk (fun H locs ls hY hS hl => ?_) _ 0 (Nat.zero_add _) _ _ hY hS ls (lv_sub hl [0, 1, 2] rfl)
  refine lv_iconst (v := 0) hx hb dL_digest_127 (by decide) ?_
  refine lv_istore_n (lv' := [(3, .int 0), (1, .long (upTo (dg3 (Ω 0)) (upTo (dg2 (Ω 0)) (upTo (dg1 (Ω 0)) 61 17) (((zX3_total (Ω 0) 0) * 9).toNatClampNeg)) (((zX3_total (Ω 0) 1) * 7).toNatClampNeg))), (0, .ref (ob 0))]) hx hb dL_digest_128 rfl hl (by decide) rfl (fun ls hl => ?_)
  refine lpL_dg4 (h0 := (upTo (dg3 (Ω 0)) (upTo (dg2 (Ω 0)) (upTo (dg1 (Ω 0)) 61 17) (((zX3_total (Ω 0) 0) * 9).toNatClampNeg)) (((zX3_total (Ω 0) 1) * 7).toNatClampNeg))) hx hb hml hown hts hC hJ hOk (fun H locs ls hY hS hl => ?_) _ 0 (Nat.zero_add _) _ _ hY hS ls (lv_sub hl [0, 1, 2] rfl)
  refine lv_iconst (v := 0) hx hb dL_digest_167 (by decide) ?_
  refine lv_istore_n (lv' := [(3, .int 0), (1, .long (upTo (dg4 (Ω 0)) (upTo (dg3 (Ω 0)) (upTo (dg2 (Ω 0)) (upTo (dg1 (Ω 0)) 61 17) (((zX3_total (Ω 0) 0) * 9).toNatClampNeg)) (((zX3_total (Ω 0) 1) * 7).toNatClampNeg)) (((zX3_total (Ω 0) 2) * 6).toNatClampNeg))), (0, .ref (ob 0))]) hx hb dL_digest_168 rfl hl (by decide) rfl (fun ls hl => ?_)
  refine lpL_dg5 (h0 := (upTo (dg4 (Ω 0)) (upTo (dg3 (Ω 0)) (upTo (dg2 (Ω 0)) (upTo (dg1 (Ω 0)) 61 17) (((zX3_total (Ω 0) 0) * 9).toNatClampNeg)) (((zX3_total (Ω 0) 1) * 7).toNatClampNeg)) (((zX3_total (Ω 0) 2) * 6).toNatClampNeg))) hx hb hml hown hts hC hJ hOk (fun H locs ls hY hS hl => ?_) _ 0 (Nat.zero_add _) _ _ hY hS ls (lv_sub hl [0, 1, 2] rfl)
  refine lv_lload_n hx hb dL_digest_204 rfl (lv_at hl 1 rfl) ?_
  exact W.lret (v := (upTo (dg5 (Ω 0)) (upTo (dg4 (Ω 0)) (upTo (dg3 (Ω 0)) (upTo (dg2 (Ω 0)) (upTo (dg1 (Ω 0)) 61 17) (((zX3_total (Ω 0) 0) * 9).toNatClampNeg)) (((zX3_total (Ω 0) 1) * 7).toNatClampNeg)) (((zX3_total (Ω 0) 2) * 6).toNatClampNeg)) (((zX3_total (Ω 0) 3) * 5).toNatClampNeg))) hx hb hr (fun t ht hW => ⟨⟨(upTo (dg5 (Ω 0)) (upTo (dg4 (Ω 0)) (upTo (dg3 (Ω 0)) (upTo (dg2 (Ω 0)) (upTo (dg1 (Ω 0)) 61 17) (((zX3_total (Ω 0) 0) * 9).toNatClampNeg)) (((zX3_total (Ω 0) 1) * 7).toNatClampNeg)) (((zX3_total (Ω 0) 2) * 6).toNatClampNeg)) (((zX3_total (Ω 0) 3) * 5).toNatClampNeg)), Ω, rfl, ⟨rfl, rfl⟩, by dsimp only; rw [ht]; exact hY⟩, hS.F ht⟩) hS.2.2 dL_digest_205
set_option maxHeartbeats 4000000 in
set_option maxRecDepth 100000 in
theorem kL_digest {p : Program} {l : Launch} {e : Env} {R : Room} {s : State} {m : MethodId} {args : Array Value} {below : List Frame} {meth : Method} {c : Code} {H : Heap} {locs : List Loc} {cells slots : Nat} {Q : State → Prop} {cc : ByteArray} {nL : Nat} {Ts : List Cond} {own : String} {index pc : Nat} {ls : Array Slot} {rest : List Value} {D : va_G} {y : Y3} {ob : Nat → Nat} {AD : Nat → Nat → Nat} {Ω : Og} {A0 : Nat → Prop} {H0 : Heap} (hF : CallFix p m c cc nL s args Ts own) (cw : CallB R s args own index yL_digest cL_digest 4 (some .long) wsL_digest ({ frames := 4, cells := 0, slots := 0, locals := 90 } : Room) 0 0 1 ∧ (Cond.static yL_digest).before args s = true) (hC : CK D y s) (hY : SysH D y ob AD Ω H) (hJ : sysJ ob AD) (hOk : okO Ω) (hS : va_S A0 H0 H locs) (hA : ∀ q, (sysA ob AD) q → A0 q) (hsz : ls.size = nL) (hW : (rest.map fun v => v.category).sum ≤ 8) (hdg : decode cc pc = .ok (.invokestatic index, 3)) (hf : cells ≤ R.cells ∧ slots ≤ R.slots)
    (k : ∀ (r : Int64) (u : Og) (H1 : Heap) (locs1 : List Loc), r = zdg (Ω 0) ∧ u = Ω → SysH D y ob AD u H1 → va_S A0 H0 H1 locs1 → W p l e R s m args below meth c H1 locs1 cells slots Q (F0 m (pc + 3) ls (.long r :: rest))) : W p l e R s m args below meth c H locs cells slots Q (F0 m pc ls (.ref (ob 0) :: rest)) := by
  refine va_calll (va_runS (As := [.ref (ob 0)]) (rest := rest) hF (mL_digest l D y ob AD Ω) cw ⟨fun a U g mk q => by obtain ⟨q0, q1, q2, q3, q4⟩ := q; exact ⟨q0, q1.call g mk a, q2, q3, q4⟩, fun U hU hW => ⟨rfl, hC.warm hW, by rw [hU]; exact hY, hJ, hOk⟩⟩ rfl rfl hsz rfl (lv_room hW) hdg ⟨hf.1, hf.2⟩) hS (fun q _ h => hA q h) hA (fun r u t H1 locs1 ht hvm hp hB hz1 hk1 hS1 => ?_)
  rw [ht] at hB
  exact k r u H1 locs1 hp hB hS1
