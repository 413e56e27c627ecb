def bX8_passes  (i : Nat) (v : Int32 × Sg) : Int32 × Sg := ((v.1 ||| ((zX8_hour v.2).1)), (zX8_hour v.2).2)
theorem g_passes {μ : Sg} (h : InvM μ) (N : Nat) : ∀ i : Nat, i ≤ N → Gd μ (upTo bX8_passes (0, μ) i).2 := gd_upTo2 h (fun i v _ g => gd_X8_hour g.1)
def zX8_passes (μ : Sg) (x1 : Int32) : Int32 × Sg := ((upTo bX8_passes (0, μ) x1.toNatClampNeg).1, (upTo bX8_passes (0, μ) x1.toNatClampNeg).2)
theorem hdX8_passes : yX8_passes.cls = RX8 ∧ yX8_passes.cls ≠ "java/lang/invoke/MethodHandle" ∧ yX8_passes.cls ≠ "java/lang/invoke/VarHandle" ∧ (parseMethodDescriptor yX8_passes.desc).map (fun d => d.parameters.length) = some 1 := by decide +kernel
set_option maxHeartbeats 4000000 in
set_option maxRecDepth 100000 in
theorem lpX8_passes {p : Program} {l : Launch} {e : Env} {s : State} {m : MethodId} {args : Array Value} {below : List Frame} {meth : Method} {c : Code} {Q : State → Prop} {D : va_G} {y : Y3} {mo : Nat → Nat} {μ : Sg} {x1 : Int32} (hx : p.tables.exec = Jvm.exec) (hb : c.code = cX8_passes) (hml : c.maxLocals = 4) (hown : s.vm.findClass RX8 = some m.cls) (hts : ∀ w ∈ wsX8_passes, w.before args s = true) (hC : CK D y s) (hi : moI mo) (hg : ∀ i : Nat, i ≤ x1.toNatClampNeg → Gd μ ((upTo bX8_passes (0, μ) i).2))
    (K : ∀ (H : Heap) (locs : List Loc) (ls : Array Slot), MoH D y mo ((upTo bX8_passes (0, μ) x1.toNatClampNeg).2) H → va_S (moA mo) s.heap H locs → lv_has ls 4 [(3, .int (nI x1.toNatClampNeg)), (2, .int ((upTo bX8_passes (0, μ) x1.toNatClampNeg).1)), (0, .ref (mo 0)), (1, .int x1)] → W p l e (headSpec wsX8_passes ({ frames := 6, cells := 0, slots := 0, locals := 137 } : Room)).room s m args below meth c H locs 0 0 Q (F0 m 22 ls [])) :
    ∀ (j i : Nat), i + j = x1.toNatClampNeg → ∀ (H : Heap) (locs : List Loc), MoH D y mo ((upTo bX8_passes (0, μ) i).2) H → va_S (moA mo) s.heap H locs → ∀ ls : Array Slot, lv_has ls 4 [(3, .int (nI i)), (2, .int ((upTo bX8_passes (0, μ) i).1)), (0, .ref (mo 0)), (1, .int x1)] → W p l e (headSpec wsX8_passes ({ frames := 6, cells := 0, slots := 0, locals := 137 } : Room)).room s m args below meth c H locs 0 0 Q (F0 m 4 ls []) := by
  have hF := (⟨hx, hb, hml, hown, hts⟩ : CallFix p m c cX8_passes 4 s args wsX8_passes RX8)
  have hN := clamp_lt x1
  intro j
  induction j with
  | zero =>
    intro i hin H locs hMo hS ls hl
    obtain rfl : i = x1.toNatClampNeg := by omega
    have hgi := hg x1.toNatClampNeg (Nat.le_refl _)
    have hInv := hgi.1
    refine lv_iload_n hx hb dX8_passes_4 rfl (lv_at hl 0 rfl) ?_
    refine lv_iload_n hx hb dX8_passes_5 rfl (lv_at hl 3 rfl) ?_
    refine lv_icmp_ge (tgt := 22) hx hb dX8_passes_6 (by decide) (fun _ => ?_) (fun c_1 => absurd (up_le _) c_1)
    exact K H locs ls hMo hS (lv_sub hl [0, 1, 2, 3] rfl)
  | succ j ih =>
    intro i hin H locs hMo hS ls hl
    have hgi := hg i (by omega)
    obtain ⟨v, hv⟩ : ∃ v, v = (upTo bX8_passes (0, μ) i) := ⟨_, rfl⟩
    rw [← hv] at hMo hgi hl
    have hInv := hgi.1
    refine lv_iload_n hx hb dX8_passes_4 rfl (lv_at hl 0 rfl) ?_
    refine lv_iload_n hx hb dX8_passes_5 rfl (lv_at hl 3 rfl) ?_
    refine lv_icmp_ge (tgt := 22) hx hb dX8_passes_6 (by decide) (fun c_2 => absurd c_2 (up_gt (by omega))) (fun _ => ?_)
    refine lv_iload_n hx hb dX8_passes_9 rfl (lv_at hl 1 rfl) ?_
    refine lv_aload_n hx hb dX8_passes_10 rfl (lv_at hl 2 rfl) ?_
    refine kX8_hour hF (cwV 0 hts gX8_passes_X8_hour rfl rfl rfl hdX8_hour ⟨Nat.le_of_ble_eq_true rfl, Nat.le_of_ble_eq_true rfl⟩) hC hMo hi hInv  hS (fun _ h => h) hl.1 (Nat.le_of_ble_eq_true rfl) dX8_passes_11 ⟨Nat.zero_le _, Nat.zero_le _⟩ (fun H locs hMo _ _ hS => ?_)
    have hInv := (gd_X8_hour hInv).1
    refine lv_ior hx hb dX8_passes_14 ?_
    refine lv_istore_n (lv' := [(2, .int (v.1 ||| ((zX8_hour v.2).1))), (3, .int (nI i)), (0, .ref (mo 0)), (1, .int x1)]) hx hb dX8_passes_15 rfl hl (by decide) rfl (fun ls hl => ?_)
    refine lv_iinc (v := (nI (i + 1))) (lv' := [(3, .int (nI (i + 1))), (2, .int (v.1 ||| ((zX8_hour v.2).1))), (0, .ref (mo 0)), (1, .int x1)]) hx hb dX8_passes_16 hl (k := 1) rfl (by rw [nI_succ]; rfl) (by decide) rfl (fun ls hl => ?_)
    refine lv_goto (tgt := 4) hx hb dX8_passes_19 (by decide) ?_
    have e9 : (upTo bX8_passes (0, μ) (i + 1)) = ((v.1 ||| ((zX8_hour v.2).1)), (zX8_hour v.2).2) := by show bX8_passes i (upTo bX8_passes (0, μ) i) = _; rw [← hv]; unfold bX8_passes; rfl
    exact ih (i + 1) (by omega) H locs (by rw [e9]; exact hMo) hS ls (by rw [e9]; exact lv_sub hl [0, 1, 2, 3] rfl)
set_option maxHeartbeats 4000000 in
set_option maxRecDepth 100000 in
theorem mX8_passes (l : Launch) (D : va_G) (y : Y3) (mo : Nat → Nat) (μ : Sg) (x1 : Int32) : Met l yX8_passes wsX8_passes ({ frames := 6, cells := 0, slots := 0, locals := 137 } : Room) (va_Pc [.ref (mo 0), .int x1] (fun U => CK D y U ∧ MoH D y mo μ U.heap ∧ moI mo ∧ InvM μ)) (va_Qi (fun (r : Int32) (u : Sg) => r = (zX8_passes μ x1).1 ∧ u = (zX8_passes μ x1).2) (fun u t => MoH D y mo u t.heap) (moA mo)) 0 0 (moA mo) := by
  refine Met.ofW (cc := cX8_passes) (maxL := 4) (ret := (some .int)) (by decide) rfl ?_
  intro p e s m args below meth c s₁ B hml hv
  obtain ⟨rfl, hC, hMo, hi, hInv⟩ := hv
  have hx := B.exec
  have hb := B.bytes
  have hr := B.returns
  have hts := atoms_spec (ws := wsX8_passes) B.pre
  have hown : s.vm.findClass RX8 = some m.cls := findClass_of_methodNamed B.named
  have hlocks := B.notSynchronized
  have hF := (⟨hx, hb, hml, hown, hts⟩ : CallFix p m c cX8_passes 4 s _ wsX8_passes RX8)
  have hS : va_S (moA mo) s.heap s.heap [] := va_S.rf
  have hl := lv_entry ([.ref (mo 0), .int x1]) (n := 4) (Nat.le_of_ble_eq_true rfl)
  rw [lg_entry_eq]
  generalize (lg_sl ([.ref (mo 0), .int x1]) ++ List.replicate (4 - (lg_sl ([.ref (mo 0), .int x1])).length) Slot.unset).toArray = ls at hl ⊢
  have hl : lv_has ls 4 [(0, .ref (mo 0)), (1, .int x1)] := hl
  refine lv_iconst (v := 0) hx hb dX8_passes_0 (by decide) ?_
  refine lv_istore_n (lv' := [(2, .int 0), (0, .ref (mo 0)), (1, .int x1)]) hx hb dX8_passes_1 rfl hl (by decide) rfl (fun ls hl => ?_)
  refine lv_iconst (v := 0) hx hb dX8_passes_2 (by decide) ?_
  refine lv_istore_n (lv' := [(3, .int 0), (2, .int 0), (0, .ref (mo 0)), (1, .int x1)]) hx hb dX8_passes_3 rfl hl (by decide) rfl (fun ls hl => ?_)
  refine lpX8_passes (μ := μ) hx hb hml hown hts hC hi (g_passes hInv _) (fun H locs ls hMo hS hl => ?_) _ 0 (Nat.zero_add _) _ _ hMo hS ls (lv_sub hl [0, 1, 2, 3] rfl)
  have hMo : MoH D y mo ((upTo bX8_passes (0, μ) x1.toNatClampNeg).2) H := hMo
  have hl : lv_has ls 4 [(3, .int (nI x1.toNatClampNeg)), (2, .int ((upTo bX8_passes (0, μ) x1.toNatClampNeg).1)), (0, .ref (mo 0)), (1, .int x1)] := hl
  refine lv_iload_n hx hb dX8_passes_22 rfl (lv_at hl 1 rfl) ?_
  exact W.iret (v := (upTo bX8_passes (0, μ) x1.toNatClampNeg).1) hx hb hr (fun t ht hW => ⟨⟨(upTo bX8_passes (0, μ) x1.toNatClampNeg).1, (upTo bX8_passes (0, μ) x1.toNatClampNeg).2, rfl, ⟨rfl, rfl⟩, by dsimp only; rw [ht]; exact hMo⟩, hS.F ht⟩) hS.2.2 dX8_passes_23
set_option maxHeartbeats 4000000 in
set_option maxRecDepth 100000 in
theorem kX8_passes {p : Program} {l : Launch} {e : Env} {R : Room} {s : State} {m : MethodId} {args : Array Value} {below : List Frame} {meth : Method} {c : Code} {H : Heap} {locs : List Loc} {cells slots : Nat} {Q : State → Prop} {cc : ByteArray} {nL : Nat} {Ts : List Cond} {own : String} {index pc : Nat} {ls : Array Slot} {rest : List Value} {D : va_G} {y : Y3} {mo : Nat → Nat} {μ : Sg} {x1 : Int32} {A0 : Nat → Prop} {H0 : Heap} (hF : CallFix p m c cc nL s args Ts own) (cw : CallW R s args own RX8 index yX8_passes cX8_passes 4 (some .int) wsX8_passes ({ frames := 6, cells := 0, slots := 0, locals := 137 } : Room) 0 0 1) (hC : CK D y s) (hMo : MoH D y mo μ H) (hi : moI mo) (hInv : InvM μ) (hS : va_S A0 H0 H locs) (hA : ∀ q, (moA mo) q → A0 q) (hsz : ls.size = nL) (hW : (rest.map fun v => v.category).sum ≤ 8) (hdg : decode cc pc = .ok (.invokevirtual index, 3)) (hf : cells ≤ R.cells ∧ slots ≤ R.slots)
    (k : ∀ (H1 : Heap) (locs1 : List Loc), MoH D y mo (zX8_passes μ x1).2 H1 → H.size ≤ H1.size → (∀ q : Nat, q < H.size → ¬ (moA mo) q → H1[q]? = H[q]?) → va_S A0 H0 H1 locs1 → W p l e R s m args below meth c H1 locs1 cells slots Q (F0 m (pc + 3) ls (.int ((zX8_passes μ x1).1) :: rest))) : W p l e R s m args below meth c H locs cells slots Q (F0 m pc ls (.int x1 :: .ref (mo 0) :: rest)) := by
  refine va_calli (va_runV (As := [.int x1]) (rest := rest) hF (mX8_passes l D y mo μ x1) cw ⟨fun a U g mk q => by obtain ⟨q0, q1, q2, q3, q4⟩ := q; exact ⟨q0, q1.call g mk a, q2, q3, q4⟩, va_recv hC.1 hMo (ci := 8) (q0 := 0) rfl rfl, fun U hU hW => ⟨rfl, hC.warm hW, by rw [hU]; exact hMo, hi, hInv⟩⟩ rfl rfl hsz rfl (lv_room hW) hdg ⟨hf.1, hf.2⟩) hS (fun q _ h => hA q h) hA (fun r u t H1 locs1 ht hvm hp hB hz1 hk1 hS1 => ?_)
  obtain ⟨hp1, hp2⟩ := hp
  subst hp1; subst hp2
  rw [ht] at hB
  exact k H1 locs1 hB hz1 hk1 hS1
theorem gd_X8_passes {μ : Sg} (h : InvM μ) (x1 : Int32) : Gd μ (zX8_passes μ x1).2 := g_passes h _ _ (Nat.le_refl _)
