theorem mo_cong {D : va_G} {y : Y3} {mo : Nat → Nat} {μ ν : Sg} {H : Heap} (h : MoH D y mo μ H) (h0 : ∀ k, k < 299 → μ 0 k = ν 0 k) (h1 : ∀ k, k < 299 → μ 1 k = ν 1 k) (h2 : ∀ k, k < 1196 → μ 2 k = ν 2 k) (h3 : ∀ k, k < 60 → μ 3 k = ν 3 k) (h4 : μ 4 = ν 4) : MoH D y mo ν H := by
  intro k q hk
  have ar : ∀ (n : Nat) (f g : Nat → Int32), (∀ j, j < n → f j = g j) → vp_cell y.1 (n, .inl f) = vp_cell y.1 (n, .inl g) := fun n f g e => by
    rw [vp_cell_i, vp_cell_i, arrV_cong y.1 n (fun j => .int (f j)) (fun j => .int (g j)) (fun j hj => by rw [e j hj])]
  match k, hk with
  | 0, hk =>
    cases hk
    rw [← h4]
    exact h 0 _ rfl
  | 1, hk =>
    cases hk
    have a := h 1 _ rfl
    show H[mo 1]? = some (vp_cell y.1 (299, .inl (ν 0)))
    rw [← ar 299 _ _ h0]; exact a
  | 2, hk =>
    cases hk
    have a := h 2 _ rfl
    show H[mo 2]? = some (vp_cell y.1 (299, .inl (ν 1)))
    rw [← ar 299 _ _ h1]; exact a
  | 3, hk =>
    cases hk
    have a := h 3 _ rfl
    show H[mo 3]? = some (vp_cell y.1 (1196, .inl (ν 2)))
    rw [← ar 1196 _ _ h2]; exact a
  | 4, hk =>
    cases hk
    have a := h 4 _ rfl
    show H[mo 4]? = some (vp_cell y.1 (60, .inl (ν 3)))
    rw [← ar 60 _ _ h3]; exact a
  | k + 5, hk => simp [moW] at hk
/-- the rows begun, s, past while they are copied: the first i places are done -/
def cpB (μ : Sg) (i : Nat) : Nat → Int32 := fun k => if k < i then μ 0 k else μ 1 k
def cpR (μ : Sg) (i : Nat) : Nat → Int32 := fun k => if k < i then μ 1 k else μ 0 k
def cpS (μ : Sg) (i : Nat) : Nat → Int32 := fun k => if k < i then μ 2 (k + 299) else μ 2 k
def cpK (μ : Sg) (n i : Nat) : Nat → Int32 := fun k => if 299 * n ≤ k ∧ k < 299 * n + i then μ 1 (k - 299 * n) else μ 2 k
def cpU (μ : Sg) (n i : Nat) : Nat → Int32 := fun k => if k < i then μ 2 (299 * n + k) else μ 0 k
theorem nI_299 : (299 : Int32) = nI 299 := by decide
theorem cpB_0 (μ : Sg) (k : Nat) : cpB μ 0 k = μ 1 k := if_neg (Nat.not_lt_zero k)
theorem cpR_0 (μ : Sg) (k : Nat) : cpR μ 0 k = μ 0 k := if_neg (Nat.not_lt_zero k)
theorem cpS_0 (μ : Sg) (k : Nat) : cpS μ 0 k = μ 2 k := if_neg (Nat.not_lt_zero k)
theorem cpU_0 (μ : Sg) (n k : Nat) : cpU μ n 0 k = μ 0 k := if_neg (Nat.not_lt_zero k)
theorem cpK_0 (μ : Sg) (n k : Nat) : cpK μ n 0 k = μ 2 k := if_neg (by omega)
theorem cpB_N {μ : Sg} {k : Nat} (h : k < 299) : cpB μ 299 k = μ 0 k := if_pos h
theorem cpR_N {μ : Sg} {k : Nat} (h : k < 299) : cpR μ 299 k = μ 1 k := if_pos h
theorem cp_B {D : va_G} {y : Y3} {mo : Nat → Nat} {μ : Sg} {H : Heap} {i : Nat} (hi : i < 299) (h : MoH D y mo (mU (mU μ 1 (cpB μ i)) 1 (upd ((mU μ 1 (cpB μ i)) 1) (nI i).toNatClampNeg ((mU μ 1 (cpB μ i)) 0 (nI i).toNatClampNeg))) H) : MoH D y mo (mU μ 1 (cpB μ (i + 1))) H := by
  rw [nI_clamp (by omega)] at h
  exact mo_cong h (fun _ _ => rfl) (fun k _ => cpy_step (μ 1) (μ 0) i k) (fun _ _ => rfl) (fun _ _ => rfl) rfl
theorem cp_R {D : va_G} {y : Y3} {mo : Nat → Nat} {μ : Sg} {H : Heap} {i : Nat} (hi : i < 299) (h : MoH D y mo (mU (mU μ 0 (cpR μ i)) 0 (upd ((mU μ 0 (cpR μ i)) 0) (nI i).toNatClampNeg ((mU μ 0 (cpR μ i)) 1 (nI i).toNatClampNeg))) H) : MoH D y mo (mU μ 0 (cpR μ (i + 1))) H := by
  rw [nI_clamp (by omega)] at h
  exact mo_cong h (fun k _ => cpy_step (μ 0) (μ 1) i k) (fun _ _ => rfl) (fun _ _ => rfl) (fun _ _ => rfl) rfl
theorem cp_S {D : va_G} {y : Y3} {mo : Nat → Nat} {μ : Sg} {H : Heap} {i : Nat} (hi : i < 897) (h : MoH D y mo (mU (mU μ 2 (cpS μ i)) 2 (upd ((mU μ 2 (cpS μ i)) 2) (nI i).toNatClampNeg ((mU μ 2 (cpS μ i)) 2 ((nI i) + 299).toNatClampNeg))) H) : MoH D y mo (mU μ 2 (cpS μ (i + 1))) H := by
  rw [nI_299, nI_add, nI_clamp (by omega), nI_clamp (by omega)] at h
  refine mo_cong h (fun _ _ => rfl) (fun _ _ => rfl) (fun k _ => ?_) (fun _ _ => rfl) rfl
  have e : (if i + 299 < i then μ 2 (i + 299 + 299) else μ 2 (i + 299)) = μ 2 (i + 299) := if_neg (by omega)
  show upd (fun k => if k < i then μ 2 (k + 299) else μ 2 k) i (if i + 299 < i then μ 2 (i + 299 + 299) else μ 2 (i + 299)) k = (if k < i + 1 then μ 2 (k + 299) else μ 2 k)
  rw [e]
  exact cpy_step (μ 2) (fun k => μ 2 (k + 299)) i k
theorem cp_ix {x : Int32} (h : rg x 4) {i : Nat} (hi : i < 299) : 299 * x + nI i = nI (299 * x.toNatClampNeg + i) := by
  obtain ⟨e, -⟩ := rg_nI h
  rw [← nI_add, ← pk_mul, ← e, nI_299]
theorem vp_Kk {x : Int32} (h : rg x 4) {i : Nat} (hi : i < 299) : vp_in ((299 * x) + nI i) 1196 := by
  rw [cp_ix h hi]
  have := rg_lt (n := 4) h
  exact vp_in_nI (by omega) (by omega)
theorem cp_K {D : va_G} {y : Y3} {mo : Nat → Nat} {μ : Sg} {H : Heap} {i : Nat} (hr : rg (μ 4 0) 4) (hi : i < 299) (h : MoH D y mo (mU (mU μ 2 (cpK μ (μ 4 0).toNatClampNeg i)) 2 (upd ((mU μ 2 (cpK μ (μ 4 0).toNatClampNeg i)) 2) ((299 * ((mU μ 2 (cpK μ (μ 4 0).toNatClampNeg i)) 4 0)) + (nI i)).toNatClampNeg ((mU μ 2 (cpK μ (μ 4 0).toNatClampNeg i)) 1 (nI i).toNatClampNeg))) H) : MoH D y mo (mU μ 2 (cpK μ (μ 4 0).toNatClampNeg (i + 1))) H := by
  have hl := rg_lt (n := 4) hr
  rw [show ((299 : Int32) * ((mU μ 2 (cpK μ (μ 4 0).toNatClampNeg i)) 4 0) + nI i).toNatClampNeg = 299 * (μ 4 0).toNatClampNeg + i by
    show (299 * μ 4 0 + nI i).toNatClampNeg = _
    rw [cp_ix hr hi, nI_clamp (by omega)], nI_clamp (by omega)] at h
  refine mo_cong h (fun _ _ => rfl) (fun _ _ => rfl) (fun k _ => ?_) (fun _ _ => rfl) rfl
  generalize (μ 4 0).toNatClampNeg = n
  show upd (fun k => if 299 * n ≤ k ∧ k < 299 * n + i then μ 1 (k - 299 * n) else μ 2 k) (299 * n + i) (μ 1 i) k = (if 299 * n ≤ k ∧ k < 299 * n + (i + 1) then μ 1 (k - 299 * n) else μ 2 k)
  unfold upd
  by_cases h1 : k = 299 * n + i
  · subst h1
    rw [if_pos rfl, if_pos ⟨by omega, by omega⟩, Nat.add_sub_cancel_left]
  · rw [if_neg h1]
    dsimp only
    by_cases h2 : 299 * n ≤ k ∧ k < 299 * n + i
    · rw [if_pos h2, if_pos ⟨h2.1, by omega⟩]
    · rw [if_neg h2, if_neg (by omega)]
theorem cp_U {D : va_G} {y : Y3} {mo : Nat → Nat} {μ : Sg} {H : Heap} {i : Nat} (hr : rg (μ 4 0) 4) (hi : i < 299) (h : MoH D y mo (mU (mU μ 0 (cpU μ (μ 4 0).toNatClampNeg i)) 0 (upd ((mU μ 0 (cpU μ (μ 4 0).toNatClampNeg i)) 0) (nI i).toNatClampNeg ((mU μ 0 (cpU μ (μ 4 0).toNatClampNeg i)) 2 ((299 * ((mU μ 0 (cpU μ (μ 4 0).toNatClampNeg i)) 4 0)) + (nI i)).toNatClampNeg))) H) : MoH D y mo (mU μ 0 (cpU μ (μ 4 0).toNatClampNeg (i + 1))) H := by
  have hl := rg_lt (n := 4) hr
  rw [show ((299 : Int32) * ((mU μ 0 (cpU μ (μ 4 0).toNatClampNeg i)) 4 0) + nI i).toNatClampNeg = 299 * (μ 4 0).toNatClampNeg + i by
    show (299 * μ 4 0 + nI i).toNatClampNeg = _
    rw [cp_ix hr hi, nI_clamp (by omega)], nI_clamp (by omega)] at h
  refine mo_cong h (fun k _ => ?_) (fun _ _ => rfl) (fun _ _ => rfl) (fun _ _ => rfl) rfl
  generalize (μ 4 0).toNatClampNeg = n
  exact cpy_step (μ 0) (fun k => μ 2 (299 * n + k)) i k
def zX8_begins (μ : Sg) : Sg := mU μ 1 (μ 0)
theorem iwX8_begins_X8 : ∀ w ∈ wsX80, w ∈ wsX8_begins := fun _ h => List.mem_cons_of_mem _ (List.mem_append_right _ h)
theorem hdX8_begins : yX8_begins.cls = RX8 ∧ yX8_begins.cls ≠ "java/lang/invoke/MethodHandle" ∧ yX8_begins.cls ≠ "java/lang/invoke/VarHandle" ∧ (parseMethodDescriptor yX8_begins.desc).map (fun d => d.parameters.length) = some 0 := by decide +kernel
set_option maxHeartbeats 4000000 in
set_option maxRecDepth 100000 in
theorem lpX8_begins {p : Program} {l : Launch} {e : Env} {s : State} {m : MethodId} {args : Array Value} {below : List Frame} {meth : Method} {c : Code} {Q : State → Prop} {D : va_G} {y : Y3} {mo : Nat → Nat} {μ : Sg} (hx : p.tables.exec = Jvm.exec) (hb : c.code = cX8_begins) (hml : c.maxLocals = 2) (hown : s.vm.findClass RX8 = some m.cls) (hts : ∀ w ∈ wsX8_begins, w.before args s = true) (hC : CK D y s) (hi9 : moI mo)
    (K : ∀ (H : Heap) (locs : List Loc) (ls : Array Slot), MoH D y mo (mU μ 1 (cpB μ 299)) H → va_S (moA mo) s.heap H locs → lv_has ls 2 [(1, .int (nI 299)), (0, .ref (mo 0))] → W p l e (headSpec wsX8_begins ({ frames := 0, cells := 0, slots := 0, locals := 0 } : Room)).room s m args below meth c H locs 0 0 Q (F0 m 27 ls [])) :
    ∀ (j i : Nat), i + j = 299 → ∀ (H : Heap) (locs : List Loc), MoH D y mo (mU μ 1 (cpB μ i)) H → va_S (moA mo) s.heap H locs → ∀ ls : Array Slot, lv_has ls 2 [(1, .int (nI i)), (0, .ref (mo 0))] → W p l e (headSpec wsX8_begins ({ frames := 0, cells := 0, slots := 0, locals := 0 } : Room)).room s m args below meth c H locs 0 0 Q (F0 m 2 ls []) := by
  have hF := (⟨hx, hb, hml, hown, hts⟩ : CallFix p m c cX8_begins 2 s args wsX8_begins RX8)
  have hi := hi9
  intro j
  induction j with
  | zero =>
    intro i hin H locs hMo hS ls hl
    obtain rfl : i = 299 := by omega
    refine lv_iload_n hx hb dX8_begins_2 rfl (lv_at hl 0 rfl) ?_
    refine lv_sipush (v := 299) hx hb dX8_begins_3 (by decide) ?_
    refine lv_icmp_ge (tgt := 27) hx hb dX8_begins_6 (by decide) (fun _ => ?_) (fun c_1 => absurd (by decide) c_1)
    exact K H locs ls hMo hS (lv_sub hl [0, 1] rfl)
  | succ j ih =>
    intro i hin H locs hMo hS ls hl
    have hil : i < 299 := by omega
    refine lv_iload_n hx hb dX8_begins_2 rfl (lv_at hl 0 rfl) ?_
    refine lv_sipush (v := 299) hx hb dX8_begins_3 (by decide) ?_
    refine lv_icmp_ge (tgt := 27) hx hb dX8_begins_6 (by decide) (fun c_2 => absurd c_2 (nI_ge (a := i) (b := 299) (by omega) (by decide))) (fun _ => ?_)
    refine lv_aload_n hx hb dX8_begins_9 rfl (lv_at hl 1 rfl) ?_
    refine va_get (D := D) (ci := 8) (v := .ref (mo 2)) (C := RX8) (T := TX8) (N := 10) hx hb hts iwX8_begins_X8 hown hC.1 hMo 0 rfl rfl 1 (by decide) (hts (.fieldLink RX8 13 "MealLockersModel" "begun" "[I") (List.mem_of_getElem? (i := 1) rfl)) (fun _ h9 => h9) rfl dX8_begins_10 ?_
    refine lv_iload_n hx hb dX8_begins_13 rfl (lv_at hl 0 rfl) ?_
    refine lv_aload_n hx hb dX8_begins_14 rfl (lv_at hl 1 rfl) ?_
    refine va_get (D := D) (ci := 8) (v := .ref (mo 1)) (C := RX8) (T := TX8) (N := 10) hx hb hts iwX8_begins_X8 hown hC.1 hMo 0 rfl rfl 0 (by decide) (hts (.fieldLink RX8 7 "MealLockersModel" "s" "[I") (List.mem_of_getElem? (i := 2) rfl)) (fun _ h9 => h9) rfl dX8_begins_15 ?_
    refine lv_iload_n hx hb dX8_begins_18 rfl (lv_at hl 0 rfl) ?_
    refine va_iald hx hb hC.1 hMo 1 0 rfl rfl (vp_in_nI (by omega) (by decide)) dX8_begins_19 ?_
    refine va_iast hx hb hC.1 hMo (mo_D hi) hS 2 0 rfl rfl (vp_in_nI (by omega) (by decide)) dX8_begins_20 (fun H locs hMo _ hS => ?_)
    have hMo := mo_row2 hMo
    refine lv_iinc (v := (nI (i + 1))) (lv' := [(1, .int (nI (i + 1))), (0, .ref (mo 0))]) hx hb dX8_begins_21 hl (k := 0) rfl (by rw [nI_succ]; rfl) (by decide) rfl (fun ls hl => ?_)
    refine lv_goto (tgt := 2) hx hb dX8_begins_24 (by decide) ?_
    exact ih (i + 1) (by omega) H locs (cp_B hil hMo) hS ls (lv_sub hl [0, 1] rfl)
set_option maxHeartbeats 4000000 in
set_option maxRecDepth 100000 in
theorem mX8_begins (l : Launch) (D : va_G) (y : Y3) (mo : Nat → Nat) (μ : Sg) : Met l yX8_begins wsX8_begins ({ frames := 0, cells := 0, slots := 0, locals := 0 } : Room) (va_Pc [.ref (mo 0)] (fun U => CK D y U ∧ MoH D y mo μ U.heap ∧ moI mo)) (va_Qv (fun u : Sg => u = zX8_begins μ) (fun u t => MoH D y mo u t.heap) (moA mo)) 0 0 (moA mo) := by
  refine Met.ofW (cc := cX8_begins) (maxL := 2) (ret := none) (by decide) rfl ?_
  intro p e s m args below meth c s₁ B hml hv
  obtain ⟨rfl, hC, hMo, hi⟩ := hv
  have hx := B.exec
  have hb := B.bytes
  have hr := B.returns
  have hts := atoms_spec (ws := wsX8_begins) B.pre
  have hown : s.vm.findClass RX8 = some m.cls := findClass_of_methodNamed B.named
  have hlocks := B.notSynchronized
  have hF := (⟨hx, hb, hml, hown, hts⟩ : CallFix p m c cX8_begins 2 s _ wsX8_begins RX8)
  have hS : va_S (moA mo) s.heap s.heap [] := va_S.rf
  have hl := lv_entry ([.ref (mo 0)]) (n := 2) (Nat.le_of_ble_eq_true rfl)
  rw [lg_entry_eq]
  generalize (lg_sl ([.ref (mo 0)]) ++ List.replicate (2 - (lg_sl ([.ref (mo 0)])).length) Slot.unset).toArray = ls at hl ⊢
  have hl : lv_has ls 2 [(0, .ref (mo 0))] := hl
  refine lv_iconst (v := 0) hx hb dX8_begins_0 (by decide) ?_
  refine lv_istore_n (lv' := [(1, .int 0), (0, .ref (mo 0))]) hx hb dX8_begins_1 rfl hl (by decide) rfl (fun ls hl => ?_)
  refine lpX8_begins (μ := μ) hx hb hml hown hts hC hi (fun H locs ls hMo hS hl => ?_) _ 0 (Nat.zero_add _) _ _ (mo_cong hMo (fun _ _ => rfl) (fun k _ => (cpB_0 _ k).symm) (fun _ _ => rfl) (fun _ _ => rfl) rfl) hS ls (lv_sub hl [0, 1] rfl)
  have hMo : MoH D y mo (mU μ 1 (μ 0)) H := mo_cong hMo (fun _ _ => rfl) (fun k hk => cpB_N hk) (fun _ _ => rfl) (fun _ _ => rfl) rfl
  exact W.vret hx hb hr (fun t ht hW => ⟨⟨mU μ 1 (μ 0), rfl, rfl, by dsimp only; rw [ht]; exact hMo⟩, hS.F ht⟩) hS.2.2 dX8_begins_27
set_option maxHeartbeats 4000000 in
set_option maxRecDepth 100000 in
theorem kX8_begins {p : Program} {l : Launch} {e : Env} {R : Room} {s : State} {m : MethodId} {args : Array Value} {below : List Frame} {meth : Method} {c : Code} {H : Heap} {locs : List Loc} {cells slots : Nat} {Q : State → Prop} {cc : ByteArray} {nL : Nat} {Ts : List Cond} {own : String} {index pc : Nat} {ls : Array Slot} {rest : List Value} {D : va_G} {y : Y3} {mo : Nat → Nat} {μ : Sg} {A0 : Nat → Prop} {H0 : Heap} (hF : CallFix p m c cc nL s args Ts own) (cw : CallW R s args own RX8 index yX8_begins cX8_begins 2 none wsX8_begins ({ frames := 0, cells := 0, slots := 0, locals := 0 } : Room) 0 0 0) (hC : CK D y s) (hMo : MoH D y mo μ H) (hi : moI mo) (hS : va_S A0 H0 H locs) (hA : ∀ q, (moA mo) q → A0 q) (hsz : ls.size = nL) (hW : (rest.map fun v => v.category).sum ≤ 8) (hdg : decode cc pc = .ok (.invokevirtual index, 3)) (hf : cells ≤ R.cells ∧ slots ≤ R.slots)
    (k : ∀ (H1 : Heap) (locs1 : List Loc), MoH D y mo (zX8_begins μ) H1 → H.size ≤ H1.size → (∀ q : Nat, q < H.size → ¬ (moA mo) q → H1[q]? = H[q]?) → va_S A0 H0 H1 locs1 → W p l e R s m args below meth c H1 locs1 cells slots Q (F0 m (pc + 3) ls (rest))) : W p l e R s m args below meth c H locs cells slots Q (F0 m pc ls (.ref (mo 0) :: rest)) := by
  refine va_callv (va_runV (As := []) (rest := rest) hF (mX8_begins l D y mo μ) cw ⟨fun a U g mk q => by obtain ⟨q0, q1, q2, q3⟩ := q; exact ⟨q0, q1.call g mk a, q2, q3⟩, va_recv hC.1 hMo (ci := 8) (q0 := 0) rfl rfl, fun U hU hW => ⟨rfl, hC.warm hW, by rw [hU]; exact hMo, hi⟩⟩ rfl rfl hsz rfl (lv_room hW) hdg ⟨hf.1, hf.2⟩) hS (fun q _ h => hA q h) hA (fun u t H1 locs1 ht hvm hp hB hz1 hk1 hS1 => ?_)
  subst hp
  rw [ht] at hB
  exact k H1 locs1 hB hz1 hk1 hS1
theorem inv_begins {μ : Sg} (h : InvM μ) : InvM (zX8_begins μ) := h
def zX8_returns (μ : Sg) : Sg := mU μ 0 (μ 1)
theorem iwX8_returns_X8 : ∀ w ∈ wsX80, w ∈ wsX8_returns := fun _ h => List.mem_cons_of_mem _ (List.mem_append_right _ h)
theorem hdX8_returns : yX8_returns.cls = RX8 ∧ yX8_returns.cls ≠ "java/lang/invoke/MethodHandle" ∧ yX8_returns.cls ≠ "java/lang/invoke/VarHandle" ∧ (parseMethodDescriptor yX8_returns.desc).map (fun d => d.parameters.length) = some 0 := by decide +kernel
set_option maxHeartbeats 4000000 in
set_option maxRecDepth 100000 in
theorem lpX8_returns {p : Program} {l : Launch} {e : Env} {s : State} {m : MethodId} {args : Array Value} {below : List Frame} {meth : Method} {c : Code} {Q : State → Prop} {D : va_G} {y : Y3} {mo : Nat → Nat} {μ : Sg} (hx : p.tables.exec = Jvm.exec) (hb : c.code = cX8_returns) (hml : c.maxLocals = 2) (hown : s.vm.findClass RX8 = some m.cls) (hts : ∀ w ∈ wsX8_returns, w.before args s = true) (hC : CK D y s) (hi9 : moI mo)
    (K : ∀ (H : Heap) (locs : List Loc) (ls : Array Slot), MoH D y mo (mU μ 0 (cpR μ 299)) H → va_S (moA mo) s.heap H locs → lv_has ls 2 [(1, .int (nI 299)), (0, .ref (mo 0))] → W p l e (headSpec wsX8_returns ({ frames := 0, cells := 0, slots := 0, locals := 0 } : Room)).room s m args below meth c H locs 0 0 Q (F0 m 27 ls [])) :
    ∀ (j i : Nat), i + j = 299 → ∀ (H : Heap) (locs : List Loc), MoH D y mo (mU μ 0 (cpR μ i)) H → va_S (moA mo) s.heap H locs → ∀ ls : Array Slot, lv_has ls 2 [(1, .int (nI i)), (0, .ref (mo 0))] → W p l e (headSpec wsX8_returns ({ frames := 0, cells := 0, slots := 0, locals := 0 } : Room)).room s m args below meth c H locs 0 0 Q (F0 m 2 ls []) := by
  have hF := (⟨hx, hb, hml, hown, hts⟩ : CallFix p m c cX8_returns 2 s args wsX8_returns RX8)
  have hi := hi9
  intro j
  induction j with
  | zero =>
    intro i hin H locs hMo hS ls hl
    obtain rfl : i = 299 := by omega
    refine lv_iload_n hx hb dX8_returns_2 rfl (lv_at hl 0 rfl) ?_
    refine lv_sipush (v := 299) hx hb dX8_returns_3 (by decide) ?_
    refine lv_icmp_ge (tgt := 27) hx hb dX8_returns_6 (by decide) (fun _ => ?_) (fun c_1 => absurd (by decide) c_1)
    exact K H locs ls hMo hS (lv_sub hl [0, 1] rfl)
  | succ j ih =>
    intro i hin H locs hMo hS ls hl
    have hil : i < 299 := by omega
    refine lv_iload_n hx hb dX8_returns_2 rfl (lv_at hl 0 rfl) ?_
    refine lv_sipush (v := 299) hx hb dX8_returns_3 (by decide) ?_
    refine lv_icmp_ge (tgt := 27) hx hb dX8_returns_6 (by decide) (fun c_2 => absurd c_2 (nI_ge (a := i) (b := 299) (by omega) (by decide))) (fun _ => ?_)
    refine lv_aload_n hx hb dX8_returns_9 rfl (lv_at hl 1 rfl) ?_
    refine va_get (D := D) (ci := 8) (v := .ref (mo 1)) (C := RX8) (T := TX8) (N := 10) hx hb hts iwX8_returns_X8 hown hC.1 hMo 0 rfl rfl 0 (by decide) (hts (.fieldLink RX8 7 "MealLockersModel" "s" "[I") (List.mem_of_getElem? (i := 1) rfl)) (fun _ h9 => h9) rfl dX8_returns_10 ?_
    refine lv_iload_n hx hb dX8_returns_13 rfl (lv_at hl 0 rfl) ?_
    refine lv_aload_n hx hb dX8_returns_14 rfl (lv_at hl 1 rfl) ?_
    refine va_get (D := D) (ci := 8) (v := .ref (mo 2)) (C := RX8) (T := TX8) (N := 10) hx hb hts iwX8_returns_X8 hown hC.1 hMo 0 rfl rfl 1 (by decide) (hts (.fieldLink RX8 13 "MealLockersModel" "begun" "[I") (List.mem_of_getElem? (i := 2) rfl)) (fun _ h9 => h9) rfl dX8_returns_15 ?_
    refine lv_iload_n hx hb dX8_returns_18 rfl (lv_at hl 0 rfl) ?_
    refine va_iald hx hb hC.1 hMo 2 0 rfl rfl (vp_in_nI (by omega) (by decide)) dX8_returns_19 ?_
    refine va_iast hx hb hC.1 hMo (mo_D hi) hS 1 0 rfl rfl (vp_in_nI (by omega) (by decide)) dX8_returns_20 (fun H locs hMo _ hS => ?_)
    have hMo := mo_row1 hMo
    refine lv_iinc (v := (nI (i + 1))) (lv' := [(1, .int (nI (i + 1))), (0, .ref (mo 0))]) hx hb dX8_returns_21 hl (k := 0) rfl (by rw [nI_succ]; rfl) (by decide) rfl (fun ls hl => ?_)
    refine lv_goto (tgt := 2) hx hb dX8_returns_24 (by decide) ?_
    exact ih (i + 1) (by omega) H locs (cp_R hil hMo) hS ls (lv_sub hl [0, 1] rfl)
set_option maxHeartbeats 4000000 in
set_option maxRecDepth 100000 in
theorem mX8_returns (l : Launch) (D : va_G) (y : Y3) (mo : Nat → Nat) (μ : Sg) : Met l yX8_returns wsX8_returns ({ frames := 0, cells := 0, slots := 0, locals := 0 } : Room) (va_Pc [.ref (mo 0)] (fun U => CK D y U ∧ MoH D y mo μ U.heap ∧ moI mo)) (va_Qv (fun u : Sg => u = zX8_returns μ) (fun u t => MoH D y mo u t.heap) (moA mo)) 0 0 (moA mo) := by
  refine Met.ofW (cc := cX8_returns) (maxL := 2) (ret := none) (by decide) rfl ?_
  intro p e s m args below meth c s₁ B hml hv
  obtain ⟨rfl, hC, hMo, hi⟩ := hv
  have hx := B.exec
  have hb := B.bytes
  have hr := B.returns
  have hts := atoms_spec (ws := wsX8_returns) B.pre
  have hown : s.vm.findClass RX8 = some m.cls := findClass_of_methodNamed B.named
  have hlocks := B.notSynchronized
  have hF := (⟨hx, hb, hml, hown, hts⟩ : CallFix p m c cX8_returns 2 s _ wsX8_returns RX8)
  have hS : va_S (moA mo) s.heap s.heap [] := va_S.rf
  have hl := lv_entry ([.ref (mo 0)]) (n := 2) (Nat.le_of_ble_eq_true rfl)
  rw [lg_entry_eq]
  generalize (lg_sl ([.ref (mo 0)]) ++ List.replicate (2 - (lg_sl ([.ref (mo 0)])).length) Slot.unset).toArray = ls at hl ⊢
  have hl : lv_has ls 2 [(0, .ref (mo 0))] := hl
  refine lv_iconst (v := 0) hx hb dX8_returns_0 (by decide) ?_
  refine lv_istore_n (lv' := [(1, .int 0), (0, .ref (mo 0))]) hx hb dX8_returns_1 rfl hl (by decide) rfl (fun ls hl => ?_)
  refine lpX8_returns (μ := μ) hx hb hml hown hts hC hi (fun H locs ls hMo hS hl => ?_) _ 0 (Nat.zero_add _) _ _ (mo_cong hMo (fun k _ => (cpR_0 _ k).symm) (fun _ _ => rfl) (fun _ _ => rfl) (fun _ _ => rfl) rfl) hS ls (lv_sub hl [0, 1] rfl)
  have hMo : MoH D y mo (mU μ 0 (μ 1)) H := mo_cong hMo (fun k hk => cpR_N hk) (fun _ _ => rfl) (fun _ _ => rfl) (fun _ _ => rfl) rfl
  exact W.vret hx hb hr (fun t ht hW => ⟨⟨mU μ 0 (μ 1), rfl, rfl, by dsimp only; rw [ht]; exact hMo⟩, hS.F ht⟩) hS.2.2 dX8_returns_27
set_option maxHeartbeats 4000000 in
set_option maxRecDepth 100000 in
theorem kX8_returns {p : Program} {l : Launch} {e : Env} {R : Room} {s : State} {m : MethodId} {args : Array Value} {below : List Frame} {meth : Method} {c : Code} {H : Heap} {locs : List Loc} {cells slots : Nat} {Q : State → Prop} {cc : ByteArray} {nL : Nat} {Ts : List Cond} {own : String} {index pc : Nat} {ls : Array Slot} {rest : List Value} {D : va_G} {y : Y3} {mo : Nat → Nat} {μ : Sg} {A0 : Nat → Prop} {H0 : Heap} (hF : CallFix p m c cc nL s args Ts own) (cw : CallW R s args own RX8 index yX8_returns cX8_returns 2 none wsX8_returns ({ frames := 0, cells := 0, slots := 0, locals := 0 } : Room) 0 0 0) (hC : CK D y s) (hMo : MoH D y mo μ H) (hi : moI mo) (hS : va_S A0 H0 H locs) (hA : ∀ q, (moA mo) q → A0 q) (hsz : ls.size = nL) (hW : (rest.map fun v => v.category).sum ≤ 8) (hdg : decode cc pc = .ok (.invokevirtual index, 3)) (hf : cells ≤ R.cells ∧ slots ≤ R.slots)
    (k : ∀ (H1 : Heap) (locs1 : List Loc), MoH D y mo (zX8_returns μ) H1 → H.size ≤ H1.size → (∀ q : Nat, q < H.size → ¬ (moA mo) q → H1[q]? = H[q]?) → va_S A0 H0 H1 locs1 → W p l e R s m args below meth c H1 locs1 cells slots Q (F0 m (pc + 3) ls (rest))) : W p l e R s m args below meth c H locs cells slots Q (F0 m pc ls (.ref (mo 0) :: rest)) := by
  refine va_callv (va_runV (As := []) (rest := rest) hF (mX8_returns l D y mo μ) cw ⟨fun a U g mk q => by obtain ⟨q0, q1, q2, q3⟩ := q; exact ⟨q0, q1.call g mk a, q2, q3⟩, va_recv hC.1 hMo (ci := 8) (q0 := 0) rfl rfl, fun U hU hW => ⟨rfl, hC.warm hW, by rw [hU]; exact hMo, hi⟩⟩ rfl rfl hsz rfl (lv_room hW) hdg ⟨hf.1, hf.2⟩) hS (fun q _ h => hA q h) hA (fun u t H1 locs1 ht hvm hp hB hz1 hk1 hS1 => ?_)
  subst hp
  rw [ht] at hB
  exact k H1 locs1 hB hz1 hk1 hS1
