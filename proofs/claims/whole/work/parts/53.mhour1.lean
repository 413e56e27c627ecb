def zX8_spoils (μ : Sg) (x1 : Int32) : Sg := if 2 ≤ (zX8_ofMeal μ x1 0) then mU (zX8_setMeal (zX8_setMeal μ x1 0 5) x1 2 0) 0 (upd ((zX8_setMeal (zX8_setMeal μ x1 0 5) x1 2 0) 0) 11 (((zX8_setMeal (zX8_setMeal μ x1 0 5) x1 2 0) 0 11) + 1))
  else mU (zX8_setMeal (zX8_setMeal (zX8_moreOf μ (zX8_ofMeal μ x1 1) 7) x1 0 5) x1 2 0) 0 (upd ((zX8_setMeal (zX8_setMeal (zX8_moreOf μ (zX8_ofMeal μ x1 1) 7) x1 0 5) x1 2 0) 0) 11 (((zX8_setMeal (zX8_setMeal (zX8_moreOf μ (zX8_ofMeal μ x1 1) 7) x1 0 5) x1 2 0) 0 11) + 1))
theorem iwX8_spoils_X8 : ∀ w ∈ wsX80, w ∈ wsX8_spoils := fun _ h => List.mem_cons_of_mem _ (List.mem_append_right _ h)
theorem hdX8_spoils : yX8_spoils.cls = RX8 ∧ yX8_spoils.cls ≠ "java/lang/invoke/MethodHandle" ∧ yX8_spoils.cls ≠ "java/lang/invoke/VarHandle" ∧ (parseMethodDescriptor yX8_spoils.desc).map (fun d => d.parameters.length) = some 1 := by decide +kernel
set_option maxHeartbeats 4000000 in
set_option maxRecDepth 100000 in
theorem mX8_spoils (l : Launch) (D : va_G) (y : Y3) (mo : Nat → Nat) (μ : Sg) (x1 : Int32) : Met l yX8_spoils wsX8_spoils ({ frames := 1, cells := 0, slots := 0, locals := 23 } : Room) (va_Pc [.ref (mo 0), .int x1] (fun U => CK D y U ∧ MoH D y mo μ U.heap ∧ moI mo ∧ InvM μ ∧ rg x1 24)) (va_Qv (fun u : Sg => u = zX8_spoils μ x1) (fun u t => MoH D y mo u t.heap) (moA mo)) 0 0 (moA mo) := by
  refine Met.ofW (cc := cX8_spoils) (maxL := 2) (ret := none) (by decide) rfl ?_
  intro p e s m args below meth c s₁ B hml hv
  obtain ⟨rfl, hC, hMo, hi, hInv, r_x1⟩ := hv
  have hx := B.exec
  have hb := B.bytes
  have hr := B.returns
  have hts := atoms_spec (ws := wsX8_spoils) B.pre
  have hown : s.vm.findClass RX8 = some m.cls := findClass_of_methodNamed B.named
  have hlocks := B.notSynchronized
  have hF := (⟨hx, hb, hml, hown, hts⟩ : CallFix p m c cX8_spoils 2 s _ wsX8_spoils RX8)
  have hS : va_S (moA mo) s.heap s.heap [] := va_S.rf
  have hl := lv_entry ([.ref (mo 0), .int x1]) (n := 2) (Nat.le_of_ble_eq_true rfl)
  rw [lg_entry_eq]
  generalize (lg_sl ([.ref (mo 0), .int x1]) ++ List.replicate (2 - (lg_sl ([.ref (mo 0), .int x1])).length) Slot.unset).toArray = ls at hl ⊢
  have hl : lv_has ls 2 [(0, .ref (mo 0)), (1, .int x1)] := hl
  refine lv_aload_n hx hb dX8_spoils_0 rfl (lv_at hl 0 rfl) ?_
  refine lv_iload_n hx hb dX8_spoils_1 rfl (lv_at hl 1 rfl) ?_
  refine lv_iconst (v := 0) hx hb dX8_spoils_2 (by decide) ?_
  refine kX8_ofMeal hF (cwV 2 hts gX8_spoils_X8_ofMeal rfl rfl rfl hdX8_ofMeal ⟨Nat.le_of_ble_eq_true rfl, Nat.le_of_ble_eq_true rfl⟩) hC hMo r_x1 (by decide) hl.1 (Nat.le_of_ble_eq_true rfl) dX8_spoils_3 ⟨Nat.zero_le _, Nat.zero_le _⟩ ?_
  refine lv_iconst (v := 2) hx hb dX8_spoils_6 (by decide) ?_
  refine lv_icmp_ge (tgt := 22) hx hb dX8_spoils_7 (by decide) (fun c_1 => ?_) (fun c_1 => ?_)
  · refine lv_aload_n hx hb dX8_spoils_22 rfl (lv_at hl 0 rfl) ?_
    refine lv_iload_n hx hb dX8_spoils_23 rfl (lv_at hl 1 rfl) ?_
    refine lv_iconst (v := 0) hx hb dX8_spoils_24 (by decide) ?_
    refine lv_iconst (v := 5) hx hb dX8_spoils_25 (by decide) ?_
    refine kX8_setMeal hF (cwV 3 hts gX8_spoils_X8_setMeal rfl rfl rfl hdX8_setMeal ⟨Nat.le_of_ble_eq_true rfl, Nat.le_of_ble_eq_true rfl⟩) hC hMo hi r_x1 (by decide) hS (fun _ h => h) hl.1 (Nat.le_of_ble_eq_true rfl) dX8_spoils_26 ⟨Nat.zero_le _, Nat.zero_le _⟩ (fun H locs hMo _ _ hS => ?_)
    have hInv := inv_setMeal hInv r_x1 (w := 0) (v := 5) (by decide) (fun _ => Or.inl (by decide)) (fun e => absurd e (by decide)) (fun e => absurd e (by decide))
    refine lv_aload_n hx hb dX8_spoils_29 rfl (lv_at hl 0 rfl) ?_
    refine lv_iload_n hx hb dX8_spoils_30 rfl (lv_at hl 1 rfl) ?_
    refine lv_iconst (v := 2) hx hb dX8_spoils_31 (by decide) ?_
    refine lv_iconst (v := 0) hx hb dX8_spoils_32 (by decide) ?_
    refine kX8_setMeal hF (cwV 3 hts gX8_spoils_X8_setMeal rfl rfl rfl hdX8_setMeal ⟨Nat.le_of_ble_eq_true rfl, Nat.le_of_ble_eq_true rfl⟩) hC hMo hi r_x1 (by decide) hS (fun _ h => h) hl.1 (Nat.le_of_ble_eq_true rfl) dX8_spoils_33 ⟨Nat.zero_le _, Nat.zero_le _⟩ (fun H locs hMo _ _ hS => ?_)
    have hInv := inv_setMeal hInv r_x1 (w := 2) (v := 0) (by decide) (fun e => absurd e (by decide)) (fun e => absurd e (by decide)) (fun e => absurd e (by decide))
    refine lv_aload_n hx hb dX8_spoils_36 rfl (lv_at hl 0 rfl) ?_
    refine va_get (D := D) (ci := 8) (v := .ref (mo 1)) (C := RX8) (T := TX8) (N := 10) hx hb hts iwX8_spoils_X8 hown hC.1 hMo 0 rfl rfl 0 (by decide) (hts (.fieldLink RX8 7 "MealLockersModel" "s" "[I") (List.mem_of_getElem? (i := 1) rfl)) (fun _ h9 => h9) rfl dX8_spoils_37 ?_
    refine lv_bipush (v := 11) hx hb dX8_spoils_40 (by decide) ?_
    refine lv_dup2_11 hx hb dX8_spoils_42 rfl rfl ?_
    refine va_iald hx hb hC.1 hMo 1 0 rfl rfl (vpl (by decide)) dX8_spoils_43 ?_
    rw [cl_11]
    refine lv_iconst (v := 1) hx hb dX8_spoils_44 (by decide) ?_
    refine lv_iadd hx hb dX8_spoils_45 ?_
    refine va_iast hx hb hC.1 hMo (mo_D hi) hS 1 0 rfl rfl (vpl (by decide)) dX8_spoils_46 (fun H locs hMo _ hS => ?_)
    rw [cl_11] at hMo
    have hMo := mo_row1 hMo
    have hInv := inv_low (i := 11) (v := (((zX8_setMeal (zX8_setMeal μ x1 0 5) x1 2 0) 0 11) + 1)) hInv (by decide) (by decide)
    exact W.vret hx hb hr (fun t ht hW => ⟨⟨mU (zX8_setMeal (zX8_setMeal μ x1 0 5) x1 2 0) 0 (upd ((zX8_setMeal (zX8_setMeal μ x1 0 5) x1 2 0) 0) 11 (((zX8_setMeal (zX8_setMeal μ x1 0 5) x1 2 0) 0 11) + 1)), rfl, (by unfold zX8_spoils; rw [if_pos c_1]), by dsimp only; rw [ht]; exact hMo⟩, hS.F ht⟩) hS.2.2 dX8_spoils_47
  · refine lv_aload_n hx hb dX8_spoils_10 rfl (lv_at hl 0 rfl) ?_
    refine lv_aload_n hx hb dX8_spoils_11 rfl (lv_at hl 0 rfl) ?_
    refine lv_iload_n hx hb dX8_spoils_12 rfl (lv_at hl 1 rfl) ?_
    refine lv_iconst (v := 1) hx hb dX8_spoils_13 (by decide) ?_
    refine kX8_ofMeal hF (cwV 2 hts gX8_spoils_X8_ofMeal rfl rfl rfl hdX8_ofMeal ⟨Nat.le_of_ble_eq_true rfl, Nat.le_of_ble_eq_true rfl⟩) hC hMo r_x1 (by decide) hl.1 (Nat.le_of_ble_eq_true rfl) dX8_spoils_14 ⟨Nat.zero_le _, Nat.zero_le _⟩ ?_
    have f_2 : rg (zX8_ofMeal μ x1 1) 5 := inv_where hInv r_x1
    refine lv_bipush (v := 7) hx hb dX8_spoils_17 (by decide) ?_
    refine kX8_moreOf hF (cwV 2 hts gX8_spoils_X8_moreOf rfl rfl rfl hdX8_moreOf ⟨Nat.le_of_ble_eq_true rfl, Nat.le_of_ble_eq_true rfl⟩) hC hMo hi f_2 (by decide) hS (fun _ h => h) hl.1 (Nat.le_of_ble_eq_true rfl) dX8_spoils_19 ⟨Nat.zero_le _, Nat.zero_le _⟩ (fun H locs hMo _ _ hS => ?_)
    have hInv := inv_moreOf (w := 7) hInv f_2 (by decide)
    refine lv_aload_n hx hb dX8_spoils_22 rfl (lv_at hl 0 rfl) ?_
    refine lv_iload_n hx hb dX8_spoils_23 rfl (lv_at hl 1 rfl) ?_
    refine lv_iconst (v := 0) hx hb dX8_spoils_24 (by decide) ?_
    refine lv_iconst (v := 5) hx hb dX8_spoils_25 (by decide) ?_
    refine kX8_setMeal hF (cwV 3 hts gX8_spoils_X8_setMeal rfl rfl rfl hdX8_setMeal ⟨Nat.le_of_ble_eq_true rfl, Nat.le_of_ble_eq_true rfl⟩) hC hMo hi r_x1 (by decide) hS (fun _ h => h) hl.1 (Nat.le_of_ble_eq_true rfl) dX8_spoils_26 ⟨Nat.zero_le _, Nat.zero_le _⟩ (fun H locs hMo _ _ hS => ?_)
    have hInv := inv_setMeal hInv r_x1 (w := 0) (v := 5) (by decide) (fun _ => Or.inl (by decide)) (fun e => absurd e (by decide)) (fun e => absurd e (by decide))
    refine lv_aload_n hx hb dX8_spoils_29 rfl (lv_at hl 0 rfl) ?_
    refine lv_iload_n hx hb dX8_spoils_30 rfl (lv_at hl 1 rfl) ?_
    refine lv_iconst (v := 2) hx hb dX8_spoils_31 (by decide) ?_
    refine lv_iconst (v := 0) hx hb dX8_spoils_32 (by decide) ?_
    refine kX8_setMeal hF (cwV 3 hts gX8_spoils_X8_setMeal rfl rfl rfl hdX8_setMeal ⟨Nat.le_of_ble_eq_true rfl, Nat.le_of_ble_eq_true rfl⟩) hC hMo hi r_x1 (by decide) hS (fun _ h => h) hl.1 (Nat.le_of_ble_eq_true rfl) dX8_spoils_33 ⟨Nat.zero_le _, Nat.zero_le _⟩ (fun H locs hMo _ _ hS => ?_)
    have hInv := inv_setMeal hInv r_x1 (w := 2) (v := 0) (by decide) (fun e => absurd e (by decide)) (fun e => absurd e (by decide)) (fun e => absurd e (by decide))
    refine lv_aload_n hx hb dX8_spoils_36 rfl (lv_at hl 0 rfl) ?_
    refine va_get (D := D) (ci := 8) (v := .ref (mo 1)) (C := RX8) (T := TX8) (N := 10) hx hb hts iwX8_spoils_X8 hown hC.1 hMo 0 rfl rfl 0 (by decide) (hts (.fieldLink RX8 7 "MealLockersModel" "s" "[I") (List.mem_of_getElem? (i := 1) rfl)) (fun _ h9 => h9) rfl dX8_spoils_37 ?_
    refine lv_bipush (v := 11) hx hb dX8_spoils_40 (by decide) ?_
    refine lv_dup2_11 hx hb dX8_spoils_42 rfl rfl ?_
    refine va_iald hx hb hC.1 hMo 1 0 rfl rfl (vpl (by decide)) dX8_spoils_43 ?_
    rw [cl_11]
    refine lv_iconst (v := 1) hx hb dX8_spoils_44 (by decide) ?_
    refine lv_iadd hx hb dX8_spoils_45 ?_
    refine va_iast hx hb hC.1 hMo (mo_D hi) hS 1 0 rfl rfl (vpl (by decide)) dX8_spoils_46 (fun H locs hMo _ hS => ?_)
    rw [cl_11] at hMo
    have hMo := mo_row1 hMo
    have hInv := inv_low (i := 11) (v := (((zX8_setMeal (zX8_setMeal (zX8_moreOf μ (zX8_ofMeal μ x1 1) 7) x1 0 5) x1 2 0) 0 11) + 1)) hInv (by decide) (by decide)
    exact W.vret hx hb hr (fun t ht hW => ⟨⟨mU (zX8_setMeal (zX8_setMeal (zX8_moreOf μ (zX8_ofMeal μ x1 1) 7) x1 0 5) x1 2 0) 0 (upd ((zX8_setMeal (zX8_setMeal (zX8_moreOf μ (zX8_ofMeal μ x1 1) 7) x1 0 5) x1 2 0) 0) 11 (((zX8_setMeal (zX8_setMeal (zX8_moreOf μ (zX8_ofMeal μ x1 1) 7) x1 0 5) x1 2 0) 0 11) + 1)), rfl, (by unfold zX8_spoils; rw [if_neg c_1]), by dsimp only; rw [ht]; exact hMo⟩, hS.F ht⟩) hS.2.2 dX8_spoils_47
set_option maxHeartbeats 4000000 in
set_option maxRecDepth 100000 in
theorem kX8_spoils {p : Program} {l : Launch} {e : Env} {R : Room} {s : State} {m : MethodId} {args : Array Value} {below : List Frame} {meth : Method} {c : Code} {H : Heap} {locs : List Loc} {cells slots : Nat} {Q : State → Prop} {cc : ByteArray} {nL : Nat} {Ts : List Cond} {own : String} {index pc : Nat} {ls : Array Slot} {rest : List Value} {D : va_G} {y : Y3} {mo : Nat → Nat} {μ : Sg} {x1 : Int32} {A0 : Nat → Prop} {H0 : Heap} (hF : CallFix p m c cc nL s args Ts own) (cw : CallW R s args own RX8 index yX8_spoils cX8_spoils 2 none wsX8_spoils ({ frames := 1, cells := 0, slots := 0, locals := 23 } : Room) 0 0 1) (hC : CK D y s) (hMo : MoH D y mo μ H) (hi : moI mo) (hInv : InvM μ) (r_x1 : rg x1 24) (hS : va_S A0 H0 H locs) (hA : ∀ q, (moA mo) q → A0 q) (hsz : ls.size = nL) (hW : (rest.map fun v => v.category).sum ≤ 8) (hdg : decode cc pc = .ok (.invokevirtual index, 3)) (hf : cells ≤ R.cells ∧ slots ≤ R.slots)
    (k : ∀ (H1 : Heap) (locs1 : List Loc), MoH D y mo (zX8_spoils μ x1) H1 → H.size ≤ H1.size → (∀ q : Nat, q < H.size → ¬ (moA mo) q → H1[q]? = H[q]?) → va_S A0 H0 H1 locs1 → W p l e R s m args below meth c H1 locs1 cells slots Q (F0 m (pc + 3) ls (rest))) : W p l e R s m args below meth c H locs cells slots Q (F0 m pc ls (.int x1 :: .ref (mo 0) :: rest)) := by
  refine va_callv (va_runV (As := [.int x1]) (rest := rest) hF (mX8_spoils l D y mo μ x1) cw ⟨fun a U g mk q => by obtain ⟨q0, q1, q2, q3, q4, q5⟩ := q; exact ⟨q0, q1.call g mk a, q2, q3, q4, q5⟩, va_recv hC.1 hMo (ci := 8) (q0 := 0) rfl rfl, fun U hU hW => ⟨rfl, hC.warm hW, by rw [hU]; exact hMo, hi, hInv, r_x1⟩⟩ rfl rfl hsz rfl (lv_room hW) hdg ⟨hf.1, hf.2⟩) hS (fun q _ h => hA q h) hA (fun u t H1 locs1 ht hvm hp hB hz1 hk1 hS1 => ?_)
  subst hp
  rw [ht] at hB
  exact k H1 locs1 hB hz1 hk1 hS1
theorem gd_X8_spoils {μ : Sg} (h : InvM μ) {x1 : Int32} (hx : rg x1 24) : Gd μ (zX8_spoils μ x1) := by
  have aux : ∀ a μ : Sg, Gd a μ → Gd a (mU (zX8_setMeal (zX8_setMeal μ x1 0 5) x1 2 0) 0 (upd ((zX8_setMeal (zX8_setMeal μ x1 0 5) x1 2 0) 0) 11 ((zX8_setMeal (zX8_setMeal μ x1 0 5) x1 2 0) 0 11 + 1))) := fun a μ h =>
    ((h.setMeal hx (by decide) (fun _ => Or.inl (by decide)) (fun e => absurd e (by decide)) (fun e => absurd e (by decide))).setMeal hx (by decide) (fun e => absurd e (by decide)) (fun e => absurd e (by decide)) (fun e => absurd e (by decide))).low (by decide) (by decide)
  unfold zX8_spoils
  split
  · exact aux _ _ (Gd.rf h)
  · exact aux _ _ ((Gd.rf h).moreOf (inv_where h hx) (by decide))
def bX8_lays (x1 x2 : Int32) (i : Nat) (v : Int32 × Sg) : Int32 × Sg := if (zX8_isWith v.2 (nI i) x1) = 0 then (v.1, v.2)
  else (if (zX8_freeCells v.2 x2) ≤ 0 then (v.1, v.2)
    else ((v.1 + 1), (zX8_moreOf (zX8_setMeal (zX8_setMeal v.2 (nI i) 0 0) (nI i) 1 x2) x2 3)))
theorem g_bX8_lays {x1 x2 : Int32} (r2 : rg x2 5) {i : Nat} {v : Int32 × Sg} (h : InvM v.2) (hi : rg (nI i) 24) : Gd v.2 (bX8_lays x1 x2 i v).2 := by
  have main : Gd v.2 (zX8_moreOf (zX8_setMeal (zX8_setMeal v.2 (nI i) 0 0) (nI i) 1 x2) x2 3) :=
    ((Gd.rf h).setMeal hi (by decide) (fun _ => Or.inl (by decide)) (fun e => absurd e (by decide)) (fun e => absurd e (by decide))).setMeal hi (by decide) (fun e => absurd e (by decide)) (fun _ => r2) (fun e => absurd e (by decide)) |>.moreOf r2 (by decide)
  unfold bX8_lays
  (repeat' split) <;> first | (with_reducible exact main) | exact Gd.rf h
theorem g_uX8_lays {μ : Sg} {x1 x2 : Int32} (h : InvM μ) (r2 : rg x2 5) : ∀ i : Nat, i ≤ (μ 0 1).toNatClampNeg → Gd μ (upTo (bX8_lays x1 x2) (0, μ) i).2 := by
  intro i
  induction i with
  | zero => exact fun _ => Gd.rf h
  | succ n ih =>
    intro hn
    have a := ih (by omega)
    exact a.tr (g_bX8_lays (x1 := x1) r2 (i := n) a.1 (inv_m h (by omega)))
def zX8_lays (μ : Sg) (x1 : Int32) : Int32 × Sg := upTo (bX8_lays x1 (zX8_ofHelper μ x1 1)) (0, μ) (μ 0 1).toNatClampNeg
theorem iwX8_lays_X8 : ∀ w ∈ wsX80, w ∈ wsX8_lays := fun _ h => List.mem_cons_of_mem _ (List.mem_append_right _ h)
theorem hdX8_lays : yX8_lays.cls = RX8 ∧ yX8_lays.cls ≠ "java/lang/invoke/MethodHandle" ∧ yX8_lays.cls ≠ "java/lang/invoke/VarHandle" ∧ (parseMethodDescriptor yX8_lays.desc).map (fun d => d.parameters.length) = some 1 := by decide +kernel
set_option maxHeartbeats 4000000 in
set_option maxRecDepth 100000 in
theorem lpX8_lays {p : Program} {l : Launch} {e : Env} {s : State} {m : MethodId} {args : Array Value} {below : List Frame} {meth : Method} {c : Code} {Q : State → Prop} {D : va_G} {y : Y3} {mo : Nat → Nat} {μ : Sg} {x1 : Int32} {x2 : Int32} (hx : p.tables.exec = Jvm.exec) (hb : c.code = cX8_lays) (hml : c.maxLocals = 5) (hown : s.vm.findClass RX8 = some m.cls) (hts : ∀ w ∈ wsX8_lays, w.before args s = true) (hC : CK D y s) (hi : moI mo) (r_x2 : rg x2 5) (hg : ∀ i : Nat, i ≤ (μ 0 1).toNatClampNeg → Gd μ ((upTo (bX8_lays x1 x2) (0, μ) i).2))
    (K : ∀ (H : Heap) (locs : List Loc) (ls : Array Slot), MoH D y mo ((upTo (bX8_lays x1 x2) (0, μ) ((μ 0 1).toNatClampNeg)).2) H → va_S (moA mo) s.heap H locs → lv_has ls 5 [(4, .int (nI (μ 0 1).toNatClampNeg)), (3, .int ((upTo (bX8_lays x1 x2) (0, μ) ((μ 0 1).toNatClampNeg)).1)), (0, .ref (mo 0)), (1, .int x1), (2, .int x2)] → W p l e (headSpec wsX8_lays ({ frames := 4, cells := 0, slots := 0, locals := 90 } : Room)).room s m args below meth c H locs 0 0 Q (F0 m 72 ls [])) :
    ∀ (j i : Nat), i + j = (μ 0 1).toNatClampNeg → ∀ (H : Heap) (locs : List Loc), MoH D y mo ((upTo (bX8_lays x1 x2) (0, μ) i).2) H → va_S (moA mo) s.heap H locs → ∀ ls : Array Slot, lv_has ls 5 [(4, .int (nI i)), (3, .int ((upTo (bX8_lays x1 x2) (0, μ) i).1)), (0, .ref (mo 0)), (1, .int x1), (2, .int x2)] → W p l e (headSpec wsX8_lays ({ frames := 4, cells := 0, slots := 0, locals := 90 } : Room)).room s m args below meth c H locs 0 0 Q (F0 m 12 ls []) := by
  have hF := (⟨hx, hb, hml, hown, hts⟩ : CallFix p m c cX8_lays 5 s args wsX8_lays RX8)
  have hN := clamp_lt (μ 0 1)
  intro j
  induction j with
  | zero =>
    intro i hin H locs hMo hS ls hl
    obtain rfl : i = (μ 0 1).toNatClampNeg := by omega
    have hgi := hg ((μ 0 1).toNatClampNeg) (Nat.le_refl _)
    have hInv := hgi.1
    have hw := hgi.2.1 1 (by decide)
    refine lv_iload hx hb dX8_lays_12 (lv_at hl 0 rfl) ?_
    refine lv_aload_n hx hb dX8_lays_14 rfl (lv_at hl 2 rfl) ?_
    refine va_get (D := D) (ci := 8) (v := .ref (mo 1)) (C := RX8) (T := TX8) (N := 10) hx hb hts iwX8_lays_X8 hown hC.1 hMo 0 rfl rfl 0 (by decide) (hts (.fieldLink RX8 7 "MealLockersModel" "s" "[I") (List.mem_of_getElem? (i := 1) rfl)) (fun _ h9 => h9) rfl dX8_lays_15 ?_
    refine lv_iconst (v := 1) hx hb dX8_lays_18 (by decide) ?_
    refine va_iald hx hb hC.1 hMo 1 0 rfl rfl (vpl (by decide)) dX8_lays_19 ?_
    rw [cl_1]
    refine lv_icmp_ge (tgt := 72) hx hb dX8_lays_20 (by decide) (fun _ => ?_) (fun c_1 => absurd (by rw [hw]; exact up_le _) c_1)
    exact K H locs ls hMo hS (lv_sub hl [0, 1, 2, 3, 4] rfl)
  | succ j ih =>
    intro i hin H locs hMo hS ls hl
    have hgi := hg i (by omega)
    obtain ⟨v, hv⟩ : ∃ v, v = (upTo (bX8_lays x1 x2) (0, μ) i) := ⟨_, rfl⟩
    rw [← hv] at hMo hgi hl
    have hInv := hgi.1
    have hw := hgi.2.1 1 (by decide)
    have f_2 : rg (nI i) 24 := inv_m hInv (by rw [hw]; omega)
    refine lv_iload hx hb dX8_lays_12 (lv_at hl 0 rfl) ?_
    refine lv_aload_n hx hb dX8_lays_14 rfl (lv_at hl 2 rfl) ?_
    refine va_get (D := D) (ci := 8) (v := .ref (mo 1)) (C := RX8) (T := TX8) (N := 10) hx hb hts iwX8_lays_X8 hown hC.1 hMo 0 rfl rfl 0 (by decide) (hts (.fieldLink RX8 7 "MealLockersModel" "s" "[I") (List.mem_of_getElem? (i := 1) rfl)) (fun _ h9 => h9) rfl dX8_lays_15 ?_
    refine lv_iconst (v := 1) hx hb dX8_lays_18 (by decide) ?_
    refine va_iald hx hb hC.1 hMo 1 0 rfl rfl (vpl (by decide)) dX8_lays_19 ?_
    rw [cl_1]
    refine lv_icmp_ge (tgt := 72) hx hb dX8_lays_20 (by decide) (fun c_3 => absurd c_3 (by rw [hw]; exact up_gt (by omega))) (fun _ => ?_)
    refine lv_aload_n hx hb dX8_lays_23 rfl (lv_at hl 2 rfl) ?_
    refine lv_iload hx hb dX8_lays_24 (lv_at hl 0 rfl) ?_
    refine lv_iload_n hx hb dX8_lays_26 rfl (lv_at hl 3 rfl) ?_
    refine kX8_isWith hF (cwV 2 hts gX8_lays_X8_isWith rfl rfl rfl hdX8_isWith ⟨Nat.le_of_ble_eq_true rfl, Nat.le_of_ble_eq_true rfl⟩) hC hMo f_2 hl.1 (Nat.le_of_ble_eq_true rfl) dX8_lays_27 ⟨Nat.zero_le _, Nat.zero_le _⟩ ?_
    refine lv_if_eq (tgt := 66) hx hb dX8_lays_30 (by decide) (fun c_4 => ?_) (fun c_4 => ?_)
    · refine lv_iinc (v := (nI (i + 1))) (lv' := [(4, .int (nI (i + 1))), (3, .int v.1), (0, .ref (mo 0)), (1, .int x1), (2, .int x2)]) hx hb dX8_lays_66 hl (k := 0) rfl (by rw [nI_succ]; rfl) (by decide) rfl (fun ls hl => ?_)
      refine lv_goto (tgt := 12) hx hb dX8_lays_69 (by decide) ?_
      have e9 : (upTo (bX8_lays x1 x2) (0, μ) (i + 1)) = (v.1, v.2) := by show bX8_lays x1 x2 i (upTo (bX8_lays x1 x2) (0, μ) i) = _; rw [← hv]; unfold bX8_lays; rw [if_pos c_4]
      exact ih (i + 1) (by omega) H locs (by rw [e9]; exact hMo) hS ls (by rw [e9]; exact lv_sub hl [0, 1, 2, 3, 4] rfl)
    · refine lv_aload_n hx hb dX8_lays_33 rfl (lv_at hl 2 rfl) ?_
      refine lv_iload_n hx hb dX8_lays_34 rfl (lv_at hl 4 rfl) ?_
      refine kX8_freeCells hF (cwV 1 hts gX8_lays_X8_freeCells rfl rfl rfl hdX8_freeCells ⟨Nat.le_of_ble_eq_true rfl, Nat.le_of_ble_eq_true rfl⟩) hC hMo hInv r_x2 hl.1 (Nat.le_of_ble_eq_true rfl) dX8_lays_35 ⟨Nat.zero_le _, Nat.zero_le _⟩ ?_
      refine lv_if_le (tgt := 66) hx hb dX8_lays_38 (by decide) (fun c_5 => ?_) (fun c_5 => ?_)
      · refine lv_iinc (v := (nI (i + 1))) (lv' := [(4, .int (nI (i + 1))), (3, .int v.1), (0, .ref (mo 0)), (1, .int x1), (2, .int x2)]) hx hb dX8_lays_66 hl (k := 0) rfl (by rw [nI_succ]; rfl) (by decide) rfl (fun ls hl => ?_)
        refine lv_goto (tgt := 12) hx hb dX8_lays_69 (by decide) ?_
        have e9 : (upTo (bX8_lays x1 x2) (0, μ) (i + 1)) = (v.1, v.2) := by show bX8_lays x1 x2 i (upTo (bX8_lays x1 x2) (0, μ) i) = _; rw [← hv]; unfold bX8_lays; rw [if_neg c_4, if_pos c_5]
        exact ih (i + 1) (by omega) H locs (by rw [e9]; exact hMo) hS ls (by rw [e9]; exact lv_sub hl [0, 1, 2, 3, 4] rfl)
      · refine lv_aload_n hx hb dX8_lays_41 rfl (lv_at hl 2 rfl) ?_
        refine lv_iload hx hb dX8_lays_42 (lv_at hl 0 rfl) ?_
        refine lv_iconst (v := 0) hx hb dX8_lays_44 (by decide) ?_
        refine lv_iconst (v := 0) hx hb dX8_lays_45 (by decide) ?_
        refine kX8_setMeal hF (cwV 3 hts gX8_lays_X8_setMeal rfl rfl rfl hdX8_setMeal ⟨Nat.le_of_ble_eq_true rfl, Nat.le_of_ble_eq_true rfl⟩) hC hMo hi f_2 (by decide) hS (fun _ h => h) hl.1 (Nat.le_of_ble_eq_true rfl) dX8_lays_46 ⟨Nat.zero_le _, Nat.zero_le _⟩ (fun H locs hMo _ _ hS => ?_)
        have hInv := inv_setMeal hInv f_2 (w := 0) (v := 0) (by decide) (fun _ => Or.inl (by decide)) (fun e => absurd e (by decide)) (fun e => absurd e (by decide))
        refine lv_aload_n hx hb dX8_lays_49 rfl (lv_at hl 2 rfl) ?_
        refine lv_iload hx hb dX8_lays_50 (lv_at hl 0 rfl) ?_
        refine lv_iconst (v := 1) hx hb dX8_lays_52 (by decide) ?_
        refine lv_iload_n hx hb dX8_lays_53 rfl (lv_at hl 4 rfl) ?_
        refine kX8_setMeal hF (cwV 3 hts gX8_lays_X8_setMeal rfl rfl rfl hdX8_setMeal ⟨Nat.le_of_ble_eq_true rfl, Nat.le_of_ble_eq_true rfl⟩) hC hMo hi f_2 (by decide) hS (fun _ h => h) hl.1 (Nat.le_of_ble_eq_true rfl) dX8_lays_54 ⟨Nat.zero_le _, Nat.zero_le _⟩ (fun H locs hMo _ _ hS => ?_)
        have hInv := inv_setMeal hInv f_2 (w := 1) (v := x2) (by decide) (fun e => absurd e (by decide)) (fun _ => r_x2) (fun e => absurd e (by decide))
        refine lv_aload_n hx hb dX8_lays_57 rfl (lv_at hl 2 rfl) ?_
        refine lv_iload_n hx hb dX8_lays_58 rfl (lv_at hl 4 rfl) ?_
        refine lv_iconst (v := 3) hx hb dX8_lays_59 (by decide) ?_
        refine kX8_moreOf hF (cwV 2 hts gX8_lays_X8_moreOf rfl rfl rfl hdX8_moreOf ⟨Nat.le_of_ble_eq_true rfl, Nat.le_of_ble_eq_true rfl⟩) hC hMo hi r_x2 (by decide) hS (fun _ h => h) hl.1 (Nat.le_of_ble_eq_true rfl) dX8_lays_60 ⟨Nat.zero_le _, Nat.zero_le _⟩ (fun H locs hMo _ _ hS => ?_)
        have hInv := inv_moreOf (w := 3) hInv r_x2 (by decide)
        refine lv_iinc (v := (v.1 + 1)) (lv' := [(3, .int (v.1 + 1)), (4, .int (nI i)), (0, .ref (mo 0)), (1, .int x1), (2, .int x2)]) hx hb dX8_lays_63 hl (k := 1) rfl rfl (by decide) rfl (fun ls hl => ?_)
        refine lv_iinc (v := (nI (i + 1))) (lv' := [(4, .int (nI (i + 1))), (3, .int (v.1 + 1)), (0, .ref (mo 0)), (1, .int x1), (2, .int x2)]) hx hb dX8_lays_66 hl (k := 1) rfl (by rw [nI_succ]; rfl) (by decide) rfl (fun ls hl => ?_)
        refine lv_goto (tgt := 12) hx hb dX8_lays_69 (by decide) ?_
        have e9 : (upTo (bX8_lays x1 x2) (0, μ) (i + 1)) = ((v.1 + 1), (zX8_moreOf (zX8_setMeal (zX8_setMeal v.2 (nI i) 0 0) (nI i) 1 x2) x2 3)) := by show bX8_lays x1 x2 i (upTo (bX8_lays x1 x2) (0, μ) i) = _; rw [← hv]; unfold bX8_lays; rw [if_neg c_4, if_neg c_5]
        exact ih (i + 1) (by omega) H locs (by rw [e9]; exact hMo) hS ls (by rw [e9]; exact lv_sub hl [0, 1, 2, 3, 4] rfl)
set_option maxHeartbeats 4000000 in
set_option maxRecDepth 100000 in
theorem mX8_lays (l : Launch) (D : va_G) (y : Y3) (mo : Nat → Nat) (μ : Sg) (x1 : Int32) : Met l yX8_lays wsX8_lays ({ frames := 4, cells := 0, slots := 0, locals := 90 } : Room) (va_Pc [.ref (mo 0), .int x1] (fun U => CK D y U ∧ MoH D y mo μ U.heap ∧ moI mo ∧ InvM μ ∧ rg x1 3)) (va_Qi (fun (r : Int32) (u : Sg) => r = (zX8_lays μ x1).1 ∧ u = (zX8_lays μ x1).2) (fun u t => MoH D y mo u t.heap) (moA mo)) 0 0 (moA mo) := by
  refine Met.ofW (cc := cX8_lays) (maxL := 5) (ret := (some .int)) (by decide) rfl ?_
  intro p e s m args below meth c s₁ B hml hv
  obtain ⟨rfl, hC, hMo, hi, hInv, r_x1⟩ := hv
  have hx := B.exec
  have hb := B.bytes
  have hr := B.returns
  have hts := atoms_spec (ws := wsX8_lays) B.pre
  have hown : s.vm.findClass RX8 = some m.cls := findClass_of_methodNamed B.named
  have hlocks := B.notSynchronized
  have hF := (⟨hx, hb, hml, hown, hts⟩ : CallFix p m c cX8_lays 5 s _ wsX8_lays RX8)
  have hS : va_S (moA mo) s.heap s.heap [] := va_S.rf
  have hl := lv_entry ([.ref (mo 0), .int x1]) (n := 5) (Nat.le_of_ble_eq_true rfl)
  rw [lg_entry_eq]
  generalize (lg_sl ([.ref (mo 0), .int x1]) ++ List.replicate (5 - (lg_sl ([.ref (mo 0), .int x1])).length) Slot.unset).toArray = ls at hl ⊢
  have hl : lv_has ls 5 [(0, .ref (mo 0)), (1, .int x1)] := hl
  refine lv_aload_n hx hb dX8_lays_0 rfl (lv_at hl 0 rfl) ?_
  refine lv_iload_n hx hb dX8_lays_1 rfl (lv_at hl 1 rfl) ?_
  refine lv_iconst (v := 1) hx hb dX8_lays_2 (by decide) ?_
  refine kX8_ofHelper hF (cwV 2 hts gX8_lays_X8_ofHelper rfl rfl rfl hdX8_ofHelper ⟨Nat.le_of_ble_eq_true rfl, Nat.le_of_ble_eq_true rfl⟩) hC hMo r_x1 (by decide) hl.1 (Nat.le_of_ble_eq_true rfl) dX8_lays_3 ⟨Nat.zero_le _, Nat.zero_le _⟩ ?_
  have f_6 : rg (zX8_ofHelper μ x1 1) 5 := inv_at hInv r_x1
  refine lv_istore_n (lv' := [(2, .int (zX8_ofHelper μ x1 1)), (0, .ref (mo 0)), (1, .int x1)]) hx hb dX8_lays_6 rfl hl (by decide) rfl (fun ls hl => ?_)
  refine lv_iconst (v := 0) hx hb dX8_lays_7 (by decide) ?_
  refine lv_istore_n (lv' := [(3, .int 0), (2, .int (zX8_ofHelper μ x1 1)), (0, .ref (mo 0)), (1, .int x1)]) hx hb dX8_lays_8 rfl hl (by decide) rfl (fun ls hl => ?_)
  refine lv_iconst (v := 0) hx hb dX8_lays_9 (by decide) ?_
  refine lv_istore (lv' := [(4, .int 0), (3, .int 0), (2, .int (zX8_ofHelper μ x1 1)), (0, .ref (mo 0)), (1, .int x1)]) hx hb dX8_lays_10 hl (by decide) rfl (fun ls hl => ?_)
  obtain ⟨x2, ex2⟩ : ∃ t, t = (zX8_ofHelper μ x1 1) := ⟨_, rfl⟩
  rw [← ex2] at hl
  have r_x2 : rg x2 5 := by rw [ex2]; exact f_6
  refine lpX8_lays (μ := μ) hx hb hml hown hts hC hi r_x2 (g_uX8_lays hInv r_x2) (fun H locs ls hMo hS hl => ?_) _ 0 (Nat.zero_add _) _ _ hMo hS ls (lv_sub hl [0, 1, 3, 4, 2] rfl)
  have hMo : MoH D y mo ((upTo (bX8_lays x1 x2) (0, μ) (μ 0 1).toNatClampNeg).2) H := hMo
  have hl : lv_has ls 5 [(4, .int (nI (μ 0 1).toNatClampNeg)), (3, .int ((upTo (bX8_lays x1 x2) (0, μ) (μ 0 1).toNatClampNeg).1)), (0, .ref (mo 0)), (1, .int x1), (2, .int x2)] := hl
  refine lv_iload_n hx hb dX8_lays_72 rfl (lv_at hl 1 rfl) ?_
  exact W.iret (v := (upTo (bX8_lays x1 x2) (0, μ) (μ 0 1).toNatClampNeg).1) hx hb hr (fun t ht hW => ⟨⟨(upTo (bX8_lays x1 x2) (0, μ) (μ 0 1).toNatClampNeg).1, (upTo (bX8_lays x1 x2) (0, μ) (μ 0 1).toNatClampNeg).2, rfl, ⟨(by rw [ex2]; rfl), (by rw [ex2]; rfl)⟩, by dsimp only; rw [ht]; exact hMo⟩, hS.F ht⟩) hS.2.2 dX8_lays_73
set_option maxHeartbeats 4000000 in
set_option maxRecDepth 100000 in
theorem kX8_lays {p : Program} {l : Launch} {e : Env} {R : Room} {s : State} {m : MethodId} {args : Array Value} {below : List Frame} {meth : Method} {c : Code} {H : Heap} {locs : List Loc} {cells slots : Nat} {Q : State → Prop} {cc : ByteArray} {nL : Nat} {Ts : List Cond} {own : String} {index pc : Nat} {ls : Array Slot} {rest : List Value} {D : va_G} {y : Y3} {mo : Nat → Nat} {μ : Sg} {x1 : Int32} {A0 : Nat → Prop} {H0 : Heap} (hF : CallFix p m c cc nL s args Ts own) (cw : CallW R s args own RX8 index yX8_lays cX8_lays 5 (some .int) wsX8_lays ({ frames := 4, cells := 0, slots := 0, locals := 90 } : Room) 0 0 1) (hC : CK D y s) (hMo : MoH D y mo μ H) (hi : moI mo) (hInv : InvM μ) (r_x1 : rg x1 3) (hS : va_S A0 H0 H locs) (hA : ∀ q, (moA mo) q → A0 q) (hsz : ls.size = nL) (hW : (rest.map fun v => v.category).sum ≤ 8) (hdg : decode cc pc = .ok (.invokevirtual index, 3)) (hf : cells ≤ R.cells ∧ slots ≤ R.slots)
    (k : ∀ (H1 : Heap) (locs1 : List Loc), MoH D y mo (zX8_lays μ x1).2 H1 → H.size ≤ H1.size → (∀ q : Nat, q < H.size → ¬ (moA mo) q → H1[q]? = H[q]?) → va_S A0 H0 H1 locs1 → W p l e R s m args below meth c H1 locs1 cells slots Q (F0 m (pc + 3) ls (.int ((zX8_lays μ x1).1) :: rest))) : W p l e R s m args below meth c H locs cells slots Q (F0 m pc ls (.int x1 :: .ref (mo 0) :: rest)) := by
  refine va_calli (va_runV (As := [.int x1]) (rest := rest) hF (mX8_lays l D y mo μ x1) cw ⟨fun a U g mk q => by obtain ⟨q0, q1, q2, q3, q4, q5⟩ := q; exact ⟨q0, q1.call g mk a, q2, q3, q4, q5⟩, va_recv hC.1 hMo (ci := 8) (q0 := 0) rfl rfl, fun U hU hW => ⟨rfl, hC.warm hW, by rw [hU]; exact hMo, hi, hInv, r_x1⟩⟩ rfl rfl hsz rfl (lv_room hW) hdg ⟨hf.1, hf.2⟩) hS (fun q _ h => hA q h) hA (fun r u t H1 locs1 ht hvm hp hB hz1 hk1 hS1 => ?_)
  obtain ⟨hp1, hp2⟩ := hp
  subst hp1; subst hp2
  rw [ht] at hB
  exact k H1 locs1 hB hz1 hk1 hS1
theorem gdq_X8_lays {μ : Sg} {x1 : Int32} (h : InvM μ) (hx : rg x1 3) : Gd μ (zX8_lays μ x1).2 := g_uX8_lays h (inv_at h hx) _ (Nat.le_refl _)
