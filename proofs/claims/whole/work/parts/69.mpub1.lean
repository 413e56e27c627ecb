theorem r_eq {μ ν : Sg} (e : ν 4 = μ 4) (h : rg (μ 4 0) 5) : rg (ν 4 0) 5 := by
  rw [e]
  exact h
theorem r_e0 {μ ν : Sg} (e : ν 4 0 = μ 4 0) (h : rg (μ 4 0) 5) : rg (ν 4 0) 5 := by
  rw [e]
  exact h
theorem row4_addsMeal (μ : Sg) (x1 x2 x3 : Int32) : (zX8_addsMeal μ x1 x2 x3).2 4 = μ 4 := by
  unfold zX8_addsMeal
  (repeat' split) <;> rfl
theorem vpL0 {x : Int32} (hx : rg x 5) : vp_in (12 + (8 * x)) 299 := by
  have h := vpL (w := 0) hx (by decide)
  rw [Int32.add_zero] at h
  exact h
theorem vp_5 {x : Int32} (h : ¬ zX8_in x 0 3 = 0) : vp_in (5 + x) 299 := by
  have r : rg x 4 := rg_in h
  obtain ⟨e, h2⟩ := rg_nI r
  have h3 := r.2
  rw [e]
  generalize x.toNatClampNeg = n at h2 ⊢
  match n, h2 with
  | 0, _ => exact vpl (by decide)
  | 1, _ => exact vpl (by decide)
  | 2, _ => exact vpl (by decide)
  | 3, _ => exact vpl (by decide)
  | n + 4, h2 => omega
theorem rg_ne8 {x : Int32} (h : rg x 9) (hc : ¬ x = 8) : rg x 8 := by
  have := lv_neT (a := 8) hc (by decide)
  exact ⟨h.1, by have := h.2; omega⟩
theorem rg_ne3 {x : Int32} (h : rg x 4) (hc : ¬ x = 3) : rg x 3 := by
  have := lv_neT (a := 3) hc (by decide)
  exact ⟨h.1, by have := h.2; omega⟩
theorem c3_setHelper {μ : Sg} {x w v : Int32} (hx : rg x 3) (hw : rg w 5) : zX8_setHelper μ x w v 0 3 = μ 0 3 := by
  rw [setHelper_n hx hw]
  exact if_neg (by omega)
theorem rg3_set {μ : Sg} {x w v : Int32} (hx : rg x 3) (hw : rg w 5) (h : rg (μ 0 3) 3) : rg (zX8_setHelper μ x w v 0 3) 3 := by
  rw [c3_setHelper hx hw]
  exact h
theorem vp_len {x : Int32} (h : rg x 61) (hc : ¬ x = 60) : vp_in x 60 := by
  have h1 := lv_neT (a := 60) hc (by decide)
  have h2 := h.2
  have h3 := (rg_nI h).2
  have h4 := h.1
  exact fun z => z.elim (fun z => by rw [Int32.lt_iff_toInt_lt, Int32.toInt_zero] at z; omega) (fun z => by omega)
def zX8_locker (μ : Sg) (x1 : Int32) (x2 : Int32) : Int32 × Sg := if (zX8_in x1 1 8) = 0 then ((-1), (zX8_begins μ))
  else (if (zX8_in x2 0 1) = 0 then ((-1), (zX8_begins μ))
    else (if ((zX8_begins μ) 0 0) = 5 then ((-3), (zX8_begins μ))
      else ((zX8_acted (mU (mU (mU (zX8_begins μ) 0 (upd ((zX8_begins μ) 0) (12 + (8 * ((zX8_begins μ) 0 0))).toNatClampNeg x1)) 0 (upd ((mU (zX8_begins μ) 0 (upd ((zX8_begins μ) 0) (12 + (8 * ((zX8_begins μ) 0 0))).toNatClampNeg x1)) 0) ((12 + (8 * ((zX8_begins μ) 0 0))) + 1).toNatClampNeg x2)) 0 (upd ((mU (mU (zX8_begins μ) 0 (upd ((zX8_begins μ) 0) (12 + (8 * ((zX8_begins μ) 0 0))).toNatClampNeg x1)) 0 (upd ((mU (zX8_begins μ) 0 (upd ((zX8_begins μ) 0) (12 + (8 * ((zX8_begins μ) 0 0))).toNatClampNeg x1)) 0) ((12 + (8 * ((zX8_begins μ) 0 0))) + 1).toNatClampNeg x2)) 0) 0 (((mU (mU (zX8_begins μ) 0 (upd ((zX8_begins μ) 0) (12 + (8 * ((zX8_begins μ) 0 0))).toNatClampNeg x1)) 0 (upd ((mU (zX8_begins μ) 0 (upd ((zX8_begins μ) 0) (12 + (8 * ((zX8_begins μ) 0 0))).toNatClampNeg x1)) 0) ((12 + (8 * ((zX8_begins μ) 0 0))) + 1).toNatClampNeg x2)) 0 0) + 1))) (((mU (mU (mU (zX8_begins μ) 0 (upd ((zX8_begins μ) 0) (12 + (8 * ((zX8_begins μ) 0 0))).toNatClampNeg x1)) 0 (upd ((mU (zX8_begins μ) 0 (upd ((zX8_begins μ) 0) (12 + (8 * ((zX8_begins μ) 0 0))).toNatClampNeg x1)) 0) ((12 + (8 * ((zX8_begins μ) 0 0))) + 1).toNatClampNeg x2)) 0 (upd ((mU (mU (zX8_begins μ) 0 (upd ((zX8_begins μ) 0) (12 + (8 * ((zX8_begins μ) 0 0))).toNatClampNeg x1)) 0 (upd ((mU (zX8_begins μ) 0 (upd ((zX8_begins μ) 0) (12 + (8 * ((zX8_begins μ) 0 0))).toNatClampNeg x1)) 0) ((12 + (8 * ((zX8_begins μ) 0 0))) + 1).toNatClampNeg x2)) 0) 0 (((mU (mU (zX8_begins μ) 0 (upd ((zX8_begins μ) 0) (12 + (8 * ((zX8_begins μ) 0 0))).toNatClampNeg x1)) 0 (upd ((mU (zX8_begins μ) 0 (upd ((zX8_begins μ) 0) (12 + (8 * ((zX8_begins μ) 0 0))).toNatClampNeg x1)) 0) ((12 + (8 * ((zX8_begins μ) 0 0))) + 1).toNatClampNeg x2)) 0 0) + 1))) 0 0) - 1)).1, (zX8_acted (mU (mU (mU (zX8_begins μ) 0 (upd ((zX8_begins μ) 0) (12 + (8 * ((zX8_begins μ) 0 0))).toNatClampNeg x1)) 0 (upd ((mU (zX8_begins μ) 0 (upd ((zX8_begins μ) 0) (12 + (8 * ((zX8_begins μ) 0 0))).toNatClampNeg x1)) 0) ((12 + (8 * ((zX8_begins μ) 0 0))) + 1).toNatClampNeg x2)) 0 (upd ((mU (mU (zX8_begins μ) 0 (upd ((zX8_begins μ) 0) (12 + (8 * ((zX8_begins μ) 0 0))).toNatClampNeg x1)) 0 (upd ((mU (zX8_begins μ) 0 (upd ((zX8_begins μ) 0) (12 + (8 * ((zX8_begins μ) 0 0))).toNatClampNeg x1)) 0) ((12 + (8 * ((zX8_begins μ) 0 0))) + 1).toNatClampNeg x2)) 0) 0 (((mU (mU (zX8_begins μ) 0 (upd ((zX8_begins μ) 0) (12 + (8 * ((zX8_begins μ) 0 0))).toNatClampNeg x1)) 0 (upd ((mU (zX8_begins μ) 0 (upd ((zX8_begins μ) 0) (12 + (8 * ((zX8_begins μ) 0 0))).toNatClampNeg x1)) 0) ((12 + (8 * ((zX8_begins μ) 0 0))) + 1).toNatClampNeg x2)) 0 0) + 1))) (((mU (mU (mU (zX8_begins μ) 0 (upd ((zX8_begins μ) 0) (12 + (8 * ((zX8_begins μ) 0 0))).toNatClampNeg x1)) 0 (upd ((mU (zX8_begins μ) 0 (upd ((zX8_begins μ) 0) (12 + (8 * ((zX8_begins μ) 0 0))).toNatClampNeg x1)) 0) ((12 + (8 * ((zX8_begins μ) 0 0))) + 1).toNatClampNeg x2)) 0 (upd ((mU (mU (zX8_begins μ) 0 (upd ((zX8_begins μ) 0) (12 + (8 * ((zX8_begins μ) 0 0))).toNatClampNeg x1)) 0 (upd ((mU (zX8_begins μ) 0 (upd ((zX8_begins μ) 0) (12 + (8 * ((zX8_begins μ) 0 0))).toNatClampNeg x1)) 0) ((12 + (8 * ((zX8_begins μ) 0 0))) + 1).toNatClampNeg x2)) 0) 0 (((mU (mU (zX8_begins μ) 0 (upd ((zX8_begins μ) 0) (12 + (8 * ((zX8_begins μ) 0 0))).toNatClampNeg x1)) 0 (upd ((mU (zX8_begins μ) 0 (upd ((zX8_begins μ) 0) (12 + (8 * ((zX8_begins μ) 0 0))).toNatClampNeg x1)) 0) ((12 + (8 * ((zX8_begins μ) 0 0))) + 1).toNatClampNeg x2)) 0 0) + 1))) 0 0) - 1)).2)))
theorem iwX8_locker_X8 : ∀ w ∈ wsX80, w ∈ wsX8_locker := fun _ h => List.mem_cons_of_mem _ (List.mem_append_right _ h)
theorem hdX8_locker : yX8_locker.cls = RX8 ∧ yX8_locker.cls ≠ "java/lang/invoke/MethodHandle" ∧ yX8_locker.cls ≠ "java/lang/invoke/VarHandle" ∧ (parseMethodDescriptor yX8_locker.desc).map (fun d => d.parameters.length) = some 2 := by decide +kernel
set_option maxHeartbeats 4000000 in
set_option maxRecDepth 100000 in
theorem mX8_locker (l : Launch) (D : va_G) (y : Y3) (mo : Nat → Nat) (μ : Sg) (x1 : Int32) (x2 : Int32) : Met l yX8_locker wsX8_locker ({ frames := 2, cells := 0, slots := 0, locals := 43 } : Room) (va_Pc [.ref (mo 0), .int x1, .int x2] (fun U => CK D y U ∧ MoH D y mo μ U.heap ∧ moI mo ∧ InvM μ ∧ rg (μ 4 0) 5)) (va_Qi (fun (r : Int32) (u : Sg) => r = (zX8_locker μ x1 x2).1 ∧ u = (zX8_locker μ x1 x2).2) (fun u t => MoH D y mo u t.heap) (moA mo)) 0 0 (moA mo) := by
  refine Met.ofW (cc := cX8_locker) (maxL := 4) (ret := (some .int)) (by decide) rfl ?_
  intro p e s m args below meth c s₁ B hml hv
  obtain ⟨rfl, hC, hMo, hi, hInv, r_h⟩ := hv
  have hx := B.exec
  have hb := B.bytes
  have hr := B.returns
  have hts := atoms_spec (ws := wsX8_locker) B.pre
  have hown : s.vm.findClass RX8 = some m.cls := findClass_of_methodNamed B.named
  have hlocks := B.notSynchronized
  have hF := (⟨hx, hb, hml, hown, hts⟩ : CallFix p m c cX8_locker 4 s _ wsX8_locker RX8)
  have hS : va_S (moA mo) s.heap s.heap [] := va_S.rf
  have hl := lv_entry ([.ref (mo 0), .int x1, .int x2]) (n := 4) (Nat.le_of_ble_eq_true rfl)
  rw [lg_entry_eq]
  generalize (lg_sl ([.ref (mo 0), .int x1, .int x2]) ++ List.replicate (4 - (lg_sl ([.ref (mo 0), .int x1, .int x2])).length) Slot.unset).toArray = ls at hl ⊢
  have hl : lv_has ls 4 [(0, .ref (mo 0)), (1, .int x1), (2, .int x2)] := hl
  refine lv_aload_n hx hb dX8_locker_0 rfl (lv_at hl 0 rfl) ?_
  refine kX8_begins hF (cwV 0 hts gX8_locker_X8_begins rfl rfl rfl hdX8_begins ⟨Nat.le_of_ble_eq_true rfl, Nat.le_of_ble_eq_true rfl⟩) hC hMo hi  hS (fun _ h => h) hl.1 (Nat.le_of_ble_eq_true rfl) dX8_locker_1 ⟨Nat.zero_le _, Nat.zero_le _⟩ (fun H locs hMo _ _ hS => ?_)
  have hInv := inv_begins hInv
  refine lv_iload_n hx hb dX8_locker_4 rfl (lv_at hl 1 rfl) ?_
  refine lv_iconst (v := 1) hx hb dX8_locker_5 (by decide) ?_
  refine lv_bipush (v := 8) hx hb dX8_locker_6 (by decide) ?_
  refine kX8_in hF (cwS 3 hts gX8_locker_X8_in rfl rfl rfl (by decide +kernel) ⟨Nat.le_of_ble_eq_true rfl, Nat.le_of_ble_eq_true rfl⟩) hC hl.1 (Nat.le_of_ble_eq_true rfl) dX8_locker_8 ⟨Nat.zero_le _, Nat.zero_le _⟩ ?_
  refine lv_if_eq (tgt := 23) hx hb dX8_locker_11 (by decide) (fun c_1 => ?_) (fun c_1 => ?_)
  · refine lv_iconst (v := (-1)) hx hb dX8_locker_23 (by decide) ?_
    exact W.iret (v := (-1)) hx hb hr (fun t ht hW => ⟨⟨(-1), (zX8_begins μ), rfl, ⟨(by unfold zX8_locker; rw [if_pos c_1]), (by unfold zX8_locker; rw [if_pos c_1])⟩, by dsimp only; rw [ht]; exact hMo⟩, hS.F ht⟩) hS.2.2 dX8_locker_24
  · refine lv_iload_n hx hb dX8_locker_14 rfl (lv_at hl 2 rfl) ?_
    refine lv_iconst (v := 0) hx hb dX8_locker_15 (by decide) ?_
    refine lv_iconst (v := 1) hx hb dX8_locker_16 (by decide) ?_
    refine kX8_in hF (cwS 3 hts gX8_locker_X8_in rfl rfl rfl (by decide +kernel) ⟨Nat.le_of_ble_eq_true rfl, Nat.le_of_ble_eq_true rfl⟩) hC hl.1 (Nat.le_of_ble_eq_true rfl) dX8_locker_17 ⟨Nat.zero_le _, Nat.zero_le _⟩ ?_
    refine lv_if_ne (tgt := 25) hx hb dX8_locker_20 (by decide) (fun c_2 => ?_) (fun c_2 => ?_)
    · have f_3 : rg x2 2 := rg_in c_2
      refine lv_aload_n hx hb dX8_locker_25 rfl (lv_at hl 0 rfl) ?_
      refine va_get (D := D) (ci := 8) (v := .ref (mo 1)) (C := RX8) (T := TX8) (N := 10) hx hb hts iwX8_locker_X8 hown hC.1 hMo 0 rfl rfl 0 (by decide) (hts (.fieldLink RX8 7 "MealLockersModel" "s" "[I") (List.mem_of_getElem? (i := 1) rfl)) (fun _ h9 => h9) rfl dX8_locker_26 ?_
      refine lv_iconst (v := 0) hx hb dX8_locker_29 (by decide) ?_
      refine va_iald hx hb hC.1 hMo 1 0 rfl rfl (vpl (by decide)) dX8_locker_30 ?_
      rw [cl_0]
      refine lv_iconst (v := 5) hx hb dX8_locker_31 (by decide) ?_
      refine lv_icmp_ne (tgt := 38) hx hb dX8_locker_32 (by decide) (fun c_4 => ?_) (fun c_4 => ?_)
      · have f_5 : rg ((zX8_begins μ) 0 0) 5 := rg_ne5 hInv.1 c_4
        refine lv_bipush (v := 12) hx hb dX8_locker_38 (by decide) ?_
        refine lv_bipush (v := 8) hx hb dX8_locker_40 (by decide) ?_
        refine lv_aload_n hx hb dX8_locker_42 rfl (lv_at hl 0 rfl) ?_
        refine va_get (D := D) (ci := 8) (v := .ref (mo 1)) (C := RX8) (T := TX8) (N := 10) hx hb hts iwX8_locker_X8 hown hC.1 hMo 0 rfl rfl 0 (by decide) (hts (.fieldLink RX8 7 "MealLockersModel" "s" "[I") (List.mem_of_getElem? (i := 1) rfl)) (fun _ h9 => h9) rfl dX8_locker_43 ?_
        refine lv_iconst (v := 0) hx hb dX8_locker_46 (by decide) ?_
        refine va_iald hx hb hC.1 hMo 1 0 rfl rfl (vpl (by decide)) dX8_locker_47 ?_
        rw [cl_0]
        refine lv_imul hx hb dX8_locker_48 ?_
        refine lv_iadd hx hb dX8_locker_49 ?_
        refine lv_istore_n (lv' := [(3, .int (12 + (8 * ((zX8_begins μ) 0 0)))), (0, .ref (mo 0)), (1, .int x1), (2, .int x2)]) hx hb dX8_locker_50 rfl hl (by decide) rfl (fun ls hl => ?_)
        refine lv_aload_n hx hb dX8_locker_51 rfl (lv_at hl 1 rfl) ?_
        refine va_get (D := D) (ci := 8) (v := .ref (mo 1)) (C := RX8) (T := TX8) (N := 10) hx hb hts iwX8_locker_X8 hown hC.1 hMo 0 rfl rfl 0 (by decide) (hts (.fieldLink RX8 7 "MealLockersModel" "s" "[I") (List.mem_of_getElem? (i := 1) rfl)) (fun _ h9 => h9) rfl dX8_locker_52 ?_
        refine lv_iload_n hx hb dX8_locker_55 rfl (lv_at hl 0 rfl) ?_
        refine lv_iload_n hx hb dX8_locker_56 rfl (lv_at hl 2 rfl) ?_
        refine va_iast hx hb hC.1 hMo (mo_D hi) hS 1 0 rfl rfl (vpL0 f_5) dX8_locker_57 (fun H locs hMo _ hS => ?_)
        have hMo := mo_row1 hMo
        refine lv_aload_n hx hb dX8_locker_58 rfl (lv_at hl 1 rfl) ?_
        refine va_get (D := D) (ci := 8) (v := .ref (mo 1)) (C := RX8) (T := TX8) (N := 10) hx hb hts iwX8_locker_X8 hown hC.1 hMo 0 rfl rfl 0 (by decide) (hts (.fieldLink RX8 7 "MealLockersModel" "s" "[I") (List.mem_of_getElem? (i := 1) rfl)) (fun _ h9 => h9) rfl dX8_locker_59 ?_
        refine lv_iload_n hx hb dX8_locker_62 rfl (lv_at hl 0 rfl) ?_
        refine lv_iconst (v := 1) hx hb dX8_locker_63 (by decide) ?_
        refine lv_iadd hx hb dX8_locker_64 ?_
        refine lv_iload_n hx hb dX8_locker_65 rfl (lv_at hl 3 rfl) ?_
        refine va_iast hx hb hC.1 hMo (mo_D hi) hS 1 0 rfl rfl (vpL f_5 (by decide)) dX8_locker_66 (fun H locs hMo _ hS => ?_)
        have hMo := mo_row1 hMo
        refine lv_aload_n hx hb dX8_locker_67 rfl (lv_at hl 1 rfl) ?_
        refine va_get (D := D) (ci := 8) (v := .ref (mo 1)) (C := RX8) (T := TX8) (N := 10) hx hb hts iwX8_locker_X8 hown hC.1 hMo 0 rfl rfl 0 (by decide) (hts (.fieldLink RX8 7 "MealLockersModel" "s" "[I") (List.mem_of_getElem? (i := 1) rfl)) (fun _ h9 => h9) rfl dX8_locker_68 ?_
        refine lv_iconst (v := 0) hx hb dX8_locker_71 (by decide) ?_
        refine lv_dup2_11 hx hb dX8_locker_72 rfl rfl ?_
        refine va_iald hx hb hC.1 hMo 1 0 rfl rfl (vpl (by decide)) dX8_locker_73 ?_
        rw [cl_0]
        refine lv_iconst (v := 1) hx hb dX8_locker_74 (by decide) ?_
        refine lv_iadd hx hb dX8_locker_75 ?_
        refine va_iast hx hb hC.1 hMo (mo_D hi) hS 1 0 rfl rfl (vpl (by decide)) dX8_locker_76 (fun H locs hMo _ hS => ?_)
        rw [cl_0] at hMo
        have hMo := mo_row1 hMo
        refine lv_aload_n hx hb dX8_locker_77 rfl (lv_at hl 1 rfl) ?_
        refine lv_aload_n hx hb dX8_locker_78 rfl (lv_at hl 1 rfl) ?_
        refine va_get (D := D) (ci := 8) (v := .ref (mo 1)) (C := RX8) (T := TX8) (N := 10) hx hb hts iwX8_locker_X8 hown hC.1 hMo 0 rfl rfl 0 (by decide) (hts (.fieldLink RX8 7 "MealLockersModel" "s" "[I") (List.mem_of_getElem? (i := 1) rfl)) (fun _ h9 => h9) rfl dX8_locker_79 ?_
        refine lv_iconst (v := 0) hx hb dX8_locker_82 (by decide) ?_
        refine va_iald hx hb hC.1 hMo 1 0 rfl rfl (vpl (by decide)) dX8_locker_83 ?_
        rw [cl_0]
        refine lv_iconst (v := 1) hx hb dX8_locker_84 (by decide) ?_
        refine lv_isub hx hb dX8_locker_85 ?_
        have r_h : rg ((mU (mU (mU (zX8_begins μ) 0 (upd ((zX8_begins μ) 0) (12 + (8 * ((zX8_begins μ) 0 0))).toNatClampNeg x1)) 0 (upd ((mU (zX8_begins μ) 0 (upd ((zX8_begins μ) 0) (12 + (8 * ((zX8_begins μ) 0 0))).toNatClampNeg x1)) 0) ((12 + (8 * ((zX8_begins μ) 0 0))) + 1).toNatClampNeg x2)) 0 (upd ((mU (mU (zX8_begins μ) 0 (upd ((zX8_begins μ) 0) (12 + (8 * ((zX8_begins μ) 0 0))).toNatClampNeg x1)) 0 (upd ((mU (zX8_begins μ) 0 (upd ((zX8_begins μ) 0) (12 + (8 * ((zX8_begins μ) 0 0))).toNatClampNeg x1)) 0) ((12 + (8 * ((zX8_begins μ) 0 0))) + 1).toNatClampNeg x2)) 0) 0 (((mU (mU (zX8_begins μ) 0 (upd ((zX8_begins μ) 0) (12 + (8 * ((zX8_begins μ) 0 0))).toNatClampNeg x1)) 0 (upd ((mU (zX8_begins μ) 0 (upd ((zX8_begins μ) 0) (12 + (8 * ((zX8_begins μ) 0 0))).toNatClampNeg x1)) 0) ((12 + (8 * ((zX8_begins μ) 0 0))) + 1).toNatClampNeg x2)) 0 0) + 1))) 4 0) 5 := r_h
        refine kX8_acted hF (cwV 1 hts gX8_locker_X8_acted rfl rfl rfl hdX8_acted ⟨Nat.le_of_ble_eq_true rfl, Nat.le_of_ble_eq_true rfl⟩) hC hMo hi r_h  hS (fun _ h => h) hl.1 (Nat.le_of_ble_eq_true rfl) dX8_locker_86 ⟨Nat.zero_le _, Nat.zero_le _⟩ (fun H locs hMo _ _ hS => ?_)
        exact W.iret (v := (zX8_acted (mU (mU (mU (zX8_begins μ) 0 (upd ((zX8_begins μ) 0) (12 + (8 * ((zX8_begins μ) 0 0))).toNatClampNeg x1)) 0 (upd ((mU (zX8_begins μ) 0 (upd ((zX8_begins μ) 0) (12 + (8 * ((zX8_begins μ) 0 0))).toNatClampNeg x1)) 0) ((12 + (8 * ((zX8_begins μ) 0 0))) + 1).toNatClampNeg x2)) 0 (upd ((mU (mU (zX8_begins μ) 0 (upd ((zX8_begins μ) 0) (12 + (8 * ((zX8_begins μ) 0 0))).toNatClampNeg x1)) 0 (upd ((mU (zX8_begins μ) 0 (upd ((zX8_begins μ) 0) (12 + (8 * ((zX8_begins μ) 0 0))).toNatClampNeg x1)) 0) ((12 + (8 * ((zX8_begins μ) 0 0))) + 1).toNatClampNeg x2)) 0) 0 (((mU (mU (zX8_begins μ) 0 (upd ((zX8_begins μ) 0) (12 + (8 * ((zX8_begins μ) 0 0))).toNatClampNeg x1)) 0 (upd ((mU (zX8_begins μ) 0 (upd ((zX8_begins μ) 0) (12 + (8 * ((zX8_begins μ) 0 0))).toNatClampNeg x1)) 0) ((12 + (8 * ((zX8_begins μ) 0 0))) + 1).toNatClampNeg x2)) 0 0) + 1))) (((mU (mU (mU (zX8_begins μ) 0 (upd ((zX8_begins μ) 0) (12 + (8 * ((zX8_begins μ) 0 0))).toNatClampNeg x1)) 0 (upd ((mU (zX8_begins μ) 0 (upd ((zX8_begins μ) 0) (12 + (8 * ((zX8_begins μ) 0 0))).toNatClampNeg x1)) 0) ((12 + (8 * ((zX8_begins μ) 0 0))) + 1).toNatClampNeg x2)) 0 (upd ((mU (mU (zX8_begins μ) 0 (upd ((zX8_begins μ) 0) (12 + (8 * ((zX8_begins μ) 0 0))).toNatClampNeg x1)) 0 (upd ((mU (zX8_begins μ) 0 (upd ((zX8_begins μ) 0) (12 + (8 * ((zX8_begins μ) 0 0))).toNatClampNeg x1)) 0) ((12 + (8 * ((zX8_begins μ) 0 0))) + 1).toNatClampNeg x2)) 0) 0 (((mU (mU (zX8_begins μ) 0 (upd ((zX8_begins μ) 0) (12 + (8 * ((zX8_begins μ) 0 0))).toNatClampNeg x1)) 0 (upd ((mU (zX8_begins μ) 0 (upd ((zX8_begins μ) 0) (12 + (8 * ((zX8_begins μ) 0 0))).toNatClampNeg x1)) 0) ((12 + (8 * ((zX8_begins μ) 0 0))) + 1).toNatClampNeg x2)) 0 0) + 1))) 0 0) - 1)).1) hx hb hr (fun t ht hW => ⟨⟨(zX8_acted (mU (mU (mU (zX8_begins μ) 0 (upd ((zX8_begins μ) 0) (12 + (8 * ((zX8_begins μ) 0 0))).toNatClampNeg x1)) 0 (upd ((mU (zX8_begins μ) 0 (upd ((zX8_begins μ) 0) (12 + (8 * ((zX8_begins μ) 0 0))).toNatClampNeg x1)) 0) ((12 + (8 * ((zX8_begins μ) 0 0))) + 1).toNatClampNeg x2)) 0 (upd ((mU (mU (zX8_begins μ) 0 (upd ((zX8_begins μ) 0) (12 + (8 * ((zX8_begins μ) 0 0))).toNatClampNeg x1)) 0 (upd ((mU (zX8_begins μ) 0 (upd ((zX8_begins μ) 0) (12 + (8 * ((zX8_begins μ) 0 0))).toNatClampNeg x1)) 0) ((12 + (8 * ((zX8_begins μ) 0 0))) + 1).toNatClampNeg x2)) 0) 0 (((mU (mU (zX8_begins μ) 0 (upd ((zX8_begins μ) 0) (12 + (8 * ((zX8_begins μ) 0 0))).toNatClampNeg x1)) 0 (upd ((mU (zX8_begins μ) 0 (upd ((zX8_begins μ) 0) (12 + (8 * ((zX8_begins μ) 0 0))).toNatClampNeg x1)) 0) ((12 + (8 * ((zX8_begins μ) 0 0))) + 1).toNatClampNeg x2)) 0 0) + 1))) (((mU (mU (mU (zX8_begins μ) 0 (upd ((zX8_begins μ) 0) (12 + (8 * ((zX8_begins μ) 0 0))).toNatClampNeg x1)) 0 (upd ((mU (zX8_begins μ) 0 (upd ((zX8_begins μ) 0) (12 + (8 * ((zX8_begins μ) 0 0))).toNatClampNeg x1)) 0) ((12 + (8 * ((zX8_begins μ) 0 0))) + 1).toNatClampNeg x2)) 0 (upd ((mU (mU (zX8_begins μ) 0 (upd ((zX8_begins μ) 0) (12 + (8 * ((zX8_begins μ) 0 0))).toNatClampNeg x1)) 0 (upd ((mU (zX8_begins μ) 0 (upd ((zX8_begins μ) 0) (12 + (8 * ((zX8_begins μ) 0 0))).toNatClampNeg x1)) 0) ((12 + (8 * ((zX8_begins μ) 0 0))) + 1).toNatClampNeg x2)) 0) 0 (((mU (mU (zX8_begins μ) 0 (upd ((zX8_begins μ) 0) (12 + (8 * ((zX8_begins μ) 0 0))).toNatClampNeg x1)) 0 (upd ((mU (zX8_begins μ) 0 (upd ((zX8_begins μ) 0) (12 + (8 * ((zX8_begins μ) 0 0))).toNatClampNeg x1)) 0) ((12 + (8 * ((zX8_begins μ) 0 0))) + 1).toNatClampNeg x2)) 0 0) + 1))) 0 0) - 1)).1, (zX8_acted (mU (mU (mU (zX8_begins μ) 0 (upd ((zX8_begins μ) 0) (12 + (8 * ((zX8_begins μ) 0 0))).toNatClampNeg x1)) 0 (upd ((mU (zX8_begins μ) 0 (upd ((zX8_begins μ) 0) (12 + (8 * ((zX8_begins μ) 0 0))).toNatClampNeg x1)) 0) ((12 + (8 * ((zX8_begins μ) 0 0))) + 1).toNatClampNeg x2)) 0 (upd ((mU (mU (zX8_begins μ) 0 (upd ((zX8_begins μ) 0) (12 + (8 * ((zX8_begins μ) 0 0))).toNatClampNeg x1)) 0 (upd ((mU (zX8_begins μ) 0 (upd ((zX8_begins μ) 0) (12 + (8 * ((zX8_begins μ) 0 0))).toNatClampNeg x1)) 0) ((12 + (8 * ((zX8_begins μ) 0 0))) + 1).toNatClampNeg x2)) 0) 0 (((mU (mU (zX8_begins μ) 0 (upd ((zX8_begins μ) 0) (12 + (8 * ((zX8_begins μ) 0 0))).toNatClampNeg x1)) 0 (upd ((mU (zX8_begins μ) 0 (upd ((zX8_begins μ) 0) (12 + (8 * ((zX8_begins μ) 0 0))).toNatClampNeg x1)) 0) ((12 + (8 * ((zX8_begins μ) 0 0))) + 1).toNatClampNeg x2)) 0 0) + 1))) (((mU (mU (mU (zX8_begins μ) 0 (upd ((zX8_begins μ) 0) (12 + (8 * ((zX8_begins μ) 0 0))).toNatClampNeg x1)) 0 (upd ((mU (zX8_begins μ) 0 (upd ((zX8_begins μ) 0) (12 + (8 * ((zX8_begins μ) 0 0))).toNatClampNeg x1)) 0) ((12 + (8 * ((zX8_begins μ) 0 0))) + 1).toNatClampNeg x2)) 0 (upd ((mU (mU (zX8_begins μ) 0 (upd ((zX8_begins μ) 0) (12 + (8 * ((zX8_begins μ) 0 0))).toNatClampNeg x1)) 0 (upd ((mU (zX8_begins μ) 0 (upd ((zX8_begins μ) 0) (12 + (8 * ((zX8_begins μ) 0 0))).toNatClampNeg x1)) 0) ((12 + (8 * ((zX8_begins μ) 0 0))) + 1).toNatClampNeg x2)) 0) 0 (((mU (mU (zX8_begins μ) 0 (upd ((zX8_begins μ) 0) (12 + (8 * ((zX8_begins μ) 0 0))).toNatClampNeg x1)) 0 (upd ((mU (zX8_begins μ) 0 (upd ((zX8_begins μ) 0) (12 + (8 * ((zX8_begins μ) 0 0))).toNatClampNeg x1)) 0) ((12 + (8 * ((zX8_begins μ) 0 0))) + 1).toNatClampNeg x2)) 0 0) + 1))) 0 0) - 1)).2, rfl, ⟨(by unfold zX8_locker; rw [if_neg c_1, if_neg c_2, if_neg c_4]), (by unfold zX8_locker; rw [if_neg c_1, if_neg c_2, if_neg c_4])⟩, by dsimp only; rw [ht]; exact hMo⟩, hS.F ht⟩) hS.2.2 dX8_locker_89
      · refine lv_bipush (v := (-3)) hx hb dX8_locker_35 (by decide) ?_
        exact W.iret (v := (-3)) hx hb hr (fun t ht hW => ⟨⟨(-3), (zX8_begins μ), rfl, ⟨(by unfold zX8_locker; rw [if_neg c_1, if_neg c_2, if_pos c_4]), (by unfold zX8_locker; rw [if_neg c_1, if_neg c_2, if_pos c_4])⟩, by dsimp only; rw [ht]; exact hMo⟩, hS.F ht⟩) hS.2.2 dX8_locker_37
    · refine lv_iconst (v := (-1)) hx hb dX8_locker_23 (by decide) ?_
      exact W.iret (v := (-1)) hx hb hr (fun t ht hW => ⟨⟨(-1), (zX8_begins μ), rfl, ⟨(by unfold zX8_locker; rw [if_neg c_1, if_pos c_2]), (by unfold zX8_locker; rw [if_neg c_1, if_pos c_2])⟩, by dsimp only; rw [ht]; exact hMo⟩, hS.F ht⟩) hS.2.2 dX8_locker_24
set_option maxHeartbeats 4000000 in
set_option maxRecDepth 100000 in
theorem kX8_locker {p : Program} {l : Launch} {e : Env} {R : Room} {s : State} {m : MethodId} {args : Array Value} {below : List Frame} {meth : Method} {c : Code} {H : Heap} {locs : List Loc} {cells slots : Nat} {Q : State → Prop} {cc : ByteArray} {nL : Nat} {Ts : List Cond} {own : String} {index pc : Nat} {ls : Array Slot} {rest : List Value} {D : va_G} {y : Y3} {mo : Nat → Nat} {μ : Sg} {x1 : Int32} {x2 : Int32} {A0 : Nat → Prop} {H0 : Heap} (hF : CallFix p m c cc nL s args Ts own) (cw : CallW R s args own RX8 index yX8_locker cX8_locker 4 (some .int) wsX8_locker ({ frames := 2, cells := 0, slots := 0, locals := 43 } : Room) 0 0 2) (hC : CK D y s) (hMo : MoH D y mo μ H) (hi : moI mo) (hInv : InvM μ) (r_h : rg (μ 4 0) 5) (hS : va_S A0 H0 H locs) (hA : ∀ q, (moA mo) q → A0 q) (hsz : ls.size = nL) (hW : (rest.map fun v => v.category).sum ≤ 8) (hdg : decode cc pc = .ok (.invokevirtual index, 3)) (hf : cells ≤ R.cells ∧ slots ≤ R.slots)
    (k : ∀ (H1 : Heap) (locs1 : List Loc), MoH D y mo (zX8_locker μ x1 x2).2 H1 → H.size ≤ H1.size → (∀ q : Nat, q < H.size → ¬ (moA mo) q → H1[q]? = H[q]?) → va_S A0 H0 H1 locs1 → W p l e R s m args below meth c H1 locs1 cells slots Q (F0 m (pc + 3) ls (.int ((zX8_locker μ x1 x2).1) :: rest))) : W p l e R s m args below meth c H locs cells slots Q (F0 m pc ls (.int x2 :: .int x1 :: .ref (mo 0) :: rest)) := by
  refine va_calli (va_runV (As := [.int x1, .int x2]) (rest := rest) hF (mX8_locker l D y mo μ x1 x2) cw ⟨fun a U g mk q => by obtain ⟨q0, q1, q2, q3, q4, q5⟩ := q; exact ⟨q0, q1.call g mk a, q2, q3, q4, q5⟩, va_recv hC.1 hMo (ci := 8) (q0 := 0) rfl rfl, fun U hU hW => ⟨rfl, hC.warm hW, by rw [hU]; exact hMo, hi, hInv, r_h⟩⟩ rfl rfl hsz rfl (lv_room hW) hdg ⟨hf.1, hf.2⟩) hS (fun q _ h => hA q h) hA (fun r u t H1 locs1 ht hvm hp hB hz1 hk1 hS1 => ?_)
  obtain ⟨hp1, hp2⟩ := hp
  subst hp1; subst hp2
  rw [ht] at hB
  exact k H1 locs1 hB hz1 hk1 hS1
def zX8_meal (μ : Sg) (x1 : Int32) (x2 : Int32) (x3 : Int32) : Int32 × Sg := if (zX8_isLocker (zX8_begins μ) x1) = 0 then ((zX8_acted (zX8_begins μ) (-1)).1, (zX8_acted (zX8_begins μ) (-1)).2)
  else (if (zX8_in x2 1 99) = 0 then ((zX8_acted (zX8_begins μ) (-1)).1, (zX8_acted (zX8_begins μ) (-1)).2)
    else (if (zX8_in x3 0 31) = 0 then ((zX8_acted (zX8_begins μ) (-1)).1, (zX8_acted (zX8_begins μ) (-1)).2)
      else ((zX8_acted ((zX8_addsMeal (zX8_begins μ) x1 x2 x3).2) ((zX8_addsMeal (zX8_begins μ) x1 x2 x3).1)).1, (zX8_acted ((zX8_addsMeal (zX8_begins μ) x1 x2 x3).2) ((zX8_addsMeal (zX8_begins μ) x1 x2 x3).1)).2)))
theorem hdX8_meal : yX8_meal.cls = RX8 ∧ yX8_meal.cls ≠ "java/lang/invoke/MethodHandle" ∧ yX8_meal.cls ≠ "java/lang/invoke/VarHandle" ∧ (parseMethodDescriptor yX8_meal.desc).map (fun d => d.parameters.length) = some 3 := by decide +kernel
set_option maxHeartbeats 4000000 in
set_option maxRecDepth 100000 in
theorem mX8_meal (l : Launch) (D : va_G) (y : Y3) (mo : Nat → Nat) (μ : Sg) (x1 : Int32) (x2 : Int32) (x3 : Int32) : Met l yX8_meal wsX8_meal ({ frames := 5, cells := 0, slots := 0, locals := 114 } : Room) (va_Pc [.ref (mo 0), .int x1, .int x2, .int x3] (fun U => CK D y U ∧ MoH D y mo μ U.heap ∧ moI mo ∧ InvM μ ∧ rg (μ 4 0) 5)) (va_Qi (fun (r : Int32) (u : Sg) => r = (zX8_meal μ x1 x2 x3).1 ∧ u = (zX8_meal μ x1 x2 x3).2) (fun u t => MoH D y mo u t.heap) (moA mo)) 0 0 (moA mo) := by
  refine Met.ofW (cc := cX8_meal) (maxL := 5) (ret := (some .int)) (by decide) rfl ?_
  intro p e s m args below meth c s₁ B hml hv
  obtain ⟨rfl, hC, hMo, hi, hInv, r_h⟩ := hv
  have hx := B.exec
  have hb := B.bytes
  have hr := B.returns
  have hts := atoms_spec (ws := wsX8_meal) B.pre
  have hown : s.vm.findClass RX8 = some m.cls := findClass_of_methodNamed B.named
  have hlocks := B.notSynchronized
  have hF := (⟨hx, hb, hml, hown, hts⟩ : CallFix p m c cX8_meal 5 s _ wsX8_meal RX8)
  have hS : va_S (moA mo) s.heap s.heap [] := va_S.rf
  have hl := lv_entry ([.ref (mo 0), .int x1, .int x2, .int x3]) (n := 5) (Nat.le_of_ble_eq_true rfl)
  rw [lg_entry_eq]
  generalize (lg_sl ([.ref (mo 0), .int x1, .int x2, .int x3]) ++ List.replicate (5 - (lg_sl ([.ref (mo 0), .int x1, .int x2, .int x3])).length) Slot.unset).toArray = ls at hl ⊢
  have hl : lv_has ls 5 [(0, .ref (mo 0)), (1, .int x1), (2, .int x2), (3, .int x3)] := hl
  refine lv_aload_n hx hb dX8_meal_0 rfl (lv_at hl 0 rfl) ?_
  refine kX8_begins hF (cwV 0 hts gX8_meal_X8_begins rfl rfl rfl hdX8_begins ⟨Nat.le_of_ble_eq_true rfl, Nat.le_of_ble_eq_true rfl⟩) hC hMo hi  hS (fun _ h => h) hl.1 (Nat.le_of_ble_eq_true rfl) dX8_meal_1 ⟨Nat.zero_le _, Nat.zero_le _⟩ (fun H locs hMo _ _ hS => ?_)
  have hInv := inv_begins hInv
  refine lv_aload_n hx hb dX8_meal_4 rfl (lv_at hl 0 rfl) ?_
  refine lv_iload_n hx hb dX8_meal_5 rfl (lv_at hl 1 rfl) ?_
  refine kX8_isLocker hF (cwV 1 hts gX8_meal_X8_isLocker rfl rfl rfl hdX8_isLocker ⟨Nat.le_of_ble_eq_true rfl, Nat.le_of_ble_eq_true rfl⟩) hC hMo  hl.1 (Nat.le_of_ble_eq_true rfl) dX8_meal_6 ⟨Nat.zero_le _, Nat.zero_le _⟩ ?_
  refine lv_if_eq (tgt := 36) hx hb dX8_meal_9 (by decide) (fun c_1 => ?_) (fun c_1 => ?_)
  · refine lv_iconst (v := 0) hx hb dX8_meal_36 (by decide) ?_
    refine lv_istore (lv' := [(4, .int 0), (0, .ref (mo 0)), (1, .int x1), (2, .int x2), (3, .int x3)]) hx hb dX8_meal_37 hl (by decide) rfl (fun ls hl => ?_)
    refine lv_aload_n hx hb dX8_meal_39 rfl (lv_at hl 1 rfl) ?_
    refine lv_iload hx hb dX8_meal_40 (lv_at hl 0 rfl) ?_
    refine lv_if_eq (tgt := 55) hx hb dX8_meal_42 (by decide) (fun _ => ?_) (fun c_2 => absurd (by decide) c_2)
    refine lv_iconst (v := (-1)) hx hb dX8_meal_55 (by decide) ?_
    have r_h : rg ((zX8_begins μ) 4 0) 5 := r_h
    refine kX8_acted hF (cwV 1 hts gX8_meal_X8_acted rfl rfl rfl hdX8_acted ⟨Nat.le_of_ble_eq_true rfl, Nat.le_of_ble_eq_true rfl⟩) hC hMo hi r_h  hS (fun _ h => h) hl.1 (Nat.le_of_ble_eq_true rfl) dX8_meal_56 ⟨Nat.zero_le _, Nat.zero_le _⟩ (fun H locs hMo _ _ hS => ?_)
    exact W.iret (v := (zX8_acted (zX8_begins μ) (-1)).1) hx hb hr (fun t ht hW => ⟨⟨(zX8_acted (zX8_begins μ) (-1)).1, (zX8_acted (zX8_begins μ) (-1)).2, rfl, ⟨(by unfold zX8_meal; rw [if_pos c_1]), (by unfold zX8_meal; rw [if_pos c_1])⟩, by dsimp only; rw [ht]; exact hMo⟩, hS.F ht⟩) hS.2.2 dX8_meal_59
  · have f_3 : rg x1 5 := rg_isL hInv c_1
    refine lv_iload_n hx hb dX8_meal_12 rfl (lv_at hl 2 rfl) ?_
    refine lv_iconst (v := 1) hx hb dX8_meal_13 (by decide) ?_
    refine lv_bipush (v := 99) hx hb dX8_meal_14 (by decide) ?_
    refine kX8_in hF (cwS 3 hts gX8_meal_X8_in rfl rfl rfl (by decide +kernel) ⟨Nat.le_of_ble_eq_true rfl, Nat.le_of_ble_eq_true rfl⟩) hC hl.1 (Nat.le_of_ble_eq_true rfl) dX8_meal_16 ⟨Nat.zero_le _, Nat.zero_le _⟩ ?_
    refine lv_if_eq (tgt := 36) hx hb dX8_meal_19 (by decide) (fun c_4 => ?_) (fun c_4 => ?_)
    · refine lv_iconst (v := 0) hx hb dX8_meal_36 (by decide) ?_
      refine lv_istore (lv' := [(4, .int 0), (0, .ref (mo 0)), (1, .int x1), (2, .int x2), (3, .int x3)]) hx hb dX8_meal_37 hl (by decide) rfl (fun ls hl => ?_)
      refine lv_aload_n hx hb dX8_meal_39 rfl (lv_at hl 1 rfl) ?_
      refine lv_iload hx hb dX8_meal_40 (lv_at hl 0 rfl) ?_
      refine lv_if_eq (tgt := 55) hx hb dX8_meal_42 (by decide) (fun _ => ?_) (fun c_5 => absurd (by decide) c_5)
      refine lv_iconst (v := (-1)) hx hb dX8_meal_55 (by decide) ?_
      have r_h : rg ((zX8_begins μ) 4 0) 5 := r_h
      refine kX8_acted hF (cwV 1 hts gX8_meal_X8_acted rfl rfl rfl hdX8_acted ⟨Nat.le_of_ble_eq_true rfl, Nat.le_of_ble_eq_true rfl⟩) hC hMo hi r_h  hS (fun _ h => h) hl.1 (Nat.le_of_ble_eq_true rfl) dX8_meal_56 ⟨Nat.zero_le _, Nat.zero_le _⟩ (fun H locs hMo _ _ hS => ?_)
      exact W.iret (v := (zX8_acted (zX8_begins μ) (-1)).1) hx hb hr (fun t ht hW => ⟨⟨(zX8_acted (zX8_begins μ) (-1)).1, (zX8_acted (zX8_begins μ) (-1)).2, rfl, ⟨(by unfold zX8_meal; rw [if_neg c_1, if_pos c_4]), (by unfold zX8_meal; rw [if_neg c_1, if_pos c_4])⟩, by dsimp only; rw [ht]; exact hMo⟩, hS.F ht⟩) hS.2.2 dX8_meal_59
    · refine lv_iload_n hx hb dX8_meal_22 rfl (lv_at hl 3 rfl) ?_
      refine lv_iconst (v := 0) hx hb dX8_meal_23 (by decide) ?_
      refine lv_bipush (v := 31) hx hb dX8_meal_24 (by decide) ?_
      refine kX8_in hF (cwS 3 hts gX8_meal_X8_in rfl rfl rfl (by decide +kernel) ⟨Nat.le_of_ble_eq_true rfl, Nat.le_of_ble_eq_true rfl⟩) hC hl.1 (Nat.le_of_ble_eq_true rfl) dX8_meal_26 ⟨Nat.zero_le _, Nat.zero_le _⟩ ?_
      refine lv_if_eq (tgt := 36) hx hb dX8_meal_29 (by decide) (fun c_6 => ?_) (fun c_6 => ?_)
      · refine lv_iconst (v := 0) hx hb dX8_meal_36 (by decide) ?_
        refine lv_istore (lv' := [(4, .int 0), (0, .ref (mo 0)), (1, .int x1), (2, .int x2), (3, .int x3)]) hx hb dX8_meal_37 hl (by decide) rfl (fun ls hl => ?_)
        refine lv_aload_n hx hb dX8_meal_39 rfl (lv_at hl 1 rfl) ?_
        refine lv_iload hx hb dX8_meal_40 (lv_at hl 0 rfl) ?_
        refine lv_if_eq (tgt := 55) hx hb dX8_meal_42 (by decide) (fun _ => ?_) (fun c_7 => absurd (by decide) c_7)
        refine lv_iconst (v := (-1)) hx hb dX8_meal_55 (by decide) ?_
        have r_h : rg ((zX8_begins μ) 4 0) 5 := r_h
        refine kX8_acted hF (cwV 1 hts gX8_meal_X8_acted rfl rfl rfl hdX8_acted ⟨Nat.le_of_ble_eq_true rfl, Nat.le_of_ble_eq_true rfl⟩) hC hMo hi r_h  hS (fun _ h => h) hl.1 (Nat.le_of_ble_eq_true rfl) dX8_meal_56 ⟨Nat.zero_le _, Nat.zero_le _⟩ (fun H locs hMo _ _ hS => ?_)
        exact W.iret (v := (zX8_acted (zX8_begins μ) (-1)).1) hx hb hr (fun t ht hW => ⟨⟨(zX8_acted (zX8_begins μ) (-1)).1, (zX8_acted (zX8_begins μ) (-1)).2, rfl, ⟨(by unfold zX8_meal; rw [if_neg c_1, if_neg c_4, if_pos c_6]), (by unfold zX8_meal; rw [if_neg c_1, if_neg c_4, if_pos c_6])⟩, by dsimp only; rw [ht]; exact hMo⟩, hS.F ht⟩) hS.2.2 dX8_meal_59
      · have f_8 : rg x3 32 := rg_in c_6
        refine lv_iconst (v := 1) hx hb dX8_meal_32 (by decide) ?_
        refine lv_goto (tgt := 37) hx hb dX8_meal_33 (by decide) ?_
        refine lv_istore (lv' := [(4, .int 1), (0, .ref (mo 0)), (1, .int x1), (2, .int x2), (3, .int x3)]) hx hb dX8_meal_37 hl (by decide) rfl (fun ls hl => ?_)
        refine lv_aload_n hx hb dX8_meal_39 rfl (lv_at hl 1 rfl) ?_
        refine lv_iload hx hb dX8_meal_40 (lv_at hl 0 rfl) ?_
        refine lv_if_eq (tgt := 55) hx hb dX8_meal_42 (by decide) (fun c_9 => absurd c_9 (by decide)) (fun _ => ?_)
        refine lv_aload_n hx hb dX8_meal_45 rfl (lv_at hl 1 rfl) ?_
        refine lv_iload_n hx hb dX8_meal_46 rfl (lv_at hl 2 rfl) ?_
        refine lv_iload_n hx hb dX8_meal_47 rfl (lv_at hl 3 rfl) ?_
        refine lv_iload_n hx hb dX8_meal_48 rfl (lv_at hl 4 rfl) ?_
        refine kX8_addsMeal hF (cwV 3 hts gX8_meal_X8_addsMeal rfl rfl rfl hdX8_addsMeal ⟨Nat.le_of_ble_eq_true rfl, Nat.le_of_ble_eq_true rfl⟩) hC hMo hi hInv f_3 hS (fun _ h => h) hl.1 (Nat.le_of_ble_eq_true rfl) dX8_meal_49 ⟨Nat.zero_le _, Nat.zero_le _⟩ (fun H locs hMo _ _ hS => ?_)
        refine lv_goto (tgt := 56) hx hb dX8_meal_52 (by decide) ?_
        have r_h : rg (((zX8_addsMeal (zX8_begins μ) x1 x2 x3).2) 4 0) 5 := (r_eq (row4_addsMeal _ _ _ _) r_h)
        refine kX8_acted hF (cwV 1 hts gX8_meal_X8_acted rfl rfl rfl hdX8_acted ⟨Nat.le_of_ble_eq_true rfl, Nat.le_of_ble_eq_true rfl⟩) hC hMo hi r_h  hS (fun _ h => h) hl.1 (Nat.le_of_ble_eq_true rfl) dX8_meal_56 ⟨Nat.zero_le _, Nat.zero_le _⟩ (fun H locs hMo _ _ hS => ?_)
        exact W.iret (v := (zX8_acted ((zX8_addsMeal (zX8_begins μ) x1 x2 x3).2) ((zX8_addsMeal (zX8_begins μ) x1 x2 x3).1)).1) hx hb hr (fun t ht hW => ⟨⟨(zX8_acted ((zX8_addsMeal (zX8_begins μ) x1 x2 x3).2) ((zX8_addsMeal (zX8_begins μ) x1 x2 x3).1)).1, (zX8_acted ((zX8_addsMeal (zX8_begins μ) x1 x2 x3).2) ((zX8_addsMeal (zX8_begins μ) x1 x2 x3).1)).2, rfl, ⟨(by unfold zX8_meal; rw [if_neg c_1, if_neg c_4, if_neg c_6]), (by unfold zX8_meal; rw [if_neg c_1, if_neg c_4, if_neg c_6])⟩, by dsimp only; rw [ht]; exact hMo⟩, hS.F ht⟩) hS.2.2 dX8_meal_59
set_option maxHeartbeats 4000000 in
set_option maxRecDepth 100000 in
theorem kX8_meal {p : Program} {l : Launch} {e : Env} {R : Room} {s : State} {m : MethodId} {args : Array Value} {below : List Frame} {meth : Method} {c : Code} {H : Heap} {locs : List Loc} {cells slots : Nat} {Q : State → Prop} {cc : ByteArray} {nL : Nat} {Ts : List Cond} {own : String} {index pc : Nat} {ls : Array Slot} {rest : List Value} {D : va_G} {y : Y3} {mo : Nat → Nat} {μ : Sg} {x1 : Int32} {x2 : Int32} {x3 : Int32} {A0 : Nat → Prop} {H0 : Heap} (hF : CallFix p m c cc nL s args Ts own) (cw : CallW R s args own RX8 index yX8_meal cX8_meal 5 (some .int) wsX8_meal ({ frames := 5, cells := 0, slots := 0, locals := 114 } : Room) 0 0 3) (hC : CK D y s) (hMo : MoH D y mo μ H) (hi : moI mo) (hInv : InvM μ) (r_h : rg (μ 4 0) 5) (hS : va_S A0 H0 H locs) (hA : ∀ q, (moA mo) q → A0 q) (hsz : ls.size = nL) (hW : (rest.map fun v => v.category).sum ≤ 8) (hdg : decode cc pc = .ok (.invokevirtual index, 3)) (hf : cells ≤ R.cells ∧ slots ≤ R.slots)
    (k : ∀ (H1 : Heap) (locs1 : List Loc), MoH D y mo (zX8_meal μ x1 x2 x3).2 H1 → H.size ≤ H1.size → (∀ q : Nat, q < H.size → ¬ (moA mo) q → H1[q]? = H[q]?) → va_S A0 H0 H1 locs1 → W p l e R s m args below meth c H1 locs1 cells slots Q (F0 m (pc + 3) ls (.int ((zX8_meal μ x1 x2 x3).1) :: rest))) : W p l e R s m args below meth c H locs cells slots Q (F0 m pc ls (.int x3 :: .int x2 :: .int x1 :: .ref (mo 0) :: rest)) := by
  refine va_calli (va_runV (As := [.int x1, .int x2, .int x3]) (rest := rest) hF (mX8_meal l D y mo μ x1 x2 x3) cw ⟨fun a U g mk q => by obtain ⟨q0, q1, q2, q3, q4, q5⟩ := q; exact ⟨q0, q1.call g mk a, q2, q3, q4, q5⟩, va_recv hC.1 hMo (ci := 8) (q0 := 0) rfl rfl, fun U hU hW => ⟨rfl, hC.warm hW, by rw [hU]; exact hMo, hi, hInv, r_h⟩⟩ rfl rfl hsz rfl (lv_room hW) hdg ⟨hf.1, hf.2⟩) hS (fun q _ h => hA q h) hA (fun r u t H1 locs1 ht hvm hp hB hz1 hk1 hS1 => ?_)
  obtain ⟨hp1, hp2⟩ := hp
  subst hp1; subst hp2
  rw [ht] at hB
  exact k H1 locs1 hB hz1 hk1 hS1
def zX8_person (μ : Sg) (x1 : Int32) : Int32 × Sg := if (zX8_in x1 0 31) = 0 then ((-1), (zX8_begins μ))
  else (if ((zX8_begins μ) 0 2) = 8 then ((-3), (zX8_begins μ))
    else ((zX8_acted (mU (zX8_setPerson (zX8_begins μ) ((zX8_begins μ) 0 2) 0 x1) 0 (upd ((zX8_setPerson (zX8_begins μ) ((zX8_begins μ) 0 2) 0 x1) 0) 2 (((zX8_setPerson (zX8_begins μ) ((zX8_begins μ) 0 2) 0 x1) 0 2) + 1))) (((mU (zX8_setPerson (zX8_begins μ) ((zX8_begins μ) 0 2) 0 x1) 0 (upd ((zX8_setPerson (zX8_begins μ) ((zX8_begins μ) 0 2) 0 x1) 0) 2 (((zX8_setPerson (zX8_begins μ) ((zX8_begins μ) 0 2) 0 x1) 0 2) + 1))) 0 2) - 1)).1, (zX8_acted (mU (zX8_setPerson (zX8_begins μ) ((zX8_begins μ) 0 2) 0 x1) 0 (upd ((zX8_setPerson (zX8_begins μ) ((zX8_begins μ) 0 2) 0 x1) 0) 2 (((zX8_setPerson (zX8_begins μ) ((zX8_begins μ) 0 2) 0 x1) 0 2) + 1))) (((mU (zX8_setPerson (zX8_begins μ) ((zX8_begins μ) 0 2) 0 x1) 0 (upd ((zX8_setPerson (zX8_begins μ) ((zX8_begins μ) 0 2) 0 x1) 0) 2 (((zX8_setPerson (zX8_begins μ) ((zX8_begins μ) 0 2) 0 x1) 0 2) + 1))) 0 2) - 1)).2))
theorem iwX8_person_X8 : ∀ w ∈ wsX80, w ∈ wsX8_person := fun _ h => List.mem_cons_of_mem _ (List.mem_append_right _ h)
theorem hdX8_person : yX8_person.cls = RX8 ∧ yX8_person.cls ≠ "java/lang/invoke/MethodHandle" ∧ yX8_person.cls ≠ "java/lang/invoke/VarHandle" ∧ (parseMethodDescriptor yX8_person.desc).map (fun d => d.parameters.length) = some 1 := by decide +kernel
set_option maxHeartbeats 4000000 in
set_option maxRecDepth 100000 in
theorem mX8_person (l : Launch) (D : va_G) (y : Y3) (mo : Nat → Nat) (μ : Sg) (x1 : Int32) : Met l yX8_person wsX8_person ({ frames := 2, cells := 0, slots := 0, locals := 43 } : Room) (va_Pc [.ref (mo 0), .int x1] (fun U => CK D y U ∧ MoH D y mo μ U.heap ∧ moI mo ∧ InvM μ ∧ rg (μ 4 0) 5)) (va_Qi (fun (r : Int32) (u : Sg) => r = (zX8_person μ x1).1 ∧ u = (zX8_person μ x1).2) (fun u t => MoH D y mo u t.heap) (moA mo)) 0 0 (moA mo) := by
  refine Met.ofW (cc := cX8_person) (maxL := 2) (ret := (some .int)) (by decide) rfl ?_
  intro p e s m args below meth c s₁ B hml hv
  obtain ⟨rfl, hC, hMo, hi, hInv, r_h⟩ := hv
  have hx := B.exec
  have hb := B.bytes
  have hr := B.returns
  have hts := atoms_spec (ws := wsX8_person) B.pre
  have hown : s.vm.findClass RX8 = some m.cls := findClass_of_methodNamed B.named
  have hlocks := B.notSynchronized
  have hF := (⟨hx, hb, hml, hown, hts⟩ : CallFix p m c cX8_person 2 s _ wsX8_person RX8)
  have hS : va_S (moA mo) s.heap s.heap [] := va_S.rf
  have hl := lv_entry ([.ref (mo 0), .int x1]) (n := 2) (Nat.le_of_ble_eq_true rfl)
  rw [lg_entry_eq]
  generalize (lg_sl ([.ref (mo 0), .int x1]) ++ List.replicate (2 - (lg_sl ([.ref (mo 0), .int x1])).length) Slot.unset).toArray = ls at hl ⊢
  have hl : lv_has ls 2 [(0, .ref (mo 0)), (1, .int x1)] := hl
  refine lv_aload_n hx hb dX8_person_0 rfl (lv_at hl 0 rfl) ?_
  refine kX8_begins hF (cwV 0 hts gX8_person_X8_begins rfl rfl rfl hdX8_begins ⟨Nat.le_of_ble_eq_true rfl, Nat.le_of_ble_eq_true rfl⟩) hC hMo hi  hS (fun _ h => h) hl.1 (Nat.le_of_ble_eq_true rfl) dX8_person_1 ⟨Nat.zero_le _, Nat.zero_le _⟩ (fun H locs hMo _ _ hS => ?_)
  have hInv := inv_begins hInv
  refine lv_iload_n hx hb dX8_person_4 rfl (lv_at hl 1 rfl) ?_
  refine lv_iconst (v := 0) hx hb dX8_person_5 (by decide) ?_
  refine lv_bipush (v := 31) hx hb dX8_person_6 (by decide) ?_
  refine kX8_in hF (cwS 3 hts gX8_person_X8_in rfl rfl rfl (by decide +kernel) ⟨Nat.le_of_ble_eq_true rfl, Nat.le_of_ble_eq_true rfl⟩) hC hl.1 (Nat.le_of_ble_eq_true rfl) dX8_person_8 ⟨Nat.zero_le _, Nat.zero_le _⟩ ?_
  refine lv_if_ne (tgt := 16) hx hb dX8_person_11 (by decide) (fun c_1 => ?_) (fun c_1 => ?_)
  · have f_2 : rg x1 32 := rg_in c_1
    refine lv_aload_n hx hb dX8_person_16 rfl (lv_at hl 0 rfl) ?_
    refine va_get (D := D) (ci := 8) (v := .ref (mo 1)) (C := RX8) (T := TX8) (N := 10) hx hb hts iwX8_person_X8 hown hC.1 hMo 0 rfl rfl 0 (by decide) (hts (.fieldLink RX8 7 "MealLockersModel" "s" "[I") (List.mem_of_getElem? (i := 1) rfl)) (fun _ h9 => h9) rfl dX8_person_17 ?_
    refine lv_iconst (v := 2) hx hb dX8_person_20 (by decide) ?_
    refine va_iald hx hb hC.1 hMo 1 0 rfl rfl (vpl (by decide)) dX8_person_21 ?_
    rw [cl_2]
    refine lv_bipush (v := 8) hx hb dX8_person_22 (by decide) ?_
    refine lv_icmp_ne (tgt := 30) hx hb dX8_person_24 (by decide) (fun c_3 => ?_) (fun c_3 => ?_)
    · have f_4 : rg ((zX8_begins μ) 0 2) 8 := rg_ne8 hInv.2.2.1 c_3
      refine lv_aload_n hx hb dX8_person_30 rfl (lv_at hl 0 rfl) ?_
      refine lv_aload_n hx hb dX8_person_31 rfl (lv_at hl 0 rfl) ?_
      refine va_get (D := D) (ci := 8) (v := .ref (mo 1)) (C := RX8) (T := TX8) (N := 10) hx hb hts iwX8_person_X8 hown hC.1 hMo 0 rfl rfl 0 (by decide) (hts (.fieldLink RX8 7 "MealLockersModel" "s" "[I") (List.mem_of_getElem? (i := 1) rfl)) (fun _ h9 => h9) rfl dX8_person_32 ?_
      refine lv_iconst (v := 2) hx hb dX8_person_35 (by decide) ?_
      refine va_iald hx hb hC.1 hMo 1 0 rfl rfl (vpl (by decide)) dX8_person_36 ?_
      rw [cl_2]
      refine lv_iconst (v := 0) hx hb dX8_person_37 (by decide) ?_
      refine lv_iload_n hx hb dX8_person_38 rfl (lv_at hl 1 rfl) ?_
      refine kX8_setPerson hF (cwV 3 hts gX8_person_X8_setPerson rfl rfl rfl hdX8_setPerson ⟨Nat.le_of_ble_eq_true rfl, Nat.le_of_ble_eq_true rfl⟩) hC hMo hi f_4 (by decide) hS (fun _ h => h) hl.1 (Nat.le_of_ble_eq_true rfl) dX8_person_39 ⟨Nat.zero_le _, Nat.zero_le _⟩ (fun H locs hMo _ _ hS => ?_)
      have hInv := inv_setPerson (w := 0) (v := x1) hInv f_4 (by decide)
      refine lv_aload_n hx hb dX8_person_42 rfl (lv_at hl 0 rfl) ?_
      refine va_get (D := D) (ci := 8) (v := .ref (mo 1)) (C := RX8) (T := TX8) (N := 10) hx hb hts iwX8_person_X8 hown hC.1 hMo 0 rfl rfl 0 (by decide) (hts (.fieldLink RX8 7 "MealLockersModel" "s" "[I") (List.mem_of_getElem? (i := 1) rfl)) (fun _ h9 => h9) rfl dX8_person_43 ?_
      refine lv_iconst (v := 2) hx hb dX8_person_46 (by decide) ?_
      refine lv_dup2_11 hx hb dX8_person_47 rfl rfl ?_
      refine va_iald hx hb hC.1 hMo 1 0 rfl rfl (vpl (by decide)) dX8_person_48 ?_
      rw [cl_2]
      refine lv_iconst (v := 1) hx hb dX8_person_49 (by decide) ?_
      refine lv_iadd hx hb dX8_person_50 ?_
      refine va_iast hx hb hC.1 hMo (mo_D hi) hS 1 0 rfl rfl (vpl (by decide)) dX8_person_51 (fun H locs hMo _ hS => ?_)
      rw [cl_2] at hMo
      have hMo := mo_row1 hMo
      refine lv_aload_n hx hb dX8_person_52 rfl (lv_at hl 0 rfl) ?_
      refine lv_aload_n hx hb dX8_person_53 rfl (lv_at hl 0 rfl) ?_
      refine va_get (D := D) (ci := 8) (v := .ref (mo 1)) (C := RX8) (T := TX8) (N := 10) hx hb hts iwX8_person_X8 hown hC.1 hMo 0 rfl rfl 0 (by decide) (hts (.fieldLink RX8 7 "MealLockersModel" "s" "[I") (List.mem_of_getElem? (i := 1) rfl)) (fun _ h9 => h9) rfl dX8_person_54 ?_
      refine lv_iconst (v := 2) hx hb dX8_person_57 (by decide) ?_
      refine va_iald hx hb hC.1 hMo 1 0 rfl rfl (vpl (by decide)) dX8_person_58 ?_
      rw [cl_2]
      refine lv_iconst (v := 1) hx hb dX8_person_59 (by decide) ?_
      refine lv_isub hx hb dX8_person_60 ?_
      have r_h : rg ((mU (zX8_setPerson (zX8_begins μ) ((zX8_begins μ) 0 2) 0 x1) 0 (upd ((zX8_setPerson (zX8_begins μ) ((zX8_begins μ) 0 2) 0 x1) 0) 2 (((zX8_setPerson (zX8_begins μ) ((zX8_begins μ) 0 2) 0 x1) 0 2) + 1))) 4 0) 5 := r_h
      refine kX8_acted hF (cwV 1 hts gX8_person_X8_acted rfl rfl rfl hdX8_acted ⟨Nat.le_of_ble_eq_true rfl, Nat.le_of_ble_eq_true rfl⟩) hC hMo hi r_h  hS (fun _ h => h) hl.1 (Nat.le_of_ble_eq_true rfl) dX8_person_61 ⟨Nat.zero_le _, Nat.zero_le _⟩ (fun H locs hMo _ _ hS => ?_)
      exact W.iret (v := (zX8_acted (mU (zX8_setPerson (zX8_begins μ) ((zX8_begins μ) 0 2) 0 x1) 0 (upd ((zX8_setPerson (zX8_begins μ) ((zX8_begins μ) 0 2) 0 x1) 0) 2 (((zX8_setPerson (zX8_begins μ) ((zX8_begins μ) 0 2) 0 x1) 0 2) + 1))) (((mU (zX8_setPerson (zX8_begins μ) ((zX8_begins μ) 0 2) 0 x1) 0 (upd ((zX8_setPerson (zX8_begins μ) ((zX8_begins μ) 0 2) 0 x1) 0) 2 (((zX8_setPerson (zX8_begins μ) ((zX8_begins μ) 0 2) 0 x1) 0 2) + 1))) 0 2) - 1)).1) hx hb hr (fun t ht hW => ⟨⟨(zX8_acted (mU (zX8_setPerson (zX8_begins μ) ((zX8_begins μ) 0 2) 0 x1) 0 (upd ((zX8_setPerson (zX8_begins μ) ((zX8_begins μ) 0 2) 0 x1) 0) 2 (((zX8_setPerson (zX8_begins μ) ((zX8_begins μ) 0 2) 0 x1) 0 2) + 1))) (((mU (zX8_setPerson (zX8_begins μ) ((zX8_begins μ) 0 2) 0 x1) 0 (upd ((zX8_setPerson (zX8_begins μ) ((zX8_begins μ) 0 2) 0 x1) 0) 2 (((zX8_setPerson (zX8_begins μ) ((zX8_begins μ) 0 2) 0 x1) 0 2) + 1))) 0 2) - 1)).1, (zX8_acted (mU (zX8_setPerson (zX8_begins μ) ((zX8_begins μ) 0 2) 0 x1) 0 (upd ((zX8_setPerson (zX8_begins μ) ((zX8_begins μ) 0 2) 0 x1) 0) 2 (((zX8_setPerson (zX8_begins μ) ((zX8_begins μ) 0 2) 0 x1) 0 2) + 1))) (((mU (zX8_setPerson (zX8_begins μ) ((zX8_begins μ) 0 2) 0 x1) 0 (upd ((zX8_setPerson (zX8_begins μ) ((zX8_begins μ) 0 2) 0 x1) 0) 2 (((zX8_setPerson (zX8_begins μ) ((zX8_begins μ) 0 2) 0 x1) 0 2) + 1))) 0 2) - 1)).2, rfl, ⟨(by unfold zX8_person; rw [if_neg c_1, if_neg c_3]), (by unfold zX8_person; rw [if_neg c_1, if_neg c_3])⟩, by dsimp only; rw [ht]; exact hMo⟩, hS.F ht⟩) hS.2.2 dX8_person_64
    · refine lv_bipush (v := (-3)) hx hb dX8_person_27 (by decide) ?_
      exact W.iret (v := (-3)) hx hb hr (fun t ht hW => ⟨⟨(-3), (zX8_begins μ), rfl, ⟨(by unfold zX8_person; rw [if_neg c_1, if_pos c_3]), (by unfold zX8_person; rw [if_neg c_1, if_pos c_3])⟩, by dsimp only; rw [ht]; exact hMo⟩, hS.F ht⟩) hS.2.2 dX8_person_29
  · refine lv_iconst (v := (-1)) hx hb dX8_person_14 (by decide) ?_
    exact W.iret (v := (-1)) hx hb hr (fun t ht hW => ⟨⟨(-1), (zX8_begins μ), rfl, ⟨(by unfold zX8_person; rw [if_pos c_1]), (by unfold zX8_person; rw [if_pos c_1])⟩, by dsimp only; rw [ht]; exact hMo⟩, hS.F ht⟩) hS.2.2 dX8_person_15
set_option maxHeartbeats 4000000 in
set_option maxRecDepth 100000 in
theorem kX8_person {p : Program} {l : Launch} {e : Env} {R : Room} {s : State} {m : MethodId} {args : Array Value} {below : List Frame} {meth : Method} {c : Code} {H : Heap} {locs : List Loc} {cells slots : Nat} {Q : State → Prop} {cc : ByteArray} {nL : Nat} {Ts : List Cond} {own : String} {index pc : Nat} {ls : Array Slot} {rest : List Value} {D : va_G} {y : Y3} {mo : Nat → Nat} {μ : Sg} {x1 : Int32} {A0 : Nat → Prop} {H0 : Heap} (hF : CallFix p m c cc nL s args Ts own) (cw : CallW R s args own RX8 index yX8_person cX8_person 2 (some .int) wsX8_person ({ frames := 2, cells := 0, slots := 0, locals := 43 } : Room) 0 0 1) (hC : CK D y s) (hMo : MoH D y mo μ H) (hi : moI mo) (hInv : InvM μ) (r_h : rg (μ 4 0) 5) (hS : va_S A0 H0 H locs) (hA : ∀ q, (moA mo) q → A0 q) (hsz : ls.size = nL) (hW : (rest.map fun v => v.category).sum ≤ 8) (hdg : decode cc pc = .ok (.invokevirtual index, 3)) (hf : cells ≤ R.cells ∧ slots ≤ R.slots)
    (k : ∀ (H1 : Heap) (locs1 : List Loc), MoH D y mo (zX8_person μ x1).2 H1 → H.size ≤ H1.size → (∀ q : Nat, q < H.size → ¬ (moA mo) q → H1[q]? = H[q]?) → va_S A0 H0 H1 locs1 → W p l e R s m args below meth c H1 locs1 cells slots Q (F0 m (pc + 3) ls (.int ((zX8_person μ x1).1) :: rest))) : W p l e R s m args below meth c H locs cells slots Q (F0 m pc ls (.int x1 :: .ref (mo 0) :: rest)) := by
  refine va_calli (va_runV (As := [.int x1]) (rest := rest) hF (mX8_person l D y mo μ x1) cw ⟨fun a U g mk q => by obtain ⟨q0, q1, q2, q3, q4, q5⟩ := q; exact ⟨q0, q1.call g mk a, q2, q3, q4, q5⟩, va_recv hC.1 hMo (ci := 8) (q0 := 0) rfl rfl, fun U hU hW => ⟨rfl, hC.warm hW, by rw [hU]; exact hMo, hi, hInv, r_h⟩⟩ rfl rfl hsz rfl (lv_room hW) hdg ⟨hf.1, hf.2⟩) hS (fun q _ h => hA q h) hA (fun r u t H1 locs1 ht hvm hp hB hz1 hk1 hS1 => ?_)
  obtain ⟨hp1, hp2⟩ := hp
  subst hp1; subst hp2
  rw [ht] at hB
  exact k H1 locs1 hB hz1 hk1 hS1
def zX8_volunteer (μ : Sg) (x1 : Int32) (x2 : Int32) : Int32 × Sg := if (zX8_isLocker (zX8_begins μ) x1) = 0 then ((-1), (zX8_begins μ))
  else (if (zX8_in x2 1 4) = 0 then ((-1), (zX8_begins μ))
    else (if ((zX8_begins μ) 0 3) = 3 then ((-3), (zX8_begins μ))
      else ((zX8_acted (mU (zX8_setHelper (zX8_setHelper (zX8_begins μ) ((zX8_begins μ) 0 3) 0 x2) ((zX8_setHelper (zX8_begins μ) ((zX8_begins μ) 0 3) 0 x2) 0 3) 1 x1) 0 (upd ((zX8_setHelper (zX8_setHelper (zX8_begins μ) ((zX8_begins μ) 0 3) 0 x2) ((zX8_setHelper (zX8_begins μ) ((zX8_begins μ) 0 3) 0 x2) 0 3) 1 x1) 0) 3 (((zX8_setHelper (zX8_setHelper (zX8_begins μ) ((zX8_begins μ) 0 3) 0 x2) ((zX8_setHelper (zX8_begins μ) ((zX8_begins μ) 0 3) 0 x2) 0 3) 1 x1) 0 3) + 1))) (((mU (zX8_setHelper (zX8_setHelper (zX8_begins μ) ((zX8_begins μ) 0 3) 0 x2) ((zX8_setHelper (zX8_begins μ) ((zX8_begins μ) 0 3) 0 x2) 0 3) 1 x1) 0 (upd ((zX8_setHelper (zX8_setHelper (zX8_begins μ) ((zX8_begins μ) 0 3) 0 x2) ((zX8_setHelper (zX8_begins μ) ((zX8_begins μ) 0 3) 0 x2) 0 3) 1 x1) 0) 3 (((zX8_setHelper (zX8_setHelper (zX8_begins μ) ((zX8_begins μ) 0 3) 0 x2) ((zX8_setHelper (zX8_begins μ) ((zX8_begins μ) 0 3) 0 x2) 0 3) 1 x1) 0 3) + 1))) 0 3) - 1)).1, (zX8_acted (mU (zX8_setHelper (zX8_setHelper (zX8_begins μ) ((zX8_begins μ) 0 3) 0 x2) ((zX8_setHelper (zX8_begins μ) ((zX8_begins μ) 0 3) 0 x2) 0 3) 1 x1) 0 (upd ((zX8_setHelper (zX8_setHelper (zX8_begins μ) ((zX8_begins μ) 0 3) 0 x2) ((zX8_setHelper (zX8_begins μ) ((zX8_begins μ) 0 3) 0 x2) 0 3) 1 x1) 0) 3 (((zX8_setHelper (zX8_setHelper (zX8_begins μ) ((zX8_begins μ) 0 3) 0 x2) ((zX8_setHelper (zX8_begins μ) ((zX8_begins μ) 0 3) 0 x2) 0 3) 1 x1) 0 3) + 1))) (((mU (zX8_setHelper (zX8_setHelper (zX8_begins μ) ((zX8_begins μ) 0 3) 0 x2) ((zX8_setHelper (zX8_begins μ) ((zX8_begins μ) 0 3) 0 x2) 0 3) 1 x1) 0 (upd ((zX8_setHelper (zX8_setHelper (zX8_begins μ) ((zX8_begins μ) 0 3) 0 x2) ((zX8_setHelper (zX8_begins μ) ((zX8_begins μ) 0 3) 0 x2) 0 3) 1 x1) 0) 3 (((zX8_setHelper (zX8_setHelper (zX8_begins μ) ((zX8_begins μ) 0 3) 0 x2) ((zX8_setHelper (zX8_begins μ) ((zX8_begins μ) 0 3) 0 x2) 0 3) 1 x1) 0 3) + 1))) 0 3) - 1)).2)))
theorem iwX8_volunteer_X8 : ∀ w ∈ wsX80, w ∈ wsX8_volunteer := fun _ h => List.mem_cons_of_mem _ (List.mem_append_right _ h)
theorem hdX8_volunteer : yX8_volunteer.cls = RX8 ∧ yX8_volunteer.cls ≠ "java/lang/invoke/MethodHandle" ∧ yX8_volunteer.cls ≠ "java/lang/invoke/VarHandle" ∧ (parseMethodDescriptor yX8_volunteer.desc).map (fun d => d.parameters.length) = some 2 := by decide +kernel
set_option maxHeartbeats 4000000 in
set_option maxRecDepth 100000 in
theorem mX8_volunteer (l : Launch) (D : va_G) (y : Y3) (mo : Nat → Nat) (μ : Sg) (x1 : Int32) (x2 : Int32) : Met l yX8_volunteer wsX8_volunteer ({ frames := 2, cells := 0, slots := 0, locals := 43 } : Room) (va_Pc [.ref (mo 0), .int x1, .int x2] (fun U => CK D y U ∧ MoH D y mo μ U.heap ∧ moI mo ∧ InvM μ ∧ rg (μ 4 0) 5)) (va_Qi (fun (r : Int32) (u : Sg) => r = (zX8_volunteer μ x1 x2).1 ∧ u = (zX8_volunteer μ x1 x2).2) (fun u t => MoH D y mo u t.heap) (moA mo)) 0 0 (moA mo) := by
  refine Met.ofW (cc := cX8_volunteer) (maxL := 3) (ret := (some .int)) (by decide) rfl ?_
  intro p e s m args below meth c s₁ B hml hv
  obtain ⟨rfl, hC, hMo, hi, hInv, r_h⟩ := hv
  have hx := B.exec
  have hb := B.bytes
  have hr := B.returns
  have hts := atoms_spec (ws := wsX8_volunteer) B.pre
  have hown : s.vm.findClass RX8 = some m.cls := findClass_of_methodNamed B.named
  have hlocks := B.notSynchronized
  have hF := (⟨hx, hb, hml, hown, hts⟩ : CallFix p m c cX8_volunteer 3 s _ wsX8_volunteer RX8)
  have hS : va_S (moA mo) s.heap s.heap [] := va_S.rf
  have hl := lv_entry ([.ref (mo 0), .int x1, .int x2]) (n := 3) (Nat.le_of_ble_eq_true rfl)
  rw [lg_entry_eq]
  generalize (lg_sl ([.ref (mo 0), .int x1, .int x2]) ++ List.replicate (3 - (lg_sl ([.ref (mo 0), .int x1, .int x2])).length) Slot.unset).toArray = ls at hl ⊢
  have hl : lv_has ls 3 [(0, .ref (mo 0)), (1, .int x1), (2, .int x2)] := hl
  refine lv_aload_n hx hb dX8_volunteer_0 rfl (lv_at hl 0 rfl) ?_
  refine kX8_begins hF (cwV 0 hts gX8_volunteer_X8_begins rfl rfl rfl hdX8_begins ⟨Nat.le_of_ble_eq_true rfl, Nat.le_of_ble_eq_true rfl⟩) hC hMo hi  hS (fun _ h => h) hl.1 (Nat.le_of_ble_eq_true rfl) dX8_volunteer_1 ⟨Nat.zero_le _, Nat.zero_le _⟩ (fun H locs hMo _ _ hS => ?_)
  have hInv := inv_begins hInv
  refine lv_aload_n hx hb dX8_volunteer_4 rfl (lv_at hl 0 rfl) ?_
  refine lv_iload_n hx hb dX8_volunteer_5 rfl (lv_at hl 1 rfl) ?_
  refine kX8_isLocker hF (cwV 1 hts gX8_volunteer_X8_isLocker rfl rfl rfl hdX8_isLocker ⟨Nat.le_of_ble_eq_true rfl, Nat.le_of_ble_eq_true rfl⟩) hC hMo  hl.1 (Nat.le_of_ble_eq_true rfl) dX8_volunteer_6 ⟨Nat.zero_le _, Nat.zero_le _⟩ ?_
  refine lv_if_eq (tgt := 21) hx hb dX8_volunteer_9 (by decide) (fun c_1 => ?_) (fun c_1 => ?_)
  · refine lv_iconst (v := (-1)) hx hb dX8_volunteer_21 (by decide) ?_
    exact W.iret (v := (-1)) hx hb hr (fun t ht hW => ⟨⟨(-1), (zX8_begins μ), rfl, ⟨(by unfold zX8_volunteer; rw [if_pos c_1]), (by unfold zX8_volunteer; rw [if_pos c_1])⟩, by dsimp only; rw [ht]; exact hMo⟩, hS.F ht⟩) hS.2.2 dX8_volunteer_22
  · have f_2 : rg x1 5 := rg_isL hInv c_1
    refine lv_iload_n hx hb dX8_volunteer_12 rfl (lv_at hl 2 rfl) ?_
    refine lv_iconst (v := 1) hx hb dX8_volunteer_13 (by decide) ?_
    refine lv_iconst (v := 4) hx hb dX8_volunteer_14 (by decide) ?_
    refine kX8_in hF (cwS 3 hts gX8_volunteer_X8_in rfl rfl rfl (by decide +kernel) ⟨Nat.le_of_ble_eq_true rfl, Nat.le_of_ble_eq_true rfl⟩) hC hl.1 (Nat.le_of_ble_eq_true rfl) dX8_volunteer_15 ⟨Nat.zero_le _, Nat.zero_le _⟩ ?_
    refine lv_if_ne (tgt := 23) hx hb dX8_volunteer_18 (by decide) (fun c_3 => ?_) (fun c_3 => ?_)
    · refine lv_aload_n hx hb dX8_volunteer_23 rfl (lv_at hl 0 rfl) ?_
      refine va_get (D := D) (ci := 8) (v := .ref (mo 1)) (C := RX8) (T := TX8) (N := 10) hx hb hts iwX8_volunteer_X8 hown hC.1 hMo 0 rfl rfl 0 (by decide) (hts (.fieldLink RX8 7 "MealLockersModel" "s" "[I") (List.mem_of_getElem? (i := 1) rfl)) (fun _ h9 => h9) rfl dX8_volunteer_24 ?_
      refine lv_iconst (v := 3) hx hb dX8_volunteer_27 (by decide) ?_
      refine va_iald hx hb hC.1 hMo 1 0 rfl rfl (vpl (by decide)) dX8_volunteer_28 ?_
      rw [cl_3]
      refine lv_iconst (v := 3) hx hb dX8_volunteer_29 (by decide) ?_
      refine lv_icmp_ne (tgt := 36) hx hb dX8_volunteer_30 (by decide) (fun c_4 => ?_) (fun c_4 => ?_)
      · have f_5 : rg ((zX8_begins μ) 0 3) 3 := rg_ne3 hInv.2.2.2.1 c_4
        refine lv_aload_n hx hb dX8_volunteer_36 rfl (lv_at hl 0 rfl) ?_
        refine lv_aload_n hx hb dX8_volunteer_37 rfl (lv_at hl 0 rfl) ?_
        refine va_get (D := D) (ci := 8) (v := .ref (mo 1)) (C := RX8) (T := TX8) (N := 10) hx hb hts iwX8_volunteer_X8 hown hC.1 hMo 0 rfl rfl 0 (by decide) (hts (.fieldLink RX8 7 "MealLockersModel" "s" "[I") (List.mem_of_getElem? (i := 1) rfl)) (fun _ h9 => h9) rfl dX8_volunteer_38 ?_
        refine lv_iconst (v := 3) hx hb dX8_volunteer_41 (by decide) ?_
        refine va_iald hx hb hC.1 hMo 1 0 rfl rfl (vpl (by decide)) dX8_volunteer_42 ?_
        rw [cl_3]
        refine lv_iconst (v := 0) hx hb dX8_volunteer_43 (by decide) ?_
        refine lv_iload_n hx hb dX8_volunteer_44 rfl (lv_at hl 2 rfl) ?_
        refine kX8_setHelper hF (cwV 3 hts gX8_volunteer_X8_setHelper rfl rfl rfl hdX8_setHelper ⟨Nat.le_of_ble_eq_true rfl, Nat.le_of_ble_eq_true rfl⟩) hC hMo hi f_5 (by decide) hS (fun _ h => h) hl.1 (Nat.le_of_ble_eq_true rfl) dX8_volunteer_45 ⟨Nat.zero_le _, Nat.zero_le _⟩ (fun H locs hMo _ _ hS => ?_)
        have hInv := inv_setHelper hInv f_5 (w := 0) (v := x2) (by decide) (fun e => absurd e (by decide))
        refine lv_aload_n hx hb dX8_volunteer_48 rfl (lv_at hl 0 rfl) ?_
        refine lv_aload_n hx hb dX8_volunteer_49 rfl (lv_at hl 0 rfl) ?_
        refine va_get (D := D) (ci := 8) (v := .ref (mo 1)) (C := RX8) (T := TX8) (N := 10) hx hb hts iwX8_volunteer_X8 hown hC.1 hMo 0 rfl rfl 0 (by decide) (hts (.fieldLink RX8 7 "MealLockersModel" "s" "[I") (List.mem_of_getElem? (i := 1) rfl)) (fun _ h9 => h9) rfl dX8_volunteer_50 ?_
        refine lv_iconst (v := 3) hx hb dX8_volunteer_53 (by decide) ?_
        refine va_iald hx hb hC.1 hMo 1 0 rfl rfl (vpl (by decide)) dX8_volunteer_54 ?_
        rw [cl_3]
        refine lv_iconst (v := 1) hx hb dX8_volunteer_55 (by decide) ?_
        refine lv_iload_n hx hb dX8_volunteer_56 rfl (lv_at hl 1 rfl) ?_
        refine kX8_setHelper hF (cwV 3 hts gX8_volunteer_X8_setHelper rfl rfl rfl hdX8_setHelper ⟨Nat.le_of_ble_eq_true rfl, Nat.le_of_ble_eq_true rfl⟩) hC hMo hi (rg3_set (μ := (zX8_begins μ)) (w := 0) (v := x2) f_5 (by decide) f_5) (by decide) hS (fun _ h => h) hl.1 (Nat.le_of_ble_eq_true rfl) dX8_volunteer_57 ⟨Nat.zero_le _, Nat.zero_le _⟩ (fun H locs hMo _ _ hS => ?_)
        have hInv := inv_setHelper hInv (rg3_set (μ := (zX8_begins μ)) (w := 0) (v := x2) f_5 (by decide) f_5) (w := 1) (v := x1) (by decide) (fun _ => f_2)
        refine lv_aload_n hx hb dX8_volunteer_60 rfl (lv_at hl 0 rfl) ?_
        refine va_get (D := D) (ci := 8) (v := .ref (mo 1)) (C := RX8) (T := TX8) (N := 10) hx hb hts iwX8_volunteer_X8 hown hC.1 hMo 0 rfl rfl 0 (by decide) (hts (.fieldLink RX8 7 "MealLockersModel" "s" "[I") (List.mem_of_getElem? (i := 1) rfl)) (fun _ h9 => h9) rfl dX8_volunteer_61 ?_
        refine lv_iconst (v := 3) hx hb dX8_volunteer_64 (by decide) ?_
        refine lv_dup2_11 hx hb dX8_volunteer_65 rfl rfl ?_
        refine va_iald hx hb hC.1 hMo 1 0 rfl rfl (vpl (by decide)) dX8_volunteer_66 ?_
        rw [cl_3]
        refine lv_iconst (v := 1) hx hb dX8_volunteer_67 (by decide) ?_
        refine lv_iadd hx hb dX8_volunteer_68 ?_
        refine va_iast hx hb hC.1 hMo (mo_D hi) hS 1 0 rfl rfl (vpl (by decide)) dX8_volunteer_69 (fun H locs hMo _ hS => ?_)
        rw [cl_3] at hMo
        have hMo := mo_row1 hMo
        refine lv_aload_n hx hb dX8_volunteer_70 rfl (lv_at hl 0 rfl) ?_
        refine lv_aload_n hx hb dX8_volunteer_71 rfl (lv_at hl 0 rfl) ?_
        refine va_get (D := D) (ci := 8) (v := .ref (mo 1)) (C := RX8) (T := TX8) (N := 10) hx hb hts iwX8_volunteer_X8 hown hC.1 hMo 0 rfl rfl 0 (by decide) (hts (.fieldLink RX8 7 "MealLockersModel" "s" "[I") (List.mem_of_getElem? (i := 1) rfl)) (fun _ h9 => h9) rfl dX8_volunteer_72 ?_
        refine lv_iconst (v := 3) hx hb dX8_volunteer_75 (by decide) ?_
        refine va_iald hx hb hC.1 hMo 1 0 rfl rfl (vpl (by decide)) dX8_volunteer_76 ?_
        rw [cl_3]
        refine lv_iconst (v := 1) hx hb dX8_volunteer_77 (by decide) ?_
        refine lv_isub hx hb dX8_volunteer_78 ?_
        have r_h : rg ((mU (zX8_setHelper (zX8_setHelper (zX8_begins μ) ((zX8_begins μ) 0 3) 0 x2) ((zX8_setHelper (zX8_begins μ) ((zX8_begins μ) 0 3) 0 x2) 0 3) 1 x1) 0 (upd ((zX8_setHelper (zX8_setHelper (zX8_begins μ) ((zX8_begins μ) 0 3) 0 x2) ((zX8_setHelper (zX8_begins μ) ((zX8_begins μ) 0 3) 0 x2) 0 3) 1 x1) 0) 3 (((zX8_setHelper (zX8_setHelper (zX8_begins μ) ((zX8_begins μ) 0 3) 0 x2) ((zX8_setHelper (zX8_begins μ) ((zX8_begins μ) 0 3) 0 x2) 0 3) 1 x1) 0 3) + 1))) 4 0) 5 := r_h
        refine kX8_acted hF (cwV 1 hts gX8_volunteer_X8_acted rfl rfl rfl hdX8_acted ⟨Nat.le_of_ble_eq_true rfl, Nat.le_of_ble_eq_true rfl⟩) hC hMo hi r_h  hS (fun _ h => h) hl.1 (Nat.le_of_ble_eq_true rfl) dX8_volunteer_79 ⟨Nat.zero_le _, Nat.zero_le _⟩ (fun H locs hMo _ _ hS => ?_)
        exact W.iret (v := (zX8_acted (mU (zX8_setHelper (zX8_setHelper (zX8_begins μ) ((zX8_begins μ) 0 3) 0 x2) ((zX8_setHelper (zX8_begins μ) ((zX8_begins μ) 0 3) 0 x2) 0 3) 1 x1) 0 (upd ((zX8_setHelper (zX8_setHelper (zX8_begins μ) ((zX8_begins μ) 0 3) 0 x2) ((zX8_setHelper (zX8_begins μ) ((zX8_begins μ) 0 3) 0 x2) 0 3) 1 x1) 0) 3 (((zX8_setHelper (zX8_setHelper (zX8_begins μ) ((zX8_begins μ) 0 3) 0 x2) ((zX8_setHelper (zX8_begins μ) ((zX8_begins μ) 0 3) 0 x2) 0 3) 1 x1) 0 3) + 1))) (((mU (zX8_setHelper (zX8_setHelper (zX8_begins μ) ((zX8_begins μ) 0 3) 0 x2) ((zX8_setHelper (zX8_begins μ) ((zX8_begins μ) 0 3) 0 x2) 0 3) 1 x1) 0 (upd ((zX8_setHelper (zX8_setHelper (zX8_begins μ) ((zX8_begins μ) 0 3) 0 x2) ((zX8_setHelper (zX8_begins μ) ((zX8_begins μ) 0 3) 0 x2) 0 3) 1 x1) 0) 3 (((zX8_setHelper (zX8_setHelper (zX8_begins μ) ((zX8_begins μ) 0 3) 0 x2) ((zX8_setHelper (zX8_begins μ) ((zX8_begins μ) 0 3) 0 x2) 0 3) 1 x1) 0 3) + 1))) 0 3) - 1)).1) hx hb hr (fun t ht hW => ⟨⟨(zX8_acted (mU (zX8_setHelper (zX8_setHelper (zX8_begins μ) ((zX8_begins μ) 0 3) 0 x2) ((zX8_setHelper (zX8_begins μ) ((zX8_begins μ) 0 3) 0 x2) 0 3) 1 x1) 0 (upd ((zX8_setHelper (zX8_setHelper (zX8_begins μ) ((zX8_begins μ) 0 3) 0 x2) ((zX8_setHelper (zX8_begins μ) ((zX8_begins μ) 0 3) 0 x2) 0 3) 1 x1) 0) 3 (((zX8_setHelper (zX8_setHelper (zX8_begins μ) ((zX8_begins μ) 0 3) 0 x2) ((zX8_setHelper (zX8_begins μ) ((zX8_begins μ) 0 3) 0 x2) 0 3) 1 x1) 0 3) + 1))) (((mU (zX8_setHelper (zX8_setHelper (zX8_begins μ) ((zX8_begins μ) 0 3) 0 x2) ((zX8_setHelper (zX8_begins μ) ((zX8_begins μ) 0 3) 0 x2) 0 3) 1 x1) 0 (upd ((zX8_setHelper (zX8_setHelper (zX8_begins μ) ((zX8_begins μ) 0 3) 0 x2) ((zX8_setHelper (zX8_begins μ) ((zX8_begins μ) 0 3) 0 x2) 0 3) 1 x1) 0) 3 (((zX8_setHelper (zX8_setHelper (zX8_begins μ) ((zX8_begins μ) 0 3) 0 x2) ((zX8_setHelper (zX8_begins μ) ((zX8_begins μ) 0 3) 0 x2) 0 3) 1 x1) 0 3) + 1))) 0 3) - 1)).1, (zX8_acted (mU (zX8_setHelper (zX8_setHelper (zX8_begins μ) ((zX8_begins μ) 0 3) 0 x2) ((zX8_setHelper (zX8_begins μ) ((zX8_begins μ) 0 3) 0 x2) 0 3) 1 x1) 0 (upd ((zX8_setHelper (zX8_setHelper (zX8_begins μ) ((zX8_begins μ) 0 3) 0 x2) ((zX8_setHelper (zX8_begins μ) ((zX8_begins μ) 0 3) 0 x2) 0 3) 1 x1) 0) 3 (((zX8_setHelper (zX8_setHelper (zX8_begins μ) ((zX8_begins μ) 0 3) 0 x2) ((zX8_setHelper (zX8_begins μ) ((zX8_begins μ) 0 3) 0 x2) 0 3) 1 x1) 0 3) + 1))) (((mU (zX8_setHelper (zX8_setHelper (zX8_begins μ) ((zX8_begins μ) 0 3) 0 x2) ((zX8_setHelper (zX8_begins μ) ((zX8_begins μ) 0 3) 0 x2) 0 3) 1 x1) 0 (upd ((zX8_setHelper (zX8_setHelper (zX8_begins μ) ((zX8_begins μ) 0 3) 0 x2) ((zX8_setHelper (zX8_begins μ) ((zX8_begins μ) 0 3) 0 x2) 0 3) 1 x1) 0) 3 (((zX8_setHelper (zX8_setHelper (zX8_begins μ) ((zX8_begins μ) 0 3) 0 x2) ((zX8_setHelper (zX8_begins μ) ((zX8_begins μ) 0 3) 0 x2) 0 3) 1 x1) 0 3) + 1))) 0 3) - 1)).2, rfl, ⟨(by unfold zX8_volunteer; rw [if_neg c_1, if_neg c_3, if_neg c_4]), (by unfold zX8_volunteer; rw [if_neg c_1, if_neg c_3, if_neg c_4])⟩, by dsimp only; rw [ht]; exact hMo⟩, hS.F ht⟩) hS.2.2 dX8_volunteer_82
      · refine lv_bipush (v := (-3)) hx hb dX8_volunteer_33 (by decide) ?_
        exact W.iret (v := (-3)) hx hb hr (fun t ht hW => ⟨⟨(-3), (zX8_begins μ), rfl, ⟨(by unfold zX8_volunteer; rw [if_neg c_1, if_neg c_3, if_pos c_4]), (by unfold zX8_volunteer; rw [if_neg c_1, if_neg c_3, if_pos c_4])⟩, by dsimp only; rw [ht]; exact hMo⟩, hS.F ht⟩) hS.2.2 dX8_volunteer_35
    · refine lv_iconst (v := (-1)) hx hb dX8_volunteer_21 (by decide) ?_
      exact W.iret (v := (-1)) hx hb hr (fun t ht hW => ⟨⟨(-1), (zX8_begins μ), rfl, ⟨(by unfold zX8_volunteer; rw [if_neg c_1, if_pos c_3]), (by unfold zX8_volunteer; rw [if_neg c_1, if_pos c_3])⟩, by dsimp only; rw [ht]; exact hMo⟩, hS.F ht⟩) hS.2.2 dX8_volunteer_22
set_option maxHeartbeats 4000000 in
set_option maxRecDepth 100000 in
theorem kX8_volunteer {p : Program} {l : Launch} {e : Env} {R : Room} {s : State} {m : MethodId} {args : Array Value} {below : List Frame} {meth : Method} {c : Code} {H : Heap} {locs : List Loc} {cells slots : Nat} {Q : State → Prop} {cc : ByteArray} {nL : Nat} {Ts : List Cond} {own : String} {index pc : Nat} {ls : Array Slot} {rest : List Value} {D : va_G} {y : Y3} {mo : Nat → Nat} {μ : Sg} {x1 : Int32} {x2 : Int32} {A0 : Nat → Prop} {H0 : Heap} (hF : CallFix p m c cc nL s args Ts own) (cw : CallW R s args own RX8 index yX8_volunteer cX8_volunteer 3 (some .int) wsX8_volunteer ({ frames := 2, cells := 0, slots := 0, locals := 43 } : Room) 0 0 2) (hC : CK D y s) (hMo : MoH D y mo μ H) (hi : moI mo) (hInv : InvM μ) (r_h : rg (μ 4 0) 5) (hS : va_S A0 H0 H locs) (hA : ∀ q, (moA mo) q → A0 q) (hsz : ls.size = nL) (hW : (rest.map fun v => v.category).sum ≤ 8) (hdg : decode cc pc = .ok (.invokevirtual index, 3)) (hf : cells ≤ R.cells ∧ slots ≤ R.slots)
    (k : ∀ (H1 : Heap) (locs1 : List Loc), MoH D y mo (zX8_volunteer μ x1 x2).2 H1 → H.size ≤ H1.size → (∀ q : Nat, q < H.size → ¬ (moA mo) q → H1[q]? = H[q]?) → va_S A0 H0 H1 locs1 → W p l e R s m args below meth c H1 locs1 cells slots Q (F0 m (pc + 3) ls (.int ((zX8_volunteer μ x1 x2).1) :: rest))) : W p l e R s m args below meth c H locs cells slots Q (F0 m pc ls (.int x2 :: .int x1 :: .ref (mo 0) :: rest)) := by
  refine va_calli (va_runV (As := [.int x1, .int x2]) (rest := rest) hF (mX8_volunteer l D y mo μ x1 x2) cw ⟨fun a U g mk q => by obtain ⟨q0, q1, q2, q3, q4, q5⟩ := q; exact ⟨q0, q1.call g mk a, q2, q3, q4, q5⟩, va_recv hC.1 hMo (ci := 8) (q0 := 0) rfl rfl, fun U hU hW => ⟨rfl, hC.warm hW, by rw [hU]; exact hMo, hi, hInv, r_h⟩⟩ rfl rfl hsz rfl (lv_room hW) hdg ⟨hf.1, hf.2⟩) hS (fun q _ h => hA q h) hA (fun r u t H1 locs1 ht hvm hp hB hz1 hk1 hS1 => ?_)
  obtain ⟨hp1, hp2⟩ := hp
  subst hp1; subst hp2
  rw [ht] at hB
  exact k H1 locs1 hB hz1 hk1 hS1
