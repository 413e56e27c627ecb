def bX8_h1  (i : Nat) (v : Sg) : Sg := if (zX8_isUnderWay v (nI i)) = 0 then (zX8_setHelper v (nI i) 3 ((zX8_ofHelper v (nI i) 3) + 0))
  else (zX8_setHelper v (nI i) 3 ((zX8_ofHelper v (nI i) 3) + 1))
def zh1 (μ : Sg) : Sg := upTo bX8_h1 μ (μ 0 3).toNatClampNeg
theorem g_h1 {μ : Sg} (h : InvM μ) : ∀ i : Nat, i ≤ (μ 0 3).toNatClampNeg → Gd μ (upTo bX8_h1 μ i) := gd_upTo h (fun i v hi g => by
  unfold bX8_h1
  have r := gd_h g hi
  (repeat' split) <;> exact (Gd.rf g.1).setHelper r (by decide) (fun e => absurd e (by decide)))
theorem gd_h1 {μ : Sg} (h : InvM μ) : Gd μ (zh1 μ) := g_h1 h _ (Nat.le_refl _)
def bX8_h2  (i : Nat) (v : Int32 × Sg) : Int32 × Sg := if 3 ≤ (zX8_ofMeal v.2 (nI i) 0) then (v.1, v.2)
  else (if 0 < (zX8_ofMeal (zX8_setMeal v.2 (nI i) 2 ((zX8_ofMeal v.2 (nI i) 2) - (zX8_loss v.2 (nI i)))) (nI i) 2) then (v.1, (zX8_setMeal v.2 (nI i) 2 ((zX8_ofMeal v.2 (nI i) 2) - (zX8_loss v.2 (nI i)))))
    else ((v.1 ||| ((1 : Int32) <<< ((nI i) &&& 31))), (zX8_spoils (zX8_setMeal v.2 (nI i) 2 ((zX8_ofMeal v.2 (nI i) 2) - (zX8_loss v.2 (nI i)))) (nI i))))
def zh2 (μ : Sg) : Int32 × Sg := upTo bX8_h2 (0, μ) (μ 0 1).toNatClampNeg
theorem g_h2 {μ : Sg} (h : InvM μ) : ∀ i : Nat, i ≤ (μ 0 1).toNatClampNeg → Gd μ (upTo bX8_h2 (0, μ) i).2 := gd_upTo2 h (fun i v hi g => by
  unfold bX8_h2
  have r := gd_m g hi
  have gi := g.1
  have a : ∀ x, Gd v.2 (zX8_setMeal v.2 (nI i) 2 x) := fun x => (Gd.rf g.1).setMeal r (by decide) (fun e => absurd e (by decide)) (fun e => absurd e (by decide)) (fun e => absurd e (by decide))
  have b : ∀ x, Gd v.2 (zX8_spoils (zX8_setMeal v.2 (nI i) 2 x) (nI i)) := fun x => (a x).tr (gd_X8_spoils (a x).1 r)
  (repeat' split) <;> first | (with_reducible exact Gd.rf gi) | (with_reducible exact a _) | (with_reducible exact b _))
theorem gd_h2 {μ : Sg} (h : InvM μ) : Gd μ (zh2 μ).2 := g_h2 h _ (Nat.le_refl _)
def bX8_h3  (i : Nat) (v : Sg) : Sg := if (zX8_ofHelper v (nI i) 2) = (v 0 4) then (zX8_lays v (nI i)).2
  else v
def zh3 (μ : Sg) : Sg := upTo bX8_h3 μ (μ 0 3).toNatClampNeg
theorem g_h3 {μ : Sg} (h : InvM μ) : ∀ i : Nat, i ≤ (μ 0 3).toNatClampNeg → Gd μ (upTo bX8_h3 μ i) := gd_upTo h (fun i v hi g => by
  unfold bX8_h3
  have r := gd_h g hi
  have gi := g.1
  have b := gdq_X8_lays gi r
  (repeat' split) <;> first | (with_reducible exact Gd.rf gi) | (with_reducible exact b))
theorem gd_h3 {μ : Sg} (h : InvM μ) : Gd μ (zh3 μ) := g_h3 h _ (Nat.le_refl _)
def bX8_h4  (i : Nat) (v : Sg) : Sg := if (zX8_ofMeal v (nI i) 0) = 1 then (if ((v 0 4) - (zX8_ofMeal v (nI i) 6)) < (v 0 5) then v
    else (zX8_lapses v (nI i)))
  else v
def zh4 (μ : Sg) : Sg := upTo bX8_h4 μ (μ 0 1).toNatClampNeg
theorem g_h4 {μ : Sg} (h : InvM μ) : ∀ i : Nat, i ≤ (μ 0 1).toNatClampNeg → Gd μ (upTo bX8_h4 μ i) := gd_upTo h (fun i v hi g => by
  unfold bX8_h4
  have r := gd_m g hi
  have gi := g.1
  split
  · rename_i c
    have b := gd_X8_lapses gi r c
    split
    · with_reducible exact Gd.rf gi
    · with_reducible exact b
  · with_reducible exact Gd.rf gi)
theorem gd_h4 {μ : Sg} (h : InvM μ) : Gd μ (zh4 μ) := g_h4 h _ (Nat.le_refl _)
def zX8_hour (μ : Sg) : Int32 × Sg := ((zh2 (mU (zh1 μ) 0 (upd ((zh1 μ) 0) 4 (((zh1 μ) 0 4) + 1)))).1, (zh4 (zh3 ((zh2 (mU (zh1 μ) 0 (upd ((zh1 μ) 0) 4 (((zh1 μ) 0 4) + 1)))).2))))
theorem iwX8_hour_X8 : ∀ w ∈ wsX80, w ∈ wsX8_hour := fun _ h => List.mem_cons_of_mem _ (List.mem_append_right _ h)
theorem hdX8_hour : yX8_hour.cls = RX8 ∧ yX8_hour.cls ≠ "java/lang/invoke/MethodHandle" ∧ yX8_hour.cls ≠ "java/lang/invoke/VarHandle" ∧ (parseMethodDescriptor yX8_hour.desc).map (fun d => d.parameters.length) = some 0 := by decide +kernel
set_option maxHeartbeats 4000000 in
set_option maxRecDepth 100000 in
theorem lpX8_h1 {p : Program} {l : Launch} {e : Env} {s : State} {m : MethodId} {args : Array Value} {below : List Frame} {meth : Method} {c : Code} {Q : State → Prop} {D : va_G} {y : Y3} {mo : Nat → Nat} {μ : Sg} {x1 : Int32} (hx : p.tables.exec = Jvm.exec) (hb : c.code = cX8_hour) (hml : c.maxLocals = 4) (hown : s.vm.findClass RX8 = some m.cls) (hts : ∀ w ∈ wsX8_hour, w.before args s = true) (hC : CK D y s) (hi : moI mo) (hg : ∀ i : Nat, i ≤ (μ 0 3).toNatClampNeg → Gd μ (upTo bX8_h1 μ i))
    (K : ∀ (H : Heap) (locs : List Loc) (ls : Array Slot), MoH D y mo (upTo bX8_h1 μ ((μ 0 3).toNatClampNeg)) H → va_S (moA mo) s.heap H locs → lv_has ls 4 [(2, .int (nI (μ 0 3).toNatClampNeg)), (0, .ref (mo 0)), (1, .int x1)] → W p l e (headSpec wsX8_hour ({ frames := 5, cells := 0, slots := 0, locals := 114 } : Room)).room s m args below meth c H locs 0 0 Q (F0 m 46 ls [])) :
    ∀ (j i : Nat), i + j = (μ 0 3).toNatClampNeg → ∀ (H : Heap) (locs : List Loc), MoH D y mo (upTo bX8_h1 μ i) H → va_S (moA mo) s.heap H locs → ∀ ls : Array Slot, lv_has ls 4 [(2, .int (nI i)), (0, .ref (mo 0)), (1, .int x1)] → W p l e (headSpec wsX8_hour ({ frames := 5, cells := 0, slots := 0, locals := 114 } : Room)).room s m args below meth c H locs 0 0 Q (F0 m 4 ls []) := by
  have hF := (⟨hx, hb, hml, hown, hts⟩ : CallFix p m c cX8_hour 4 s args wsX8_hour RX8)
  have hN := clamp_lt (μ 0 3)
  intro j
  induction j with
  | zero =>
    intro i hin H locs hMo hS ls hl
    obtain rfl : i = (μ 0 3).toNatClampNeg := by omega
    have hgi := hg ((μ 0 3).toNatClampNeg) (Nat.le_refl _)
    have hInv := hgi.1
    have hw := hgi.2.1 3 (by decide)
    refine lv_iload_n hx hb dX8_hour_4 rfl (lv_at hl 0 rfl) ?_
    refine lv_aload_n hx hb dX8_hour_5 rfl (lv_at hl 1 rfl) ?_
    refine va_get (D := D) (ci := 8) (v := .ref (mo 1)) (C := RX8) (T := TX8) (N := 10) hx hb hts iwX8_hour_X8 hown hC.1 hMo 0 rfl rfl 0 (by decide) (hts (.fieldLink RX8 7 "MealLockersModel" "s" "[I") (List.mem_of_getElem? (i := 1) rfl)) (fun _ h9 => h9) rfl dX8_hour_6 ?_
    refine lv_iconst (v := 3) hx hb dX8_hour_9 (by decide) ?_
    refine va_iald hx hb hC.1 hMo 1 0 rfl rfl (vpl (by decide)) dX8_hour_10 ?_
    rw [cl_3]
    refine lv_icmp_ge (tgt := 46) hx hb dX8_hour_11 (by decide) (fun _ => ?_) (fun c_1 => absurd (by rw [hw]; exact up_le _) c_1)
    exact K H locs ls hMo hS (lv_sub hl [0, 1, 2] rfl)
  | succ j ih =>
    intro i hin H locs hMo hS ls hl
    have hgi := hg i (by omega)
    obtain ⟨v, hv⟩ : ∃ v, v = (upTo bX8_h1 μ i) := ⟨_, rfl⟩
    rw [← hv] at hMo hgi
    have hInv := hgi.1
    have hw := hgi.2.1 3 (by decide)
    have f_2 : rg (nI i) 3 := inv_h hInv (by rw [hw]; omega)
    refine lv_iload_n hx hb dX8_hour_4 rfl (lv_at hl 0 rfl) ?_
    refine lv_aload_n hx hb dX8_hour_5 rfl (lv_at hl 1 rfl) ?_
    refine va_get (D := D) (ci := 8) (v := .ref (mo 1)) (C := RX8) (T := TX8) (N := 10) hx hb hts iwX8_hour_X8 hown hC.1 hMo 0 rfl rfl 0 (by decide) (hts (.fieldLink RX8 7 "MealLockersModel" "s" "[I") (List.mem_of_getElem? (i := 1) rfl)) (fun _ h9 => h9) rfl dX8_hour_6 ?_
    refine lv_iconst (v := 3) hx hb dX8_hour_9 (by decide) ?_
    refine va_iald hx hb hC.1 hMo 1 0 rfl rfl (vpl (by decide)) dX8_hour_10 ?_
    rw [cl_3]
    refine lv_icmp_ge (tgt := 46) hx hb dX8_hour_11 (by decide) (fun c_3 => absurd c_3 (by rw [hw]; exact up_gt (by omega))) (fun _ => ?_)
    refine lv_aload_n hx hb dX8_hour_14 rfl (lv_at hl 1 rfl) ?_
    refine lv_iload_n hx hb dX8_hour_15 rfl (lv_at hl 0 rfl) ?_
    refine lv_iconst (v := 3) hx hb dX8_hour_16 (by decide) ?_
    refine lv_aload_n hx hb dX8_hour_17 rfl (lv_at hl 1 rfl) ?_
    refine lv_iload_n hx hb dX8_hour_18 rfl (lv_at hl 0 rfl) ?_
    refine lv_iconst (v := 3) hx hb dX8_hour_19 (by decide) ?_
    refine kX8_ofHelper hF (cwV 2 hts gX8_hour_X8_ofHelper rfl rfl rfl hdX8_ofHelper ⟨Nat.le_of_ble_eq_true rfl, Nat.le_of_ble_eq_true rfl⟩) hC hMo f_2 (by decide) hl.1 (Nat.le_of_ble_eq_true rfl) dX8_hour_20 ⟨Nat.zero_le _, Nat.zero_le _⟩ ?_
    refine lv_aload_n hx hb dX8_hour_23 rfl (lv_at hl 1 rfl) ?_
    refine lv_iload_n hx hb dX8_hour_24 rfl (lv_at hl 0 rfl) ?_
    refine kX8_isUnderWay hF (cwV 1 hts gX8_hour_X8_isUnderWay rfl rfl rfl hdX8_isUnderWay ⟨Nat.le_of_ble_eq_true rfl, Nat.le_of_ble_eq_true rfl⟩) hC hMo f_2 hl.1 (Nat.le_of_ble_eq_true rfl) dX8_hour_25 ⟨Nat.zero_le _, Nat.zero_le _⟩ ?_
    refine lv_if_eq (tgt := 35) hx hb dX8_hour_28 (by decide) (fun c_4 => ?_) (fun c_4 => ?_)
    · refine lv_iconst (v := 0) hx hb dX8_hour_35 (by decide) ?_
      refine lv_iadd hx hb dX8_hour_36 ?_
      refine kX8_setHelper hF (cwV 3 hts gX8_hour_X8_setHelper rfl rfl rfl hdX8_setHelper ⟨Nat.le_of_ble_eq_true rfl, Nat.le_of_ble_eq_true rfl⟩) hC hMo hi f_2 (by decide) hS (fun _ h => h) hl.1 (Nat.le_of_ble_eq_true rfl) dX8_hour_37 ⟨Nat.zero_le _, Nat.zero_le _⟩ (fun H locs hMo _ _ hS => ?_)
      have hInv := inv_setHelper hInv f_2 (w := 3) (v := ((zX8_ofHelper v (nI i) 3) + 0)) (by decide) (fun e => absurd e (by decide))
      refine lv_iinc (v := (nI (i + 1))) (lv' := [(2, .int (nI (i + 1))), (0, .ref (mo 0)), (1, .int x1)]) hx hb dX8_hour_40 hl (k := 0) rfl (by rw [nI_succ]; rfl) (by decide) rfl (fun ls hl => ?_)
      refine lv_goto (tgt := 4) hx hb dX8_hour_43 (by decide) ?_
      have e9 : (upTo bX8_h1 μ (i + 1)) = (zX8_setHelper v (nI i) 3 ((zX8_ofHelper v (nI i) 3) + 0)) := by show bX8_h1 i (upTo bX8_h1 μ i) = _; rw [← hv]; unfold bX8_h1; rw [if_pos c_4]
      exact ih (i + 1) (by omega) H locs (by rw [e9]; exact hMo) hS ls (lv_sub hl [0, 1, 2] rfl)
    · refine lv_iconst (v := 1) hx hb dX8_hour_31 (by decide) ?_
      refine lv_goto (tgt := 36) hx hb dX8_hour_32 (by decide) ?_
      refine lv_iadd hx hb dX8_hour_36 ?_
      refine kX8_setHelper hF (cwV 3 hts gX8_hour_X8_setHelper rfl rfl rfl hdX8_setHelper ⟨Nat.le_of_ble_eq_true rfl, Nat.le_of_ble_eq_true rfl⟩) hC hMo hi f_2 (by decide) hS (fun _ h => h) hl.1 (Nat.le_of_ble_eq_true rfl) dX8_hour_37 ⟨Nat.zero_le _, Nat.zero_le _⟩ (fun H locs hMo _ _ hS => ?_)
      have hInv := inv_setHelper hInv f_2 (w := 3) (v := ((zX8_ofHelper v (nI i) 3) + 1)) (by decide) (fun e => absurd e (by decide))
      refine lv_iinc (v := (nI (i + 1))) (lv' := [(2, .int (nI (i + 1))), (0, .ref (mo 0)), (1, .int x1)]) hx hb dX8_hour_40 hl (k := 0) rfl (by rw [nI_succ]; rfl) (by decide) rfl (fun ls hl => ?_)
      refine lv_goto (tgt := 4) hx hb dX8_hour_43 (by decide) ?_
      have e9 : (upTo bX8_h1 μ (i + 1)) = (zX8_setHelper v (nI i) 3 ((zX8_ofHelper v (nI i) 3) + 1)) := by show bX8_h1 i (upTo bX8_h1 μ i) = _; rw [← hv]; unfold bX8_h1; rw [if_neg c_4]
      exact ih (i + 1) (by omega) H locs (by rw [e9]; exact hMo) hS ls (lv_sub hl [0, 1, 2] rfl)
set_option maxHeartbeats 4000000 in
set_option maxRecDepth 100000 in
theorem lpX8_h2 {p : Program} {l : Launch} {e : Env} {s : State} {m : MethodId} {args : Array Value} {below : List Frame} {meth : Method} {c : Code} {Q : State → Prop} {D : va_G} {y : Y3} {mo : Nat → Nat} {μ : Sg} (hx : p.tables.exec = Jvm.exec) (hb : c.code = cX8_hour) (hml : c.maxLocals = 4) (hown : s.vm.findClass RX8 = some m.cls) (hts : ∀ w ∈ wsX8_hour, w.before args s = true) (hC : CK D y s) (hi : moI mo) (hg : ∀ i : Nat, i ≤ (μ 0 1).toNatClampNeg → Gd μ ((upTo bX8_h2 (0, μ) i).2))
    (K : ∀ (H : Heap) (locs : List Loc) (ls : Array Slot), MoH D y mo ((upTo bX8_h2 (0, μ) ((μ 0 1).toNatClampNeg)).2) H → va_S (moA mo) s.heap H locs → lv_has ls 4 [(2, .int (nI (μ 0 1).toNatClampNeg)), (1, .int ((upTo bX8_h2 (0, μ) ((μ 0 1).toNatClampNeg)).1)), (0, .ref (mo 0))] → W p l e (headSpec wsX8_hour ({ frames := 5, cells := 0, slots := 0, locals := 114 } : Room)).room s m args below meth c H locs 0 0 Q (F0 m 122 ls [])) :
    ∀ (j i : Nat), i + j = (μ 0 1).toNatClampNeg → ∀ (H : Heap) (locs : List Loc), MoH D y mo ((upTo bX8_h2 (0, μ) i).2) H → va_S (moA mo) s.heap H locs → ∀ ls : Array Slot, lv_has ls 4 [(2, .int (nI i)), (1, .int ((upTo bX8_h2 (0, μ) i).1)), (0, .ref (mo 0))] → W p l e (headSpec wsX8_hour ({ frames := 5, cells := 0, slots := 0, locals := 114 } : Room)).room s m args below meth c H locs 0 0 Q (F0 m 58 ls []) := by
  have hF := (⟨hx, hb, hml, hown, hts⟩ : CallFix p m c cX8_hour 4 s args wsX8_hour RX8)
  have hN := clamp_lt (μ 0 1)
  intro j
  induction j with
  | zero =>
    intro i hin H locs hMo hS ls hl
    obtain rfl : i = (μ 0 1).toNatClampNeg := by omega
    have hgi := hg ((μ 0 1).toNatClampNeg) (Nat.le_refl _)
    have hInv := hgi.1
    have hw := hgi.2.1 1 (by decide)
    refine lv_iload_n hx hb dX8_hour_58 rfl (lv_at hl 0 rfl) ?_
    refine lv_aload_n hx hb dX8_hour_59 rfl (lv_at hl 2 rfl) ?_
    refine va_get (D := D) (ci := 8) (v := .ref (mo 1)) (C := RX8) (T := TX8) (N := 10) hx hb hts iwX8_hour_X8 hown hC.1 hMo 0 rfl rfl 0 (by decide) (hts (.fieldLink RX8 7 "MealLockersModel" "s" "[I") (List.mem_of_getElem? (i := 1) rfl)) (fun _ h9 => h9) rfl dX8_hour_60 ?_
    refine lv_iconst (v := 1) hx hb dX8_hour_63 (by decide) ?_
    refine va_iald hx hb hC.1 hMo 1 0 rfl rfl (vpl (by decide)) dX8_hour_64 ?_
    rw [cl_1]
    refine lv_icmp_ge (tgt := 122) hx hb dX8_hour_65 (by decide) (fun _ => ?_) (fun c_5 => absurd (by rw [hw]; exact up_le _) c_5)
    exact K H locs ls hMo hS (lv_sub hl [0, 1, 2] rfl)
  | succ j ih =>
    intro i hin H locs hMo hS ls hl
    have hgi := hg i (by omega)
    obtain ⟨v, hv⟩ : ∃ v, v = (upTo bX8_h2 (0, μ) i) := ⟨_, rfl⟩
    rw [← hv] at hMo hgi hl
    have hInv := hgi.1
    have hw := hgi.2.1 1 (by decide)
    have f_6 : rg (nI i) 24 := inv_m hInv (by rw [hw]; omega)
    refine lv_iload_n hx hb dX8_hour_58 rfl (lv_at hl 0 rfl) ?_
    refine lv_aload_n hx hb dX8_hour_59 rfl (lv_at hl 2 rfl) ?_
    refine va_get (D := D) (ci := 8) (v := .ref (mo 1)) (C := RX8) (T := TX8) (N := 10) hx hb hts iwX8_hour_X8 hown hC.1 hMo 0 rfl rfl 0 (by decide) (hts (.fieldLink RX8 7 "MealLockersModel" "s" "[I") (List.mem_of_getElem? (i := 1) rfl)) (fun _ h9 => h9) rfl dX8_hour_60 ?_
    refine lv_iconst (v := 1) hx hb dX8_hour_63 (by decide) ?_
    refine va_iald hx hb hC.1 hMo 1 0 rfl rfl (vpl (by decide)) dX8_hour_64 ?_
    rw [cl_1]
    refine lv_icmp_ge (tgt := 122) hx hb dX8_hour_65 (by decide) (fun c_7 => absurd c_7 (by rw [hw]; exact up_gt (by omega))) (fun _ => ?_)
    refine lv_aload_n hx hb dX8_hour_68 rfl (lv_at hl 2 rfl) ?_
    refine lv_iload_n hx hb dX8_hour_69 rfl (lv_at hl 0 rfl) ?_
    refine lv_iconst (v := 0) hx hb dX8_hour_70 (by decide) ?_
    refine kX8_ofMeal hF (cwV 2 hts gX8_hour_X8_ofMeal rfl rfl rfl hdX8_ofMeal ⟨Nat.le_of_ble_eq_true rfl, Nat.le_of_ble_eq_true rfl⟩) hC hMo f_6 (by decide) hl.1 (Nat.le_of_ble_eq_true rfl) dX8_hour_71 ⟨Nat.zero_le _, Nat.zero_le _⟩ ?_
    refine lv_iconst (v := 3) hx hb dX8_hour_74 (by decide) ?_
    refine lv_icmp_ge (tgt := 116) hx hb dX8_hour_75 (by decide) (fun c_8 => ?_) (fun c_8 => ?_)
    · refine lv_iinc (v := (nI (i + 1))) (lv' := [(2, .int (nI (i + 1))), (1, .int v.1), (0, .ref (mo 0))]) hx hb dX8_hour_116 hl (k := 0) rfl (by rw [nI_succ]; rfl) (by decide) rfl (fun ls hl => ?_)
      refine lv_goto (tgt := 58) hx hb dX8_hour_119 (by decide) ?_
      have e9 : (upTo bX8_h2 (0, μ) (i + 1)) = (v.1, v.2) := by show bX8_h2 i (upTo bX8_h2 (0, μ) i) = _; rw [← hv]; unfold bX8_h2; rw [if_pos c_8]
      exact ih (i + 1) (by omega) H locs (by rw [e9]; exact hMo) hS ls (by rw [e9]; exact lv_sub hl [0, 1, 2] rfl)
    · refine lv_aload_n hx hb dX8_hour_78 rfl (lv_at hl 2 rfl) ?_
      refine lv_iload_n hx hb dX8_hour_79 rfl (lv_at hl 0 rfl) ?_
      refine lv_iconst (v := 2) hx hb dX8_hour_80 (by decide) ?_
      refine lv_aload_n hx hb dX8_hour_81 rfl (lv_at hl 2 rfl) ?_
      refine lv_iload_n hx hb dX8_hour_82 rfl (lv_at hl 0 rfl) ?_
      refine lv_iconst (v := 2) hx hb dX8_hour_83 (by decide) ?_
      refine kX8_ofMeal hF (cwV 2 hts gX8_hour_X8_ofMeal rfl rfl rfl hdX8_ofMeal ⟨Nat.le_of_ble_eq_true rfl, Nat.le_of_ble_eq_true rfl⟩) hC hMo f_6 (by decide) hl.1 (Nat.le_of_ble_eq_true rfl) dX8_hour_84 ⟨Nat.zero_le _, Nat.zero_le _⟩ ?_
      refine lv_aload_n hx hb dX8_hour_87 rfl (lv_at hl 2 rfl) ?_
      refine lv_iload_n hx hb dX8_hour_88 rfl (lv_at hl 0 rfl) ?_
      refine kX8_loss hF (cwV 1 hts gX8_hour_X8_loss rfl rfl rfl hdX8_loss ⟨Nat.le_of_ble_eq_true rfl, Nat.le_of_ble_eq_true rfl⟩) hC hMo hInv f_6 hl.1 (Nat.le_of_ble_eq_true rfl) dX8_hour_89 ⟨Nat.zero_le _, Nat.zero_le _⟩ ?_
      refine lv_isub hx hb dX8_hour_92 ?_
      refine kX8_setMeal hF (cwV 3 hts gX8_hour_X8_setMeal rfl rfl rfl hdX8_setMeal ⟨Nat.le_of_ble_eq_true rfl, Nat.le_of_ble_eq_true rfl⟩) hC hMo hi f_6 (by decide) hS (fun _ h => h) hl.1 (Nat.le_of_ble_eq_true rfl) dX8_hour_93 ⟨Nat.zero_le _, Nat.zero_le _⟩ (fun H locs hMo _ _ hS => ?_)
      have hInv := inv_setMeal hInv f_6 (w := 2) (v := ((zX8_ofMeal v.2 (nI i) 2) - (zX8_loss v.2 (nI i)))) (by decide) (fun e => absurd e (by decide)) (fun e => absurd e (by decide)) (fun e => absurd e (by decide))
      refine lv_aload_n hx hb dX8_hour_96 rfl (lv_at hl 2 rfl) ?_
      refine lv_iload_n hx hb dX8_hour_97 rfl (lv_at hl 0 rfl) ?_
      refine lv_iconst (v := 2) hx hb dX8_hour_98 (by decide) ?_
      refine kX8_ofMeal hF (cwV 2 hts gX8_hour_X8_ofMeal rfl rfl rfl hdX8_ofMeal ⟨Nat.le_of_ble_eq_true rfl, Nat.le_of_ble_eq_true rfl⟩) hC hMo f_6 (by decide) hl.1 (Nat.le_of_ble_eq_true rfl) dX8_hour_99 ⟨Nat.zero_le _, Nat.zero_le _⟩ ?_
      refine lv_if_gt (tgt := 116) hx hb dX8_hour_102 (by decide) (fun c_9 => ?_) (fun c_9 => ?_)
      · refine lv_iinc (v := (nI (i + 1))) (lv' := [(2, .int (nI (i + 1))), (1, .int v.1), (0, .ref (mo 0))]) hx hb dX8_hour_116 hl (k := 0) rfl (by rw [nI_succ]; rfl) (by decide) rfl (fun ls hl => ?_)
        refine lv_goto (tgt := 58) hx hb dX8_hour_119 (by decide) ?_
        have e9 : (upTo bX8_h2 (0, μ) (i + 1)) = (v.1, (zX8_setMeal v.2 (nI i) 2 ((zX8_ofMeal v.2 (nI i) 2) - (zX8_loss v.2 (nI i))))) := by show bX8_h2 i (upTo bX8_h2 (0, μ) i) = _; rw [← hv]; unfold bX8_h2; rw [if_neg c_8, if_pos c_9]
        exact ih (i + 1) (by omega) H locs (by rw [e9]; exact hMo) hS ls (by rw [e9]; exact lv_sub hl [0, 1, 2] rfl)
      · refine lv_aload_n hx hb dX8_hour_105 rfl (lv_at hl 2 rfl) ?_
        refine lv_iload_n hx hb dX8_hour_106 rfl (lv_at hl 0 rfl) ?_
        refine kX8_spoils hF (cwV 1 hts gX8_hour_X8_spoils rfl rfl rfl hdX8_spoils ⟨Nat.le_of_ble_eq_true rfl, Nat.le_of_ble_eq_true rfl⟩) hC hMo hi hInv f_6 hS (fun _ h => h) hl.1 (Nat.le_of_ble_eq_true rfl) dX8_hour_107 ⟨Nat.zero_le _, Nat.zero_le _⟩ (fun H locs hMo _ _ hS => ?_)
        have hInv := (gd_X8_spoils hInv f_6).1
        refine lv_iload_n hx hb dX8_hour_110 rfl (lv_at hl 1 rfl) ?_
        refine lv_iconst (v := 1) hx hb dX8_hour_111 (by decide) ?_
        refine lv_iload_n hx hb dX8_hour_112 rfl (lv_at hl 0 rfl) ?_
        refine lv_ishl hx hb dX8_hour_113 ?_
        refine lv_ior hx hb dX8_hour_114 ?_
        refine lv_istore_n (lv' := [(1, .int (v.1 ||| ((1 : Int32) <<< ((nI i) &&& 31)))), (2, .int (nI i)), (0, .ref (mo 0))]) hx hb dX8_hour_115 rfl hl (by decide) rfl (fun ls hl => ?_)
        refine lv_iinc (v := (nI (i + 1))) (lv' := [(2, .int (nI (i + 1))), (1, .int (v.1 ||| ((1 : Int32) <<< ((nI i) &&& 31)))), (0, .ref (mo 0))]) hx hb dX8_hour_116 hl (k := 1) rfl (by rw [nI_succ]; rfl) (by decide) rfl (fun ls hl => ?_)
        refine lv_goto (tgt := 58) hx hb dX8_hour_119 (by decide) ?_
        have e9 : (upTo bX8_h2 (0, μ) (i + 1)) = ((v.1 ||| ((1 : Int32) <<< ((nI i) &&& 31))), (zX8_spoils (zX8_setMeal v.2 (nI i) 2 ((zX8_ofMeal v.2 (nI i) 2) - (zX8_loss v.2 (nI i)))) (nI i))) := by show bX8_h2 i (upTo bX8_h2 (0, μ) i) = _; rw [← hv]; unfold bX8_h2; rw [if_neg c_8, if_neg c_9]
        exact ih (i + 1) (by omega) H locs (by rw [e9]; exact hMo) hS ls (by rw [e9]; exact lv_sub hl [0, 1, 2] rfl)
set_option maxHeartbeats 4000000 in
set_option maxRecDepth 100000 in
theorem lpX8_h3 {p : Program} {l : Launch} {e : Env} {s : State} {m : MethodId} {args : Array Value} {below : List Frame} {meth : Method} {c : Code} {Q : State → Prop} {D : va_G} {y : Y3} {mo : Nat → Nat} {μ : Sg} {x1 : Int32} (hx : p.tables.exec = Jvm.exec) (hb : c.code = cX8_hour) (hml : c.maxLocals = 4) (hown : s.vm.findClass RX8 = some m.cls) (hts : ∀ w ∈ wsX8_hour, w.before args s = true) (hC : CK D y s) (hi : moI mo) (hg : ∀ i : Nat, i ≤ (μ 0 3).toNatClampNeg → Gd μ (upTo bX8_h3 μ i))
    (K : ∀ (H : Heap) (locs : List Loc) (ls : Array Slot), MoH D y mo (upTo bX8_h3 μ ((μ 0 3).toNatClampNeg)) H → va_S (moA mo) s.heap H locs → lv_has ls 4 [(2, .int (nI (μ 0 3).toNatClampNeg)), (0, .ref (mo 0)), (1, .int x1)] → W p l e (headSpec wsX8_hour ({ frames := 5, cells := 0, slots := 0, locals := 114 } : Room)).room s m args below meth c H locs 0 0 Q (F0 m 165 ls [])) :
    ∀ (j i : Nat), i + j = (μ 0 3).toNatClampNeg → ∀ (H : Heap) (locs : List Loc), MoH D y mo (upTo bX8_h3 μ i) H → va_S (moA mo) s.heap H locs → ∀ ls : Array Slot, lv_has ls 4 [(2, .int (nI i)), (0, .ref (mo 0)), (1, .int x1)] → W p l e (headSpec wsX8_hour ({ frames := 5, cells := 0, slots := 0, locals := 114 } : Room)).room s m args below meth c H locs 0 0 Q (F0 m 124 ls []) := by
  have hF := (⟨hx, hb, hml, hown, hts⟩ : CallFix p m c cX8_hour 4 s args wsX8_hour RX8)
  have hN := clamp_lt (μ 0 3)
  intro j
  induction j with
  | zero =>
    intro i hin H locs hMo hS ls hl
    obtain rfl : i = (μ 0 3).toNatClampNeg := by omega
    have hgi := hg ((μ 0 3).toNatClampNeg) (Nat.le_refl _)
    have hInv := hgi.1
    have hw := hgi.2.1 3 (by decide)
    refine lv_iload_n hx hb dX8_hour_124 rfl (lv_at hl 0 rfl) ?_
    refine lv_aload_n hx hb dX8_hour_125 rfl (lv_at hl 1 rfl) ?_
    refine va_get (D := D) (ci := 8) (v := .ref (mo 1)) (C := RX8) (T := TX8) (N := 10) hx hb hts iwX8_hour_X8 hown hC.1 hMo 0 rfl rfl 0 (by decide) (hts (.fieldLink RX8 7 "MealLockersModel" "s" "[I") (List.mem_of_getElem? (i := 1) rfl)) (fun _ h9 => h9) rfl dX8_hour_126 ?_
    refine lv_iconst (v := 3) hx hb dX8_hour_129 (by decide) ?_
    refine va_iald hx hb hC.1 hMo 1 0 rfl rfl (vpl (by decide)) dX8_hour_130 ?_
    rw [cl_3]
    refine lv_icmp_ge (tgt := 165) hx hb dX8_hour_131 (by decide) (fun _ => ?_) (fun c_10 => absurd (by rw [hw]; exact up_le _) c_10)
    exact K H locs ls hMo hS (lv_sub hl [0, 1, 2] rfl)
  | succ j ih =>
    intro i hin H locs hMo hS ls hl
    have hgi := hg i (by omega)
    obtain ⟨v, hv⟩ : ∃ v, v = (upTo bX8_h3 μ i) := ⟨_, rfl⟩
    rw [← hv] at hMo hgi
    have hInv := hgi.1
    have hw := hgi.2.1 3 (by decide)
    have f_11 : rg (nI i) 3 := inv_h hInv (by rw [hw]; omega)
    refine lv_iload_n hx hb dX8_hour_124 rfl (lv_at hl 0 rfl) ?_
    refine lv_aload_n hx hb dX8_hour_125 rfl (lv_at hl 1 rfl) ?_
    refine va_get (D := D) (ci := 8) (v := .ref (mo 1)) (C := RX8) (T := TX8) (N := 10) hx hb hts iwX8_hour_X8 hown hC.1 hMo 0 rfl rfl 0 (by decide) (hts (.fieldLink RX8 7 "MealLockersModel" "s" "[I") (List.mem_of_getElem? (i := 1) rfl)) (fun _ h9 => h9) rfl dX8_hour_126 ?_
    refine lv_iconst (v := 3) hx hb dX8_hour_129 (by decide) ?_
    refine va_iald hx hb hC.1 hMo 1 0 rfl rfl (vpl (by decide)) dX8_hour_130 ?_
    rw [cl_3]
    refine lv_icmp_ge (tgt := 165) hx hb dX8_hour_131 (by decide) (fun c_12 => absurd c_12 (by rw [hw]; exact up_gt (by omega))) (fun _ => ?_)
    refine lv_aload_n hx hb dX8_hour_134 rfl (lv_at hl 1 rfl) ?_
    refine lv_iload_n hx hb dX8_hour_135 rfl (lv_at hl 0 rfl) ?_
    refine lv_iconst (v := 2) hx hb dX8_hour_136 (by decide) ?_
    refine kX8_ofHelper hF (cwV 2 hts gX8_hour_X8_ofHelper rfl rfl rfl hdX8_ofHelper ⟨Nat.le_of_ble_eq_true rfl, Nat.le_of_ble_eq_true rfl⟩) hC hMo f_11 (by decide) hl.1 (Nat.le_of_ble_eq_true rfl) dX8_hour_137 ⟨Nat.zero_le _, Nat.zero_le _⟩ ?_
    refine lv_aload_n hx hb dX8_hour_140 rfl (lv_at hl 1 rfl) ?_
    refine va_get (D := D) (ci := 8) (v := .ref (mo 1)) (C := RX8) (T := TX8) (N := 10) hx hb hts iwX8_hour_X8 hown hC.1 hMo 0 rfl rfl 0 (by decide) (hts (.fieldLink RX8 7 "MealLockersModel" "s" "[I") (List.mem_of_getElem? (i := 1) rfl)) (fun _ h9 => h9) rfl dX8_hour_141 ?_
    refine lv_iconst (v := 4) hx hb dX8_hour_144 (by decide) ?_
    refine va_iald hx hb hC.1 hMo 1 0 rfl rfl (vpl (by decide)) dX8_hour_145 ?_
    rw [cl_4]
    refine lv_icmp_ne (tgt := 157) hx hb dX8_hour_146 (by decide) (fun c_13 => ?_) (fun c_13 => ?_)
    · refine lv_iconst (v := 0) hx hb dX8_hour_157 (by decide) ?_
      refine lv_istore_n (lv' := [(3, .int 0), (2, .int (nI i)), (0, .ref (mo 0)), (1, .int x1)]) hx hb dX8_hour_158 rfl hl (by decide) rfl (fun ls hl => ?_)
      refine lv_iinc (v := (nI (i + 1))) (lv' := [(2, .int (nI (i + 1))), (3, .int 0), (0, .ref (mo 0)), (1, .int x1)]) hx hb dX8_hour_159 hl (k := 1) rfl (by rw [nI_succ]; rfl) (by decide) rfl (fun ls hl => ?_)
      refine lv_goto (tgt := 124) hx hb dX8_hour_162 (by decide) ?_
      have e9 : (upTo bX8_h3 μ (i + 1)) = v := by show bX8_h3 i (upTo bX8_h3 μ i) = _; rw [← hv]; unfold bX8_h3; rw [if_neg c_13]
      exact ih (i + 1) (by omega) H locs (by rw [e9]; exact hMo) hS ls (lv_sub hl [0, 2, 3] rfl)
    · refine lv_aload_n hx hb dX8_hour_149 rfl (lv_at hl 1 rfl) ?_
      refine lv_iload_n hx hb dX8_hour_150 rfl (lv_at hl 0 rfl) ?_
      refine kX8_lays hF (cwV 1 hts gX8_hour_X8_lays rfl rfl rfl hdX8_lays ⟨Nat.le_of_ble_eq_true rfl, Nat.le_of_ble_eq_true rfl⟩) hC hMo hi hInv f_11 hS (fun _ h => h) hl.1 (Nat.le_of_ble_eq_true rfl) dX8_hour_151 ⟨Nat.zero_le _, Nat.zero_le _⟩ (fun H locs hMo _ _ hS => ?_)
      have hInv := (gdq_X8_lays hInv f_11).1
      refine lv_goto (tgt := 158) hx hb dX8_hour_154 (by decide) ?_
      refine lv_istore_n (lv' := [(3, .int ((zX8_lays v (nI i)).1)), (2, .int (nI i)), (0, .ref (mo 0)), (1, .int x1)]) hx hb dX8_hour_158 rfl hl (by decide) rfl (fun ls hl => ?_)
      refine lv_iinc (v := (nI (i + 1))) (lv' := [(2, .int (nI (i + 1))), (3, .int ((zX8_lays v (nI i)).1)), (0, .ref (mo 0)), (1, .int x1)]) hx hb dX8_hour_159 hl (k := 1) rfl (by rw [nI_succ]; rfl) (by decide) rfl (fun ls hl => ?_)
      refine lv_goto (tgt := 124) hx hb dX8_hour_162 (by decide) ?_
      have e9 : (upTo bX8_h3 μ (i + 1)) = (zX8_lays v (nI i)).2 := by show bX8_h3 i (upTo bX8_h3 μ i) = _; rw [← hv]; unfold bX8_h3; rw [if_pos c_13]
      exact ih (i + 1) (by omega) H locs (by rw [e9]; exact hMo) hS ls (lv_sub hl [0, 2, 3] rfl)
set_option maxHeartbeats 4000000 in
set_option maxRecDepth 100000 in
theorem lpX8_h4 {p : Program} {l : Launch} {e : Env} {s : State} {m : MethodId} {args : Array Value} {below : List Frame} {meth : Method} {c : Code} {Q : State → Prop} {D : va_G} {y : Y3} {mo : Nat → Nat} {μ : Sg} {x1 : Int32} (hx : p.tables.exec = Jvm.exec) (hb : c.code = cX8_hour) (hml : c.maxLocals = 4) (hown : s.vm.findClass RX8 = some m.cls) (hts : ∀ w ∈ wsX8_hour, w.before args s = true) (hC : CK D y s) (hi : moI mo) (hg : ∀ i : Nat, i ≤ (μ 0 1).toNatClampNeg → Gd μ (upTo bX8_h4 μ i))
    (K : ∀ (H : Heap) (locs : List Loc) (ls : Array Slot), MoH D y mo (upTo bX8_h4 μ ((μ 0 1).toNatClampNeg)) H → va_S (moA mo) s.heap H locs → lv_has ls 4 [(2, .int (nI (μ 0 1).toNatClampNeg)), (0, .ref (mo 0)), (1, .int x1)] → W p l e (headSpec wsX8_hour ({ frames := 5, cells := 0, slots := 0, locals := 114 } : Room)).room s m args below meth c H locs 0 0 Q (F0 m 221 ls [])) :
    ∀ (j i : Nat), i + j = (μ 0 1).toNatClampNeg → ∀ (H : Heap) (locs : List Loc), MoH D y mo (upTo bX8_h4 μ i) H → va_S (moA mo) s.heap H locs → ∀ ls : Array Slot, lv_has ls 4 [(2, .int (nI i)), (0, .ref (mo 0)), (1, .int x1)] → W p l e (headSpec wsX8_hour ({ frames := 5, cells := 0, slots := 0, locals := 114 } : Room)).room s m args below meth c H locs 0 0 Q (F0 m 167 ls []) := by
  have hF := (⟨hx, hb, hml, hown, hts⟩ : CallFix p m c cX8_hour 4 s args wsX8_hour RX8)
  have hN := clamp_lt (μ 0 1)
  intro j
  induction j with
  | zero =>
    intro i hin H locs hMo hS ls hl
    obtain rfl : i = (μ 0 1).toNatClampNeg := by omega
    have hgi := hg ((μ 0 1).toNatClampNeg) (Nat.le_refl _)
    have hInv := hgi.1
    have hw := hgi.2.1 1 (by decide)
    refine lv_iload_n hx hb dX8_hour_167 rfl (lv_at hl 0 rfl) ?_
    refine lv_aload_n hx hb dX8_hour_168 rfl (lv_at hl 1 rfl) ?_
    refine va_get (D := D) (ci := 8) (v := .ref (mo 1)) (C := RX8) (T := TX8) (N := 10) hx hb hts iwX8_hour_X8 hown hC.1 hMo 0 rfl rfl 0 (by decide) (hts (.fieldLink RX8 7 "MealLockersModel" "s" "[I") (List.mem_of_getElem? (i := 1) rfl)) (fun _ h9 => h9) rfl dX8_hour_169 ?_
    refine lv_iconst (v := 1) hx hb dX8_hour_172 (by decide) ?_
    refine va_iald hx hb hC.1 hMo 1 0 rfl rfl (vpl (by decide)) dX8_hour_173 ?_
    rw [cl_1]
    refine lv_icmp_ge (tgt := 221) hx hb dX8_hour_174 (by decide) (fun _ => ?_) (fun c_14 => absurd (by rw [hw]; exact up_le _) c_14)
    exact K H locs ls hMo hS (lv_sub hl [0, 1, 2] rfl)
  | succ j ih =>
    intro i hin H locs hMo hS ls hl
    have hgi := hg i (by omega)
    obtain ⟨v, hv⟩ : ∃ v, v = (upTo bX8_h4 μ i) := ⟨_, rfl⟩
    rw [← hv] at hMo hgi
    have hInv := hgi.1
    have hw := hgi.2.1 1 (by decide)
    have f_15 : rg (nI i) 24 := inv_m hInv (by rw [hw]; omega)
    refine lv_iload_n hx hb dX8_hour_167 rfl (lv_at hl 0 rfl) ?_
    refine lv_aload_n hx hb dX8_hour_168 rfl (lv_at hl 1 rfl) ?_
    refine va_get (D := D) (ci := 8) (v := .ref (mo 1)) (C := RX8) (T := TX8) (N := 10) hx hb hts iwX8_hour_X8 hown hC.1 hMo 0 rfl rfl 0 (by decide) (hts (.fieldLink RX8 7 "MealLockersModel" "s" "[I") (List.mem_of_getElem? (i := 1) rfl)) (fun _ h9 => h9) rfl dX8_hour_169 ?_
    refine lv_iconst (v := 1) hx hb dX8_hour_172 (by decide) ?_
    refine va_iald hx hb hC.1 hMo 1 0 rfl rfl (vpl (by decide)) dX8_hour_173 ?_
    rw [cl_1]
    refine lv_icmp_ge (tgt := 221) hx hb dX8_hour_174 (by decide) (fun c_16 => absurd c_16 (by rw [hw]; exact up_gt (by omega))) (fun _ => ?_)
    refine lv_aload_n hx hb dX8_hour_177 rfl (lv_at hl 1 rfl) ?_
    refine lv_iload_n hx hb dX8_hour_178 rfl (lv_at hl 0 rfl) ?_
    refine lv_iconst (v := 0) hx hb dX8_hour_179 (by decide) ?_
    refine kX8_ofMeal hF (cwV 2 hts gX8_hour_X8_ofMeal rfl rfl rfl hdX8_ofMeal ⟨Nat.le_of_ble_eq_true rfl, Nat.le_of_ble_eq_true rfl⟩) hC hMo f_15 (by decide) hl.1 (Nat.le_of_ble_eq_true rfl) dX8_hour_180 ⟨Nat.zero_le _, Nat.zero_le _⟩ ?_
    refine lv_iconst (v := 1) hx hb dX8_hour_183 (by decide) ?_
    refine lv_icmp_ne (tgt := 215) hx hb dX8_hour_184 (by decide) (fun c_17 => ?_) (fun c_17 => ?_)
    · refine lv_iinc (v := (nI (i + 1))) (lv' := [(2, .int (nI (i + 1))), (0, .ref (mo 0)), (1, .int x1)]) hx hb dX8_hour_215 hl (k := 0) rfl (by rw [nI_succ]; rfl) (by decide) rfl (fun ls hl => ?_)
      refine lv_goto (tgt := 167) hx hb dX8_hour_218 (by decide) ?_
      have e9 : (upTo bX8_h4 μ (i + 1)) = v := by show bX8_h4 i (upTo bX8_h4 μ i) = _; rw [← hv]; unfold bX8_h4; rw [if_neg c_17]
      exact ih (i + 1) (by omega) H locs (by rw [e9]; exact hMo) hS ls (lv_sub hl [0, 1, 2] rfl)
    · refine lv_aload_n hx hb dX8_hour_187 rfl (lv_at hl 1 rfl) ?_
      refine va_get (D := D) (ci := 8) (v := .ref (mo 1)) (C := RX8) (T := TX8) (N := 10) hx hb hts iwX8_hour_X8 hown hC.1 hMo 0 rfl rfl 0 (by decide) (hts (.fieldLink RX8 7 "MealLockersModel" "s" "[I") (List.mem_of_getElem? (i := 1) rfl)) (fun _ h9 => h9) rfl dX8_hour_188 ?_
      refine lv_iconst (v := 4) hx hb dX8_hour_191 (by decide) ?_
      refine va_iald hx hb hC.1 hMo 1 0 rfl rfl (vpl (by decide)) dX8_hour_192 ?_
      rw [cl_4]
      refine lv_aload_n hx hb dX8_hour_193 rfl (lv_at hl 1 rfl) ?_
      refine lv_iload_n hx hb dX8_hour_194 rfl (lv_at hl 0 rfl) ?_
      refine lv_bipush (v := 6) hx hb dX8_hour_195 (by decide) ?_
      refine kX8_ofMeal hF (cwV 2 hts gX8_hour_X8_ofMeal rfl rfl rfl hdX8_ofMeal ⟨Nat.le_of_ble_eq_true rfl, Nat.le_of_ble_eq_true rfl⟩) hC hMo f_15 (by decide) hl.1 (Nat.le_of_ble_eq_true rfl) dX8_hour_197 ⟨Nat.zero_le _, Nat.zero_le _⟩ ?_
      refine lv_isub hx hb dX8_hour_200 ?_
      refine lv_aload_n hx hb dX8_hour_201 rfl (lv_at hl 1 rfl) ?_
      refine va_get (D := D) (ci := 8) (v := .ref (mo 1)) (C := RX8) (T := TX8) (N := 10) hx hb hts iwX8_hour_X8 hown hC.1 hMo 0 rfl rfl 0 (by decide) (hts (.fieldLink RX8 7 "MealLockersModel" "s" "[I") (List.mem_of_getElem? (i := 1) rfl)) (fun _ h9 => h9) rfl dX8_hour_202 ?_
      refine lv_iconst (v := 5) hx hb dX8_hour_205 (by decide) ?_
      refine va_iald hx hb hC.1 hMo 1 0 rfl rfl (vpl (by decide)) dX8_hour_206 ?_
      rw [cl_5]
      refine lv_icmp_lt (tgt := 215) hx hb dX8_hour_207 (by decide) (fun c_18 => ?_) (fun c_18 => ?_)
      · refine lv_iinc (v := (nI (i + 1))) (lv' := [(2, .int (nI (i + 1))), (0, .ref (mo 0)), (1, .int x1)]) hx hb dX8_hour_215 hl (k := 0) rfl (by rw [nI_succ]; rfl) (by decide) rfl (fun ls hl => ?_)
        refine lv_goto (tgt := 167) hx hb dX8_hour_218 (by decide) ?_
        have e9 : (upTo bX8_h4 μ (i + 1)) = v := by show bX8_h4 i (upTo bX8_h4 μ i) = _; rw [← hv]; unfold bX8_h4; rw [if_pos c_17, if_pos c_18]
        exact ih (i + 1) (by omega) H locs (by rw [e9]; exact hMo) hS ls (lv_sub hl [0, 1, 2] rfl)
      · refine lv_aload_n hx hb dX8_hour_210 rfl (lv_at hl 1 rfl) ?_
        refine lv_iload_n hx hb dX8_hour_211 rfl (lv_at hl 0 rfl) ?_
        have hs1 := c_17
        refine kX8_lapses hF (cwV 1 hts gX8_hour_X8_lapses rfl rfl rfl hdX8_lapses ⟨Nat.le_of_ble_eq_true rfl, Nat.le_of_ble_eq_true rfl⟩) hC hMo hi hInv hs1 f_15 hS (fun _ h => h) hl.1 (Nat.le_of_ble_eq_true rfl) dX8_hour_212 ⟨Nat.zero_le _, Nat.zero_le _⟩ (fun H locs hMo _ _ hS => ?_)
        have hInv := (gd_X8_lapses hInv f_15 hs1).1
        refine lv_iinc (v := (nI (i + 1))) (lv' := [(2, .int (nI (i + 1))), (0, .ref (mo 0)), (1, .int x1)]) hx hb dX8_hour_215 hl (k := 0) rfl (by rw [nI_succ]; rfl) (by decide) rfl (fun ls hl => ?_)
        refine lv_goto (tgt := 167) hx hb dX8_hour_218 (by decide) ?_
        have e9 : (upTo bX8_h4 μ (i + 1)) = (zX8_lapses v (nI i)) := by show bX8_h4 i (upTo bX8_h4 μ i) = _; rw [← hv]; unfold bX8_h4; rw [if_pos c_17, if_neg c_18]
        exact ih (i + 1) (by omega) H locs (by rw [e9]; exact hMo) hS ls (lv_sub hl [0, 1, 2] rfl)
set_option maxHeartbeats 4000000 in
set_option maxRecDepth 100000 in
theorem mX8_hour (l : Launch) (D : va_G) (y : Y3) (mo : Nat → Nat) (μ : Sg) : Met l yX8_hour wsX8_hour ({ frames := 5, cells := 0, slots := 0, locals := 114 } : Room) (va_Pc [.ref (mo 0)] (fun U => CK D y U ∧ MoH D y mo μ U.heap ∧ moI mo ∧ InvM μ)) (va_Qi (fun (r : Int32) (u : Sg) => r = (zX8_hour μ).1 ∧ u = (zX8_hour μ).2) (fun u t => MoH D y mo u t.heap) (moA mo)) 0 0 (moA mo) := by
  refine Met.ofW (cc := cX8_hour) (maxL := 4) (ret := (some .int)) (by decide) rfl ?_
  intro p e s m args below meth c s₁ B hml hv
  obtain ⟨rfl, hC, hMo, hi, hInv⟩ := hv
  have hx := B.exec
  have hb := B.bytes
  have hr := B.returns
  have hts := atoms_spec (ws := wsX8_hour) B.pre
  have hown : s.vm.findClass RX8 = some m.cls := findClass_of_methodNamed B.named
  have hlocks := B.notSynchronized
  have hF := (⟨hx, hb, hml, hown, hts⟩ : CallFix p m c cX8_hour 4 s _ wsX8_hour RX8)
  have hS : va_S (moA mo) s.heap s.heap [] := va_S.rf
  have hl := lv_entry ([.ref (mo 0)]) (n := 4) (Nat.le_of_ble_eq_true rfl)
  rw [lg_entry_eq]
  generalize (lg_sl ([.ref (mo 0)]) ++ List.replicate (4 - (lg_sl ([.ref (mo 0)])).length) Slot.unset).toArray = ls at hl ⊢
  have hl : lv_has ls 4 [(0, .ref (mo 0))] := hl
  refine lv_iconst (v := 0) hx hb dX8_hour_0 (by decide) ?_
  refine lv_istore_n (lv' := [(1, .int 0), (0, .ref (mo 0))]) hx hb dX8_hour_1 rfl hl (by decide) rfl (fun ls hl => ?_)
  refine lv_iconst (v := 0) hx hb dX8_hour_2 (by decide) ?_
  refine lv_istore_n (lv' := [(2, .int 0), (1, .int 0), (0, .ref (mo 0))]) hx hb dX8_hour_3 rfl hl (by decide) rfl (fun ls hl => ?_)
  refine lpX8_h1 (μ := μ) hx hb hml hown hts hC hi (g_h1 hInv) (fun H locs ls hMo hS hl => ?_) _ 0 (Nat.zero_add _) _ _ hMo hS ls (lv_sub hl [0, 2, 1] rfl)
  have hMo : MoH D y mo (zh1 μ) H := hMo
  have hl : lv_has ls 4 [(2, .int (nI (μ 0 3).toNatClampNeg)), (0, .ref (mo 0)), (1, .int 0)] := hl
  have hInv := (gd_h1 hInv).1
  refine lv_aload_n hx hb dX8_hour_46 rfl (lv_at hl 1 rfl) ?_
  refine va_get (D := D) (ci := 8) (v := .ref (mo 1)) (C := RX8) (T := TX8) (N := 10) hx hb hts iwX8_hour_X8 hown hC.1 hMo 0 rfl rfl 0 (by decide) (hts (.fieldLink RX8 7 "MealLockersModel" "s" "[I") (List.mem_of_getElem? (i := 1) rfl)) (fun _ h9 => h9) rfl dX8_hour_47 ?_
  refine lv_iconst (v := 4) hx hb dX8_hour_50 (by decide) ?_
  refine lv_dup2_11 hx hb dX8_hour_51 rfl rfl ?_
  refine va_iald hx hb hC.1 hMo 1 0 rfl rfl (vpl (by decide)) dX8_hour_52 ?_
  rw [cl_4]
  refine lv_iconst (v := 1) hx hb dX8_hour_53 (by decide) ?_
  refine lv_iadd hx hb dX8_hour_54 ?_
  refine va_iast hx hb hC.1 hMo (mo_D hi) hS 1 0 rfl rfl (vpl (by decide)) dX8_hour_55 (fun H locs hMo _ hS => ?_)
  rw [cl_4] at hMo
  have hMo := mo_row1 hMo
  have hInv := inv_low (i := 4) (v := (((zh1 μ) 0 4) + 1)) hInv (by decide) (by decide)
  refine lv_iconst (v := 0) hx hb dX8_hour_56 (by decide) ?_
  refine lv_istore_n (lv' := [(2, .int 0), (0, .ref (mo 0)), (1, .int 0)]) hx hb dX8_hour_57 rfl hl (by decide) rfl (fun ls hl => ?_)
  refine lpX8_h2 (μ := mU (zh1 μ) 0 (upd ((zh1 μ) 0) 4 (((zh1 μ) 0 4) + 1))) hx hb hml hown hts hC hi (g_h2 hInv) (fun H locs ls hMo hS hl => ?_) _ 0 (Nat.zero_add _) _ _ hMo hS ls (lv_sub hl [0, 2, 1] rfl)
  have hMo : MoH D y mo ((zh2 (mU (zh1 μ) 0 (upd ((zh1 μ) 0) 4 (((zh1 μ) 0 4) + 1)))).2) H := hMo
  have hl : lv_has ls 4 [(2, .int (nI ((mU (zh1 μ) 0 (upd ((zh1 μ) 0) 4 (((zh1 μ) 0 4) + 1))) 0 1).toNatClampNeg)), (1, .int ((zh2 (mU (zh1 μ) 0 (upd ((zh1 μ) 0) 4 (((zh1 μ) 0 4) + 1)))).1)), (0, .ref (mo 0))] := hl
  have hInv := (gd_h2 hInv).1
  refine lv_iconst (v := 0) hx hb dX8_hour_122 (by decide) ?_
  refine lv_istore_n (lv' := [(2, .int 0), (1, .int ((zh2 (mU (zh1 μ) 0 (upd ((zh1 μ) 0) 4 (((zh1 μ) 0 4) + 1)))).1)), (0, .ref (mo 0))]) hx hb dX8_hour_123 rfl hl (by decide) rfl (fun ls hl => ?_)
  refine lpX8_h3 (μ := (zh2 (mU (zh1 μ) 0 (upd ((zh1 μ) 0) 4 (((zh1 μ) 0 4) + 1)))).2) hx hb hml hown hts hC hi (g_h3 hInv) (fun H locs ls hMo hS hl => ?_) _ 0 (Nat.zero_add _) _ _ hMo hS ls (lv_sub hl [0, 2, 1] rfl)
  have hMo : MoH D y mo (zh3 ((zh2 (mU (zh1 μ) 0 (upd ((zh1 μ) 0) 4 (((zh1 μ) 0 4) + 1)))).2)) H := hMo
  have hl : lv_has ls 4 [(2, .int (nI (((zh2 (mU (zh1 μ) 0 (upd ((zh1 μ) 0) 4 (((zh1 μ) 0 4) + 1)))).2) 0 3).toNatClampNeg)), (0, .ref (mo 0)), (1, .int ((zh2 (mU (zh1 μ) 0 (upd ((zh1 μ) 0) 4 (((zh1 μ) 0 4) + 1)))).1))] := hl
  have hInv := (gd_h3 hInv).1
  refine lv_iconst (v := 0) hx hb dX8_hour_165 (by decide) ?_
  refine lv_istore_n (lv' := [(2, .int 0), (0, .ref (mo 0)), (1, .int ((zh2 (mU (zh1 μ) 0 (upd ((zh1 μ) 0) 4 (((zh1 μ) 0 4) + 1)))).1))]) hx hb dX8_hour_166 rfl hl (by decide) rfl (fun ls hl => ?_)
  refine lpX8_h4 (μ := (zh3 ((zh2 (mU (zh1 μ) 0 (upd ((zh1 μ) 0) 4 (((zh1 μ) 0 4) + 1)))).2))) hx hb hml hown hts hC hi (g_h4 hInv) (fun H locs ls hMo hS hl => ?_) _ 0 (Nat.zero_add _) _ _ hMo hS ls (lv_sub hl [0, 1, 2] rfl)
  have hMo : MoH D y mo (zh4 (zh3 ((zh2 (mU (zh1 μ) 0 (upd ((zh1 μ) 0) 4 (((zh1 μ) 0 4) + 1)))).2))) H := hMo
  have hl : lv_has ls 4 [(2, .int (nI ((zh3 ((zh2 (mU (zh1 μ) 0 (upd ((zh1 μ) 0) 4 (((zh1 μ) 0 4) + 1)))).2)) 0 1).toNatClampNeg)), (0, .ref (mo 0)), (1, .int ((zh2 (mU (zh1 μ) 0 (upd ((zh1 μ) 0) 4 (((zh1 μ) 0 4) + 1)))).1))] := hl
  have hInv := (gd_h4 hInv).1
  refine lv_iload_n hx hb dX8_hour_221 rfl (lv_at hl 2 rfl) ?_
  exact W.iret (v := (zh2 (mU (zh1 μ) 0 (upd ((zh1 μ) 0) 4 (((zh1 μ) 0 4) + 1)))).1) hx hb hr (fun t ht hW => ⟨⟨(zh2 (mU (zh1 μ) 0 (upd ((zh1 μ) 0) 4 (((zh1 μ) 0 4) + 1)))).1, (zh4 (zh3 ((zh2 (mU (zh1 μ) 0 (upd ((zh1 μ) 0) 4 (((zh1 μ) 0 4) + 1)))).2))), rfl, ⟨rfl, rfl⟩, by dsimp only; rw [ht]; exact hMo⟩, hS.F ht⟩) hS.2.2 dX8_hour_222
set_option maxHeartbeats 4000000 in
set_option maxRecDepth 100000 in
theorem kX8_hour {p : Program} {l : Launch} {e : Env} {R : Room} {s : State} {m : MethodId} {args : Array Value} {below : List Frame} {meth : Method} {c : Code} {H : Heap} {locs : List Loc} {cells slots : Nat} {Q : State → Prop} {cc : ByteArray} {nL : Nat} {Ts : List Cond} {own : String} {index pc : Nat} {ls : Array Slot} {rest : List Value} {D : va_G} {y : Y3} {mo : Nat → Nat} {μ : Sg} {A0 : Nat → Prop} {H0 : Heap} (hF : CallFix p m c cc nL s args Ts own) (cw : CallW R s args own RX8 index yX8_hour cX8_hour 4 (some .int) wsX8_hour ({ frames := 5, cells := 0, slots := 0, locals := 114 } : Room) 0 0 0) (hC : CK D y s) (hMo : MoH D y mo μ H) (hi : moI mo) (hInv : InvM μ) (hS : va_S A0 H0 H locs) (hA : ∀ q, (moA mo) q → A0 q) (hsz : ls.size = nL) (hW : (rest.map fun v => v.category).sum ≤ 8) (hdg : decode cc pc = .ok (.invokevirtual index, 3)) (hf : cells ≤ R.cells ∧ slots ≤ R.slots)
    (k : ∀ (H1 : Heap) (locs1 : List Loc), MoH D y mo (zX8_hour μ).2 H1 → H.size ≤ H1.size → (∀ q : Nat, q < H.size → ¬ (moA mo) q → H1[q]? = H[q]?) → va_S A0 H0 H1 locs1 → W p l e R s m args below meth c H1 locs1 cells slots Q (F0 m (pc + 3) ls (.int ((zX8_hour μ).1) :: rest))) : W p l e R s m args below meth c H locs cells slots Q (F0 m pc ls (.ref (mo 0) :: rest)) := by
  refine va_calli (va_runV (As := []) (rest := rest) hF (mX8_hour l D y mo μ) cw ⟨fun a U g mk q => by obtain ⟨q0, q1, q2, q3, q4⟩ := q; exact ⟨q0, q1.call g mk a, q2, q3, q4⟩, va_recv hC.1 hMo (ci := 8) (q0 := 0) rfl rfl, fun U hU hW => ⟨rfl, hC.warm hW, by rw [hU]; exact hMo, hi, hInv⟩⟩ rfl rfl hsz rfl (lv_room hW) hdg ⟨hf.1, hf.2⟩) hS (fun q _ h => hA q h) hA (fun r u t H1 locs1 ht hvm hp hB hz1 hk1 hS1 => ?_)
  obtain ⟨hp1, hp2⟩ := hp
  subst hp1; subst hp2
  rw [ht] at hB
  exact k H1 locs1 hB hz1 hk1 hS1
theorem gd_X8_hour {μ : Sg} (h : InvM μ) : Gd μ (zX8_hour μ).2 := by
  have a := gd_h1 h
  have b := a.low (i := 4) (v := zh1 μ 0 4 + 1) (by decide) (by decide)
  have c := b.tr (gd_h2 b.1)
  have d := c.tr (gd_h3 c.1)
  exact d.tr (gd_h4 d.1)
