section PUT1
variable {p : Program} {l : Launch} {e : Env} {R : Room} {s : State} {m : MethodId} {args : Array Value} {below : List Frame} {meth : Method} {c : Code} {H : Heap} {locs : List Loc} {cells slots : Nat} {Q : State → Prop}
variable {cc : ByteArray} {pc : Nat} {ls : Array Slot} {rest : List Value} {D : va_G} {cl : List vw_C} {A : Nat → Prop} {a : Nat} {tys : List (ClassId × FieldType)} {H0 : Heap}
/-- a field of one object is written: every other cell stays -/
theorem va_put1 (hx : p.tables.exec = Jvm.exec) (hb : c.code = cc) {own C : String} {T : u_T} {N ci index : Nat} {Ts : List Cond} (hts : ∀ w ∈ Ts, w.before args s = true) (hin : ∀ w ∈ u_ws C T N, w ∈ Ts) (ty0 : Nat → FieldType) (hty : ∀ k, k < N → parseFieldDescriptor (T k).2.2.1 = some (ty0 k)) (hnm : ∀ a, a < N → ∀ b, b < N → a ≠ b → (T a).2.1 ≠ (T b).2.1) (hown : s.vm.findClass own = some m.cls) (hK : va_K D cl tys s) {fs : List Value} (hP : va_P D cl [(a, .inr (ci, fs))] H) (hS : va_S A H0 H locs) (hA : A a) (hc : cl[ci]? = some (C, T, N)) (k : Nat) (hk : k < N)
    (hlink : (Cond.fieldLink own index (T k).1 (T k).2.1 (T k).2.2.1).before args s = true) (hfin : (T k).2.2.2 = false) {ty : FieldType} {v : Value} (hd : parseFieldDescriptor (T k).2.2.1 = some ty) (hn : narrow ty v = v) (hfit : fits ty v = true) (hl : k < fs.length) (hdg : decode cc pc = .ok (.putfield index, 3))
    (kk : ∀ (H1 : Heap) (locs1 : List Loc), va_P D cl [(a, .inr (ci, fs.set k v))] H1 → H1.size = H.size → (∀ q : Nat, q ≠ a → H1[q]? = H[q]?) → va_S A H0 H1 locs1 → W p l e R s m args below meth c H1 locs1 cells slots Q (F0 m (pc + 3) ls rest)) : W p l e R s m args below meth c H locs cells slots Q (F0 m pc ls (v :: .ref a :: rest)) := by
  have apart := va_apart (own := own) hts hin ty0 hty hnm hK hc
  obtain ⟨r, hr1, cell, z1, z2, z3, z4⟩ := hP 0 _ rfl
  obtain rfl : r = (C, T, N) := Option.some.inj (hr1.symm.trans hc)
  obtain ⟨hSl, hfc, kC, hkC, hkind⟩ := hK.1 ci _ hc
  obtain ⟨cf, kf, fi, f, hfd, hsl⟩ := hSl k hk
  have hlay := hts _ (hin _ (u_in_lay hk))
  unfold u_lay at hlay
  rw [if_neg (by rw [hfin]; decide)] at hlay
  have hstat := (u_facts hfc hkC (u_lays hts hin hk) hfd).1
  have hsd := u_store hfc hkC hkind hlay hfd hd hn hfit
  refine W.putK hx hb (f := f) ⟨hown, hlink, ⟨_, _, _, hfd⟩, hstat⟩ (by rw [z2]; exact hsd) z1 z3 (by rw [hsl]; exact k2_hasslot (z4 k hk)) rfl rfl hdg (fun H1 g1 g2 g3 => ?_)
  rw [hsl] at g1 ⊢
  refine kk H1 _ ?_ g2 g3 (hS.put g2 g3 hA)
  intro j q hq
  match j, hq with
  | 0, hq =>
    cases hq
    exact ⟨_, hc, t_OB.to (V := updV (vp_V fs) k v) ⟨_, g1, z2, z3, t_set z4 apart hk v⟩ (fun j _ => vp_updV_set hl v j)⟩
  | j + 1, hq => simp at hq
end PUT1
theorem pl_put0 {D : va_G} {pa a : Nat} {Ω : Og} {H : Heap} {v : Int32} (h : va_P D vwCl [(pa, .inr (2, ([.ref a, .int (Ω 7 1 0), .int (Ω 7 1 1)] : List Value).set 1 (.int v)))] H) : va_P D vwCl [(pa, .inr (2, [.ref a, .int (oP Ω 0 v 7 1 0), .int (oP Ω 0 v 7 1 1)]))] H := h
theorem pl_put1 {D : va_G} {pa a : Nat} {Ω : Og} {H : Heap} {v : Int32} (h : va_P D vwCl [(pa, .inr (2, ([.ref a, .int (Ω 7 1 0), .int (Ω 7 1 1)] : List Value).set 2 (.int v)))] H) : va_P D vwCl [(pa, .inr (2, [.ref a, .int (oP Ω 1 v 7 1 0), .int (oP Ω 1 v 7 1 1)]))] H := h
theorem okC_oP {Ω : Og} {k : Nat} {v : Int32} (h : okC (Ω 6)) : okC (oP Ω k v 6) := h
def wX2_playText : Nat → Nat → Og → Int32 × Og
  | 0, i, Ω => (nI i, Ω)
  | n + 1, i, Ω => if (zX6_length (Ω 6)) ≤ (Ω 7 1 0) then (nI i, Ω)
    else (if (zX6_readCommand (Ω 6) (Ω 7 1 0)).1 = 0 then (if ((oP (oS Ω 6 (zX6_readCommand (Ω 6) (Ω 7 1 0)).2) 1 1) 7 1 1) = 0 then wX2_playText n (i + 1) (oP (oP (oS Ω 6 (zX6_readCommand (Ω 6) (Ω 7 1 0)).2) 1 1) 0 ((oP (oS Ω 6 (zX6_readCommand (Ω 6) (Ω 7 1 0)).2) 1 1) 6 1 1))
        else (-2, oP (oS Ω 6 (zX6_readCommand (Ω 6) (Ω 7 1 0)).2) 1 1))
      else (if ((oP ((zX2_doCommand (oS Ω 6 (zX6_readCommand (Ω 6) (Ω 7 1 0)).2)).2) 1 (zX2_reasonOf ((zX2_doCommand (oS Ω 6 (zX6_readCommand (Ω 6) (Ω 7 1 0)).2)).1))) 7 1 1) = 0 then wX2_playText n (i + 1) (oP (oP ((zX2_doCommand (oS Ω 6 (zX6_readCommand (Ω 6) (Ω 7 1 0)).2)).2) 1 (zX2_reasonOf ((zX2_doCommand (oS Ω 6 (zX6_readCommand (Ω 6) (Ω 7 1 0)).2)).1))) 0 ((oP ((zX2_doCommand (oS Ω 6 (zX6_readCommand (Ω 6) (Ω 7 1 0)).2)).2) 1 (zX2_reasonOf ((zX2_doCommand (oS Ω 6 (zX6_readCommand (Ω 6) (Ω 7 1 0)).2)).1))) 6 1 1))
        else (-2, oP ((zX2_doCommand (oS Ω 6 (zX6_readCommand (Ω 6) (Ω 7 1 0)).2)).2) 1 (zX2_reasonOf ((zX2_doCommand (oS Ω 6 (zX6_readCommand (Ω 6) (Ω 7 1 0)).2)).1)))))
def zX2_playText (Ω : Og) : Int32 × Og := wX2_playText 60 0 (oP (oP Ω 0 0) 1 0)
theorem iwX2_playText_X2 : ∀ w ∈ wsX20, w ∈ wsX2_playText := fun _ h => List.mem_cons_of_mem _ (List.mem_append_left _ (List.mem_append_left _ (List.mem_append_left _ (List.mem_append_left _ (List.mem_append_right _ h)))))
theorem iwX2_playText_X6 : ∀ w ∈ wsX60, w ∈ wsX2_playText := fun _ h => List.mem_cons_of_mem _ (List.mem_append_left _ (List.mem_append_left _ (List.mem_append_left _ (List.mem_append_right _ h))))
theorem hdX2_playText : yX2_playText.cls = RX2 ∧ yX2_playText.cls ≠ "java/lang/invoke/MethodHandle" ∧ yX2_playText.cls ≠ "java/lang/invoke/VarHandle" ∧ (parseMethodDescriptor yX2_playText.desc).map (fun d => d.parameters.length) = some 1 := by decide +kernel
set_option maxHeartbeats 4000000 in
set_option maxRecDepth 100000 in
theorem lpX2_playText {p : Program} {l : Launch} {e : Env} {s : State} {m : MethodId} {args : Array Value} {below : List Frame} {meth : Method} {c : Code} {Q : State → Prop} {D : va_G} {y : Y3} {pa a b h : Nat} {ad : Nat → Nat} {Ω0 : Og} (hx : p.tables.exec = Jvm.exec) (hb : c.code = cX2_playText) (hml : c.maxLocals = 3) (hown : s.vm.findClass RX2 = some m.cls) (hts : ∀ w ∈ wsX2_playText, w.before args s = true) (hC : CK D y s) (hJ : plJ pa a b h ad)
    (K : ∀ (x2 : Int32) (Ω : Og) (H : Heap) (locs : List Loc) (ls : Array Slot), (x2, Ω) = wX2_playText 60 0 Ω0 → PLH D y pa a b h ad Ω H → va_S (plA pa a b ad) s.heap H locs → lv_has ls 3 [(2, .int x2), (0, .ref pa), (1, .ref h)] → W p l e (headSpec wsX2_playText ({ frames := 6, cells := 0, slots := 0, locals := 138 } : Room)).room s m args below meth c H locs 0 0 Q (F0 m 89 ls []))
    (K2 : ∀ (Ω : Og) (H : Heap) (locs : List Loc) (ls : Array Slot), (-2, Ω) = wX2_playText 60 0 Ω0 → PLH D y pa a b h ad Ω H → va_S (plA pa a b ad) s.heap H locs → W p l e (headSpec wsX2_playText ({ frames := 6, cells := 0, slots := 0, locals := 138 } : Room)).room s m args below meth c H locs 0 0 Q (F0 m 71 ls [.int (-2)])) :
    ∀ (j i : Nat) (Ω : Og), i + j = 60 → wX2_playText 60 0 Ω0 = wX2_playText j i Ω → okC (Ω 6) → ∀ (H : Heap) (locs : List Loc), PLH D y pa a b h ad Ω H → va_S (plA pa a b ad) s.heap H locs → ∀ ls : Array Slot, lv_has ls 3 [(2, .int (nI i)), (0, .ref pa), (1, .ref h)] → W p l e (headSpec wsX2_playText ({ frames := 6, cells := 0, slots := 0, locals := 138 } : Room)).room s m args below meth c H locs 0 0 Q (F0 m 12 ls []) := by
  have hF := (⟨hx, hb, hml, hown, hts⟩ : CallFix p m c cX2_playText 3 s args wsX2_playText RX2)
  intro j
  induction j with
  | zero =>
    intro i Ω hin hv hch H locs hPL hS ls hl
    obtain rfl : i = 60 := by omega
    refine lv_iload_n hx hb dX2_playText_12 rfl (lv_at hl 0 rfl) ?_
    refine lv_bipush (v := 60) hx hb dX2_playText_13 (by decide) ?_
    refine lv_icmp_ge (tgt := 89) hx hb dX2_playText_15 (by decide) (fun _ => ?_) (fun c_1 => absurd (by decide) c_1)
    exact K _ Ω H locs ls hv.symm hPL hS (lv_sub hl [0, 1, 2] rfl)
  | succ j ih =>
    intro i Ω hin hv hch H locs hPL hS ls hl
    refine lv_iload_n hx hb dX2_playText_12 rfl (lv_at hl 0 rfl) ?_
    refine lv_bipush (v := 60) hx hb dX2_playText_13 (by decide) ?_
    refine lv_icmp_ge (tgt := 89) hx hb dX2_playText_15 (by decide) (fun c_2 => absurd c_2 (nI_ge (a := i) (b := 60) (by omega) (by decide))) (fun _ => ?_)
    refine lv_aload_n hx hb dX2_playText_18 rfl (lv_at hl 1 rfl) ?_
    refine va_get (D := D) (ci := 2) (v := .int (Ω 7 1 0)) (C := RX2) (T := TX2) (N := 3) hx hb hts iwX2_playText_X2 hown hC.1 hPL.1 0 rfl rfl 1 (by decide) (hts (.fieldLink RX2 15 "MealLockers$Player" "faultPosition" "I") (List.mem_of_getElem? (i := 1) rfl)) (fun _ h9 => h9) rfl dX2_playText_19 ?_
    refine lv_aload_n hx hb dX2_playText_22 rfl (lv_at hl 1 rfl) ?_
    refine va_get (D := D) (ci := 2) (v := .ref a) (C := RX2) (T := TX2) (N := 3) hx hb hts iwX2_playText_X2 hown hC.1 hPL.1 0 rfl rfl 0 (by decide) (hts (.fieldLink RX2 9 "MealLockers$Player" "text" "LMealLockers$Text;") (List.mem_of_getElem? (i := 3) rfl)) (fun _ h9 => h9) rfl dX2_playText_23 ?_
    refine kX6_length hF (cwV 0 hts gX2_playText_X6_length rfl rfl rfl hdX6_length ⟨Nat.le_of_ble_eq_true rfl, Nat.le_of_ble_eq_true rfl⟩) hC hPL.2.1 hl.1 (Nat.le_of_ble_eq_true rfl) dX2_playText_26 ⟨Nat.zero_le _, Nat.zero_le _⟩ ?_
    refine lv_icmp_ge (tgt := 89) hx hb dX2_playText_29 (by decide) (fun c_3 => ?_) (fun c_3 => ?_)
    · exact K _ Ω H locs ls (hv.trans (by rw [wX2_playText, if_pos c_3])).symm hPL hS (lv_sub hl [0, 1, 2] rfl)
    · refine lv_aload_n hx hb dX2_playText_32 rfl (lv_at hl 1 rfl) ?_
      refine lv_aload_n hx hb dX2_playText_33 rfl (lv_at hl 1 rfl) ?_
      refine va_get (D := D) (ci := 2) (v := .ref a) (C := RX2) (T := TX2) (N := 3) hx hb hts iwX2_playText_X2 hown hC.1 hPL.1 0 rfl rfl 0 (by decide) (hts (.fieldLink RX2 9 "MealLockers$Player" "text" "LMealLockers$Text;") (List.mem_of_getElem? (i := 3) rfl)) (fun _ h9 => h9) rfl dX2_playText_34 ?_
      refine lv_aload_n hx hb dX2_playText_37 rfl (lv_at hl 1 rfl) ?_
      refine va_get (D := D) (ci := 2) (v := .int (Ω 7 1 0)) (C := RX2) (T := TX2) (N := 3) hx hb hts iwX2_playText_X2 hown hC.1 hPL.1 0 rfl rfl 1 (by decide) (hts (.fieldLink RX2 15 "MealLockers$Player" "faultPosition" "I") (List.mem_of_getElem? (i := 1) rfl)) (fun _ h9 => h9) rfl dX2_playText_38 ?_
      refine kX6_readCommand hF (cwV 1 hts gX2_playText_X6_readCommand rfl rfl rfl hdX6_readCommand ⟨Nat.le_of_ble_eq_true rfl, Nat.le_of_ble_eq_true rfl⟩) hC hPL.2.1 hch hJ.2.1 hS plA_tx hl.1 (Nat.le_of_ble_eq_true rfl) dX2_playText_41 ⟨Nat.zero_le _, Nat.zero_le _⟩ (fun H locs hTx hz hk hS => ?_)
      have hPL := hPL.tx hJ hTx hk
      have hch : okC (oS Ω 6 (zX6_readCommand (Ω 6) (Ω 7 1 0)).2 6) := okC_of (c0X6_readCommand _ _) hch
      refine lv_if_eq (tgt := 58) hx hb dX2_playText_44 (by decide) (fun c_4 => ?_) (fun c_4 => ?_)
      · refine lv_iconst (v := 1) hx hb dX2_playText_58 (by decide) ?_
        refine va_put1 (D := D) (ci := 2) (v := .int 1) (ty := .int) (C := RX2) (T := TX2) (N := 3) hx hb hts iwX2_playText_X2 tyX2 tyX2_ok nmX2 hown hC.1 hPL.1 hS (Or.inl rfl) rfl 2 (by decide) (hts (.fieldLink RX2 19 "MealLockers$Player" "faultReason" "I") (List.mem_of_getElem? (i := 2) rfl)) rfl (by decide +kernel) rfl rfl (Nat.le_of_ble_eq_true rfl) dX2_playText_59 (fun H locs hP1 _ hk1 hS => ?_)
        have hPL := hPL.pl hJ (pl_put1 hP1) rfl rfl hk1
        have hch := okC_oP (k := 1) (v := 1) hch
        refine lv_aload_n hx hb dX2_playText_62 rfl (lv_at hl 1 rfl) ?_
        refine va_get (D := D) (ci := 2) (v := .int ((oP (oS Ω 6 (zX6_readCommand (Ω 6) (Ω 7 1 0)).2) 1 1) 7 1 1)) (C := RX2) (T := TX2) (N := 3) hx hb hts iwX2_playText_X2 hown hC.1 hPL.1 0 rfl rfl 2 (by decide) (hts (.fieldLink RX2 19 "MealLockers$Player" "faultReason" "I") (List.mem_of_getElem? (i := 2) rfl)) (fun _ h9 => h9) rfl dX2_playText_63 ?_
        refine lv_if_eq (tgt := 72) hx hb dX2_playText_66 (by decide) (fun c_5 => ?_) (fun c_5 => ?_)
        · refine lv_aload_n hx hb dX2_playText_72 rfl (lv_at hl 1 rfl) ?_
          refine lv_aload_n hx hb dX2_playText_73 rfl (lv_at hl 1 rfl) ?_
          refine va_get (D := D) (ci := 2) (v := .ref a) (C := RX2) (T := TX2) (N := 3) hx hb hts iwX2_playText_X2 hown hC.1 hPL.1 0 rfl rfl 0 (by decide) (hts (.fieldLink RX2 9 "MealLockers$Player" "text" "LMealLockers$Text;") (List.mem_of_getElem? (i := 3) rfl)) (fun _ h9 => h9) rfl dX2_playText_74 ?_
          refine va_getN (D := D) (ci := 6) (v := .int ((oP (oS Ω 6 (zX6_readCommand (Ω 6) (Ω 7 1 0)).2) 1 1) 6 1 1)) (C := RX6) (T := TX6) (N := 7) hx hb hts iwX2_playText_X6 hown hC.1 hPL.2.1 0 rfl rfl 2 (by decide) (nw_f12 hC) (fun _ h9 => h9) rfl dX2_playText_77 ?_
          refine va_put1 (D := D) (ci := 2) (v := .int ((oP (oS Ω 6 (zX6_readCommand (Ω 6) (Ω 7 1 0)).2) 1 1) 6 1 1)) (ty := .int) (C := RX2) (T := TX2) (N := 3) hx hb hts iwX2_playText_X2 tyX2 tyX2_ok nmX2 hown hC.1 hPL.1 hS (Or.inl rfl) rfl 1 (by decide) (hts (.fieldLink RX2 15 "MealLockers$Player" "faultPosition" "I") (List.mem_of_getElem? (i := 1) rfl)) rfl (by decide +kernel) rfl rfl (Nat.le_of_ble_eq_true rfl) dX2_playText_80 (fun H locs hP1 _ hk1 hS => ?_)
          have hPL := hPL.pl hJ (pl_put0 hP1) rfl rfl hk1
          have hch := okC_oP (k := 0) (v := ((oP (oS Ω 6 (zX6_readCommand (Ω 6) (Ω 7 1 0)).2) 1 1) 6 1 1)) hch
          refine lv_iinc (v := (nI (i + 1))) (lv' := [(2, .int (nI (i + 1))), (0, .ref pa), (1, .ref h)]) hx hb dX2_playText_83 hl (k := 0) rfl (by rw [nI_succ]; rfl) (by decide) rfl (fun ls hl => ?_)
          refine lv_goto (tgt := 12) hx hb dX2_playText_86 (by decide) ?_
          exact ih (i + 1) (oP (oP (oS Ω 6 (zX6_readCommand (Ω 6) (Ω 7 1 0)).2) 1 1) 0 ((oP (oS Ω 6 (zX6_readCommand (Ω 6) (Ω 7 1 0)).2) 1 1) 6 1 1)) (by omega) (hv.trans (by rw [wX2_playText, if_neg c_3, if_pos c_4, if_pos c_5])) hch H locs hPL hS ls (lv_sub hl [0, 1, 2] rfl)
        · refine lv_bipush (v := (-2)) hx hb dX2_playText_69 (by decide) ?_
          exact K2 _ H locs ls (hv.trans (by rw [wX2_playText, if_neg c_3, if_pos c_4, if_neg c_5])).symm hPL hS
      · refine lv_aload_n hx hb dX2_playText_47 rfl (lv_at hl 1 rfl) ?_
        refine lv_aload_n hx hb dX2_playText_48 rfl (lv_at hl 2 rfl) ?_
        refine kX2_doCommand hF (cwV 1 hts gX2_playText_X2_doCommand rfl rfl rfl hdX2_doCommand ⟨Nat.le_of_ble_eq_true rfl, Nat.le_of_ble_eq_true rfl⟩) hC hPL hJ hS (fun _ h => h) hl.1 (Nat.le_of_ble_eq_true rfl) dX2_playText_49 ⟨Nat.zero_le _, Nat.zero_le _⟩ (fun H locs hPL hz hk hS => ?_)
        have hch : okC ((zX2_doCommand (oS Ω 6 (zX6_readCommand (Ω 6) (Ω 7 1 0)).2)).2 6) := by rw [c6X2_doCommand]; exact hch
        refine kX2_reasonOf hF (cwS 1 hts gX2_playText_X2_reasonOf rfl rfl rfl (by decide +kernel) ⟨Nat.le_of_ble_eq_true rfl, Nat.le_of_ble_eq_true rfl⟩) hC hl.1 (Nat.le_of_ble_eq_true rfl) dX2_playText_52 ⟨Nat.zero_le _, Nat.zero_le _⟩ ?_
        refine lv_goto (tgt := 59) hx hb dX2_playText_55 (by decide) ?_
        refine va_put1 (D := D) (ci := 2) (v := .int (zX2_reasonOf ((zX2_doCommand (oS Ω 6 (zX6_readCommand (Ω 6) (Ω 7 1 0)).2)).1))) (ty := .int) (C := RX2) (T := TX2) (N := 3) hx hb hts iwX2_playText_X2 tyX2 tyX2_ok nmX2 hown hC.1 hPL.1 hS (Or.inl rfl) rfl 2 (by decide) (hts (.fieldLink RX2 19 "MealLockers$Player" "faultReason" "I") (List.mem_of_getElem? (i := 2) rfl)) rfl (by decide +kernel) rfl rfl (Nat.le_of_ble_eq_true rfl) dX2_playText_59 (fun H locs hP1 _ hk1 hS => ?_)
        have hPL := hPL.pl hJ (pl_put1 hP1) rfl rfl hk1
        have hch := okC_oP (k := 1) (v := (zX2_reasonOf ((zX2_doCommand (oS Ω 6 (zX6_readCommand (Ω 6) (Ω 7 1 0)).2)).1))) hch
        refine lv_aload_n hx hb dX2_playText_62 rfl (lv_at hl 1 rfl) ?_
        refine va_get (D := D) (ci := 2) (v := .int ((oP ((zX2_doCommand (oS Ω 6 (zX6_readCommand (Ω 6) (Ω 7 1 0)).2)).2) 1 (zX2_reasonOf ((zX2_doCommand (oS Ω 6 (zX6_readCommand (Ω 6) (Ω 7 1 0)).2)).1))) 7 1 1)) (C := RX2) (T := TX2) (N := 3) hx hb hts iwX2_playText_X2 hown hC.1 hPL.1 0 rfl rfl 2 (by decide) (hts (.fieldLink RX2 19 "MealLockers$Player" "faultReason" "I") (List.mem_of_getElem? (i := 2) rfl)) (fun _ h9 => h9) rfl dX2_playText_63 ?_
        refine lv_if_eq (tgt := 72) hx hb dX2_playText_66 (by decide) (fun c_6 => ?_) (fun c_6 => ?_)
        · refine lv_aload_n hx hb dX2_playText_72 rfl (lv_at hl 1 rfl) ?_
          refine lv_aload_n hx hb dX2_playText_73 rfl (lv_at hl 1 rfl) ?_
          refine va_get (D := D) (ci := 2) (v := .ref a) (C := RX2) (T := TX2) (N := 3) hx hb hts iwX2_playText_X2 hown hC.1 hPL.1 0 rfl rfl 0 (by decide) (hts (.fieldLink RX2 9 "MealLockers$Player" "text" "LMealLockers$Text;") (List.mem_of_getElem? (i := 3) rfl)) (fun _ h9 => h9) rfl dX2_playText_74 ?_
          refine va_getN (D := D) (ci := 6) (v := .int ((oP ((zX2_doCommand (oS Ω 6 (zX6_readCommand (Ω 6) (Ω 7 1 0)).2)).2) 1 (zX2_reasonOf ((zX2_doCommand (oS Ω 6 (zX6_readCommand (Ω 6) (Ω 7 1 0)).2)).1))) 6 1 1)) (C := RX6) (T := TX6) (N := 7) hx hb hts iwX2_playText_X6 hown hC.1 hPL.2.1 0 rfl rfl 2 (by decide) (nw_f12 hC) (fun _ h9 => h9) rfl dX2_playText_77 ?_
          refine va_put1 (D := D) (ci := 2) (v := .int ((oP ((zX2_doCommand (oS Ω 6 (zX6_readCommand (Ω 6) (Ω 7 1 0)).2)).2) 1 (zX2_reasonOf ((zX2_doCommand (oS Ω 6 (zX6_readCommand (Ω 6) (Ω 7 1 0)).2)).1))) 6 1 1)) (ty := .int) (C := RX2) (T := TX2) (N := 3) hx hb hts iwX2_playText_X2 tyX2 tyX2_ok nmX2 hown hC.1 hPL.1 hS (Or.inl rfl) rfl 1 (by decide) (hts (.fieldLink RX2 15 "MealLockers$Player" "faultPosition" "I") (List.mem_of_getElem? (i := 1) rfl)) rfl (by decide +kernel) rfl rfl (Nat.le_of_ble_eq_true rfl) dX2_playText_80 (fun H locs hP1 _ hk1 hS => ?_)
          have hPL := hPL.pl hJ (pl_put0 hP1) rfl rfl hk1
          have hch := okC_oP (k := 0) (v := ((oP ((zX2_doCommand (oS Ω 6 (zX6_readCommand (Ω 6) (Ω 7 1 0)).2)).2) 1 (zX2_reasonOf ((zX2_doCommand (oS Ω 6 (zX6_readCommand (Ω 6) (Ω 7 1 0)).2)).1))) 6 1 1)) hch
          refine lv_iinc (v := (nI (i + 1))) (lv' := [(2, .int (nI (i + 1))), (0, .ref pa), (1, .ref h)]) hx hb dX2_playText_83 hl (k := 0) rfl (by rw [nI_succ]; rfl) (by decide) rfl (fun ls hl => ?_)
          refine lv_goto (tgt := 12) hx hb dX2_playText_86 (by decide) ?_
          exact ih (i + 1) (oP (oP ((zX2_doCommand (oS Ω 6 (zX6_readCommand (Ω 6) (Ω 7 1 0)).2)).2) 1 (zX2_reasonOf ((zX2_doCommand (oS Ω 6 (zX6_readCommand (Ω 6) (Ω 7 1 0)).2)).1))) 0 ((oP ((zX2_doCommand (oS Ω 6 (zX6_readCommand (Ω 6) (Ω 7 1 0)).2)).2) 1 (zX2_reasonOf ((zX2_doCommand (oS Ω 6 (zX6_readCommand (Ω 6) (Ω 7 1 0)).2)).1))) 6 1 1)) (by omega) (hv.trans (by rw [wX2_playText, if_neg c_3, if_neg c_4, if_pos c_6])) hch H locs hPL hS ls (lv_sub hl [0, 1, 2] rfl)
        · refine lv_bipush (v := (-2)) hx hb dX2_playText_69 (by decide) ?_
          exact K2 _ H locs ls (hv.trans (by rw [wX2_playText, if_neg c_3, if_neg c_4, if_neg c_6])).symm hPL hS
set_option maxHeartbeats 4000000 in
set_option maxRecDepth 100000 in
theorem mX2_playText (l : Launch) (D : va_G) (y : Y3) (pa a b h : Nat) (ad : Nat → Nat) (Ω : Og) : Met l yX2_playText wsX2_playText ({ frames := 6, cells := 0, slots := 0, locals := 138 } : Room) (va_Pc [.ref pa, .ref h] (fun U => CK D y U ∧ PLH D y pa a b h ad Ω U.heap ∧ plJ pa a b h ad ∧ okC (Ω 6))) (va_Qi (fun (r : Int32) (u : Og) => r = (zX2_playText Ω).1 ∧ u = (zX2_playText Ω).2) (fun u t => PLH D y pa a b h ad u t.heap) (plA pa a b ad)) 0 0 (plA pa a b ad) := by
  refine Met.ofW (cc := cX2_playText) (maxL := 3) (ret := (some .int)) (by decide) rfl ?_
  intro p e s m args below meth c s₁ B hml hv
  obtain ⟨rfl, hC, hPL, hJ, hch⟩ := hv
  have hx := B.exec
  have hb := B.bytes
  have hr := B.returns
  have hts := atoms_spec (ws := wsX2_playText) B.pre
  have hown : s.vm.findClass RX2 = some m.cls := findClass_of_methodNamed B.named
  have hlocks := B.notSynchronized
  have hF := (⟨hx, hb, hml, hown, hts⟩ : CallFix p m c cX2_playText 3 s _ wsX2_playText RX2)
  have hS : va_S (plA pa a b ad) s.heap s.heap [] := va_S.rf
  have hl := lv_entry ([.ref pa, .ref h]) (n := 3) (Nat.le_of_ble_eq_true rfl)
  rw [lg_entry_eq]
  generalize (lg_sl ([.ref pa, .ref h]) ++ List.replicate (3 - (lg_sl ([.ref pa, .ref h])).length) Slot.unset).toArray = ls at hl ⊢
  have hl : lv_has ls 3 [(0, .ref pa), (1, .ref h)] := hl
  refine lv_iconst (v := 0) hx hb dX2_playText_0 (by decide) ?_
  refine lv_istore_n (lv' := [(2, .int 0), (0, .ref pa), (1, .ref h)]) hx hb dX2_playText_1 rfl hl (by decide) rfl (fun ls hl => ?_)
  refine lv_aload_n hx hb dX2_playText_2 rfl (lv_at hl 1 rfl) ?_
  refine lv_iconst (v := 0) hx hb dX2_playText_3 (by decide) ?_
  refine va_put1 (D := D) (ci := 2) (v := .int 0) (ty := .int) (C := RX2) (T := TX2) (N := 3) hx hb hts iwX2_playText_X2 tyX2 tyX2_ok nmX2 hown hC.1 hPL.1 hS (Or.inl rfl) rfl 1 (by decide) (hts (.fieldLink RX2 15 "MealLockers$Player" "faultPosition" "I") (List.mem_of_getElem? (i := 1) rfl)) rfl (by decide +kernel) rfl rfl (Nat.le_of_ble_eq_true rfl) dX2_playText_4 (fun H locs hP1 _ hk1 hS => ?_)
  have hPL := hPL.pl hJ (pl_put0 hP1) rfl rfl hk1
  have hch := okC_oP (k := 0) (v := 0) hch
  refine lv_aload_n hx hb dX2_playText_7 rfl (lv_at hl 1 rfl) ?_
  refine lv_iconst (v := 0) hx hb dX2_playText_8 (by decide) ?_
  refine va_put1 (D := D) (ci := 2) (v := .int 0) (ty := .int) (C := RX2) (T := TX2) (N := 3) hx hb hts iwX2_playText_X2 tyX2 tyX2_ok nmX2 hown hC.1 hPL.1 hS (Or.inl rfl) rfl 2 (by decide) (hts (.fieldLink RX2 19 "MealLockers$Player" "faultReason" "I") (List.mem_of_getElem? (i := 2) rfl)) rfl (by decide +kernel) rfl rfl (Nat.le_of_ble_eq_true rfl) dX2_playText_9 (fun H locs hP1 _ hk1 hS => ?_)
  have hPL := hPL.pl hJ (pl_put1 hP1) rfl rfl hk1
  have hch := okC_oP (k := 1) (v := 0) hch
  refine lpX2_playText (Ω0 := oP (oP Ω 0 0) 1 0) hx hb hml hown hts hC hJ (fun x2 Ω2 H locs ls hv hPL hS hl => ?_) (fun Ω2 H locs ls hv hPL hS => ?_) _ 0 _ (Nat.zero_add _) rfl hch _ _ hPL hS ls (lv_sub hl [0, 1, 2] rfl)
  · refine lv_iload_n hx hb dX2_playText_89 rfl (lv_at hl 0 rfl) ?_
    exact W.iret (v := x2) hx hb hr (fun t ht hW => ⟨⟨x2, Ω2, rfl, ⟨(by show _ = _; unfold zX2_playText; rw [← hv]), (by show _ = _; unfold zX2_playText; rw [← hv])⟩, by dsimp only; rw [ht]; exact hPL⟩, hS.F ht⟩) hS.2.2 dX2_playText_90
  · exact W.iret (v := (-2)) hx hb hr (fun t ht hW => ⟨⟨(-2), Ω2, rfl, ⟨(by show _ = _; unfold zX2_playText; rw [← hv]), (by show _ = _; unfold zX2_playText; rw [← hv])⟩, by dsimp only; rw [ht]; exact hPL⟩, hS.F ht⟩) hS.2.2 dX2_playText_71
set_option maxHeartbeats 4000000 in
set_option maxRecDepth 100000 in
theorem kX2_playText {p : Program} {l : Launch} {e : Env} {R : Room} {s : State} {m : MethodId} {args : Array Value} {below : List Frame} {meth : Method} {c : Code} {H : Heap} {locs : List Loc} {cells slots : Nat} {Q : State → Prop} {cc : ByteArray} {nL : Nat} {Ts : List Cond} {own : String} {index pc : Nat} {ls : Array Slot} {rest : List Value} {D : va_G} {y : Y3} {pa a b h : Nat} {ad : Nat → Nat} {Ω : Og} {A0 : Nat → Prop} {H0 : Heap} (hF : CallFix p m c cc nL s args Ts own) (cw : CallW R s args own RX2 index yX2_playText cX2_playText 3 (some .int) wsX2_playText ({ frames := 6, cells := 0, slots := 0, locals := 138 } : Room) 0 0 1) (hC : CK D y s) (hPL : PLH D y pa a b h ad Ω H) (hJ : plJ pa a b h ad) (hch : okC (Ω 6)) (hS : va_S A0 H0 H locs) (hA : ∀ q, (plA pa a b ad) q → A0 q) (hsz : ls.size = nL) (hW : (rest.map fun v => v.category).sum ≤ 8) (hdg : decode cc pc = .ok (.invokevirtual index, 3)) (hf : cells ≤ R.cells ∧ slots ≤ R.slots)
    (k : ∀ (H1 : Heap) (locs1 : List Loc), PLH D y pa a b h ad (zX2_playText Ω).2 H1 → H.size ≤ H1.size → (∀ q : Nat, q < H.size → ¬ (plA pa a b ad) q → H1[q]? = H[q]?) → va_S A0 H0 H1 locs1 → W p l e R s m args below meth c H1 locs1 cells slots Q (F0 m (pc + 3) ls (.int ((zX2_playText Ω).1) :: rest))) : W p l e R s m args below meth c H locs cells slots Q (F0 m pc ls (.ref h :: .ref pa :: rest)) := by
  refine va_calli (va_runV (As := [.ref h]) (rest := rest) hF (mX2_playText l D y pa a b h ad Ω) cw ⟨fun a U g mk q => by obtain ⟨q0, q1, q2, q3, q4⟩ := q; exact ⟨q0, q1.call g mk a, q2, q3, q4⟩, va_recv hC.1 hPL.1 (ci := 2) (q0 := 0) rfl rfl, fun U hU hW => ⟨rfl, hC.warm hW, by rw [hU]; exact hPL, hJ, hch⟩⟩ rfl rfl hsz rfl (lv_room hW) hdg ⟨hf.1, hf.2⟩) hS (fun q _ h => hA q h) hA (fun r u t H1 locs1 ht hvm hp hB hz1 hk1 hS1 => ?_)
  obtain ⟨hp1, hp2⟩ := hp
  subst hp1; subst hp2
  rw [ht] at hB
  exact k H1 locs1 hB hz1 hk1 hS1
def zX2_ofFault (Ω : Og) (x1 : Int32) : Int32 := if (zX7_isWithin x1 0 1) = 0 then (-1)
  else (if (Ω 7 1 1) = 0 then (-4)
    else (if x1 = 0 then (Ω 7 1 0)
      else (Ω 7 1 1)))
theorem iwX2_ofFault_X2 : ∀ w ∈ wsX20, w ∈ wsX2_ofFault := fun _ h => List.mem_cons_of_mem _ (List.mem_append_right _ h)
theorem hdX2_ofFault : yX2_ofFault.cls = RX2 ∧ yX2_ofFault.cls ≠ "java/lang/invoke/MethodHandle" ∧ yX2_ofFault.cls ≠ "java/lang/invoke/VarHandle" ∧ (parseMethodDescriptor yX2_ofFault.desc).map (fun d => d.parameters.length) = some 1 := by decide +kernel
set_option maxHeartbeats 4000000 in
set_option maxRecDepth 100000 in
theorem mX2_ofFault (l : Launch) (D : va_G) (y : Y3) (pa a : Nat) (Ω : Og) (x1 : Int32) : Met l yX2_ofFault wsX2_ofFault ({ frames := 1, cells := 0, slots := 0, locals := 22 } : Room) (va_Pc [.ref pa, .int x1] (fun U => CK D y U ∧ va_P D vwCl [(pa, .inr (2, [.ref a, .int (Ω 7 1 0), .int (Ω 7 1 1)]))] U.heap)) (vp_Si (fun r => r = zX2_ofFault Ω x1)) 0 0 (fun _ => False) := by
  refine Met.ofW (cc := cX2_ofFault) (maxL := 2) (ret := (some .int)) (by decide) rfl ?_
  intro p e s m args below meth c s₁ B hml hv
  obtain ⟨rfl, hC, hPl⟩ := hv
  have hx := B.exec
  have hb := B.bytes
  have hr := B.returns
  have hts := atoms_spec (ws := wsX2_ofFault) B.pre
  have hown : s.vm.findClass RX2 = some m.cls := findClass_of_methodNamed B.named
  have hlocks := B.notSynchronized
  have hF := (⟨hx, hb, hml, hown, hts⟩ : CallFix p m c cX2_ofFault 2 s _ wsX2_ofFault RX2)
  have hl := lv_entry ([.ref pa, .int x1]) (n := 2) (Nat.le_of_ble_eq_true rfl)
  rw [lg_entry_eq]
  generalize (lg_sl ([.ref pa, .int x1]) ++ List.replicate (2 - (lg_sl ([.ref pa, .int x1])).length) Slot.unset).toArray = ls at hl ⊢
  have hl : lv_has ls 2 [(0, .ref pa), (1, .int x1)] := hl
  refine lv_iload_n hx hb dX2_ofFault_0 rfl (lv_at hl 1 rfl) ?_
  refine lv_iconst (v := 0) hx hb dX2_ofFault_1 (by decide) ?_
  refine lv_iconst (v := 1) hx hb dX2_ofFault_2 (by decide) ?_
  refine kX7_isWithinN hF ⟨va_cnB 3 hts gX2_ofFault_X7_isWithin_n75 rfl rfl rfl (nw_m3 hC) (hts (.initialized RX7) (List.mem_of_getElem? (i := 4) rfl)) hdX7_isWithin ⟨Nat.le_of_ble_eq_true rfl, Nat.le_of_ble_eq_true rfl⟩, (hts (.static yX7_isWithin) (List.mem_of_getElem? (i := 3) rfl)), trivial⟩ hC hl.1 (Nat.le_of_ble_eq_true rfl) dX2_ofFault_3 ⟨Nat.zero_le _, Nat.zero_le _⟩ ?_
  refine lv_if_ne (tgt := 11) hx hb dX2_ofFault_6 (by decide) (fun c_1 => ?_) (fun c_1 => ?_)
  · refine lv_aload_n hx hb dX2_ofFault_11 rfl (lv_at hl 0 rfl) ?_
    refine va_get (D := D) (ci := 2) (v := .int (Ω 7 1 1)) (C := RX2) (T := TX2) (N := 3) hx hb hts iwX2_ofFault_X2 hown hC.1 hPl 0 rfl rfl 2 (by decide) (hts (.fieldLink RX2 19 "MealLockers$Player" "faultReason" "I") (List.mem_of_getElem? (i := 1) rfl)) (fun _ h9 => h9) rfl dX2_ofFault_12 ?_
    refine lv_if_ne (tgt := 21) hx hb dX2_ofFault_15 (by decide) (fun c_2 => ?_) (fun c_2 => ?_)
    · refine lv_iload_n hx hb dX2_ofFault_21 rfl (lv_at hl 1 rfl) ?_
      refine lv_if_ne (tgt := 32) hx hb dX2_ofFault_22 (by decide) (fun c_3 => ?_) (fun c_3 => ?_)
      · refine lv_aload_n hx hb dX2_ofFault_32 rfl (lv_at hl 0 rfl) ?_
        refine va_get (D := D) (ci := 2) (v := .int (Ω 7 1 1)) (C := RX2) (T := TX2) (N := 3) hx hb hts iwX2_ofFault_X2 hown hC.1 hPl 0 rfl rfl 2 (by decide) (hts (.fieldLink RX2 19 "MealLockers$Player" "faultReason" "I") (List.mem_of_getElem? (i := 1) rfl)) (fun _ h9 => h9) rfl dX2_ofFault_33 ?_
        exact W.iret (v := (Ω 7 1 1)) hx hb hr (fun t ht hW => ⟨(Ω 7 1 1), rfl, (by unfold zX2_ofFault; rw [if_neg c_1, if_neg c_2, if_neg c_3]), ht⟩) (fun q hq => absurd hq List.not_mem_nil) dX2_ofFault_36
      · refine lv_aload_n hx hb dX2_ofFault_25 rfl (lv_at hl 0 rfl) ?_
        refine va_get (D := D) (ci := 2) (v := .int (Ω 7 1 0)) (C := RX2) (T := TX2) (N := 3) hx hb hts iwX2_ofFault_X2 hown hC.1 hPl 0 rfl rfl 1 (by decide) (hts (.fieldLink RX2 15 "MealLockers$Player" "faultPosition" "I") (List.mem_of_getElem? (i := 2) rfl)) (fun _ h9 => h9) rfl dX2_ofFault_26 ?_
        refine lv_goto (tgt := 36) hx hb dX2_ofFault_29 (by decide) ?_
        exact W.iret (v := (Ω 7 1 0)) hx hb hr (fun t ht hW => ⟨(Ω 7 1 0), rfl, (by unfold zX2_ofFault; rw [if_neg c_1, if_neg c_2, if_pos c_3]), ht⟩) (fun q hq => absurd hq List.not_mem_nil) dX2_ofFault_36
    · refine lv_bipush (v := (-4)) hx hb dX2_ofFault_18 (by decide) ?_
      exact W.iret (v := (-4)) hx hb hr (fun t ht hW => ⟨(-4), rfl, (by unfold zX2_ofFault; rw [if_neg c_1, if_pos c_2]), ht⟩) (fun q hq => absurd hq List.not_mem_nil) dX2_ofFault_20
  · refine lv_iconst (v := (-1)) hx hb dX2_ofFault_9 (by decide) ?_
    exact W.iret (v := (-1)) hx hb hr (fun t ht hW => ⟨(-1), rfl, (by unfold zX2_ofFault; rw [if_pos c_1]), ht⟩) (fun q hq => absurd hq List.not_mem_nil) dX2_ofFault_10
set_option maxHeartbeats 4000000 in
set_option maxRecDepth 100000 in
theorem kX2_ofFault {p : Program} {l : Launch} {e : Env} {R : Room} {s : State} {m : MethodId} {args : Array Value} {below : List Frame} {meth : Method} {c : Code} {H : Heap} {locs : List Loc} {cells slots : Nat} {Q : State → Prop} {cc : ByteArray} {nL : Nat} {Ts : List Cond} {own : String} {index pc : Nat} {ls : Array Slot} {rest : List Value} {D : va_G} {y : Y3} {pa a : Nat} {Ω : Og} {x1 : Int32} (hF : CallFix p m c cc nL s args Ts own) (cw : CallW R s args own RX2 index yX2_ofFault cX2_ofFault 2 (some .int) wsX2_ofFault ({ frames := 1, cells := 0, slots := 0, locals := 22 } : Room) 0 0 1) (hC : CK D y s) (hPl : va_P D vwCl [(pa, .inr (2, [.ref a, .int (Ω 7 1 0), .int (Ω 7 1 1)]))] H) (hsz : ls.size = nL) (hW : (rest.map fun v => v.category).sum ≤ 8) (hdg : decode cc pc = .ok (.invokevirtual index, 3)) (hf : cells ≤ R.cells ∧ slots ≤ R.slots)
    (k : W p l e R s m args below meth c H locs cells slots Q (F0 m (pc + 3) ls (.int (zX2_ofFault Ω x1) :: rest))) : W p l e R s m args below meth c H locs cells slots Q (F0 m pc ls (.int x1 :: .ref pa :: rest)) := by
  refine vp_callSi (W.runV (As := [.int x1]) (rest := rest) hF (mX2_ofFault l D y pa a Ω x1) cw ⟨fun a U g mk q => by obtain ⟨q0, q1, q2⟩ := q; exact ⟨q0, q1.call g mk a, q2⟩, va_recv hC.1 hPl (ci := 2) (q0 := 0) rfl rfl, fun U hU hW => ⟨rfl, hC.warm hW, by rw [hU]; exact hPl⟩⟩ rfl rfl hsz rfl (lv_room hW) hdg ⟨hf.1, hf.2⟩) (fun r hr => ?_)
  subst hr
  exact k
