/-- everything that an object holds: Ω 0 .. Ω 5 its States (now, on trial, the four of the history), Ω 6 the text, Ω 7 0 the history's numbers (oldest, size), Ω 7 1 the player's (position, reason) -/
abbrev Og : Type := Nat → Sg
def oS (Ω : Og) (k : Nat) (σ : Sg) : Og := fun j => if j = k then σ else Ω j
def oP (Ω : Og) (k : Nat) (v : Int32) : Og := oS Ω 7 (fun j => if j = 1 then upd (Ω 7 1) k v else Ω 7 j)
/-- the player, its text, the State on which it plays, that State's changes -/
def PLH (D : va_G) (y : Y3) (pa a b h : Nat) (ad : Nat → Nat) (Ω : Og) (H : Heap) : Prop := va_P D vwCl [(pa, .inr (2, [.ref a, .int (Ω 7 1 0), .int (Ω 7 1 1)]))] H ∧ TxH D y a b (Ω 6) H ∧ StH D y ad (Ω 1) H ∧ qoH D 0 h ad H
/-- the addresses of a player's world are apart -/
def plJ (pa a b h : Nat) (ad : Nat → Nat) : Prop := adI ad ∧ a ≠ b ∧ pa ≠ a ∧ pa ≠ b ∧ pa ≠ h ∧ a ≠ h ∧ b ≠ h ∧ ∀ k, k < 11 → ad k ≠ h ∧ ad k ≠ pa ∧ ad k ≠ a ∧ ad k ≠ b
def plA (pa a b : Nat) (ad : Nat → Nat) : Nat → Prop := fun x => x = pa ∨ tbA a b x ∨ stA ad x
theorem va1_kept {D : va_G} {a : Nat} {e : va_E} {H H1 : Heap} (h : va_P D vwCl [(a, e)] H) (hq : H1[a]? = H[a]?) : va_P D vwCl [(a, e)] H1 :=
  va_P.kept h (fun k q hk => by
    match k, hk with
    | 0, hk => cases hk; exact hq
    | k + 1, hk => simp at hk)
theorem ite_all {S : Type} {P : S → Prop} {c : Prop} [Decidable c] {a b : S} (h1 : P a) (h2 : P b) : P (if c then a else b) := by
  split
  · exact h1
  · exact h2
theorem va1_lt {D : va_G} {a : Nat} {e : va_E} {H : Heap} (h : va_P D vwCl [(a, e)] H) : a < H.size := (h 0 _ rfl).lt
theorem tx_lt {D : va_G} {y : Y3} {a b : Nat} {τ : Sg} {H : Heap} (h : TxH D y a b τ H) : a < H.size ∧ b < H.size := ⟨(h 0 _ rfl).lt, (h 1 _ rfl).lt⟩
theorem qo_kept {D : va_G} {ci h : Nat} {ad : Nat → Nat} {H H1 : Heap} (h0 : qoH D ci h ad H) (hq : H1[h]? = H[h]?) : qoH D ci h ad H1 := va1_kept h0 hq
theorem qo_lt {D : va_G} {ci h : Nat} {ad : Nat → Nat} {H : Heap} (h0 : qoH D ci h ad H) : h < H.size := va1_lt h0
theorem va1_D {A : Nat → Prop} {a : Nat} {e : va_E} (h : A a) : va_D A [(a, e)] := by
  refine ⟨fun i j p q hi hj _ => ?_, fun k q hk => ?_⟩
  · match i, j, hi, hj with
    | 0, 0, _, _ => rfl
    | i + 1, _, hi, _ => simp at hi
    | 0, j + 1, _, hj => simp at hj
  · match k, hk with
    | 0, hk => cases hk; exact h
    | k + 1, hk => simp at hk
theorem PLH.st {D : va_G} {y : Y3} {pa a b h : Nat} {ad : Nat → Nat} {Ω : Og} {H H1 : Heap} {σ : Sg} (p : PLH D y pa a b h ad Ω H) (J : plJ pa a b h ad) (h1 : StH D y ad σ H1) (hk : ∀ x : Nat, x < H.size → ¬ stA ad x → H1[x]? = H[x]?) : PLH D y pa a b h ad (oS Ω 1 σ) H1 := by
  obtain ⟨p1, p2, p3, p4⟩ := p
  obtain ⟨j1, j2, j3, j4, j5, j6, j7, j8⟩ := J
  refine ⟨va1_kept p1 (hk _ (va1_lt p1) fun z => ?_), tx_kept p2 (fun x hx => ?_), h1, qo_kept p4 (hk _ (qo_lt p4) fun z => ?_)⟩
  · obtain ⟨k, hk1, e⟩ := z; exact (j8 k hk1).2.1 e.symm
  · rcases hx with rfl | rfl
    · exact hk _ (tx_lt p2).1 (fun z => by obtain ⟨k, hk1, e⟩ := z; exact (j8 k hk1).2.2.1 e.symm)
    · exact hk _ (tx_lt p2).2 (fun z => by obtain ⟨k, hk1, e⟩ := z; exact (j8 k hk1).2.2.2 e.symm)
  · obtain ⟨k, hk1, e⟩ := z; exact (j8 k hk1).1 e.symm
theorem PLH.tx {D : va_G} {y : Y3} {pa a b h : Nat} {ad : Nat → Nat} {Ω : Og} {H H1 : Heap} {τ : Sg} (p : PLH D y pa a b h ad Ω H) (J : plJ pa a b h ad) (h1 : TxH D y a b τ H1) (hk : ∀ x : Nat, x < H.size → ¬ tbA a b x → H1[x]? = H[x]?) : PLH D y pa a b h ad (oS Ω 6 τ) H1 := by
  obtain ⟨p1, p2, p3, p4⟩ := p
  obtain ⟨j1, j2, j3, j4, j5, j6, j7, j8⟩ := J
  refine ⟨va1_kept p1 (hk _ (va1_lt p1) fun z => ?_), h1, st_kept p3 (fun k hk1 => hk _ (st_lt p3 hk1) fun z => ?_), qo_kept p4 (hk _ (qo_lt p4) fun z => ?_)⟩
  · exact z.elim j3 j4
  · exact z.elim (j8 k hk1).2.2.1 (j8 k hk1).2.2.2
  · exact z.elim (fun e => j6 e.symm) (fun e => j7 e.symm)
theorem PLH.pl {D : va_G} {y : Y3} {pa a b h : Nat} {ad : Nat → Nat} {Ω Ω2 : Og} {H H1 : Heap} (p : PLH D y pa a b h ad Ω H) (J : plJ pa a b h ad) (h1 : va_P D vwCl [(pa, .inr (2, [.ref a, .int (Ω2 7 1 0), .int (Ω2 7 1 1)]))] H1) (e1 : Ω2 6 = Ω 6) (e2 : Ω2 1 = Ω 1) (hk : ∀ x : Nat, x ≠ pa → H1[x]? = H[x]?) : PLH D y pa a b h ad Ω2 H1 := by
  obtain ⟨p1, p2, p3, p4⟩ := p
  obtain ⟨j1, j2, j3, j4, j5, j6, j7, j8⟩ := J
  have t1 := tx_kept p2 (fun x hx => hk x (fun e => hx.elim (fun e2 => j3 (e.symm.trans e2)) (fun e2 => j4 (e.symm.trans e2))))
  have t2 := st_kept p3 (fun k hk1 => hk _ (j8 k hk1).2.1)
  exact ⟨h1, by rw [e1]; exact t1, by rw [e2]; exact t2, qo_kept p4 (hk _ (fun e => j5 e.symm))⟩
theorem plA_st {pa a b : Nat} {ad : Nat → Nat} : ∀ x, stA ad x → plA pa a b ad x := fun _ h => Or.inr (Or.inr h)
theorem plA_tx {pa a b : Nat} {ad : Nat → Nat} : ∀ x, tbA a b x → plA pa a b ad x := fun _ h => Or.inr (Or.inl h)
def zX2_reasonOf (x1 : Int32) : Int32 := if x1 < 0 then (if x1 = (-1) then 2
    else 3)
  else 0
set_option maxHeartbeats 4000000 in
set_option maxRecDepth 100000 in
theorem mX2_reasonOf (l : Launch) (D : va_G) (y : Y3) (x1 : Int32) : Met l yX2_reasonOf wsX2_reasonOf ({ frames := 0, cells := 0, slots := 0, locals := 0 } : Room) (va_Pc [.int x1] (fun U => CK D y U)) (vp_Si (fun r => r = zX2_reasonOf x1)) 0 0 (fun _ => False) := by
  refine Met.ofW (cc := cX2_reasonOf) (maxL := 1) (ret := (some .int)) (by decide) rfl ?_
  intro p e s m args below meth c s₁ B hml hv
  obtain ⟨rfl, hC⟩ := hv
  have hx := B.exec
  have hb := B.bytes
  have hr := B.returns
  have hts := atoms_spec (ws := wsX2_reasonOf) B.pre
  have hown : s.vm.findClass RX2 = some m.cls := findClass_of_methodNamed B.named
  have hlocks := B.notSynchronized
  have hF := (⟨hx, hb, hml, hown, hts⟩ : CallFix p m c cX2_reasonOf 1 s _ wsX2_reasonOf RX2)
  have hl := lv_entry ([.int x1]) (n := 1) (Nat.le_of_ble_eq_true rfl)
  rw [lg_entry_eq]
  generalize (lg_sl ([.int x1]) ++ List.replicate (1 - (lg_sl ([.int x1])).length) Slot.unset).toArray = ls at hl ⊢
  have hl : lv_has ls 1 [(0, .int x1)] := hl
  refine lv_iload_n hx hb dX2_reasonOf_0 rfl (lv_at hl 0 rfl) ?_
  refine lv_if_lt (tgt := 6) hx hb dX2_reasonOf_1 (by decide) (fun c_1 => ?_) (fun c_1 => ?_)
  · refine lv_iload_n hx hb dX2_reasonOf_6 rfl (lv_at hl 0 rfl) ?_
    refine lv_iconst (v := (-1)) hx hb dX2_reasonOf_7 (by decide) ?_
    refine lv_icmp_ne (tgt := 15) hx hb dX2_reasonOf_8 (by decide) (fun c_2 => ?_) (fun c_2 => ?_)
    · refine lv_iconst (v := 3) hx hb dX2_reasonOf_15 (by decide) ?_
      exact W.iret (v := 3) hx hb hr (fun t ht hW => ⟨3, rfl, (by unfold zX2_reasonOf; rw [if_pos c_1, if_neg c_2]), ht⟩) (fun q hq => absurd hq List.not_mem_nil) dX2_reasonOf_16
    · refine lv_iconst (v := 2) hx hb dX2_reasonOf_11 (by decide) ?_
      refine lv_goto (tgt := 16) hx hb dX2_reasonOf_12 (by decide) ?_
      exact W.iret (v := 2) hx hb hr (fun t ht hW => ⟨2, rfl, (by unfold zX2_reasonOf; rw [if_pos c_1, if_pos c_2]), ht⟩) (fun q hq => absurd hq List.not_mem_nil) dX2_reasonOf_16
  · refine lv_iconst (v := 0) hx hb dX2_reasonOf_4 (by decide) ?_
    exact W.iret (v := 0) hx hb hr (fun t ht hW => ⟨0, rfl, (by unfold zX2_reasonOf; rw [if_neg c_1]), ht⟩) (fun q hq => absurd hq List.not_mem_nil) dX2_reasonOf_5
set_option maxHeartbeats 4000000 in
set_option maxRecDepth 100000 in
theorem kX2_reasonOf {p : Program} {l : Launch} {e : Env} {R : Room} {s : State} {m : MethodId} {args : Array Value} {below : List Frame} {meth : Method} {c : Code} {H : Heap} {locs : List Loc} {cells slots : Nat} {Q : State → Prop} {cc : ByteArray} {nL : Nat} {Ts : List Cond} {own : String} {index pc : Nat} {ls : Array Slot} {rest : List Value} {D : va_G} {y : Y3} {x1 : Int32} (hF : CallFix p m c cc nL s args Ts own) (cw : CallB R s args own index yX2_reasonOf cX2_reasonOf 1 (some .int) wsX2_reasonOf ({ frames := 0, cells := 0, slots := 0, locals := 0 } : Room) 0 0 1 ∧ (Cond.static yX2_reasonOf).before args s = true) (hC : CK D y s) (hsz : ls.size = nL) (hW : (rest.map fun v => v.category).sum ≤ 8) (hdg : decode cc pc = .ok (.invokestatic index, 3)) (hf : cells ≤ R.cells ∧ slots ≤ R.slots)
    (k : W p l e R s m args below meth c H locs cells slots Q (F0 m (pc + 3) ls (.int (zX2_reasonOf x1) :: rest))) : W p l e R s m args below meth c H locs cells slots Q (F0 m pc ls (.int x1 :: rest)) := by
  refine vp_callSi (W.runS (As := [.int x1]) (rest := rest) hF (mX2_reasonOf l D y x1) cw ⟨fun a U g mk q => by obtain ⟨q0, q1⟩ := q; exact ⟨q0, q1.call g mk a⟩, fun U hU hW => ⟨rfl, hC.warm hW⟩⟩ rfl rfl hsz rfl (lv_room hW) hdg ⟨hf.1, hf.2⟩) (fun r hr => ?_)
  subst hr
  exact k
def zX2_doCommand (Ω : Og) : Int32 × Og := if (Ω 6 1 3) = 102 then ((zX0_endReservation (Ω 1) (Ω 6 1 4) (Ω 6 1 5) 0).1, oS Ω 1 (zX0_endReservation (Ω 1) (Ω 6 1 4) (Ω 6 1 5) 0).2)
  else (if (Ω 6 1 3) = 103 then ((zX0_sendVolunteer (Ω 1) (Ω 6 1 4) (Ω 6 1 5)).1, oS Ω 1 (zX0_sendVolunteer (Ω 1) (Ω 6 1 4) (Ω 6 1 5)).2)
    else (if (Ω 6 1 3) = 104 then ((zX0_passHours (Ω 1) (Ω 6 1 4) 5000).1, oS Ω 1 (zX0_passHours (Ω 1) (Ω 6 1 4) 5000).2)
      else (if (Ω 6 1 3) = 105 then ((zX0_passHours (Ω 1) (Ω 6 1 4) 5000).1, oS Ω 1 (zX0_passHours (Ω 1) (Ω 6 1 4) 5000).2)
        else (if (Ω 6 1 3) = 106 then ((zX0_passHours (Ω 1) (Ω 6 1 4) 5000).1, oS Ω 1 (zX0_passHours (Ω 1) (Ω 6 1 4) 5000).2)
          else (if (Ω 6 1 3) = 107 then ((zX0_passHours (Ω 1) (Ω 6 1 4) 5000).1, oS Ω 1 (zX0_passHours (Ω 1) (Ω 6 1 4) 5000).2)
            else (if (Ω 6 1 3) = 108 then ((zX0_passHours (Ω 1) (Ω 6 1 4) 5000).1, oS Ω 1 (zX0_passHours (Ω 1) (Ω 6 1 4) 5000).2)
              else (if (Ω 6 1 3) = 109 then ((zX0_passHours (Ω 1) (Ω 6 1 4) 5000).1, oS Ω 1 (zX0_passHours (Ω 1) (Ω 6 1 4) 5000).2)
                else (if (Ω 6 1 3) = 110 then ((zX0_endReservation (Ω 1) (Ω 6 1 4) (Ω 6 1 5) 1).1, oS Ω 1 (zX0_endReservation (Ω 1) (Ω 6 1 4) (Ω 6 1 5) 1).2)
                  else (if (Ω 6 1 3) = 111 then ((zX0_passHours (Ω 1) (Ω 6 1 4) 5000).1, oS Ω 1 (zX0_passHours (Ω 1) (Ω 6 1 4) 5000).2)
                    else (if (Ω 6 1 3) = 112 then ((zX0_putMealsIn (Ω 1) (Ω 6 1 4)).1, oS Ω 1 (zX0_putMealsIn (Ω 1) (Ω 6 1 4)).2)
                      else (if (Ω 6 1 3) = 113 then ((zX0_passHours (Ω 1) (Ω 6 1 4) 5000).1, oS Ω 1 (zX0_passHours (Ω 1) (Ω 6 1 4) 5000).2)
                        else (if (Ω 6 1 3) = 114 then ((zX0_reserveMeal (Ω 1) (Ω 6 1 4) (Ω 6 1 5)).1, oS Ω 1 (zX0_reserveMeal (Ω 1) (Ω 6 1 4) (Ω 6 1 5)).2)
                          else (if (Ω 6 1 3) = 115 then ((zX0_passHours (Ω 1) (Ω 6 1 4) 5000).1, oS Ω 1 (zX0_passHours (Ω 1) (Ω 6 1 4) 5000).2)
                            else (if (Ω 6 1 3) = 116 then ((zX0_takeMeal (Ω 1) (Ω 6 1 4) (Ω 6 1 5)).1, oS Ω 1 (zX0_takeMeal (Ω 1) (Ω 6 1 4) (Ω 6 1 5)).2)
                              else ((zX0_passHours (Ω 1) (Ω 6 1 4) 5000).1, oS Ω 1 (zX0_passHours (Ω 1) (Ω 6 1 4) 5000).2)))))))))))))))
theorem iwX2_doCommand_X2 : ∀ w ∈ wsX20, w ∈ wsX2_doCommand := fun _ h => List.mem_cons_of_mem _ (List.mem_append_left _ (List.mem_append_left _ (List.mem_append_left _ (List.mem_append_left _ (List.mem_append_right _ h)))))
theorem iwX2_doCommand_X6 : ∀ w ∈ wsX60, w ∈ wsX2_doCommand := fun _ h => List.mem_cons_of_mem _ (List.mem_append_left _ (List.mem_append_left _ (List.mem_append_left _ (List.mem_append_right _ h))))
theorem hdX2_doCommand : yX2_doCommand.cls = RX2 ∧ yX2_doCommand.cls ≠ "java/lang/invoke/MethodHandle" ∧ yX2_doCommand.cls ≠ "java/lang/invoke/VarHandle" ∧ (parseMethodDescriptor yX2_doCommand.desc).map (fun d => d.parameters.length) = some 1 := by decide +kernel
set_option maxHeartbeats 4000000 in
set_option maxRecDepth 100000 in
theorem mX2_doCommand (l : Launch) (D : va_G) (y : Y3) (pa a b h : Nat) (ad : Nat → Nat) (Ω : Og) : Met l yX2_doCommand wsX2_doCommand ({ frames := 5, cells := 0, slots := 0, locals := 117 } : Room) (va_Pc [.ref pa, .ref h] (fun U => CK D y U ∧ PLH D y pa a b h ad Ω U.heap ∧ plJ pa a b h ad)) (va_Qi (fun (r : Int32) (u : Og) => r = (zX2_doCommand Ω).1 ∧ u = (zX2_doCommand Ω).2) (fun u t => PLH D y pa a b h ad u t.heap) (plA pa a b ad)) 0 0 (plA pa a b ad) := by
  refine Met.ofW (cc := cX2_doCommand) (maxL := 2) (ret := (some .int)) (by decide) rfl ?_
  intro p e s m args below meth c s₁ B hml hv
  obtain ⟨rfl, hC, hPL, hJ⟩ := hv
  have hx := B.exec
  have hb := B.bytes
  have hr := B.returns
  have hts := atoms_spec (ws := wsX2_doCommand) B.pre
  have hown : s.vm.findClass RX2 = some m.cls := findClass_of_methodNamed B.named
  have hlocks := B.notSynchronized
  have hF := (⟨hx, hb, hml, hown, hts⟩ : CallFix p m c cX2_doCommand 2 s _ wsX2_doCommand RX2)
  have hS : va_S (plA pa a b ad) s.heap s.heap [] := va_S.rf
  have hl := lv_entry ([.ref pa, .ref h]) (n := 2) (Nat.le_of_ble_eq_true rfl)
  rw [lg_entry_eq]
  generalize (lg_sl ([.ref pa, .ref h]) ++ List.replicate (2 - (lg_sl ([.ref pa, .ref h])).length) Slot.unset).toArray = ls at hl ⊢
  have hl : lv_has ls 2 [(0, .ref pa), (1, .ref h)] := hl
  refine lv_aload_n hx hb dX2_doCommand_0 rfl (lv_at hl 0 rfl) ?_
  refine va_get (D := D) (ci := 2) (v := .ref a) (C := RX2) (T := TX2) (N := 3) hx hb hts iwX2_doCommand_X2 hown hC.1 hPL.1 0 rfl rfl 0 (by decide) (hts (.fieldLink RX2 9 "MealLockers$Player" "text" "LMealLockers$Text;") (List.mem_of_getElem? (i := 1) rfl)) (fun _ h9 => h9) rfl dX2_doCommand_1 ?_
  refine va_getN (D := D) (ci := 6) (v := .int (Ω 6 1 3)) (C := RX6) (T := TX6) (N := 7) hx hb hts iwX2_doCommand_X6 hown hC.1 hPL.2.1 0 rfl rfl 4 (by decide) (nw_f13 hC) (fun _ h9 => h9) rfl dX2_doCommand_4 ?_
  refine (Decidable.em ((Ω 6 1 3) = 102)).elim (fun c_1 => ?_) (fun c_1 => ?_)
  · refine lv_tableIn (off := 92) (tgt := 99) hx hb dX2_doCommand_7 (by rw [c_1]; decide) (by rw [c_1]; decide) (by rw [c_1]; decide) (by decide) ?_
    refine lv_aload_n hx hb dX2_doCommand_99 rfl (lv_at hl 1 rfl) ?_
    refine lv_aload_n hx hb dX2_doCommand_100 rfl (lv_at hl 0 rfl) ?_
    refine va_get (D := D) (ci := 2) (v := .ref a) (C := RX2) (T := TX2) (N := 3) hx hb hts iwX2_doCommand_X2 hown hC.1 hPL.1 0 rfl rfl 0 (by decide) (hts (.fieldLink RX2 9 "MealLockers$Player" "text" "LMealLockers$Text;") (List.mem_of_getElem? (i := 1) rfl)) (fun _ h9 => h9) rfl dX2_doCommand_101 ?_
    refine va_getN (D := D) (ci := 6) (v := .int (Ω 6 1 4)) (C := RX6) (T := TX6) (N := 7) hx hb hts iwX2_doCommand_X6 hown hC.1 hPL.2.1 0 rfl rfl 5 (by decide) (nw_f14 hC) (fun _ h9 => h9) rfl dX2_doCommand_104 ?_
    refine lv_aload_n hx hb dX2_doCommand_107 rfl (lv_at hl 0 rfl) ?_
    refine va_get (D := D) (ci := 2) (v := .ref a) (C := RX2) (T := TX2) (N := 3) hx hb hts iwX2_doCommand_X2 hown hC.1 hPL.1 0 rfl rfl 0 (by decide) (hts (.fieldLink RX2 9 "MealLockers$Player" "text" "LMealLockers$Text;") (List.mem_of_getElem? (i := 1) rfl)) (fun _ h9 => h9) rfl dX2_doCommand_108 ?_
    refine va_getN (D := D) (ci := 6) (v := .int (Ω 6 1 5)) (C := RX6) (T := TX6) (N := 7) hx hb hts iwX2_doCommand_X6 hown hC.1 hPL.2.1 0 rfl rfl 6 (by decide) (nw_f15 hC) (fun _ h9 => h9) rfl dX2_doCommand_111 ?_
    refine lv_iconst (v := 0) hx hb dX2_doCommand_114 (by decide) ?_
    refine kX0_endReservation hF (cwV 3 hts gX2_doCommand_X0_endReservation rfl rfl rfl hdX0_endReservation ⟨Nat.le_of_ble_eq_true rfl, Nat.le_of_ble_eq_true rfl⟩) hC hPL.2.2.2 hPL.2.2.1 hJ.1 (fun k hk => (hJ.2.2.2.2.2.2.2 k hk).1) hS plA_st hl.1 (Nat.le_of_ble_eq_true rfl) dX2_doCommand_115 ⟨Nat.zero_le _, Nat.zero_le _⟩ (fun H locs hSt hz hk hS => ?_)
    have hPL := hPL.st hJ hSt hk
    exact W.iret (v := (zX0_endReservation (Ω 1) (Ω 6 1 4) (Ω 6 1 5) 0).1) hx hb hr (fun t ht hW => ⟨⟨(zX0_endReservation (Ω 1) (Ω 6 1 4) (Ω 6 1 5) 0).1, oS Ω 1 (zX0_endReservation (Ω 1) (Ω 6 1 4) (Ω 6 1 5) 0).2, rfl, ⟨(by unfold zX2_doCommand; rw [if_pos c_1]), (by unfold zX2_doCommand; rw [if_pos c_1])⟩, by dsimp only; rw [ht]; exact hPL⟩, hS.F ht⟩) hS.2.2 dX2_doCommand_118
  · refine (Decidable.em ((Ω 6 1 3) = 103)).elim (fun c_2 => ?_) (fun c_2 => ?_)
    · refine lv_tableIn (off := 151) (tgt := 158) hx hb dX2_doCommand_7 (by rw [c_2]; decide) (by rw [c_2]; decide) (by rw [c_2]; decide) (by decide) ?_
      refine lv_aload_n hx hb dX2_doCommand_158 rfl (lv_at hl 1 rfl) ?_
      refine lv_aload_n hx hb dX2_doCommand_159 rfl (lv_at hl 0 rfl) ?_
      refine va_get (D := D) (ci := 2) (v := .ref a) (C := RX2) (T := TX2) (N := 3) hx hb hts iwX2_doCommand_X2 hown hC.1 hPL.1 0 rfl rfl 0 (by decide) (hts (.fieldLink RX2 9 "MealLockers$Player" "text" "LMealLockers$Text;") (List.mem_of_getElem? (i := 1) rfl)) (fun _ h9 => h9) rfl dX2_doCommand_160 ?_
      refine va_getN (D := D) (ci := 6) (v := .int (Ω 6 1 4)) (C := RX6) (T := TX6) (N := 7) hx hb hts iwX2_doCommand_X6 hown hC.1 hPL.2.1 0 rfl rfl 5 (by decide) (nw_f14 hC) (fun _ h9 => h9) rfl dX2_doCommand_163 ?_
      refine lv_aload_n hx hb dX2_doCommand_166 rfl (lv_at hl 0 rfl) ?_
      refine va_get (D := D) (ci := 2) (v := .ref a) (C := RX2) (T := TX2) (N := 3) hx hb hts iwX2_doCommand_X2 hown hC.1 hPL.1 0 rfl rfl 0 (by decide) (hts (.fieldLink RX2 9 "MealLockers$Player" "text" "LMealLockers$Text;") (List.mem_of_getElem? (i := 1) rfl)) (fun _ h9 => h9) rfl dX2_doCommand_167 ?_
      refine va_getN (D := D) (ci := 6) (v := .int (Ω 6 1 5)) (C := RX6) (T := TX6) (N := 7) hx hb hts iwX2_doCommand_X6 hown hC.1 hPL.2.1 0 rfl rfl 6 (by decide) (nw_f15 hC) (fun _ h9 => h9) rfl dX2_doCommand_170 ?_
      refine kX0_sendVolunteer hF (cwV 2 hts gX2_doCommand_X0_sendVolunteer rfl rfl rfl hdX0_sendVolunteer ⟨Nat.le_of_ble_eq_true rfl, Nat.le_of_ble_eq_true rfl⟩) hC hPL.2.2.2 hPL.2.2.1 hJ.1 (fun k hk => (hJ.2.2.2.2.2.2.2 k hk).1) hS plA_st hl.1 (Nat.le_of_ble_eq_true rfl) dX2_doCommand_173 ⟨Nat.zero_le _, Nat.zero_le _⟩ (fun H locs hSt hz hk hS => ?_)
      have hPL := hPL.st hJ hSt hk
      exact W.iret (v := (zX0_sendVolunteer (Ω 1) (Ω 6 1 4) (Ω 6 1 5)).1) hx hb hr (fun t ht hW => ⟨⟨(zX0_sendVolunteer (Ω 1) (Ω 6 1 4) (Ω 6 1 5)).1, oS Ω 1 (zX0_sendVolunteer (Ω 1) (Ω 6 1 4) (Ω 6 1 5)).2, rfl, ⟨(by unfold zX2_doCommand; rw [if_neg c_1, if_pos c_2]), (by unfold zX2_doCommand; rw [if_neg c_1, if_pos c_2])⟩, by dsimp only; rw [ht]; exact hPL⟩, hS.F ht⟩) hS.2.2 dX2_doCommand_176
    · refine (Decidable.em ((Ω 6 1 3) = 104)).elim (fun c_3 => ?_) (fun c_3 => ?_)
      · refine lv_tableIn (off := 182) (tgt := 189) hx hb dX2_doCommand_7 (by rw [c_3]; decide) (by rw [c_3]; decide) (by rw [c_3]; decide) (by decide) ?_
        refine lv_aload_n hx hb dX2_doCommand_189 rfl (lv_at hl 1 rfl) ?_
        refine lv_aload_n hx hb dX2_doCommand_190 rfl (lv_at hl 0 rfl) ?_
        refine va_get (D := D) (ci := 2) (v := .ref a) (C := RX2) (T := TX2) (N := 3) hx hb hts iwX2_doCommand_X2 hown hC.1 hPL.1 0 rfl rfl 0 (by decide) (hts (.fieldLink RX2 9 "MealLockers$Player" "text" "LMealLockers$Text;") (List.mem_of_getElem? (i := 1) rfl)) (fun _ h9 => h9) rfl dX2_doCommand_191 ?_
        refine va_getN (D := D) (ci := 6) (v := .int (Ω 6 1 4)) (C := RX6) (T := TX6) (N := 7) hx hb hts iwX2_doCommand_X6 hown hC.1 hPL.2.1 0 rfl rfl 5 (by decide) (nw_f14 hC) (fun _ h9 => h9) rfl dX2_doCommand_194 ?_
        refine lv_sipush (v := 5000) hx hb dX2_doCommand_197 (by decide) ?_
        refine kX0_passHours hF (cwV 2 hts gX2_doCommand_X0_passHours rfl rfl rfl hdX0_passHours ⟨Nat.le_of_ble_eq_true rfl, Nat.le_of_ble_eq_true rfl⟩) hC hPL.2.2.2 hPL.2.2.1 hJ.1 (fun k hk => (hJ.2.2.2.2.2.2.2 k hk).1) hS plA_st hl.1 (Nat.le_of_ble_eq_true rfl) dX2_doCommand_200 ⟨Nat.zero_le _, Nat.zero_le _⟩ (fun H locs hSt hz hk hS => ?_)
        have hPL := hPL.st hJ hSt hk
        exact W.iret (v := (zX0_passHours (Ω 1) (Ω 6 1 4) 5000).1) hx hb hr (fun t ht hW => ⟨⟨(zX0_passHours (Ω 1) (Ω 6 1 4) 5000).1, oS Ω 1 (zX0_passHours (Ω 1) (Ω 6 1 4) 5000).2, rfl, ⟨(by unfold zX2_doCommand; rw [if_neg c_1, if_neg c_2, if_pos c_3]), (by unfold zX2_doCommand; rw [if_neg c_1, if_neg c_2, if_pos c_3])⟩, by dsimp only; rw [ht]; exact hPL⟩, hS.F ht⟩) hS.2.2 dX2_doCommand_203
      · refine (Decidable.em ((Ω 6 1 3) = 105)).elim (fun c_4 => ?_) (fun c_4 => ?_)
        · refine lv_tableIn (off := 182) (tgt := 189) hx hb dX2_doCommand_7 (by rw [c_4]; decide) (by rw [c_4]; decide) (by rw [c_4]; decide) (by decide) ?_
          refine lv_aload_n hx hb dX2_doCommand_189 rfl (lv_at hl 1 rfl) ?_
          refine lv_aload_n hx hb dX2_doCommand_190 rfl (lv_at hl 0 rfl) ?_
          refine va_get (D := D) (ci := 2) (v := .ref a) (C := RX2) (T := TX2) (N := 3) hx hb hts iwX2_doCommand_X2 hown hC.1 hPL.1 0 rfl rfl 0 (by decide) (hts (.fieldLink RX2 9 "MealLockers$Player" "text" "LMealLockers$Text;") (List.mem_of_getElem? (i := 1) rfl)) (fun _ h9 => h9) rfl dX2_doCommand_191 ?_
          refine va_getN (D := D) (ci := 6) (v := .int (Ω 6 1 4)) (C := RX6) (T := TX6) (N := 7) hx hb hts iwX2_doCommand_X6 hown hC.1 hPL.2.1 0 rfl rfl 5 (by decide) (nw_f14 hC) (fun _ h9 => h9) rfl dX2_doCommand_194 ?_
          refine lv_sipush (v := 5000) hx hb dX2_doCommand_197 (by decide) ?_
          refine kX0_passHours hF (cwV 2 hts gX2_doCommand_X0_passHours rfl rfl rfl hdX0_passHours ⟨Nat.le_of_ble_eq_true rfl, Nat.le_of_ble_eq_true rfl⟩) hC hPL.2.2.2 hPL.2.2.1 hJ.1 (fun k hk => (hJ.2.2.2.2.2.2.2 k hk).1) hS plA_st hl.1 (Nat.le_of_ble_eq_true rfl) dX2_doCommand_200 ⟨Nat.zero_le _, Nat.zero_le _⟩ (fun H locs hSt hz hk hS => ?_)
          have hPL := hPL.st hJ hSt hk
          exact W.iret (v := (zX0_passHours (Ω 1) (Ω 6 1 4) 5000).1) hx hb hr (fun t ht hW => ⟨⟨(zX0_passHours (Ω 1) (Ω 6 1 4) 5000).1, oS Ω 1 (zX0_passHours (Ω 1) (Ω 6 1 4) 5000).2, rfl, ⟨(by unfold zX2_doCommand; rw [if_neg c_1, if_neg c_2, if_neg c_3, if_pos c_4]), (by unfold zX2_doCommand; rw [if_neg c_1, if_neg c_2, if_neg c_3, if_pos c_4])⟩, by dsimp only; rw [ht]; exact hPL⟩, hS.F ht⟩) hS.2.2 dX2_doCommand_203
        · refine (Decidable.em ((Ω 6 1 3) = 106)).elim (fun c_5 => ?_) (fun c_5 => ?_)
          · refine lv_tableIn (off := 182) (tgt := 189) hx hb dX2_doCommand_7 (by rw [c_5]; decide) (by rw [c_5]; decide) (by rw [c_5]; decide) (by decide) ?_
            refine lv_aload_n hx hb dX2_doCommand_189 rfl (lv_at hl 1 rfl) ?_
            refine lv_aload_n hx hb dX2_doCommand_190 rfl (lv_at hl 0 rfl) ?_
            refine va_get (D := D) (ci := 2) (v := .ref a) (C := RX2) (T := TX2) (N := 3) hx hb hts iwX2_doCommand_X2 hown hC.1 hPL.1 0 rfl rfl 0 (by decide) (hts (.fieldLink RX2 9 "MealLockers$Player" "text" "LMealLockers$Text;") (List.mem_of_getElem? (i := 1) rfl)) (fun _ h9 => h9) rfl dX2_doCommand_191 ?_
            refine va_getN (D := D) (ci := 6) (v := .int (Ω 6 1 4)) (C := RX6) (T := TX6) (N := 7) hx hb hts iwX2_doCommand_X6 hown hC.1 hPL.2.1 0 rfl rfl 5 (by decide) (nw_f14 hC) (fun _ h9 => h9) rfl dX2_doCommand_194 ?_
            refine lv_sipush (v := 5000) hx hb dX2_doCommand_197 (by decide) ?_
            refine kX0_passHours hF (cwV 2 hts gX2_doCommand_X0_passHours rfl rfl rfl hdX0_passHours ⟨Nat.le_of_ble_eq_true rfl, Nat.le_of_ble_eq_true rfl⟩) hC hPL.2.2.2 hPL.2.2.1 hJ.1 (fun k hk => (hJ.2.2.2.2.2.2.2 k hk).1) hS plA_st hl.1 (Nat.le_of_ble_eq_true rfl) dX2_doCommand_200 ⟨Nat.zero_le _, Nat.zero_le _⟩ (fun H locs hSt hz hk hS => ?_)
            have hPL := hPL.st hJ hSt hk
            exact W.iret (v := (zX0_passHours (Ω 1) (Ω 6 1 4) 5000).1) hx hb hr (fun t ht hW => ⟨⟨(zX0_passHours (Ω 1) (Ω 6 1 4) 5000).1, oS Ω 1 (zX0_passHours (Ω 1) (Ω 6 1 4) 5000).2, rfl, ⟨(by unfold zX2_doCommand; rw [if_neg c_1, if_neg c_2, if_neg c_3, if_neg c_4, if_pos c_5]), (by unfold zX2_doCommand; rw [if_neg c_1, if_neg c_2, if_neg c_3, if_neg c_4, if_pos c_5])⟩, by dsimp only; rw [ht]; exact hPL⟩, hS.F ht⟩) hS.2.2 dX2_doCommand_203
          · refine (Decidable.em ((Ω 6 1 3) = 107)).elim (fun c_6 => ?_) (fun c_6 => ?_)
            · refine lv_tableIn (off := 182) (tgt := 189) hx hb dX2_doCommand_7 (by rw [c_6]; decide) (by rw [c_6]; decide) (by rw [c_6]; decide) (by decide) ?_
              refine lv_aload_n hx hb dX2_doCommand_189 rfl (lv_at hl 1 rfl) ?_
              refine lv_aload_n hx hb dX2_doCommand_190 rfl (lv_at hl 0 rfl) ?_
              refine va_get (D := D) (ci := 2) (v := .ref a) (C := RX2) (T := TX2) (N := 3) hx hb hts iwX2_doCommand_X2 hown hC.1 hPL.1 0 rfl rfl 0 (by decide) (hts (.fieldLink RX2 9 "MealLockers$Player" "text" "LMealLockers$Text;") (List.mem_of_getElem? (i := 1) rfl)) (fun _ h9 => h9) rfl dX2_doCommand_191 ?_
              refine va_getN (D := D) (ci := 6) (v := .int (Ω 6 1 4)) (C := RX6) (T := TX6) (N := 7) hx hb hts iwX2_doCommand_X6 hown hC.1 hPL.2.1 0 rfl rfl 5 (by decide) (nw_f14 hC) (fun _ h9 => h9) rfl dX2_doCommand_194 ?_
              refine lv_sipush (v := 5000) hx hb dX2_doCommand_197 (by decide) ?_
              refine kX0_passHours hF (cwV 2 hts gX2_doCommand_X0_passHours rfl rfl rfl hdX0_passHours ⟨Nat.le_of_ble_eq_true rfl, Nat.le_of_ble_eq_true rfl⟩) hC hPL.2.2.2 hPL.2.2.1 hJ.1 (fun k hk => (hJ.2.2.2.2.2.2.2 k hk).1) hS plA_st hl.1 (Nat.le_of_ble_eq_true rfl) dX2_doCommand_200 ⟨Nat.zero_le _, Nat.zero_le _⟩ (fun H locs hSt hz hk hS => ?_)
              have hPL := hPL.st hJ hSt hk
              exact W.iret (v := (zX0_passHours (Ω 1) (Ω 6 1 4) 5000).1) hx hb hr (fun t ht hW => ⟨⟨(zX0_passHours (Ω 1) (Ω 6 1 4) 5000).1, oS Ω 1 (zX0_passHours (Ω 1) (Ω 6 1 4) 5000).2, rfl, ⟨(by unfold zX2_doCommand; rw [if_neg c_1, if_neg c_2, if_neg c_3, if_neg c_4, if_neg c_5, if_pos c_6]), (by unfold zX2_doCommand; rw [if_neg c_1, if_neg c_2, if_neg c_3, if_neg c_4, if_neg c_5, if_pos c_6])⟩, by dsimp only; rw [ht]; exact hPL⟩, hS.F ht⟩) hS.2.2 dX2_doCommand_203
            · refine (Decidable.em ((Ω 6 1 3) = 108)).elim (fun c_7 => ?_) (fun c_7 => ?_)
              · refine lv_tableIn (off := 182) (tgt := 189) hx hb dX2_doCommand_7 (by rw [c_7]; decide) (by rw [c_7]; decide) (by rw [c_7]; decide) (by decide) ?_
                refine lv_aload_n hx hb dX2_doCommand_189 rfl (lv_at hl 1 rfl) ?_
                refine lv_aload_n hx hb dX2_doCommand_190 rfl (lv_at hl 0 rfl) ?_
                refine va_get (D := D) (ci := 2) (v := .ref a) (C := RX2) (T := TX2) (N := 3) hx hb hts iwX2_doCommand_X2 hown hC.1 hPL.1 0 rfl rfl 0 (by decide) (hts (.fieldLink RX2 9 "MealLockers$Player" "text" "LMealLockers$Text;") (List.mem_of_getElem? (i := 1) rfl)) (fun _ h9 => h9) rfl dX2_doCommand_191 ?_
                refine va_getN (D := D) (ci := 6) (v := .int (Ω 6 1 4)) (C := RX6) (T := TX6) (N := 7) hx hb hts iwX2_doCommand_X6 hown hC.1 hPL.2.1 0 rfl rfl 5 (by decide) (nw_f14 hC) (fun _ h9 => h9) rfl dX2_doCommand_194 ?_
                refine lv_sipush (v := 5000) hx hb dX2_doCommand_197 (by decide) ?_
                refine kX0_passHours hF (cwV 2 hts gX2_doCommand_X0_passHours rfl rfl rfl hdX0_passHours ⟨Nat.le_of_ble_eq_true rfl, Nat.le_of_ble_eq_true rfl⟩) hC hPL.2.2.2 hPL.2.2.1 hJ.1 (fun k hk => (hJ.2.2.2.2.2.2.2 k hk).1) hS plA_st hl.1 (Nat.le_of_ble_eq_true rfl) dX2_doCommand_200 ⟨Nat.zero_le _, Nat.zero_le _⟩ (fun H locs hSt hz hk hS => ?_)
                have hPL := hPL.st hJ hSt hk
                exact W.iret (v := (zX0_passHours (Ω 1) (Ω 6 1 4) 5000).1) hx hb hr (fun t ht hW => ⟨⟨(zX0_passHours (Ω 1) (Ω 6 1 4) 5000).1, oS Ω 1 (zX0_passHours (Ω 1) (Ω 6 1 4) 5000).2, rfl, ⟨(by unfold zX2_doCommand; rw [if_neg c_1, if_neg c_2, if_neg c_3, if_neg c_4, if_neg c_5, if_neg c_6, if_pos c_7]), (by unfold zX2_doCommand; rw [if_neg c_1, if_neg c_2, if_neg c_3, if_neg c_4, if_neg c_5, if_neg c_6, if_pos c_7])⟩, by dsimp only; rw [ht]; exact hPL⟩, hS.F ht⟩) hS.2.2 dX2_doCommand_203
              · refine (Decidable.em ((Ω 6 1 3) = 109)).elim (fun c_8 => ?_) (fun c_8 => ?_)
                · refine lv_tableIn (off := 182) (tgt := 189) hx hb dX2_doCommand_7 (by rw [c_8]; decide) (by rw [c_8]; decide) (by rw [c_8]; decide) (by decide) ?_
                  refine lv_aload_n hx hb dX2_doCommand_189 rfl (lv_at hl 1 rfl) ?_
                  refine lv_aload_n hx hb dX2_doCommand_190 rfl (lv_at hl 0 rfl) ?_
                  refine va_get (D := D) (ci := 2) (v := .ref a) (C := RX2) (T := TX2) (N := 3) hx hb hts iwX2_doCommand_X2 hown hC.1 hPL.1 0 rfl rfl 0 (by decide) (hts (.fieldLink RX2 9 "MealLockers$Player" "text" "LMealLockers$Text;") (List.mem_of_getElem? (i := 1) rfl)) (fun _ h9 => h9) rfl dX2_doCommand_191 ?_
                  refine va_getN (D := D) (ci := 6) (v := .int (Ω 6 1 4)) (C := RX6) (T := TX6) (N := 7) hx hb hts iwX2_doCommand_X6 hown hC.1 hPL.2.1 0 rfl rfl 5 (by decide) (nw_f14 hC) (fun _ h9 => h9) rfl dX2_doCommand_194 ?_
                  refine lv_sipush (v := 5000) hx hb dX2_doCommand_197 (by decide) ?_
                  refine kX0_passHours hF (cwV 2 hts gX2_doCommand_X0_passHours rfl rfl rfl hdX0_passHours ⟨Nat.le_of_ble_eq_true rfl, Nat.le_of_ble_eq_true rfl⟩) hC hPL.2.2.2 hPL.2.2.1 hJ.1 (fun k hk => (hJ.2.2.2.2.2.2.2 k hk).1) hS plA_st hl.1 (Nat.le_of_ble_eq_true rfl) dX2_doCommand_200 ⟨Nat.zero_le _, Nat.zero_le _⟩ (fun H locs hSt hz hk hS => ?_)
                  have hPL := hPL.st hJ hSt hk
                  exact W.iret (v := (zX0_passHours (Ω 1) (Ω 6 1 4) 5000).1) hx hb hr (fun t ht hW => ⟨⟨(zX0_passHours (Ω 1) (Ω 6 1 4) 5000).1, oS Ω 1 (zX0_passHours (Ω 1) (Ω 6 1 4) 5000).2, rfl, ⟨(by unfold zX2_doCommand; rw [if_neg c_1, if_neg c_2, if_neg c_3, if_neg c_4, if_neg c_5, if_neg c_6, if_neg c_7, if_pos c_8]), (by unfold zX2_doCommand; rw [if_neg c_1, if_neg c_2, if_neg c_3, if_neg c_4, if_neg c_5, if_neg c_6, if_neg c_7, if_pos c_8])⟩, by dsimp only; rw [ht]; exact hPL⟩, hS.F ht⟩) hS.2.2 dX2_doCommand_203
                · refine (Decidable.em ((Ω 6 1 3) = 110)).elim (fun c_9 => ?_) (fun c_9 => ?_)
                  · refine lv_tableIn (off := 112) (tgt := 119) hx hb dX2_doCommand_7 (by rw [c_9]; decide) (by rw [c_9]; decide) (by rw [c_9]; decide) (by decide) ?_
                    refine lv_aload_n hx hb dX2_doCommand_119 rfl (lv_at hl 1 rfl) ?_
                    refine lv_aload_n hx hb dX2_doCommand_120 rfl (lv_at hl 0 rfl) ?_
                    refine va_get (D := D) (ci := 2) (v := .ref a) (C := RX2) (T := TX2) (N := 3) hx hb hts iwX2_doCommand_X2 hown hC.1 hPL.1 0 rfl rfl 0 (by decide) (hts (.fieldLink RX2 9 "MealLockers$Player" "text" "LMealLockers$Text;") (List.mem_of_getElem? (i := 1) rfl)) (fun _ h9 => h9) rfl dX2_doCommand_121 ?_
                    refine va_getN (D := D) (ci := 6) (v := .int (Ω 6 1 4)) (C := RX6) (T := TX6) (N := 7) hx hb hts iwX2_doCommand_X6 hown hC.1 hPL.2.1 0 rfl rfl 5 (by decide) (nw_f14 hC) (fun _ h9 => h9) rfl dX2_doCommand_124 ?_
                    refine lv_aload_n hx hb dX2_doCommand_127 rfl (lv_at hl 0 rfl) ?_
                    refine va_get (D := D) (ci := 2) (v := .ref a) (C := RX2) (T := TX2) (N := 3) hx hb hts iwX2_doCommand_X2 hown hC.1 hPL.1 0 rfl rfl 0 (by decide) (hts (.fieldLink RX2 9 "MealLockers$Player" "text" "LMealLockers$Text;") (List.mem_of_getElem? (i := 1) rfl)) (fun _ h9 => h9) rfl dX2_doCommand_128 ?_
                    refine va_getN (D := D) (ci := 6) (v := .int (Ω 6 1 5)) (C := RX6) (T := TX6) (N := 7) hx hb hts iwX2_doCommand_X6 hown hC.1 hPL.2.1 0 rfl rfl 6 (by decide) (nw_f15 hC) (fun _ h9 => h9) rfl dX2_doCommand_131 ?_
                    refine lv_iconst (v := 1) hx hb dX2_doCommand_134 (by decide) ?_
                    refine kX0_endReservation hF (cwV 3 hts gX2_doCommand_X0_endReservation rfl rfl rfl hdX0_endReservation ⟨Nat.le_of_ble_eq_true rfl, Nat.le_of_ble_eq_true rfl⟩) hC hPL.2.2.2 hPL.2.2.1 hJ.1 (fun k hk => (hJ.2.2.2.2.2.2.2 k hk).1) hS plA_st hl.1 (Nat.le_of_ble_eq_true rfl) dX2_doCommand_135 ⟨Nat.zero_le _, Nat.zero_le _⟩ (fun H locs hSt hz hk hS => ?_)
                    have hPL := hPL.st hJ hSt hk
                    exact W.iret (v := (zX0_endReservation (Ω 1) (Ω 6 1 4) (Ω 6 1 5) 1).1) hx hb hr (fun t ht hW => ⟨⟨(zX0_endReservation (Ω 1) (Ω 6 1 4) (Ω 6 1 5) 1).1, oS Ω 1 (zX0_endReservation (Ω 1) (Ω 6 1 4) (Ω 6 1 5) 1).2, rfl, ⟨(by unfold zX2_doCommand; rw [if_neg c_1, if_neg c_2, if_neg c_3, if_neg c_4, if_neg c_5, if_neg c_6, if_neg c_7, if_neg c_8, if_pos c_9]), (by unfold zX2_doCommand; rw [if_neg c_1, if_neg c_2, if_neg c_3, if_neg c_4, if_neg c_5, if_neg c_6, if_neg c_7, if_neg c_8, if_pos c_9])⟩, by dsimp only; rw [ht]; exact hPL⟩, hS.F ht⟩) hS.2.2 dX2_doCommand_138
                  · refine (Decidable.em ((Ω 6 1 3) = 111)).elim (fun c_10 => ?_) (fun c_10 => ?_)
                    · refine lv_tableIn (off := 182) (tgt := 189) hx hb dX2_doCommand_7 (by rw [c_10]; decide) (by rw [c_10]; decide) (by rw [c_10]; decide) (by decide) ?_
                      refine lv_aload_n hx hb dX2_doCommand_189 rfl (lv_at hl 1 rfl) ?_
                      refine lv_aload_n hx hb dX2_doCommand_190 rfl (lv_at hl 0 rfl) ?_
                      refine va_get (D := D) (ci := 2) (v := .ref a) (C := RX2) (T := TX2) (N := 3) hx hb hts iwX2_doCommand_X2 hown hC.1 hPL.1 0 rfl rfl 0 (by decide) (hts (.fieldLink RX2 9 "MealLockers$Player" "text" "LMealLockers$Text;") (List.mem_of_getElem? (i := 1) rfl)) (fun _ h9 => h9) rfl dX2_doCommand_191 ?_
                      refine va_getN (D := D) (ci := 6) (v := .int (Ω 6 1 4)) (C := RX6) (T := TX6) (N := 7) hx hb hts iwX2_doCommand_X6 hown hC.1 hPL.2.1 0 rfl rfl 5 (by decide) (nw_f14 hC) (fun _ h9 => h9) rfl dX2_doCommand_194 ?_
                      refine lv_sipush (v := 5000) hx hb dX2_doCommand_197 (by decide) ?_
                      refine kX0_passHours hF (cwV 2 hts gX2_doCommand_X0_passHours rfl rfl rfl hdX0_passHours ⟨Nat.le_of_ble_eq_true rfl, Nat.le_of_ble_eq_true rfl⟩) hC hPL.2.2.2 hPL.2.2.1 hJ.1 (fun k hk => (hJ.2.2.2.2.2.2.2 k hk).1) hS plA_st hl.1 (Nat.le_of_ble_eq_true rfl) dX2_doCommand_200 ⟨Nat.zero_le _, Nat.zero_le _⟩ (fun H locs hSt hz hk hS => ?_)
                      have hPL := hPL.st hJ hSt hk
                      exact W.iret (v := (zX0_passHours (Ω 1) (Ω 6 1 4) 5000).1) hx hb hr (fun t ht hW => ⟨⟨(zX0_passHours (Ω 1) (Ω 6 1 4) 5000).1, oS Ω 1 (zX0_passHours (Ω 1) (Ω 6 1 4) 5000).2, rfl, ⟨(by unfold zX2_doCommand; rw [if_neg c_1, if_neg c_2, if_neg c_3, if_neg c_4, if_neg c_5, if_neg c_6, if_neg c_7, if_neg c_8, if_neg c_9, if_pos c_10]), (by unfold zX2_doCommand; rw [if_neg c_1, if_neg c_2, if_neg c_3, if_neg c_4, if_neg c_5, if_neg c_6, if_neg c_7, if_neg c_8, if_neg c_9, if_pos c_10])⟩, by dsimp only; rw [ht]; exact hPL⟩, hS.F ht⟩) hS.2.2 dX2_doCommand_203
                    · refine (Decidable.em ((Ω 6 1 3) = 112)).elim (fun c_11 => ?_) (fun c_11 => ?_)
                      · refine lv_tableIn (off := 170) (tgt := 177) hx hb dX2_doCommand_7 (by rw [c_11]; decide) (by rw [c_11]; decide) (by rw [c_11]; decide) (by decide) ?_
                        refine lv_aload_n hx hb dX2_doCommand_177 rfl (lv_at hl 1 rfl) ?_
                        refine lv_aload_n hx hb dX2_doCommand_178 rfl (lv_at hl 0 rfl) ?_
                        refine va_get (D := D) (ci := 2) (v := .ref a) (C := RX2) (T := TX2) (N := 3) hx hb hts iwX2_doCommand_X2 hown hC.1 hPL.1 0 rfl rfl 0 (by decide) (hts (.fieldLink RX2 9 "MealLockers$Player" "text" "LMealLockers$Text;") (List.mem_of_getElem? (i := 1) rfl)) (fun _ h9 => h9) rfl dX2_doCommand_179 ?_
                        refine va_getN (D := D) (ci := 6) (v := .int (Ω 6 1 4)) (C := RX6) (T := TX6) (N := 7) hx hb hts iwX2_doCommand_X6 hown hC.1 hPL.2.1 0 rfl rfl 5 (by decide) (nw_f14 hC) (fun _ h9 => h9) rfl dX2_doCommand_182 ?_
                        refine kX0_putMealsIn hF (cwV 1 hts gX2_doCommand_X0_putMealsIn rfl rfl rfl hdX0_putMealsIn ⟨Nat.le_of_ble_eq_true rfl, Nat.le_of_ble_eq_true rfl⟩) hC hPL.2.2.2 hPL.2.2.1 hJ.1 (fun k hk => (hJ.2.2.2.2.2.2.2 k hk).1) hS plA_st hl.1 (Nat.le_of_ble_eq_true rfl) dX2_doCommand_185 ⟨Nat.zero_le _, Nat.zero_le _⟩ (fun H locs hSt hz hk hS => ?_)
                        have hPL := hPL.st hJ hSt hk
                        exact W.iret (v := (zX0_putMealsIn (Ω 1) (Ω 6 1 4)).1) hx hb hr (fun t ht hW => ⟨⟨(zX0_putMealsIn (Ω 1) (Ω 6 1 4)).1, oS Ω 1 (zX0_putMealsIn (Ω 1) (Ω 6 1 4)).2, rfl, ⟨(by unfold zX2_doCommand; rw [if_neg c_1, if_neg c_2, if_neg c_3, if_neg c_4, if_neg c_5, if_neg c_6, if_neg c_7, if_neg c_8, if_neg c_9, if_neg c_10, if_pos c_11]), (by unfold zX2_doCommand; rw [if_neg c_1, if_neg c_2, if_neg c_3, if_neg c_4, if_neg c_5, if_neg c_6, if_neg c_7, if_neg c_8, if_neg c_9, if_neg c_10, if_pos c_11])⟩, by dsimp only; rw [ht]; exact hPL⟩, hS.F ht⟩) hS.2.2 dX2_doCommand_188
                      · refine (Decidable.em ((Ω 6 1 3) = 113)).elim (fun c_12 => ?_) (fun c_12 => ?_)
                        · refine lv_tableIn (off := 182) (tgt := 189) hx hb dX2_doCommand_7 (by rw [c_12]; decide) (by rw [c_12]; decide) (by rw [c_12]; decide) (by decide) ?_
                          refine lv_aload_n hx hb dX2_doCommand_189 rfl (lv_at hl 1 rfl) ?_
                          refine lv_aload_n hx hb dX2_doCommand_190 rfl (lv_at hl 0 rfl) ?_
                          refine va_get (D := D) (ci := 2) (v := .ref a) (C := RX2) (T := TX2) (N := 3) hx hb hts iwX2_doCommand_X2 hown hC.1 hPL.1 0 rfl rfl 0 (by decide) (hts (.fieldLink RX2 9 "MealLockers$Player" "text" "LMealLockers$Text;") (List.mem_of_getElem? (i := 1) rfl)) (fun _ h9 => h9) rfl dX2_doCommand_191 ?_
                          refine va_getN (D := D) (ci := 6) (v := .int (Ω 6 1 4)) (C := RX6) (T := TX6) (N := 7) hx hb hts iwX2_doCommand_X6 hown hC.1 hPL.2.1 0 rfl rfl 5 (by decide) (nw_f14 hC) (fun _ h9 => h9) rfl dX2_doCommand_194 ?_
                          refine lv_sipush (v := 5000) hx hb dX2_doCommand_197 (by decide) ?_
                          refine kX0_passHours hF (cwV 2 hts gX2_doCommand_X0_passHours rfl rfl rfl hdX0_passHours ⟨Nat.le_of_ble_eq_true rfl, Nat.le_of_ble_eq_true rfl⟩) hC hPL.2.2.2 hPL.2.2.1 hJ.1 (fun k hk => (hJ.2.2.2.2.2.2.2 k hk).1) hS plA_st hl.1 (Nat.le_of_ble_eq_true rfl) dX2_doCommand_200 ⟨Nat.zero_le _, Nat.zero_le _⟩ (fun H locs hSt hz hk hS => ?_)
                          have hPL := hPL.st hJ hSt hk
                          exact W.iret (v := (zX0_passHours (Ω 1) (Ω 6 1 4) 5000).1) hx hb hr (fun t ht hW => ⟨⟨(zX0_passHours (Ω 1) (Ω 6 1 4) 5000).1, oS Ω 1 (zX0_passHours (Ω 1) (Ω 6 1 4) 5000).2, rfl, ⟨(by unfold zX2_doCommand; rw [if_neg c_1, if_neg c_2, if_neg c_3, if_neg c_4, if_neg c_5, if_neg c_6, if_neg c_7, if_neg c_8, if_neg c_9, if_neg c_10, if_neg c_11, if_pos c_12]), (by unfold zX2_doCommand; rw [if_neg c_1, if_neg c_2, if_neg c_3, if_neg c_4, if_neg c_5, if_neg c_6, if_neg c_7, if_neg c_8, if_neg c_9, if_neg c_10, if_neg c_11, if_pos c_12])⟩, by dsimp only; rw [ht]; exact hPL⟩, hS.F ht⟩) hS.2.2 dX2_doCommand_203
                        · refine (Decidable.em ((Ω 6 1 3) = 114)).elim (fun c_13 => ?_) (fun c_13 => ?_)
                          · refine lv_tableIn (off := 73) (tgt := 80) hx hb dX2_doCommand_7 (by rw [c_13]; decide) (by rw [c_13]; decide) (by rw [c_13]; decide) (by decide) ?_
                            refine lv_aload_n hx hb dX2_doCommand_80 rfl (lv_at hl 1 rfl) ?_
                            refine lv_aload_n hx hb dX2_doCommand_81 rfl (lv_at hl 0 rfl) ?_
                            refine va_get (D := D) (ci := 2) (v := .ref a) (C := RX2) (T := TX2) (N := 3) hx hb hts iwX2_doCommand_X2 hown hC.1 hPL.1 0 rfl rfl 0 (by decide) (hts (.fieldLink RX2 9 "MealLockers$Player" "text" "LMealLockers$Text;") (List.mem_of_getElem? (i := 1) rfl)) (fun _ h9 => h9) rfl dX2_doCommand_82 ?_
                            refine va_getN (D := D) (ci := 6) (v := .int (Ω 6 1 4)) (C := RX6) (T := TX6) (N := 7) hx hb hts iwX2_doCommand_X6 hown hC.1 hPL.2.1 0 rfl rfl 5 (by decide) (nw_f14 hC) (fun _ h9 => h9) rfl dX2_doCommand_85 ?_
                            refine lv_aload_n hx hb dX2_doCommand_88 rfl (lv_at hl 0 rfl) ?_
                            refine va_get (D := D) (ci := 2) (v := .ref a) (C := RX2) (T := TX2) (N := 3) hx hb hts iwX2_doCommand_X2 hown hC.1 hPL.1 0 rfl rfl 0 (by decide) (hts (.fieldLink RX2 9 "MealLockers$Player" "text" "LMealLockers$Text;") (List.mem_of_getElem? (i := 1) rfl)) (fun _ h9 => h9) rfl dX2_doCommand_89 ?_
                            refine va_getN (D := D) (ci := 6) (v := .int (Ω 6 1 5)) (C := RX6) (T := TX6) (N := 7) hx hb hts iwX2_doCommand_X6 hown hC.1 hPL.2.1 0 rfl rfl 6 (by decide) (nw_f15 hC) (fun _ h9 => h9) rfl dX2_doCommand_92 ?_
                            refine kX0_reserveMeal hF (cwV 2 hts gX2_doCommand_X0_reserveMeal rfl rfl rfl hdX0_reserveMeal ⟨Nat.le_of_ble_eq_true rfl, Nat.le_of_ble_eq_true rfl⟩) hC hPL.2.2.2 hPL.2.2.1 hJ.1 (fun k hk => (hJ.2.2.2.2.2.2.2 k hk).1) hS plA_st hl.1 (Nat.le_of_ble_eq_true rfl) dX2_doCommand_95 ⟨Nat.zero_le _, Nat.zero_le _⟩ (fun H locs hSt hz hk hS => ?_)
                            have hPL := hPL.st hJ hSt hk
                            exact W.iret (v := (zX0_reserveMeal (Ω 1) (Ω 6 1 4) (Ω 6 1 5)).1) hx hb hr (fun t ht hW => ⟨⟨(zX0_reserveMeal (Ω 1) (Ω 6 1 4) (Ω 6 1 5)).1, oS Ω 1 (zX0_reserveMeal (Ω 1) (Ω 6 1 4) (Ω 6 1 5)).2, rfl, ⟨(by unfold zX2_doCommand; rw [if_neg c_1, if_neg c_2, if_neg c_3, if_neg c_4, if_neg c_5, if_neg c_6, if_neg c_7, if_neg c_8, if_neg c_9, if_neg c_10, if_neg c_11, if_neg c_12, if_pos c_13]), (by unfold zX2_doCommand; rw [if_neg c_1, if_neg c_2, if_neg c_3, if_neg c_4, if_neg c_5, if_neg c_6, if_neg c_7, if_neg c_8, if_neg c_9, if_neg c_10, if_neg c_11, if_neg c_12, if_pos c_13])⟩, by dsimp only; rw [ht]; exact hPL⟩, hS.F ht⟩) hS.2.2 dX2_doCommand_98
                          · refine (Decidable.em ((Ω 6 1 3) = 115)).elim (fun c_14 => ?_) (fun c_14 => ?_)
                            · refine lv_tableIn (off := 182) (tgt := 189) hx hb dX2_doCommand_7 (by rw [c_14]; decide) (by rw [c_14]; decide) (by rw [c_14]; decide) (by decide) ?_
                              refine lv_aload_n hx hb dX2_doCommand_189 rfl (lv_at hl 1 rfl) ?_
                              refine lv_aload_n hx hb dX2_doCommand_190 rfl (lv_at hl 0 rfl) ?_
                              refine va_get (D := D) (ci := 2) (v := .ref a) (C := RX2) (T := TX2) (N := 3) hx hb hts iwX2_doCommand_X2 hown hC.1 hPL.1 0 rfl rfl 0 (by decide) (hts (.fieldLink RX2 9 "MealLockers$Player" "text" "LMealLockers$Text;") (List.mem_of_getElem? (i := 1) rfl)) (fun _ h9 => h9) rfl dX2_doCommand_191 ?_
                              refine va_getN (D := D) (ci := 6) (v := .int (Ω 6 1 4)) (C := RX6) (T := TX6) (N := 7) hx hb hts iwX2_doCommand_X6 hown hC.1 hPL.2.1 0 rfl rfl 5 (by decide) (nw_f14 hC) (fun _ h9 => h9) rfl dX2_doCommand_194 ?_
                              refine lv_sipush (v := 5000) hx hb dX2_doCommand_197 (by decide) ?_
                              refine kX0_passHours hF (cwV 2 hts gX2_doCommand_X0_passHours rfl rfl rfl hdX0_passHours ⟨Nat.le_of_ble_eq_true rfl, Nat.le_of_ble_eq_true rfl⟩) hC hPL.2.2.2 hPL.2.2.1 hJ.1 (fun k hk => (hJ.2.2.2.2.2.2.2 k hk).1) hS plA_st hl.1 (Nat.le_of_ble_eq_true rfl) dX2_doCommand_200 ⟨Nat.zero_le _, Nat.zero_le _⟩ (fun H locs hSt hz hk hS => ?_)
                              have hPL := hPL.st hJ hSt hk
                              exact W.iret (v := (zX0_passHours (Ω 1) (Ω 6 1 4) 5000).1) hx hb hr (fun t ht hW => ⟨⟨(zX0_passHours (Ω 1) (Ω 6 1 4) 5000).1, oS Ω 1 (zX0_passHours (Ω 1) (Ω 6 1 4) 5000).2, rfl, ⟨(by unfold zX2_doCommand; rw [if_neg c_1, if_neg c_2, if_neg c_3, if_neg c_4, if_neg c_5, if_neg c_6, if_neg c_7, if_neg c_8, if_neg c_9, if_neg c_10, if_neg c_11, if_neg c_12, if_neg c_13, if_pos c_14]), (by unfold zX2_doCommand; rw [if_neg c_1, if_neg c_2, if_neg c_3, if_neg c_4, if_neg c_5, if_neg c_6, if_neg c_7, if_neg c_8, if_neg c_9, if_neg c_10, if_neg c_11, if_neg c_12, if_neg c_13, if_pos c_14])⟩, by dsimp only; rw [ht]; exact hPL⟩, hS.F ht⟩) hS.2.2 dX2_doCommand_203
                            · refine (Decidable.em ((Ω 6 1 3) = 116)).elim (fun c_15 => ?_) (fun c_15 => ?_)
                              · refine lv_tableIn (off := 132) (tgt := 139) hx hb dX2_doCommand_7 (by rw [c_15]; decide) (by rw [c_15]; decide) (by rw [c_15]; decide) (by decide) ?_
                                refine lv_aload_n hx hb dX2_doCommand_139 rfl (lv_at hl 1 rfl) ?_
                                refine lv_aload_n hx hb dX2_doCommand_140 rfl (lv_at hl 0 rfl) ?_
                                refine va_get (D := D) (ci := 2) (v := .ref a) (C := RX2) (T := TX2) (N := 3) hx hb hts iwX2_doCommand_X2 hown hC.1 hPL.1 0 rfl rfl 0 (by decide) (hts (.fieldLink RX2 9 "MealLockers$Player" "text" "LMealLockers$Text;") (List.mem_of_getElem? (i := 1) rfl)) (fun _ h9 => h9) rfl dX2_doCommand_141 ?_
                                refine va_getN (D := D) (ci := 6) (v := .int (Ω 6 1 4)) (C := RX6) (T := TX6) (N := 7) hx hb hts iwX2_doCommand_X6 hown hC.1 hPL.2.1 0 rfl rfl 5 (by decide) (nw_f14 hC) (fun _ h9 => h9) rfl dX2_doCommand_144 ?_
                                refine lv_aload_n hx hb dX2_doCommand_147 rfl (lv_at hl 0 rfl) ?_
                                refine va_get (D := D) (ci := 2) (v := .ref a) (C := RX2) (T := TX2) (N := 3) hx hb hts iwX2_doCommand_X2 hown hC.1 hPL.1 0 rfl rfl 0 (by decide) (hts (.fieldLink RX2 9 "MealLockers$Player" "text" "LMealLockers$Text;") (List.mem_of_getElem? (i := 1) rfl)) (fun _ h9 => h9) rfl dX2_doCommand_148 ?_
                                refine va_getN (D := D) (ci := 6) (v := .int (Ω 6 1 5)) (C := RX6) (T := TX6) (N := 7) hx hb hts iwX2_doCommand_X6 hown hC.1 hPL.2.1 0 rfl rfl 6 (by decide) (nw_f15 hC) (fun _ h9 => h9) rfl dX2_doCommand_151 ?_
                                refine kX0_takeMeal hF (cwV 2 hts gX2_doCommand_X0_takeMeal rfl rfl rfl hdX0_takeMeal ⟨Nat.le_of_ble_eq_true rfl, Nat.le_of_ble_eq_true rfl⟩) hC hPL.2.2.2 hPL.2.2.1 hJ.1 (fun k hk => (hJ.2.2.2.2.2.2.2 k hk).1) hS plA_st hl.1 (Nat.le_of_ble_eq_true rfl) dX2_doCommand_154 ⟨Nat.zero_le _, Nat.zero_le _⟩ (fun H locs hSt hz hk hS => ?_)
                                have hPL := hPL.st hJ hSt hk
                                exact W.iret (v := (zX0_takeMeal (Ω 1) (Ω 6 1 4) (Ω 6 1 5)).1) hx hb hr (fun t ht hW => ⟨⟨(zX0_takeMeal (Ω 1) (Ω 6 1 4) (Ω 6 1 5)).1, oS Ω 1 (zX0_takeMeal (Ω 1) (Ω 6 1 4) (Ω 6 1 5)).2, rfl, ⟨(by unfold zX2_doCommand; rw [if_neg c_1, if_neg c_2, if_neg c_3, if_neg c_4, if_neg c_5, if_neg c_6, if_neg c_7, if_neg c_8, if_neg c_9, if_neg c_10, if_neg c_11, if_neg c_12, if_neg c_13, if_neg c_14, if_pos c_15]), (by unfold zX2_doCommand; rw [if_neg c_1, if_neg c_2, if_neg c_3, if_neg c_4, if_neg c_5, if_neg c_6, if_neg c_7, if_neg c_8, if_neg c_9, if_neg c_10, if_neg c_11, if_neg c_12, if_neg c_13, if_neg c_14, if_pos c_15])⟩, by dsimp only; rw [ht]; exact hPL⟩, hS.F ht⟩) hS.2.2 dX2_doCommand_157
                              · refine lv_tableOut (tgt := 189) hx hb dX2_doCommand_7 (by have q0 := lv_neT (a := 102) c_1 (by decide); have q1 := lv_neT (a := 103) c_2 (by decide); have q2 := lv_neT (a := 104) c_3 (by decide); have q3 := lv_neT (a := 105) c_4 (by decide); have q4 := lv_neT (a := 106) c_5 (by decide); have q5 := lv_neT (a := 107) c_6 (by decide); have q6 := lv_neT (a := 108) c_7 (by decide); have q7 := lv_neT (a := 109) c_8 (by decide); have q8 := lv_neT (a := 110) c_9 (by decide); have q9 := lv_neT (a := 111) c_10 (by decide); have q10 := lv_neT (a := 112) c_11 (by decide); have q11 := lv_neT (a := 113) c_12 (by decide); have q12 := lv_neT (a := 114) c_13 (by decide); have q13 := lv_neT (a := 115) c_14 (by decide); have q14 := lv_neT (a := 116) c_15 (by decide); omega) (by decide) ?_
                                refine lv_aload_n hx hb dX2_doCommand_189 rfl (lv_at hl 1 rfl) ?_
                                refine lv_aload_n hx hb dX2_doCommand_190 rfl (lv_at hl 0 rfl) ?_
                                refine va_get (D := D) (ci := 2) (v := .ref a) (C := RX2) (T := TX2) (N := 3) hx hb hts iwX2_doCommand_X2 hown hC.1 hPL.1 0 rfl rfl 0 (by decide) (hts (.fieldLink RX2 9 "MealLockers$Player" "text" "LMealLockers$Text;") (List.mem_of_getElem? (i := 1) rfl)) (fun _ h9 => h9) rfl dX2_doCommand_191 ?_
                                refine va_getN (D := D) (ci := 6) (v := .int (Ω 6 1 4)) (C := RX6) (T := TX6) (N := 7) hx hb hts iwX2_doCommand_X6 hown hC.1 hPL.2.1 0 rfl rfl 5 (by decide) (nw_f14 hC) (fun _ h9 => h9) rfl dX2_doCommand_194 ?_
                                refine lv_sipush (v := 5000) hx hb dX2_doCommand_197 (by decide) ?_
                                refine kX0_passHours hF (cwV 2 hts gX2_doCommand_X0_passHours rfl rfl rfl hdX0_passHours ⟨Nat.le_of_ble_eq_true rfl, Nat.le_of_ble_eq_true rfl⟩) hC hPL.2.2.2 hPL.2.2.1 hJ.1 (fun k hk => (hJ.2.2.2.2.2.2.2 k hk).1) hS plA_st hl.1 (Nat.le_of_ble_eq_true rfl) dX2_doCommand_200 ⟨Nat.zero_le _, Nat.zero_le _⟩ (fun H locs hSt hz hk hS => ?_)
                                have hPL := hPL.st hJ hSt hk
                                exact W.iret (v := (zX0_passHours (Ω 1) (Ω 6 1 4) 5000).1) hx hb hr (fun t ht hW => ⟨⟨(zX0_passHours (Ω 1) (Ω 6 1 4) 5000).1, oS Ω 1 (zX0_passHours (Ω 1) (Ω 6 1 4) 5000).2, rfl, ⟨(by unfold zX2_doCommand; rw [if_neg c_1, if_neg c_2, if_neg c_3, if_neg c_4, if_neg c_5, if_neg c_6, if_neg c_7, if_neg c_8, if_neg c_9, if_neg c_10, if_neg c_11, if_neg c_12, if_neg c_13, if_neg c_14, if_neg c_15]), (by unfold zX2_doCommand; rw [if_neg c_1, if_neg c_2, if_neg c_3, if_neg c_4, if_neg c_5, if_neg c_6, if_neg c_7, if_neg c_8, if_neg c_9, if_neg c_10, if_neg c_11, if_neg c_12, if_neg c_13, if_neg c_14, if_neg c_15])⟩, by dsimp only; rw [ht]; exact hPL⟩, hS.F ht⟩) hS.2.2 dX2_doCommand_203
set_option maxHeartbeats 4000000 in
set_option maxRecDepth 100000 in
theorem kX2_doCommand {p : Program} {l : Launch} {e : Env} {R : Room} {s : State} {m : MethodId} {args : Array Value} {below : List Frame} {meth : Method} {c : Code} {H : Heap} {locs : List Loc} {cells slots : Nat} {Q : State → Prop} {cc : ByteArray} {nL : Nat} {Ts : List Cond} {own : String} {index pc : Nat} {ls : Array Slot} {rest : List Value} {D : va_G} {y : Y3} {pa a b h : Nat} {ad : Nat → Nat} {Ω : Og} {A0 : Nat → Prop} {H0 : Heap} (hF : CallFix p m c cc nL s args Ts own) (cw : CallW R s args own RX2 index yX2_doCommand cX2_doCommand 2 (some .int) wsX2_doCommand ({ frames := 5, cells := 0, slots := 0, locals := 117 } : Room) 0 0 1) (hC : CK D y s) (hPL : PLH D y pa a b h ad Ω H) (hJ : plJ pa a b h ad) (hS : va_S A0 H0 H locs) (hA : ∀ q, (plA pa a b ad) q → A0 q) (hsz : ls.size = nL) (hW : (rest.map fun v => v.category).sum ≤ 8) (hdg : decode cc pc = .ok (.invokevirtual index, 3)) (hf : cells ≤ R.cells ∧ slots ≤ R.slots)
    (k : ∀ (H1 : Heap) (locs1 : List Loc), PLH D y pa a b h ad (zX2_doCommand Ω).2 H1 → H.size ≤ H1.size → (∀ q : Nat, q < H.size → ¬ (plA pa a b ad) q → H1[q]? = H[q]?) → va_S A0 H0 H1 locs1 → W p l e R s m args below meth c H1 locs1 cells slots Q (F0 m (pc + 3) ls (.int ((zX2_doCommand Ω).1) :: rest))) : W p l e R s m args below meth c H locs cells slots Q (F0 m pc ls (.ref h :: .ref pa :: rest)) := by
  refine va_calli (va_runV (As := [.ref h]) (rest := rest) hF (mX2_doCommand l D y pa a b h ad Ω) cw ⟨fun a U g mk q => by obtain ⟨q0, q1, q2, q3⟩ := q; exact ⟨q0, q1.call g mk a, q2, q3⟩, va_recv hC.1 hPL.1 (ci := 2) (q0 := 0) rfl rfl, fun U hU hW => ⟨rfl, hC.warm hW, by rw [hU]; exact hPL, hJ⟩⟩ rfl rfl hsz rfl (lv_room hW) hdg ⟨hf.1, hf.2⟩) hS (fun q _ h => hA q h) hA (fun r u t H1 locs1 ht hvm hp hB hz1 hk1 hS1 => ?_)
  obtain ⟨hp1, hp2⟩ := hp
  subst hp1; subst hp2
  rw [ht] at hB
  exact k H1 locs1 hB hz1 hk1 hS1
theorem c6X2_doCommand (Ω : Og) : (zX2_doCommand Ω).2 6 = Ω 6 := by
  show (fun v : Int32 × Og => v.2 6 = Ω 6) (zX2_doCommand Ω)
  unfold zX2_doCommand
  repeat (first | exact rfl | refine ite_all (P := fun v : Int32 × Og => v.2 6 = Ω 6) rfl ?_)
