def zonT (Ω : Og) : Og := oS Ω 1 (Ω 0)
def zkeep (Ω : Og) : Og := oH (oS Ω ((keepN (hO Ω) (hZn Ω)).2.2 + 2) (Ω 0)) (keepN (hO Ω) (hZn Ω)).1 (keepN (hO Ω) (hZn Ω)).2.1
def zrest (Ω : Og) : Int32 × Og := ((restN (hO Ω) (hZn Ω)).2, oH (restO (hO Ω) (hZn Ω) Ω) (hO Ω) (restN (hO Ω) (hZn Ω)).1)
theorem Sys.his {D : va_G} {y : Y3} {ob : Nat → Nat} {AD : Nat → Nat → Nat} {Ω : Og} {H : Heap} (h : SysH D y ob AD Ω H) (k : okO Ω) : HisH D y (ob 3) (ob 4) AD (nI (hO Ω)) (nI (hZn Ω)) H := by
  have h4 := h.2.2.2.1
  rw [k.2.2.2.1, k.2.2.2.2] at h4
  exact h4
theorem sysJ.hb {ob : Nat → Nat} {AD : Nat → Nat → Nat} (J : sysJ ob AD) : ob 4 ≠ ob 3 := fun e => absurd (J.2.1 4 3 (by decide) (by decide) e) (by decide)
theorem sysJ.hd {ob : Nat → Nat} {AD : Nat → Nat → Nat} (J : sysJ ob AD) : ∀ k i, k < 6 → i < 11 → AD k i ≠ ob 3 ∧ AD k i ≠ ob 4 := fun k i hk hi => ⟨J.2.2 k i 3 hk hi (by decide), J.2.2 k i 4 hk hi (by decide)⟩
theorem Sys.keep {D : va_G} {y : Y3} {ob : Nat → Nat} {AD : Nat → Nat → Nat} {Ω : Og} {H H1 : Heap} (h : SysH D y ob AD Ω H) (J : sysJ ob AD) (k : okO Ω) (hB : HisH D y (ob 3) (ob 4) AD (nI (keepN (hO Ω) (hZn Ω)).1) (nI (keepN (hO Ω) (hZn Ω)).2.1) H1 ∧ SsH D y AD (oS Ω ((keepN (hO Ω) (hZn Ω)).2.2 + 2) (Ω 0)) H1) (hq : ∀ q : Nat, q < H.size → ¬ hisA (ob 3) AD q → H1[q]? = H[q]?) : SysH D y ob AD (zkeep Ω) H1 := by
  have h4 := (keepN_lt k.2.1 k.2.2.1).2.2
  exact Sys.hi h J hB.1 hB.2 (by unfold oS; rw [if_neg (by omega)]) (by unfold oS; rw [if_neg (by omega)]) hq
theorem okO_keep {Ω : Og} (k : okO Ω) : okO (zkeep Ω) := by
  have h4 := keepN_lt k.2.1 k.2.2.1
  refine okO_hi ?_ h4.1 h4.2.1
  have e : oS Ω ((keepN (hO Ω) (hZn Ω)).2.2 + 2) (Ω 0) 6 = Ω 6 := by unfold oS; rw [if_neg (by omega)]
  rw [e]
  exact k.1
theorem restO_6 (o z : Nat) (Ω : Og) : restO o z Ω 6 = Ω 6 := by
  unfold restO
  split <;> rfl
theorem restO_7 (o z : Nat) (Ω : Og) : restO o z Ω 7 = Ω 7 := by
  unfold restO
  split <;> rfl
theorem Sys.rest {D : va_G} {y : Y3} {ob : Nat → Nat} {AD : Nat → Nat → Nat} {Ω : Og} {H H1 : Heap} (h : SysH D y ob AD Ω H) (J : sysJ ob AD) (hB : HisH D y (ob 3) (ob 4) AD (nI (hO Ω)) (nI (restN (hO Ω) (hZn Ω)).1) H1 ∧ SsH D y AD (restO (hO Ω) (hZn Ω) Ω) H1) (hq : ∀ q : Nat, q < H.size → ¬ hisA (ob 3) AD q → H1[q]? = H[q]?) : SysH D y ob AD (zrest Ω).2 H1 := Sys.hi h J hB.1 hB.2 (restO_6 _ _ _) (restO_7 _ _ _) hq
theorem restN_lt {o z : Nat} (hz : z < 5) : (restN o z).1 < 5 := by
  unfold restN
  split
  · decide
  · dsimp only; omega
theorem okO_rest {Ω : Og} (k : okO Ω) : okO (zrest Ω).2 := okO_hi (by rw [restO_6]; exact k.1) k.2.1 (restN_lt k.2.2.1)
/-- what a text played leaves alone -/
theorem play_7 : ∀ (n i : Nat) (Ω : Og), (wX2_playText n i Ω).2 7 0 = Ω 7 0 ∧ (wX2_playText n i Ω).2 6 0 = Ω 6 0 ∧ ∀ k, k < 6 → k ≠ 1 → (wX2_playText n i Ω).2 k = Ω k := by
  intro n
  induction n with
  | zero => intro i Ω; exact ⟨rfl, rfl, fun _ _ _ => rfl⟩
  | succ n ih =>
    intro i Ω
    rw [wX2_playText]
    have cmd : ∀ Ω : Og, (zX2_doCommand Ω).2 7 = Ω 7 ∧ (zX2_doCommand Ω).2 6 = Ω 6 ∧ ∀ k, k < 6 → k ≠ 1 → (zX2_doCommand Ω).2 k = Ω k := by
      intro Ω
      show (fun v : Int32 × Og => v.2 7 = Ω 7 ∧ v.2 6 = Ω 6 ∧ ∀ k, k < 6 → k ≠ 1 → v.2 k = Ω k) (zX2_doCommand Ω)
      unfold zX2_doCommand
      have one : ∀ (x : Int32) (σ : Sg), (fun v : Int32 × Og => v.2 7 = Ω 7 ∧ v.2 6 = Ω 6 ∧ ∀ k, k < 6 → k ≠ 1 → v.2 k = Ω k) (x, oS Ω 1 σ) := fun x σ => ⟨rfl, rfl, fun k _ h1 => by show oS Ω 1 σ k = Ω k; unfold oS; rw [if_neg h1]⟩
      repeat (first | exact one _ _ | refine ite_all (P := fun v : Int32 × Og => v.2 7 = Ω 7 ∧ v.2 6 = Ω 6 ∧ ∀ k, k < 6 → k ≠ 1 → v.2 k = Ω k) (one _ _) ?_)
    have oPk : ∀ (Ω : Og) (j : Nat) (v : Int32) (k : Nat), k < 7 → oP Ω j v k = Ω k := fun Ω j v k hk => by unfold oP oS; rw [if_neg (by omega)]
    have oP7 : ∀ (Ω : Og) (j : Nat) (v : Int32), oP Ω j v 7 0 = Ω 7 0 := fun Ω j v => rfl
    have oS6 : ∀ (τ : Sg) (k : Nat), k < 6 → oS Ω 6 τ k = Ω k := fun τ k hk => by unfold oS; rw [if_neg (by omega)]
    have c0 : ∀ x, (zX6_readCommand (Ω 6) x).2 0 = Ω 6 0 := fun x => c0X6_readCommand _ _
    split
    · exact ⟨rfl, rfl, fun _ _ _ => rfl⟩
    · split
      · split
        · obtain ⟨h1, h2, h3⟩ := ih (i + 1) (oP (oP (oS Ω 6 (zX6_readCommand (Ω 6) (Ω 7 1 0)).2) 1 1) 0 ((oP (oS Ω 6 (zX6_readCommand (Ω 6) (Ω 7 1 0)).2) 1 1) 6 1 1))
          exact ⟨h1, h2.trans (c0 _), fun k hk hk1 => (h3 k hk hk1).trans ((oPk _ _ _ _ (by omega)).trans ((oPk _ _ _ _ (by omega)).trans (oS6 _ k hk)))⟩
        · exact ⟨rfl, c0 _, fun k hk hk1 => (oPk _ _ _ _ (by omega)).trans (oS6 _ k hk)⟩
      · obtain ⟨d1, d2, d3⟩ := cmd (oS Ω 6 (zX6_readCommand (Ω 6) (Ω 7 1 0)).2)
        split
        · obtain ⟨h1, h2, h3⟩ := ih (i + 1) (oP (oP (zX2_doCommand (oS Ω 6 (zX6_readCommand (Ω 6) (Ω 7 1 0)).2)).2 1 (zX2_reasonOf (zX2_doCommand (oS Ω 6 (zX6_readCommand (Ω 6) (Ω 7 1 0)).2)).1)) 0 ((oP (zX2_doCommand (oS Ω 6 (zX6_readCommand (Ω 6) (Ω 7 1 0)).2)).2 1 (zX2_reasonOf (zX2_doCommand (oS Ω 6 (zX6_readCommand (Ω 6) (Ω 7 1 0)).2)).1)) 6 1 1))
          refine ⟨h1.trans ?_, h2.trans ?_, fun k hk hk1 => (h3 k hk hk1).trans ((oPk _ _ _ _ (by omega)).trans ((oPk _ _ _ _ (by omega)).trans ((d3 k hk hk1).trans (oS6 _ k hk))))⟩
          · rw [oP7, oP7, d1]; rfl
          · rw [oPk _ _ _ 6 (by decide), oPk _ _ _ 6 (by decide), d2]; exact c0 _
        · refine ⟨?_, ?_, fun k hk hk1 => (oPk _ _ _ _ (by omega)).trans ((d3 k hk hk1).trans (oS6 _ k hk))⟩
          · dsimp only; rw [oP7, d1]; rfl
          · dsimp only; rw [oPk _ _ _ 6 (by decide), d2]; exact c0 _
theorem play_e (Ω : Og) : (zX2_playText Ω).2 7 0 = Ω 7 0 ∧ (zX2_playText Ω).2 6 0 = Ω 6 0 ∧ ∀ k, k < 6 → k ≠ 1 → (zX2_playText Ω).2 k = Ω k := by
  obtain ⟨h1, h2, h3⟩ := play_7 60 0 (oP (oP Ω 0 0) 1 0)
  refine ⟨h1, h2, fun k hk hk1 => (h3 k hk hk1).trans ?_⟩
  unfold oP oS
  rw [if_neg (by omega), if_neg (by omega)]
theorem okO_play {Ω : Og} (k : okO Ω) : okO (zX2_playText Ω).2 := by
  obtain ⟨h1, h2, -⟩ := play_e Ω
  obtain ⟨k1, k2⟩ := k
  refine ⟨okC_of h2 k1, ?_⟩
  unfold hO hZn at *
  rw [h1]
  exact k2
theorem iwX7_onTrial_X7 : ∀ w ∈ wsX70, w ∈ wsX7_onTrial := fun _ h => List.mem_cons_of_mem _ (List.mem_append_left _ (List.mem_append_left _ (List.mem_append_right _ h)))
theorem hdX7_onTrial : yX7_onTrial.cls = RX7 ∧ yX7_onTrial.cls ≠ "java/lang/invoke/MethodHandle" ∧ yX7_onTrial.cls ≠ "java/lang/invoke/VarHandle" ∧ (parseMethodDescriptor yX7_onTrial.desc).map (fun d => d.parameters.length) = some 0 := by decide +kernel
set_option maxHeartbeats 4000000 in
set_option maxRecDepth 100000 in
theorem mX7_onTrial (l : Launch) (D : va_G) (y : Y3) (ob : Nat → Nat) (AD : Nat → Nat → Nat) (Ω : Og) : Met l yX7_onTrial wsX7_onTrial ({ frames := 2, cells := 0, slots := 0, locals := 43 } : Room) (va_Pc [.ref (ob 0)] (fun U => CK D y U ∧ SysH D y ob AD Ω U.heap ∧ sysJ ob AD ∧ okO Ω)) (va_Qr (fun u : Og => u = zonT Ω) (fun (u : Og) (a : Nat) (t : State) => a = ob 1 ∧ SysH D y ob AD u t.heap) (sysA ob AD)) 0 0 (sysA ob AD) := by
  refine Met.ofW (cc := cX7_onTrial) (maxL := 1) (ret := (some (.object "MealLockers$Changes"))) (by decide) rfl ?_
  intro p e s m args below meth c s₁ B hml hv
  obtain ⟨rfl, hC, hY, hJ, hOk⟩ := hv
  have hx := B.exec
  have hb := B.bytes
  have hr := B.returns
  have hts := atoms_spec (ws := wsX7_onTrial) B.pre
  have hown : s.vm.findClass RX7 = some m.cls := findClass_of_methodNamed B.named
  have hlocks := B.notSynchronized
  have hF := (⟨hx, hb, hml, hown, hts⟩ : CallFix p m c cX7_onTrial 1 s _ wsX7_onTrial RX7)
  have hS : va_S (sysA ob AD) s.heap s.heap [] := va_S.rf
  have hl := lv_entry ([.ref (ob 0)]) (n := 1) (Nat.le_of_ble_eq_true rfl)
  rw [lg_entry_eq]
  generalize (lg_sl ([.ref (ob 0)]) ++ List.replicate (1 - (lg_sl ([.ref (ob 0)])).length) Slot.unset).toArray = ls at hl ⊢
  have hl : lv_has ls 1 [(0, .ref (ob 0))] := hl
  refine lv_aload_n hx hb dX7_onTrial_0 rfl (lv_at hl 0 rfl) ?_
  refine va_get (D := D) (ci := 7) (v := .ref (AD 1 0)) (C := RX7) (T := TX7) (N := 7) hx hb hts iwX7_onTrial_X7 hown hC.1 hY.1 0 rfl rfl 1 (by decide) (hts (.fieldLink RX7 16 "MealLockers" "trial" "LMealLockers$State;") (List.mem_of_getElem? (i := 1) rfl)) (fun _ h9 => h9) rfl dX7_onTrial_1 ?_
  refine lv_aload_n hx hb dX7_onTrial_4 rfl (lv_at hl 0 rfl) ?_
  refine va_get (D := D) (ci := 7) (v := .ref (AD 0 0)) (C := RX7) (T := TX7) (N := 7) hx hb hts iwX7_onTrial_X7 hown hC.1 hY.1 0 rfl rfl 0 (by decide) (hts (.fieldLink RX7 10 "MealLockers" "current" "LMealLockers$State;") (List.mem_of_getElem? (i := 2) rfl)) (fun _ h9 => h9) rfl dX7_onTrial_5 ?_
  refine kX4_copyFrom (ad := AD 1) (ad2 := AD 0) hF (cwV 1 hts gX7_onTrial_X4_copyFrom rfl rfl rfl hdX4_copyFrom ⟨Nat.le_of_ble_eq_true rfl, Nat.le_of_ble_eq_true rfl⟩) hC (hY.2.2.2.2.2.2 1 (by decide)) (hY.2.2.2.2.2.2 0 (by decide)) (hJ.1.one (by decide)) (hJ.1.two (by decide) (by decide) (by decide)) hS (sysA_st (by decide)) hl.1 (Nat.le_of_ble_eq_true rfl) dX7_onTrial_8 ⟨Nat.zero_le _, Nat.zero_le _⟩ (fun H locs hSt _ hk hS => ?_)
  have hY := Sys.st hY hJ 1 (by decide) hSt hk
  have hOk := okO_st hOk (k := 1) (by decide) (Ω 0)
  refine lv_aload_n hx hb dX7_onTrial_11 rfl (lv_at hl 0 rfl) ?_
  refine va_get (D := D) (ci := 7) (v := .ref (ob 1)) (C := RX7) (T := TX7) (N := 7) hx hb hts iwX7_onTrial_X7 hown hC.1 hY.1 0 rfl rfl 2 (by decide) (hts (.fieldLink RX7 24 "MealLockers" "changes" "LMealLockers$Changes;") (List.mem_of_getElem? (i := 3) rfl)) (fun _ h9 => h9) rfl dX7_onTrial_12 ?_
  exact W.aret (v := .ref (ob 1)) hx hb hr (Or.inl ⟨_, rfl⟩) (Or.inr ⟨_, rfl⟩) (fun t ht hW => ⟨⟨zonT Ω, ob 1, rfl, rfl, by dsimp only; rw [ht]; exact ⟨rfl, hY⟩⟩, hS.F ht⟩) hS.2.2 dX7_onTrial_15
set_option maxHeartbeats 4000000 in
set_option maxRecDepth 100000 in
theorem kX7_onTrial {p : Program} {l : Launch} {e : Env} {R : Room} {s : State} {m : MethodId} {args : Array Value} {below : List Frame} {meth : Method} {c : Code} {H : Heap} {locs : List Loc} {cells slots : Nat} {Q : State → Prop} {cc : ByteArray} {nL : Nat} {Ts : List Cond} {own : String} {index pc : Nat} {ls : Array Slot} {rest : List Value} {D : va_G} {y : Y3} {ob : Nat → Nat} {AD : Nat → Nat → Nat} {Ω : Og} {A0 : Nat → Prop} {H0 : Heap} (hF : CallFix p m c cc nL s args Ts own) (cw : CallW R s args own RX7 index yX7_onTrial cX7_onTrial 1 (some (.object "MealLockers$Changes")) wsX7_onTrial ({ frames := 2, cells := 0, slots := 0, locals := 43 } : Room) 0 0 0) (hC : CK D y s) (hY : SysH D y ob AD Ω H) (hJ : sysJ ob AD) (hOk : okO Ω) (hS : va_S A0 H0 H locs) (hA : ∀ q, (sysA ob AD) q → A0 q) (hsz : ls.size = nL) (hW : (rest.map fun v => v.category).sum ≤ 8) (hdg : decode cc pc = .ok (.invokevirtual index, 3)) (hf : cells ≤ R.cells ∧ slots ≤ R.slots)
    (k : ∀ (H1 : Heap) (locs1 : List Loc), SysH D y ob AD (zonT Ω) H1 → H.size ≤ H1.size → (∀ q : Nat, q < H.size → ¬ (sysA ob AD) q → H1[q]? = H[q]?) → va_S A0 H0 H1 locs1 → W p l e R s m args below meth c H1 locs1 cells slots Q (F0 m (pc + 3) ls (.ref (ob 1) :: rest))) : W p l e R s m args below meth c H locs cells slots Q (F0 m pc ls (.ref (ob 0) :: rest)) := by
  refine va_callr (va_runV (As := []) (rest := rest) hF (mX7_onTrial l D y ob AD Ω) cw ⟨fun a U g mk q => by obtain ⟨q0, q1, q2, q3, q4⟩ := q; exact ⟨q0, q1.call g mk a, q2, q3, q4⟩, va_recv hC.1 hY.1 (ci := 7) (q0 := 0) rfl rfl, fun U hU hW => ⟨rfl, hC.warm hW, by rw [hU]; exact hY, hJ, hOk⟩⟩ rfl rfl hsz rfl (lv_room hW) hdg ⟨hf.1, hf.2⟩) hS (fun q _ h => hA q h) hA (fun u a9 t H1 locs1 ht hvm hp hB hz1 hk1 hS1 => ?_)
  subst hp
  obtain ⟨rfl, hB⟩ := hB
  rw [ht] at hB
  exact k H1 locs1 hB hz1 hk1 hS1
def zX7_settle (Ω : Og) (x1 : Int32) : Int32 × Og := if x1 < 0 then (x1, Ω)
  else (x1, oS (zkeep Ω) 0 ((zkeep Ω) 1))
theorem iwX7_settle_X7 : ∀ w ∈ wsX70, w ∈ wsX7_settle := fun _ h => List.mem_cons_of_mem _ (List.mem_append_left _ (List.mem_append_left _ (List.mem_append_left _ (List.mem_append_right _ h))))
theorem hdX7_settle : yX7_settle.cls = RX7 ∧ yX7_settle.cls ≠ "java/lang/invoke/MethodHandle" ∧ yX7_settle.cls ≠ "java/lang/invoke/VarHandle" ∧ (parseMethodDescriptor yX7_settle.desc).map (fun d => d.parameters.length) = some 1 := by decide +kernel
set_option maxHeartbeats 4000000 in
set_option maxRecDepth 100000 in
theorem mX7_settle (l : Launch) (D : va_G) (y : Y3) (ob : Nat → Nat) (AD : Nat → Nat → Nat) (Ω : Og) (x1 : Int32) : Met l yX7_settle wsX7_settle ({ frames := 3, cells := 0, slots := 0, locals := 65 } : Room) (va_Pc [.ref (ob 0), .int x1] (fun U => CK D y U ∧ SysH D y ob AD Ω U.heap ∧ sysJ ob AD ∧ okO Ω)) (va_Qi (fun (r : Int32) (u : Og) => r = (zX7_settle Ω x1).1 ∧ u = (zX7_settle Ω x1).2) (fun u t => SysH D y ob AD u t.heap) (sysA ob AD)) 0 0 (sysA ob AD) := by
  refine Met.ofW (cc := cX7_settle) (maxL := 2) (ret := (some .int)) (by decide) rfl ?_
  intro p e s m args below meth c s₁ B hml hv
  obtain ⟨rfl, hC, hY, hJ, hOk⟩ := hv
  have hx := B.exec
  have hb := B.bytes
  have hr := B.returns
  have hts := atoms_spec (ws := wsX7_settle) B.pre
  have hown : s.vm.findClass RX7 = some m.cls := findClass_of_methodNamed B.named
  have hlocks := B.notSynchronized
  have hF := (⟨hx, hb, hml, hown, hts⟩ : CallFix p m c cX7_settle 2 s _ wsX7_settle RX7)
  have hS : va_S (sysA ob AD) s.heap s.heap [] := va_S.rf
  have hl := lv_entry ([.ref (ob 0), .int x1]) (n := 2) (Nat.le_of_ble_eq_true rfl)
  rw [lg_entry_eq]
  generalize (lg_sl ([.ref (ob 0), .int x1]) ++ List.replicate (2 - (lg_sl ([.ref (ob 0), .int x1])).length) Slot.unset).toArray = ls at hl ⊢
  have hl : lv_has ls 2 [(0, .ref (ob 0)), (1, .int x1)] := hl
  refine lv_iload_n hx hb dX7_settle_0 rfl (lv_at hl 1 rfl) ?_
  refine lv_if_lt (tgt := 26) hx hb dX7_settle_1 (by decide) (fun c_1 => ?_) (fun c_1 => ?_)
  · refine lv_iload_n hx hb dX7_settle_26 rfl (lv_at hl 1 rfl) ?_
    exact W.iret (v := x1) hx hb hr (fun t ht hW => ⟨⟨x1, Ω, rfl, ⟨(by unfold zX7_settle; rw [if_pos c_1]), (by unfold zX7_settle; rw [if_pos c_1])⟩, by dsimp only; rw [ht]; exact hY⟩, hS.F ht⟩) hS.2.2 dX7_settle_27
  · refine lv_aload_n hx hb dX7_settle_4 rfl (lv_at hl 0 rfl) ?_
    refine va_get (D := D) (ci := 7) (v := .ref (ob 3)) (C := RX7) (T := TX7) (N := 7) hx hb hts iwX7_settle_X7 hown hC.1 hY.1 0 rfl rfl 4 (by decide) (hts (.fieldLink RX7 38 "MealLockers" "history" "LMealLockers$History;") (List.mem_of_getElem? (i := 1) rfl)) (fun _ h9 => h9) rfl dX7_settle_5 ?_
    refine lv_aload_n hx hb dX7_settle_8 rfl (lv_at hl 0 rfl) ?_
    refine va_get (D := D) (ci := 7) (v := .ref (AD 0 0)) (C := RX7) (T := TX7) (N := 7) hx hb hts iwX7_settle_X7 hown hC.1 hY.1 0 rfl rfl 0 (by decide) (hts (.fieldLink RX7 10 "MealLockers" "current" "LMealLockers$State;") (List.mem_of_getElem? (i := 2) rfl)) (fun _ h9 => h9) rfl dX7_settle_9 ?_
    refine kX1_keep (o := hO Ω) (z := hZn Ω) hF (cwV 1 hts gX7_settle_X1_keep rfl rfl rfl hdX1_keep ⟨Nat.le_of_ble_eq_true rfl, Nat.le_of_ble_eq_true rfl⟩) hC (Sys.his hY hOk) hY.2.2.2.2.2.2 hJ.1 hJ.hb hJ.hd hOk.2.1 hOk.2.2.1 hS sysA_hi hl.1 (Nat.le_of_ble_eq_true rfl) dX7_settle_12 ⟨Nat.zero_le _, Nat.zero_le _⟩ (fun H locs hB _ hk hS => ?_)
    have hY := Sys.keep hY hJ hOk hB hk
    have hOk := okO_keep hOk
    refine lv_aload_n hx hb dX7_settle_15 rfl (lv_at hl 0 rfl) ?_
    refine va_get (D := D) (ci := 7) (v := .ref (AD 0 0)) (C := RX7) (T := TX7) (N := 7) hx hb hts iwX7_settle_X7 hown hC.1 hY.1 0 rfl rfl 0 (by decide) (hts (.fieldLink RX7 10 "MealLockers" "current" "LMealLockers$State;") (List.mem_of_getElem? (i := 2) rfl)) (fun _ h9 => h9) rfl dX7_settle_16 ?_
    refine lv_aload_n hx hb dX7_settle_19 rfl (lv_at hl 0 rfl) ?_
    refine va_get (D := D) (ci := 7) (v := .ref (AD 1 0)) (C := RX7) (T := TX7) (N := 7) hx hb hts iwX7_settle_X7 hown hC.1 hY.1 0 rfl rfl 1 (by decide) (hts (.fieldLink RX7 16 "MealLockers" "trial" "LMealLockers$State;") (List.mem_of_getElem? (i := 3) rfl)) (fun _ h9 => h9) rfl dX7_settle_20 ?_
    refine kX4_copyFrom (ad := AD 0) (ad2 := AD 1) hF (cwV 1 hts gX7_settle_X4_copyFrom rfl rfl rfl hdX4_copyFrom ⟨Nat.le_of_ble_eq_true rfl, Nat.le_of_ble_eq_true rfl⟩) hC (hY.2.2.2.2.2.2 0 (by decide)) (hY.2.2.2.2.2.2 1 (by decide)) (hJ.1.one (by decide)) (hJ.1.two (by decide) (by decide) (by decide)) hS (sysA_st (by decide)) hl.1 (Nat.le_of_ble_eq_true rfl) dX7_settle_23 ⟨Nat.zero_le _, Nat.zero_le _⟩ (fun H locs hSt _ hk hS => ?_)
    have hY := Sys.st hY hJ 0 (by decide) hSt hk
    have hOk := okO_st hOk (k := 0) (by decide) ((zkeep Ω) 1)
    refine lv_iload_n hx hb dX7_settle_26 rfl (lv_at hl 1 rfl) ?_
    exact W.iret (v := x1) hx hb hr (fun t ht hW => ⟨⟨x1, oS (zkeep Ω) 0 ((zkeep Ω) 1), rfl, ⟨(by unfold zX7_settle; rw [if_neg c_1]), (by unfold zX7_settle; rw [if_neg c_1])⟩, by dsimp only; rw [ht]; exact hY⟩, hS.F ht⟩) hS.2.2 dX7_settle_27
set_option maxHeartbeats 4000000 in
set_option maxRecDepth 100000 in
theorem kX7_settle {p : Program} {l : Launch} {e : Env} {R : Room} {s : State} {m : MethodId} {args : Array Value} {below : List Frame} {meth : Method} {c : Code} {H : Heap} {locs : List Loc} {cells slots : Nat} {Q : State → Prop} {cc : ByteArray} {nL : Nat} {Ts : List Cond} {own : String} {index pc : Nat} {ls : Array Slot} {rest : List Value} {D : va_G} {y : Y3} {ob : Nat → Nat} {AD : Nat → Nat → Nat} {Ω : Og} {x1 : Int32} {A0 : Nat → Prop} {H0 : Heap} (hF : CallFix p m c cc nL s args Ts own) (cw : CallW R s args own RX7 index yX7_settle cX7_settle 2 (some .int) wsX7_settle ({ frames := 3, cells := 0, slots := 0, locals := 65 } : Room) 0 0 1) (hC : CK D y s) (hY : SysH D y ob AD Ω H) (hJ : sysJ ob AD) (hOk : okO Ω) (hS : va_S A0 H0 H locs) (hA : ∀ q, (sysA ob AD) q → A0 q) (hsz : ls.size = nL) (hW : (rest.map fun v => v.category).sum ≤ 8) (hdg : decode cc pc = .ok (.invokevirtual index, 3)) (hf : cells ≤ R.cells ∧ slots ≤ R.slots)
    (k : ∀ (H1 : Heap) (locs1 : List Loc), SysH D y ob AD (zX7_settle Ω x1).2 H1 → H.size ≤ H1.size → (∀ q : Nat, q < H.size → ¬ (sysA ob AD) q → H1[q]? = H[q]?) → va_S A0 H0 H1 locs1 → W p l e R s m args below meth c H1 locs1 cells slots Q (F0 m (pc + 3) ls (.int ((zX7_settle Ω x1).1) :: rest))) : W p l e R s m args below meth c H locs cells slots Q (F0 m pc ls (.int x1 :: .ref (ob 0) :: rest)) := by
  refine va_calli (va_runV (As := [.int x1]) (rest := rest) hF (mX7_settle l D y ob AD Ω x1) cw ⟨fun a U g mk q => by obtain ⟨q0, q1, q2, q3, q4⟩ := q; exact ⟨q0, q1.call g mk a, q2, q3, q4⟩, va_recv hC.1 hY.1 (ci := 7) (q0 := 0) rfl rfl, fun U hU hW => ⟨rfl, hC.warm hW, by rw [hU]; exact hY, hJ, hOk⟩⟩ rfl rfl hsz rfl (lv_room hW) hdg ⟨hf.1, hf.2⟩) hS (fun q _ h => hA q h) hA (fun r u t H1 locs1 ht hvm hp hB hz1 hk1 hS1 => ?_)
  obtain ⟨hp1, hp2⟩ := hp
  subst hp1; subst hp2
  rw [ht] at hB
  exact k H1 locs1 hB hz1 hk1 hS1
def zX7_locker (Ω : Og) (x1 : Int32) (x2 : Int32) : Int32 × Og := ((zX7_settle (oS (zonT Ω) 1 (zX0_addLocker ((zonT Ω) 1) x1 x2).2) ((zX0_addLocker ((zonT Ω) 1) x1 x2).1)).1, (zX7_settle (oS (zonT Ω) 1 (zX0_addLocker ((zonT Ω) 1) x1 x2).2) ((zX0_addLocker ((zonT Ω) 1) x1 x2).1)).2)
theorem hdX7_locker : yX7_locker.cls = RX7 ∧ yX7_locker.cls ≠ "java/lang/invoke/MethodHandle" ∧ yX7_locker.cls ≠ "java/lang/invoke/VarHandle" ∧ (parseMethodDescriptor yX7_locker.desc).map (fun d => d.parameters.length) = some 2 := by decide +kernel
set_option maxHeartbeats 4000000 in
set_option maxRecDepth 100000 in
theorem mX7_locker (l : Launch) (D : va_G) (y : Y3) (ob : Nat → Nat) (AD : Nat → Nat → Nat) (Ω : Og) (x1 : Int32) (x2 : Int32) : Met l yX7_locker wsX7_locker ({ frames := 4, cells := 0, slots := 0, locals := 86 } : Room) (va_Pc [.ref (ob 0), .int x1, .int x2] (fun U => CK D y U ∧ SysH D y ob AD Ω U.heap ∧ sysJ ob AD ∧ okO Ω)) (va_Qi (fun (r : Int32) (u : Og) => r = (zX7_locker Ω x1 x2).1 ∧ u = (zX7_locker Ω x1 x2).2) (fun u t => SysH D y ob AD u t.heap) (sysA ob AD)) 0 0 (sysA ob AD) := by
  refine Met.ofW (cc := cX7_locker) (maxL := 3) (ret := (some .int)) (by decide) rfl ?_
  intro p e s m args below meth c s₁ B hml hv
  obtain ⟨rfl, hC, hY, hJ, hOk⟩ := hv
  have hx := B.exec
  have hb := B.bytes
  have hr := B.returns
  have hts := atoms_spec (ws := wsX7_locker) B.pre
  have hown : s.vm.findClass RX7 = some m.cls := findClass_of_methodNamed B.named
  have hlocks := B.notSynchronized
  have hF := (⟨hx, hb, hml, hown, hts⟩ : CallFix p m c cX7_locker 3 s _ wsX7_locker RX7)
  have hS : va_S (sysA ob AD) s.heap s.heap [] := va_S.rf
  have hl := lv_entry ([.ref (ob 0), .int x1, .int x2]) (n := 3) (Nat.le_of_ble_eq_true rfl)
  rw [lg_entry_eq]
  generalize (lg_sl ([.ref (ob 0), .int x1, .int x2]) ++ List.replicate (3 - (lg_sl ([.ref (ob 0), .int x1, .int x2])).length) Slot.unset).toArray = ls at hl ⊢
  have hl : lv_has ls 3 [(0, .ref (ob 0)), (1, .int x1), (2, .int x2)] := hl
  refine lv_aload_n hx hb dX7_locker_0 rfl (lv_at hl 0 rfl) ?_
  refine lv_aload_n hx hb dX7_locker_1 rfl (lv_at hl 0 rfl) ?_
  refine kX7_onTrial hF (cwV 0 hts gX7_locker_X7_onTrial rfl rfl rfl hdX7_onTrial ⟨Nat.le_of_ble_eq_true rfl, Nat.le_of_ble_eq_true rfl⟩) hC hY hJ hOk hS (fun _ h => h) hl.1 (Nat.le_of_ble_eq_true rfl) dX7_locker_2 ⟨Nat.zero_le _, Nat.zero_le _⟩ (fun H locs hY _ _ hS => ?_)
  have hOk : okO (zonT Ω) := okO_st hOk (by decide) _
  refine lv_iload_n hx hb dX7_locker_5 rfl (lv_at hl 1 rfl) ?_
  refine lv_iload_n hx hb dX7_locker_6 rfl (lv_at hl 2 rfl) ?_
  refine kX0_addLocker hF (cwV 2 hts gX7_locker_X0_addLocker rfl rfl rfl hdX0_addLocker ⟨Nat.le_of_ble_eq_true rfl, Nat.le_of_ble_eq_true rfl⟩) hC hY.2.1 (hY.2.2.2.2.2.2 1 (by decide)) (hJ.1.one (by decide)) (fun k hk => hJ.2.2 1 k 1 (by decide) hk (by decide)) hS (sysA_st (by decide)) hl.1 (Nat.le_of_ble_eq_true rfl) dX7_locker_7 ⟨Nat.zero_le _, Nat.zero_le _⟩ (fun H locs hSt _ hk hS => ?_)
  have hY := Sys.st hY hJ 1 (by decide) hSt hk
  have hOk := okO_st hOk (k := 1) (by decide) (zX0_addLocker ((zonT Ω) 1) x1 x2).2
  refine kX7_settle hF (cwV 1 hts gX7_locker_X7_settle rfl rfl rfl hdX7_settle ⟨Nat.le_of_ble_eq_true rfl, Nat.le_of_ble_eq_true rfl⟩) hC hY hJ hOk hS (fun _ h => h) hl.1 (Nat.le_of_ble_eq_true rfl) dX7_locker_10 ⟨Nat.zero_le _, Nat.zero_le _⟩ (fun H locs hY _ _ hS => ?_)
  exact W.iret (v := (zX7_settle (oS (zonT Ω) 1 (zX0_addLocker ((zonT Ω) 1) x1 x2).2) ((zX0_addLocker ((zonT Ω) 1) x1 x2).1)).1) hx hb hr (fun t ht hW => ⟨⟨(zX7_settle (oS (zonT Ω) 1 (zX0_addLocker ((zonT Ω) 1) x1 x2).2) ((zX0_addLocker ((zonT Ω) 1) x1 x2).1)).1, (zX7_settle (oS (zonT Ω) 1 (zX0_addLocker ((zonT Ω) 1) x1 x2).2) ((zX0_addLocker ((zonT Ω) 1) x1 x2).1)).2, rfl, ⟨rfl, rfl⟩, by dsimp only; rw [ht]; exact hY⟩, hS.F ht⟩) hS.2.2 dX7_locker_13
set_option maxHeartbeats 4000000 in
set_option maxRecDepth 100000 in
theorem kX7_locker {p : Program} {l : Launch} {e : Env} {R : Room} {s : State} {m : MethodId} {args : Array Value} {below : List Frame} {meth : Method} {c : Code} {H : Heap} {locs : List Loc} {cells slots : Nat} {Q : State → Prop} {cc : ByteArray} {nL : Nat} {Ts : List Cond} {own : String} {index pc : Nat} {ls : Array Slot} {rest : List Value} {D : va_G} {y : Y3} {ob : Nat → Nat} {AD : Nat → Nat → Nat} {Ω : Og} {x1 : Int32} {x2 : Int32} {A0 : Nat → Prop} {H0 : Heap} (hF : CallFix p m c cc nL s args Ts own) (cw : CallW R s args own RX7 index yX7_locker cX7_locker 3 (some .int) wsX7_locker ({ frames := 4, cells := 0, slots := 0, locals := 86 } : Room) 0 0 2) (hC : CK D y s) (hY : SysH D y ob AD Ω H) (hJ : sysJ ob AD) (hOk : okO Ω) (hS : va_S A0 H0 H locs) (hA : ∀ q, (sysA ob AD) q → A0 q) (hsz : ls.size = nL) (hW : (rest.map fun v => v.category).sum ≤ 8) (hdg : decode cc pc = .ok (.invokevirtual index, 3)) (hf : cells ≤ R.cells ∧ slots ≤ R.slots)
    (k : ∀ (H1 : Heap) (locs1 : List Loc), SysH D y ob AD (zX7_locker Ω x1 x2).2 H1 → H.size ≤ H1.size → (∀ q : Nat, q < H.size → ¬ (sysA ob AD) q → H1[q]? = H[q]?) → va_S A0 H0 H1 locs1 → W p l e R s m args below meth c H1 locs1 cells slots Q (F0 m (pc + 3) ls (.int ((zX7_locker Ω x1 x2).1) :: rest))) : W p l e R s m args below meth c H locs cells slots Q (F0 m pc ls (.int x2 :: .int x1 :: .ref (ob 0) :: rest)) := by
  refine va_calli (va_runV (As := [.int x1, .int x2]) (rest := rest) hF (mX7_locker l D y ob AD Ω x1 x2) cw ⟨fun a U g mk q => by obtain ⟨q0, q1, q2, q3, q4⟩ := q; exact ⟨q0, q1.call g mk a, q2, q3, q4⟩, va_recv hC.1 hY.1 (ci := 7) (q0 := 0) rfl rfl, fun U hU hW => ⟨rfl, hC.warm hW, by rw [hU]; exact hY, hJ, hOk⟩⟩ rfl rfl hsz rfl (lv_room hW) hdg ⟨hf.1, hf.2⟩) hS (fun q _ h => hA q h) hA (fun r u t H1 locs1 ht hvm hp hB hz1 hk1 hS1 => ?_)
  obtain ⟨hp1, hp2⟩ := hp
  subst hp1; subst hp2
  rw [ht] at hB
  exact k H1 locs1 hB hz1 hk1 hS1
def zX7_meal (Ω : Og) (x1 : Int32) (x2 : Int32) (x3 : Int32) : Int32 × Og := ((zX7_settle (oS (zonT Ω) 1 (zX0_addMeal ((zonT Ω) 1) x1 x2 x3).2) ((zX0_addMeal ((zonT Ω) 1) x1 x2 x3).1)).1, (zX7_settle (oS (zonT Ω) 1 (zX0_addMeal ((zonT Ω) 1) x1 x2 x3).2) ((zX0_addMeal ((zonT Ω) 1) x1 x2 x3).1)).2)
theorem hdX7_meal : yX7_meal.cls = RX7 ∧ yX7_meal.cls ≠ "java/lang/invoke/MethodHandle" ∧ yX7_meal.cls ≠ "java/lang/invoke/VarHandle" ∧ (parseMethodDescriptor yX7_meal.desc).map (fun d => d.parameters.length) = some 3 := by decide +kernel
set_option maxHeartbeats 4000000 in
set_option maxRecDepth 100000 in
theorem mX7_meal (l : Launch) (D : va_G) (y : Y3) (ob : Nat → Nat) (AD : Nat → Nat → Nat) (Ω : Og) (x1 : Int32) (x2 : Int32) (x3 : Int32) : Met l yX7_meal wsX7_meal ({ frames := 4, cells := 0, slots := 0, locals := 91 } : Room) (va_Pc [.ref (ob 0), .int x1, .int x2, .int x3] (fun U => CK D y U ∧ SysH D y ob AD Ω U.heap ∧ sysJ ob AD ∧ okO Ω)) (va_Qi (fun (r : Int32) (u : Og) => r = (zX7_meal Ω x1 x2 x3).1 ∧ u = (zX7_meal Ω x1 x2 x3).2) (fun u t => SysH D y ob AD u t.heap) (sysA ob AD)) 0 0 (sysA ob AD) := by
  refine Met.ofW (cc := cX7_meal) (maxL := 4) (ret := (some .int)) (by decide) rfl ?_
  intro p e s m args below meth c s₁ B hml hv
  obtain ⟨rfl, hC, hY, hJ, hOk⟩ := hv
  have hx := B.exec
  have hb := B.bytes
  have hr := B.returns
  have hts := atoms_spec (ws := wsX7_meal) B.pre
  have hown : s.vm.findClass RX7 = some m.cls := findClass_of_methodNamed B.named
  have hlocks := B.notSynchronized
  have hF := (⟨hx, hb, hml, hown, hts⟩ : CallFix p m c cX7_meal 4 s _ wsX7_meal RX7)
  have hS : va_S (sysA ob AD) s.heap s.heap [] := va_S.rf
  have hl := lv_entry ([.ref (ob 0), .int x1, .int x2, .int x3]) (n := 4) (Nat.le_of_ble_eq_true rfl)
  rw [lg_entry_eq]
  generalize (lg_sl ([.ref (ob 0), .int x1, .int x2, .int x3]) ++ List.replicate (4 - (lg_sl ([.ref (ob 0), .int x1, .int x2, .int x3])).length) Slot.unset).toArray = ls at hl ⊢
  have hl : lv_has ls 4 [(0, .ref (ob 0)), (1, .int x1), (2, .int x2), (3, .int x3)] := hl
  refine lv_aload_n hx hb dX7_meal_0 rfl (lv_at hl 0 rfl) ?_
  refine lv_aload_n hx hb dX7_meal_1 rfl (lv_at hl 0 rfl) ?_
  refine kX7_onTrial hF (cwV 0 hts gX7_meal_X7_onTrial rfl rfl rfl hdX7_onTrial ⟨Nat.le_of_ble_eq_true rfl, Nat.le_of_ble_eq_true rfl⟩) hC hY hJ hOk hS (fun _ h => h) hl.1 (Nat.le_of_ble_eq_true rfl) dX7_meal_2 ⟨Nat.zero_le _, Nat.zero_le _⟩ (fun H locs hY _ _ hS => ?_)
  have hOk : okO (zonT Ω) := okO_st hOk (by decide) _
  refine lv_iload_n hx hb dX7_meal_5 rfl (lv_at hl 1 rfl) ?_
  refine lv_iload_n hx hb dX7_meal_6 rfl (lv_at hl 2 rfl) ?_
  refine lv_iload_n hx hb dX7_meal_7 rfl (lv_at hl 3 rfl) ?_
  refine kX0_addMeal hF (cwV 3 hts gX7_meal_X0_addMeal rfl rfl rfl hdX0_addMeal ⟨Nat.le_of_ble_eq_true rfl, Nat.le_of_ble_eq_true rfl⟩) hC hY.2.1 (hY.2.2.2.2.2.2 1 (by decide)) (hJ.1.one (by decide)) (fun k hk => hJ.2.2 1 k 1 (by decide) hk (by decide)) hS (sysA_st (by decide)) hl.1 (Nat.le_of_ble_eq_true rfl) dX7_meal_8 ⟨Nat.zero_le _, Nat.zero_le _⟩ (fun H locs hSt _ hk hS => ?_)
  have hY := Sys.st hY hJ 1 (by decide) hSt hk
  have hOk := okO_st hOk (k := 1) (by decide) (zX0_addMeal ((zonT Ω) 1) x1 x2 x3).2
  refine kX7_settle hF (cwV 1 hts gX7_meal_X7_settle rfl rfl rfl hdX7_settle ⟨Nat.le_of_ble_eq_true rfl, Nat.le_of_ble_eq_true rfl⟩) hC hY hJ hOk hS (fun _ h => h) hl.1 (Nat.le_of_ble_eq_true rfl) dX7_meal_11 ⟨Nat.zero_le _, Nat.zero_le _⟩ (fun H locs hY _ _ hS => ?_)
  exact W.iret (v := (zX7_settle (oS (zonT Ω) 1 (zX0_addMeal ((zonT Ω) 1) x1 x2 x3).2) ((zX0_addMeal ((zonT Ω) 1) x1 x2 x3).1)).1) hx hb hr (fun t ht hW => ⟨⟨(zX7_settle (oS (zonT Ω) 1 (zX0_addMeal ((zonT Ω) 1) x1 x2 x3).2) ((zX0_addMeal ((zonT Ω) 1) x1 x2 x3).1)).1, (zX7_settle (oS (zonT Ω) 1 (zX0_addMeal ((zonT Ω) 1) x1 x2 x3).2) ((zX0_addMeal ((zonT Ω) 1) x1 x2 x3).1)).2, rfl, ⟨rfl, rfl⟩, by dsimp only; rw [ht]; exact hY⟩, hS.F ht⟩) hS.2.2 dX7_meal_14
set_option maxHeartbeats 4000000 in
set_option maxRecDepth 100000 in
theorem kX7_meal {p : Program} {l : Launch} {e : Env} {R : Room} {s : State} {m : MethodId} {args : Array Value} {below : List Frame} {meth : Method} {c : Code} {H : Heap} {locs : List Loc} {cells slots : Nat} {Q : State → Prop} {cc : ByteArray} {nL : Nat} {Ts : List Cond} {own : String} {index pc : Nat} {ls : Array Slot} {rest : List Value} {D : va_G} {y : Y3} {ob : Nat → Nat} {AD : Nat → Nat → Nat} {Ω : Og} {x1 : Int32} {x2 : Int32} {x3 : Int32} {A0 : Nat → Prop} {H0 : Heap} (hF : CallFix p m c cc nL s args Ts own) (cw : CallW R s args own RX7 index yX7_meal cX7_meal 4 (some .int) wsX7_meal ({ frames := 4, cells := 0, slots := 0, locals := 91 } : Room) 0 0 3) (hC : CK D y s) (hY : SysH D y ob AD Ω H) (hJ : sysJ ob AD) (hOk : okO Ω) (hS : va_S A0 H0 H locs) (hA : ∀ q, (sysA ob AD) q → A0 q) (hsz : ls.size = nL) (hW : (rest.map fun v => v.category).sum ≤ 8) (hdg : decode cc pc = .ok (.invokevirtual index, 3)) (hf : cells ≤ R.cells ∧ slots ≤ R.slots)
    (k : ∀ (H1 : Heap) (locs1 : List Loc), SysH D y ob AD (zX7_meal Ω x1 x2 x3).2 H1 → H.size ≤ H1.size → (∀ q : Nat, q < H.size → ¬ (sysA ob AD) q → H1[q]? = H[q]?) → va_S A0 H0 H1 locs1 → W p l e R s m args below meth c H1 locs1 cells slots Q (F0 m (pc + 3) ls (.int ((zX7_meal Ω x1 x2 x3).1) :: rest))) : W p l e R s m args below meth c H locs cells slots Q (F0 m pc ls (.int x3 :: .int x2 :: .int x1 :: .ref (ob 0) :: rest)) := by
  refine va_calli (va_runV (As := [.int x1, .int x2, .int x3]) (rest := rest) hF (mX7_meal l D y ob AD Ω x1 x2 x3) cw ⟨fun a U g mk q => by obtain ⟨q0, q1, q2, q3, q4⟩ := q; exact ⟨q0, q1.call g mk a, q2, q3, q4⟩, va_recv hC.1 hY.1 (ci := 7) (q0 := 0) rfl rfl, fun U hU hW => ⟨rfl, hC.warm hW, by rw [hU]; exact hY, hJ, hOk⟩⟩ rfl rfl hsz rfl (lv_room hW) hdg ⟨hf.1, hf.2⟩) hS (fun q _ h => hA q h) hA (fun r u t H1 locs1 ht hvm hp hB hz1 hk1 hS1 => ?_)
  obtain ⟨hp1, hp2⟩ := hp
  subst hp1; subst hp2
  rw [ht] at hB
  exact k H1 locs1 hB hz1 hk1 hS1
def zX7_person (Ω : Og) (x1 : Int32) : Int32 × Og := ((zX7_settle (oS (zonT Ω) 1 (zX0_addPerson ((zonT Ω) 1) x1).2) ((zX0_addPerson ((zonT Ω) 1) x1).1)).1, (zX7_settle (oS (zonT Ω) 1 (zX0_addPerson ((zonT Ω) 1) x1).2) ((zX0_addPerson ((zonT Ω) 1) x1).1)).2)
theorem hdX7_person : yX7_person.cls = RX7 ∧ yX7_person.cls ≠ "java/lang/invoke/MethodHandle" ∧ yX7_person.cls ≠ "java/lang/invoke/VarHandle" ∧ (parseMethodDescriptor yX7_person.desc).map (fun d => d.parameters.length) = some 1 := by decide +kernel
set_option maxHeartbeats 4000000 in
set_option maxRecDepth 100000 in
theorem mX7_person (l : Launch) (D : va_G) (y : Y3) (ob : Nat → Nat) (AD : Nat → Nat → Nat) (Ω : Og) (x1 : Int32) : Met l yX7_person wsX7_person ({ frames := 4, cells := 0, slots := 0, locals := 86 } : Room) (va_Pc [.ref (ob 0), .int x1] (fun U => CK D y U ∧ SysH D y ob AD Ω U.heap ∧ sysJ ob AD ∧ okO Ω)) (va_Qi (fun (r : Int32) (u : Og) => r = (zX7_person Ω x1).1 ∧ u = (zX7_person Ω x1).2) (fun u t => SysH D y ob AD u t.heap) (sysA ob AD)) 0 0 (sysA ob AD) := by
  refine Met.ofW (cc := cX7_person) (maxL := 2) (ret := (some .int)) (by decide) rfl ?_
  intro p e s m args below meth c s₁ B hml hv
  obtain ⟨rfl, hC, hY, hJ, hOk⟩ := hv
  have hx := B.exec
  have hb := B.bytes
  have hr := B.returns
  have hts := atoms_spec (ws := wsX7_person) B.pre
  have hown : s.vm.findClass RX7 = some m.cls := findClass_of_methodNamed B.named
  have hlocks := B.notSynchronized
  have hF := (⟨hx, hb, hml, hown, hts⟩ : CallFix p m c cX7_person 2 s _ wsX7_person RX7)
  have hS : va_S (sysA ob AD) s.heap s.heap [] := va_S.rf
  have hl := lv_entry ([.ref (ob 0), .int x1]) (n := 2) (Nat.le_of_ble_eq_true rfl)
  rw [lg_entry_eq]
  generalize (lg_sl ([.ref (ob 0), .int x1]) ++ List.replicate (2 - (lg_sl ([.ref (ob 0), .int x1])).length) Slot.unset).toArray = ls at hl ⊢
  have hl : lv_has ls 2 [(0, .ref (ob 0)), (1, .int x1)] := hl
  refine lv_aload_n hx hb dX7_person_0 rfl (lv_at hl 0 rfl) ?_
  refine lv_aload_n hx hb dX7_person_1 rfl (lv_at hl 0 rfl) ?_
  refine kX7_onTrial hF (cwV 0 hts gX7_person_X7_onTrial rfl rfl rfl hdX7_onTrial ⟨Nat.le_of_ble_eq_true rfl, Nat.le_of_ble_eq_true rfl⟩) hC hY hJ hOk hS (fun _ h => h) hl.1 (Nat.le_of_ble_eq_true rfl) dX7_person_2 ⟨Nat.zero_le _, Nat.zero_le _⟩ (fun H locs hY _ _ hS => ?_)
  have hOk : okO (zonT Ω) := okO_st hOk (by decide) _
  refine lv_iload_n hx hb dX7_person_5 rfl (lv_at hl 1 rfl) ?_
  refine kX0_addPerson hF (cwV 1 hts gX7_person_X0_addPerson rfl rfl rfl hdX0_addPerson ⟨Nat.le_of_ble_eq_true rfl, Nat.le_of_ble_eq_true rfl⟩) hC hY.2.1 (hY.2.2.2.2.2.2 1 (by decide)) (hJ.1.one (by decide)) (fun k hk => hJ.2.2 1 k 1 (by decide) hk (by decide)) hS (sysA_st (by decide)) hl.1 (Nat.le_of_ble_eq_true rfl) dX7_person_6 ⟨Nat.zero_le _, Nat.zero_le _⟩ (fun H locs hSt _ hk hS => ?_)
  have hY := Sys.st hY hJ 1 (by decide) hSt hk
  have hOk := okO_st hOk (k := 1) (by decide) (zX0_addPerson ((zonT Ω) 1) x1).2
  refine kX7_settle hF (cwV 1 hts gX7_person_X7_settle rfl rfl rfl hdX7_settle ⟨Nat.le_of_ble_eq_true rfl, Nat.le_of_ble_eq_true rfl⟩) hC hY hJ hOk hS (fun _ h => h) hl.1 (Nat.le_of_ble_eq_true rfl) dX7_person_9 ⟨Nat.zero_le _, Nat.zero_le _⟩ (fun H locs hY _ _ hS => ?_)
  exact W.iret (v := (zX7_settle (oS (zonT Ω) 1 (zX0_addPerson ((zonT Ω) 1) x1).2) ((zX0_addPerson ((zonT Ω) 1) x1).1)).1) hx hb hr (fun t ht hW => ⟨⟨(zX7_settle (oS (zonT Ω) 1 (zX0_addPerson ((zonT Ω) 1) x1).2) ((zX0_addPerson ((zonT Ω) 1) x1).1)).1, (zX7_settle (oS (zonT Ω) 1 (zX0_addPerson ((zonT Ω) 1) x1).2) ((zX0_addPerson ((zonT Ω) 1) x1).1)).2, rfl, ⟨rfl, rfl⟩, by dsimp only; rw [ht]; exact hY⟩, hS.F ht⟩) hS.2.2 dX7_person_12
set_option maxHeartbeats 4000000 in
set_option maxRecDepth 100000 in
theorem kX7_person {p : Program} {l : Launch} {e : Env} {R : Room} {s : State} {m : MethodId} {args : Array Value} {below : List Frame} {meth : Method} {c : Code} {H : Heap} {locs : List Loc} {cells slots : Nat} {Q : State → Prop} {cc : ByteArray} {nL : Nat} {Ts : List Cond} {own : String} {index pc : Nat} {ls : Array Slot} {rest : List Value} {D : va_G} {y : Y3} {ob : Nat → Nat} {AD : Nat → Nat → Nat} {Ω : Og} {x1 : Int32} {A0 : Nat → Prop} {H0 : Heap} (hF : CallFix p m c cc nL s args Ts own) (cw : CallW R s args own RX7 index yX7_person cX7_person 2 (some .int) wsX7_person ({ frames := 4, cells := 0, slots := 0, locals := 86 } : Room) 0 0 1) (hC : CK D y s) (hY : SysH D y ob AD Ω H) (hJ : sysJ ob AD) (hOk : okO Ω) (hS : va_S A0 H0 H locs) (hA : ∀ q, (sysA ob AD) q → A0 q) (hsz : ls.size = nL) (hW : (rest.map fun v => v.category).sum ≤ 8) (hdg : decode cc pc = .ok (.invokevirtual index, 3)) (hf : cells ≤ R.cells ∧ slots ≤ R.slots)
    (k : ∀ (H1 : Heap) (locs1 : List Loc), SysH D y ob AD (zX7_person Ω x1).2 H1 → H.size ≤ H1.size → (∀ q : Nat, q < H.size → ¬ (sysA ob AD) q → H1[q]? = H[q]?) → va_S A0 H0 H1 locs1 → W p l e R s m args below meth c H1 locs1 cells slots Q (F0 m (pc + 3) ls (.int ((zX7_person Ω x1).1) :: rest))) : W p l e R s m args below meth c H locs cells slots Q (F0 m pc ls (.int x1 :: .ref (ob 0) :: rest)) := by
  refine va_calli (va_runV (As := [.int x1]) (rest := rest) hF (mX7_person l D y ob AD Ω x1) cw ⟨fun a U g mk q => by obtain ⟨q0, q1, q2, q3, q4⟩ := q; exact ⟨q0, q1.call g mk a, q2, q3, q4⟩, va_recv hC.1 hY.1 (ci := 7) (q0 := 0) rfl rfl, fun U hU hW => ⟨rfl, hC.warm hW, by rw [hU]; exact hY, hJ, hOk⟩⟩ rfl rfl hsz rfl (lv_room hW) hdg ⟨hf.1, hf.2⟩) hS (fun q _ h => hA q h) hA (fun r u t H1 locs1 ht hvm hp hB hz1 hk1 hS1 => ?_)
  obtain ⟨hp1, hp2⟩ := hp
  subst hp1; subst hp2
  rw [ht] at hB
  exact k H1 locs1 hB hz1 hk1 hS1
def zX7_volunteer (Ω : Og) (x1 : Int32) (x2 : Int32) : Int32 × Og := ((zX7_settle (oS (zonT Ω) 1 (zX0_addVolunteer ((zonT Ω) 1) x1 x2).2) ((zX0_addVolunteer ((zonT Ω) 1) x1 x2).1)).1, (zX7_settle (oS (zonT Ω) 1 (zX0_addVolunteer ((zonT Ω) 1) x1 x2).2) ((zX0_addVolunteer ((zonT Ω) 1) x1 x2).1)).2)
theorem hdX7_volunteer : yX7_volunteer.cls = RX7 ∧ yX7_volunteer.cls ≠ "java/lang/invoke/MethodHandle" ∧ yX7_volunteer.cls ≠ "java/lang/invoke/VarHandle" ∧ (parseMethodDescriptor yX7_volunteer.desc).map (fun d => d.parameters.length) = some 2 := by decide +kernel
set_option maxHeartbeats 4000000 in
set_option maxRecDepth 100000 in
theorem mX7_volunteer (l : Launch) (D : va_G) (y : Y3) (ob : Nat → Nat) (AD : Nat → Nat → Nat) (Ω : Og) (x1 : Int32) (x2 : Int32) : Met l yX7_volunteer wsX7_volunteer ({ frames := 4, cells := 0, slots := 0, locals := 86 } : Room) (va_Pc [.ref (ob 0), .int x1, .int x2] (fun U => CK D y U ∧ SysH D y ob AD Ω U.heap ∧ sysJ ob AD ∧ okO Ω)) (va_Qi (fun (r : Int32) (u : Og) => r = (zX7_volunteer Ω x1 x2).1 ∧ u = (zX7_volunteer Ω x1 x2).2) (fun u t => SysH D y ob AD u t.heap) (sysA ob AD)) 0 0 (sysA ob AD) := by
  refine Met.ofW (cc := cX7_volunteer) (maxL := 3) (ret := (some .int)) (by decide) rfl ?_
  intro p e s m args below meth c s₁ B hml hv
  obtain ⟨rfl, hC, hY, hJ, hOk⟩ := hv
  have hx := B.exec
  have hb := B.bytes
  have hr := B.returns
  have hts := atoms_spec (ws := wsX7_volunteer) B.pre
  have hown : s.vm.findClass RX7 = some m.cls := findClass_of_methodNamed B.named
  have hlocks := B.notSynchronized
  have hF := (⟨hx, hb, hml, hown, hts⟩ : CallFix p m c cX7_volunteer 3 s _ wsX7_volunteer RX7)
  have hS : va_S (sysA ob AD) s.heap s.heap [] := va_S.rf
  have hl := lv_entry ([.ref (ob 0), .int x1, .int x2]) (n := 3) (Nat.le_of_ble_eq_true rfl)
  rw [lg_entry_eq]
  generalize (lg_sl ([.ref (ob 0), .int x1, .int x2]) ++ List.replicate (3 - (lg_sl ([.ref (ob 0), .int x1, .int x2])).length) Slot.unset).toArray = ls at hl ⊢
  have hl : lv_has ls 3 [(0, .ref (ob 0)), (1, .int x1), (2, .int x2)] := hl
  refine lv_aload_n hx hb dX7_volunteer_0 rfl (lv_at hl 0 rfl) ?_
  refine lv_aload_n hx hb dX7_volunteer_1 rfl (lv_at hl 0 rfl) ?_
  refine kX7_onTrial hF (cwV 0 hts gX7_volunteer_X7_onTrial rfl rfl rfl hdX7_onTrial ⟨Nat.le_of_ble_eq_true rfl, Nat.le_of_ble_eq_true rfl⟩) hC hY hJ hOk hS (fun _ h => h) hl.1 (Nat.le_of_ble_eq_true rfl) dX7_volunteer_2 ⟨Nat.zero_le _, Nat.zero_le _⟩ (fun H locs hY _ _ hS => ?_)
  have hOk : okO (zonT Ω) := okO_st hOk (by decide) _
  refine lv_iload_n hx hb dX7_volunteer_5 rfl (lv_at hl 1 rfl) ?_
  refine lv_iload_n hx hb dX7_volunteer_6 rfl (lv_at hl 2 rfl) ?_
  refine kX0_addVolunteer hF (cwV 2 hts gX7_volunteer_X0_addVolunteer rfl rfl rfl hdX0_addVolunteer ⟨Nat.le_of_ble_eq_true rfl, Nat.le_of_ble_eq_true rfl⟩) hC hY.2.1 (hY.2.2.2.2.2.2 1 (by decide)) (hJ.1.one (by decide)) (fun k hk => hJ.2.2 1 k 1 (by decide) hk (by decide)) hS (sysA_st (by decide)) hl.1 (Nat.le_of_ble_eq_true rfl) dX7_volunteer_7 ⟨Nat.zero_le _, Nat.zero_le _⟩ (fun H locs hSt _ hk hS => ?_)
  have hY := Sys.st hY hJ 1 (by decide) hSt hk
  have hOk := okO_st hOk (k := 1) (by decide) (zX0_addVolunteer ((zonT Ω) 1) x1 x2).2
  refine kX7_settle hF (cwV 1 hts gX7_volunteer_X7_settle rfl rfl rfl hdX7_settle ⟨Nat.le_of_ble_eq_true rfl, Nat.le_of_ble_eq_true rfl⟩) hC hY hJ hOk hS (fun _ h => h) hl.1 (Nat.le_of_ble_eq_true rfl) dX7_volunteer_10 ⟨Nat.zero_le _, Nat.zero_le _⟩ (fun H locs hY _ _ hS => ?_)
  exact W.iret (v := (zX7_settle (oS (zonT Ω) 1 (zX0_addVolunteer ((zonT Ω) 1) x1 x2).2) ((zX0_addVolunteer ((zonT Ω) 1) x1 x2).1)).1) hx hb hr (fun t ht hW => ⟨⟨(zX7_settle (oS (zonT Ω) 1 (zX0_addVolunteer ((zonT Ω) 1) x1 x2).2) ((zX0_addVolunteer ((zonT Ω) 1) x1 x2).1)).1, (zX7_settle (oS (zonT Ω) 1 (zX0_addVolunteer ((zonT Ω) 1) x1 x2).2) ((zX0_addVolunteer ((zonT Ω) 1) x1 x2).1)).2, rfl, ⟨rfl, rfl⟩, by dsimp only; rw [ht]; exact hY⟩, hS.F ht⟩) hS.2.2 dX7_volunteer_13
set_option maxHeartbeats 4000000 in
set_option maxRecDepth 100000 in
theorem kX7_volunteer {p : Program} {l : Launch} {e : Env} {R : Room} {s : State} {m : MethodId} {args : Array Value} {below : List Frame} {meth : Method} {c : Code} {H : Heap} {locs : List Loc} {cells slots : Nat} {Q : State → Prop} {cc : ByteArray} {nL : Nat} {Ts : List Cond} {own : String} {index pc : Nat} {ls : Array Slot} {rest : List Value} {D : va_G} {y : Y3} {ob : Nat → Nat} {AD : Nat → Nat → Nat} {Ω : Og} {x1 : Int32} {x2 : Int32} {A0 : Nat → Prop} {H0 : Heap} (hF : CallFix p m c cc nL s args Ts own) (cw : CallW R s args own RX7 index yX7_volunteer cX7_volunteer 3 (some .int) wsX7_volunteer ({ frames := 4, cells := 0, slots := 0, locals := 86 } : Room) 0 0 2) (hC : CK D y s) (hY : SysH D y ob AD Ω H) (hJ : sysJ ob AD) (hOk : okO Ω) (hS : va_S A0 H0 H locs) (hA : ∀ q, (sysA ob AD) q → A0 q) (hsz : ls.size = nL) (hW : (rest.map fun v => v.category).sum ≤ 8) (hdg : decode cc pc = .ok (.invokevirtual index, 3)) (hf : cells ≤ R.cells ∧ slots ≤ R.slots)
    (k : ∀ (H1 : Heap) (locs1 : List Loc), SysH D y ob AD (zX7_volunteer Ω x1 x2).2 H1 → H.size ≤ H1.size → (∀ q : Nat, q < H.size → ¬ (sysA ob AD) q → H1[q]? = H[q]?) → va_S A0 H0 H1 locs1 → W p l e R s m args below meth c H1 locs1 cells slots Q (F0 m (pc + 3) ls (.int ((zX7_volunteer Ω x1 x2).1) :: rest))) : W p l e R s m args below meth c H locs cells slots Q (F0 m pc ls (.int x2 :: .int x1 :: .ref (ob 0) :: rest)) := by
  refine va_calli (va_runV (As := [.int x1, .int x2]) (rest := rest) hF (mX7_volunteer l D y ob AD Ω x1 x2) cw ⟨fun a U g mk q => by obtain ⟨q0, q1, q2, q3, q4⟩ := q; exact ⟨q0, q1.call g mk a, q2, q3, q4⟩, va_recv hC.1 hY.1 (ci := 7) (q0 := 0) rfl rfl, fun U hU hW => ⟨rfl, hC.warm hW, by rw [hU]; exact hY, hJ, hOk⟩⟩ rfl rfl hsz rfl (lv_room hW) hdg ⟨hf.1, hf.2⟩) hS (fun q _ h => hA q h) hA (fun r u t H1 locs1 ht hvm hp hB hz1 hk1 hS1 => ?_)
  obtain ⟨hp1, hp2⟩ := hp
  subst hp1; subst hp2
  rw [ht] at hB
  exact k H1 locs1 hB hz1 hk1 hS1
def zX7_reserve (Ω : Og) (x1 : Int32) (x2 : Int32) : Int32 × Og := ((zX7_settle (oS (zonT Ω) 1 (zX0_reserveMeal ((zonT Ω) 1) x1 x2).2) ((zX0_reserveMeal ((zonT Ω) 1) x1 x2).1)).1, (zX7_settle (oS (zonT Ω) 1 (zX0_reserveMeal ((zonT Ω) 1) x1 x2).2) ((zX0_reserveMeal ((zonT Ω) 1) x1 x2).1)).2)
theorem hdX7_reserve : yX7_reserve.cls = RX7 ∧ yX7_reserve.cls ≠ "java/lang/invoke/MethodHandle" ∧ yX7_reserve.cls ≠ "java/lang/invoke/VarHandle" ∧ (parseMethodDescriptor yX7_reserve.desc).map (fun d => d.parameters.length) = some 2 := by decide +kernel
set_option maxHeartbeats 4000000 in
set_option maxRecDepth 100000 in
theorem mX7_reserve (l : Launch) (D : va_G) (y : Y3) (ob : Nat → Nat) (AD : Nat → Nat → Nat) (Ω : Og) (x1 : Int32) (x2 : Int32) : Met l yX7_reserve wsX7_reserve ({ frames := 4, cells := 0, slots := 0, locals := 86 } : Room) (va_Pc [.ref (ob 0), .int x1, .int x2] (fun U => CK D y U ∧ SysH D y ob AD Ω U.heap ∧ sysJ ob AD ∧ okO Ω)) (va_Qi (fun (r : Int32) (u : Og) => r = (zX7_reserve Ω x1 x2).1 ∧ u = (zX7_reserve Ω x1 x2).2) (fun u t => SysH D y ob AD u t.heap) (sysA ob AD)) 0 0 (sysA ob AD) := by
  refine Met.ofW (cc := cX7_reserve) (maxL := 3) (ret := (some .int)) (by decide) rfl ?_
  intro p e s m args below meth c s₁ B hml hv
  obtain ⟨rfl, hC, hY, hJ, hOk⟩ := hv
  have hx := B.exec
  have hb := B.bytes
  have hr := B.returns
  have hts := atoms_spec (ws := wsX7_reserve) B.pre
  have hown : s.vm.findClass RX7 = some m.cls := findClass_of_methodNamed B.named
  have hlocks := B.notSynchronized
  have hF := (⟨hx, hb, hml, hown, hts⟩ : CallFix p m c cX7_reserve 3 s _ wsX7_reserve RX7)
  have hS : va_S (sysA ob AD) s.heap s.heap [] := va_S.rf
  have hl := lv_entry ([.ref (ob 0), .int x1, .int x2]) (n := 3) (Nat.le_of_ble_eq_true rfl)
  rw [lg_entry_eq]
  generalize (lg_sl ([.ref (ob 0), .int x1, .int x2]) ++ List.replicate (3 - (lg_sl ([.ref (ob 0), .int x1, .int x2])).length) Slot.unset).toArray = ls at hl ⊢
  have hl : lv_has ls 3 [(0, .ref (ob 0)), (1, .int x1), (2, .int x2)] := hl
  refine lv_aload_n hx hb dX7_reserve_0 rfl (lv_at hl 0 rfl) ?_
  refine lv_aload_n hx hb dX7_reserve_1 rfl (lv_at hl 0 rfl) ?_
  refine kX7_onTrial hF (cwV 0 hts gX7_reserve_X7_onTrial rfl rfl rfl hdX7_onTrial ⟨Nat.le_of_ble_eq_true rfl, Nat.le_of_ble_eq_true rfl⟩) hC hY hJ hOk hS (fun _ h => h) hl.1 (Nat.le_of_ble_eq_true rfl) dX7_reserve_2 ⟨Nat.zero_le _, Nat.zero_le _⟩ (fun H locs hY _ _ hS => ?_)
  have hOk : okO (zonT Ω) := okO_st hOk (by decide) _
  refine lv_iload_n hx hb dX7_reserve_5 rfl (lv_at hl 1 rfl) ?_
  refine lv_iload_n hx hb dX7_reserve_6 rfl (lv_at hl 2 rfl) ?_
  refine kX0_reserveMeal hF (cwV 2 hts gX7_reserve_X0_reserveMeal rfl rfl rfl hdX0_reserveMeal ⟨Nat.le_of_ble_eq_true rfl, Nat.le_of_ble_eq_true rfl⟩) hC hY.2.1 (hY.2.2.2.2.2.2 1 (by decide)) (hJ.1.one (by decide)) (fun k hk => hJ.2.2 1 k 1 (by decide) hk (by decide)) hS (sysA_st (by decide)) hl.1 (Nat.le_of_ble_eq_true rfl) dX7_reserve_7 ⟨Nat.zero_le _, Nat.zero_le _⟩ (fun H locs hSt _ hk hS => ?_)
  have hY := Sys.st hY hJ 1 (by decide) hSt hk
  have hOk := okO_st hOk (k := 1) (by decide) (zX0_reserveMeal ((zonT Ω) 1) x1 x2).2
  refine kX7_settle hF (cwV 1 hts gX7_reserve_X7_settle rfl rfl rfl hdX7_settle ⟨Nat.le_of_ble_eq_true rfl, Nat.le_of_ble_eq_true rfl⟩) hC hY hJ hOk hS (fun _ h => h) hl.1 (Nat.le_of_ble_eq_true rfl) dX7_reserve_10 ⟨Nat.zero_le _, Nat.zero_le _⟩ (fun H locs hY _ _ hS => ?_)
  exact W.iret (v := (zX7_settle (oS (zonT Ω) 1 (zX0_reserveMeal ((zonT Ω) 1) x1 x2).2) ((zX0_reserveMeal ((zonT Ω) 1) x1 x2).1)).1) hx hb hr (fun t ht hW => ⟨⟨(zX7_settle (oS (zonT Ω) 1 (zX0_reserveMeal ((zonT Ω) 1) x1 x2).2) ((zX0_reserveMeal ((zonT Ω) 1) x1 x2).1)).1, (zX7_settle (oS (zonT Ω) 1 (zX0_reserveMeal ((zonT Ω) 1) x1 x2).2) ((zX0_reserveMeal ((zonT Ω) 1) x1 x2).1)).2, rfl, ⟨rfl, rfl⟩, by dsimp only; rw [ht]; exact hY⟩, hS.F ht⟩) hS.2.2 dX7_reserve_13
set_option maxHeartbeats 4000000 in
set_option maxRecDepth 100000 in
theorem kX7_reserve {p : Program} {l : Launch} {e : Env} {R : Room} {s : State} {m : MethodId} {args : Array Value} {below : List Frame} {meth : Method} {c : Code} {H : Heap} {locs : List Loc} {cells slots : Nat} {Q : State → Prop} {cc : ByteArray} {nL : Nat} {Ts : List Cond} {own : String} {index pc : Nat} {ls : Array Slot} {rest : List Value} {D : va_G} {y : Y3} {ob : Nat → Nat} {AD : Nat → Nat → Nat} {Ω : Og} {x1 : Int32} {x2 : Int32} {A0 : Nat → Prop} {H0 : Heap} (hF : CallFix p m c cc nL s args Ts own) (cw : CallW R s args own RX7 index yX7_reserve cX7_reserve 3 (some .int) wsX7_reserve ({ frames := 4, cells := 0, slots := 0, locals := 86 } : Room) 0 0 2) (hC : CK D y s) (hY : SysH D y ob AD Ω H) (hJ : sysJ ob AD) (hOk : okO Ω) (hS : va_S A0 H0 H locs) (hA : ∀ q, (sysA ob AD) q → A0 q) (hsz : ls.size = nL) (hW : (rest.map fun v => v.category).sum ≤ 8) (hdg : decode cc pc = .ok (.invokevirtual index, 3)) (hf : cells ≤ R.cells ∧ slots ≤ R.slots)
    (k : ∀ (H1 : Heap) (locs1 : List Loc), SysH D y ob AD (zX7_reserve Ω x1 x2).2 H1 → H.size ≤ H1.size → (∀ q : Nat, q < H.size → ¬ (sysA ob AD) q → H1[q]? = H[q]?) → va_S A0 H0 H1 locs1 → W p l e R s m args below meth c H1 locs1 cells slots Q (F0 m (pc + 3) ls (.int ((zX7_reserve Ω x1 x2).1) :: rest))) : W p l e R s m args below meth c H locs cells slots Q (F0 m pc ls (.int x2 :: .int x1 :: .ref (ob 0) :: rest)) := by
  refine va_calli (va_runV (As := [.int x1, .int x2]) (rest := rest) hF (mX7_reserve l D y ob AD Ω x1 x2) cw ⟨fun a U g mk q => by obtain ⟨q0, q1, q2, q3, q4⟩ := q; exact ⟨q0, q1.call g mk a, q2, q3, q4⟩, va_recv hC.1 hY.1 (ci := 7) (q0 := 0) rfl rfl, fun U hU hW => ⟨rfl, hC.warm hW, by rw [hU]; exact hY, hJ, hOk⟩⟩ rfl rfl hsz rfl (lv_room hW) hdg ⟨hf.1, hf.2⟩) hS (fun q _ h => hA q h) hA (fun r u t H1 locs1 ht hvm hp hB hz1 hk1 hS1 => ?_)
  obtain ⟨hp1, hp2⟩ := hp
  subst hp1; subst hp2
  rw [ht] at hB
  exact k H1 locs1 hB hz1 hk1 hS1
def zX7_fetch (Ω : Og) (x1 : Int32) (x2 : Int32) (x3 : Int32) : Int32 × Og := ((zX7_settle (oS (zonT Ω) 1 (zX0_endReservation ((zonT Ω) 1) x1 x2 x3).2) ((zX0_endReservation ((zonT Ω) 1) x1 x2 x3).1)).1, (zX7_settle (oS (zonT Ω) 1 (zX0_endReservation ((zonT Ω) 1) x1 x2 x3).2) ((zX0_endReservation ((zonT Ω) 1) x1 x2 x3).1)).2)
theorem hdX7_fetch : yX7_fetch.cls = RX7 ∧ yX7_fetch.cls ≠ "java/lang/invoke/MethodHandle" ∧ yX7_fetch.cls ≠ "java/lang/invoke/VarHandle" ∧ (parseMethodDescriptor yX7_fetch.desc).map (fun d => d.parameters.length) = some 3 := by decide +kernel
set_option maxHeartbeats 4000000 in
set_option maxRecDepth 100000 in
theorem mX7_fetch (l : Launch) (D : va_G) (y : Y3) (ob : Nat → Nat) (AD : Nat → Nat → Nat) (Ω : Og) (x1 : Int32) (x2 : Int32) (x3 : Int32) : Met l yX7_fetch wsX7_fetch ({ frames := 4, cells := 0, slots := 0, locals := 86 } : Room) (va_Pc [.ref (ob 0), .int x1, .int x2, .int x3] (fun U => CK D y U ∧ SysH D y ob AD Ω U.heap ∧ sysJ ob AD ∧ okO Ω)) (va_Qi (fun (r : Int32) (u : Og) => r = (zX7_fetch Ω x1 x2 x3).1 ∧ u = (zX7_fetch Ω x1 x2 x3).2) (fun u t => SysH D y ob AD u t.heap) (sysA ob AD)) 0 0 (sysA ob AD) := by
  refine Met.ofW (cc := cX7_fetch) (maxL := 4) (ret := (some .int)) (by decide) rfl ?_
  intro p e s m args below meth c s₁ B hml hv
  obtain ⟨rfl, hC, hY, hJ, hOk⟩ := hv
  have hx := B.exec
  have hb := B.bytes
  have hr := B.returns
  have hts := atoms_spec (ws := wsX7_fetch) B.pre
  have hown : s.vm.findClass RX7 = some m.cls := findClass_of_methodNamed B.named
  have hlocks := B.notSynchronized
  have hF := (⟨hx, hb, hml, hown, hts⟩ : CallFix p m c cX7_fetch 4 s _ wsX7_fetch RX7)
  have hS : va_S (sysA ob AD) s.heap s.heap [] := va_S.rf
  have hl := lv_entry ([.ref (ob 0), .int x1, .int x2, .int x3]) (n := 4) (Nat.le_of_ble_eq_true rfl)
  rw [lg_entry_eq]
  generalize (lg_sl ([.ref (ob 0), .int x1, .int x2, .int x3]) ++ List.replicate (4 - (lg_sl ([.ref (ob 0), .int x1, .int x2, .int x3])).length) Slot.unset).toArray = ls at hl ⊢
  have hl : lv_has ls 4 [(0, .ref (ob 0)), (1, .int x1), (2, .int x2), (3, .int x3)] := hl
  refine lv_aload_n hx hb dX7_fetch_0 rfl (lv_at hl 0 rfl) ?_
  refine lv_aload_n hx hb dX7_fetch_1 rfl (lv_at hl 0 rfl) ?_
  refine kX7_onTrial hF (cwV 0 hts gX7_fetch_X7_onTrial rfl rfl rfl hdX7_onTrial ⟨Nat.le_of_ble_eq_true rfl, Nat.le_of_ble_eq_true rfl⟩) hC hY hJ hOk hS (fun _ h => h) hl.1 (Nat.le_of_ble_eq_true rfl) dX7_fetch_2 ⟨Nat.zero_le _, Nat.zero_le _⟩ (fun H locs hY _ _ hS => ?_)
  have hOk : okO (zonT Ω) := okO_st hOk (by decide) _
  refine lv_iload_n hx hb dX7_fetch_5 rfl (lv_at hl 1 rfl) ?_
  refine lv_iload_n hx hb dX7_fetch_6 rfl (lv_at hl 2 rfl) ?_
  refine lv_iload_n hx hb dX7_fetch_7 rfl (lv_at hl 3 rfl) ?_
  refine kX0_endReservation hF (cwV 3 hts gX7_fetch_X0_endReservation rfl rfl rfl hdX0_endReservation ⟨Nat.le_of_ble_eq_true rfl, Nat.le_of_ble_eq_true rfl⟩) hC hY.2.1 (hY.2.2.2.2.2.2 1 (by decide)) (hJ.1.one (by decide)) (fun k hk => hJ.2.2 1 k 1 (by decide) hk (by decide)) hS (sysA_st (by decide)) hl.1 (Nat.le_of_ble_eq_true rfl) dX7_fetch_8 ⟨Nat.zero_le _, Nat.zero_le _⟩ (fun H locs hSt _ hk hS => ?_)
  have hY := Sys.st hY hJ 1 (by decide) hSt hk
  have hOk := okO_st hOk (k := 1) (by decide) (zX0_endReservation ((zonT Ω) 1) x1 x2 x3).2
  refine kX7_settle hF (cwV 1 hts gX7_fetch_X7_settle rfl rfl rfl hdX7_settle ⟨Nat.le_of_ble_eq_true rfl, Nat.le_of_ble_eq_true rfl⟩) hC hY hJ hOk hS (fun _ h => h) hl.1 (Nat.le_of_ble_eq_true rfl) dX7_fetch_11 ⟨Nat.zero_le _, Nat.zero_le _⟩ (fun H locs hY _ _ hS => ?_)
  exact W.iret (v := (zX7_settle (oS (zonT Ω) 1 (zX0_endReservation ((zonT Ω) 1) x1 x2 x3).2) ((zX0_endReservation ((zonT Ω) 1) x1 x2 x3).1)).1) hx hb hr (fun t ht hW => ⟨⟨(zX7_settle (oS (zonT Ω) 1 (zX0_endReservation ((zonT Ω) 1) x1 x2 x3).2) ((zX0_endReservation ((zonT Ω) 1) x1 x2 x3).1)).1, (zX7_settle (oS (zonT Ω) 1 (zX0_endReservation ((zonT Ω) 1) x1 x2 x3).2) ((zX0_endReservation ((zonT Ω) 1) x1 x2 x3).1)).2, rfl, ⟨rfl, rfl⟩, by dsimp only; rw [ht]; exact hY⟩, hS.F ht⟩) hS.2.2 dX7_fetch_14
set_option maxHeartbeats 4000000 in
set_option maxRecDepth 100000 in
theorem kX7_fetch {p : Program} {l : Launch} {e : Env} {R : Room} {s : State} {m : MethodId} {args : Array Value} {below : List Frame} {meth : Method} {c : Code} {H : Heap} {locs : List Loc} {cells slots : Nat} {Q : State → Prop} {cc : ByteArray} {nL : Nat} {Ts : List Cond} {own : String} {index pc : Nat} {ls : Array Slot} {rest : List Value} {D : va_G} {y : Y3} {ob : Nat → Nat} {AD : Nat → Nat → Nat} {Ω : Og} {x1 : Int32} {x2 : Int32} {x3 : Int32} {A0 : Nat → Prop} {H0 : Heap} (hF : CallFix p m c cc nL s args Ts own) (cw : CallW R s args own RX7 index yX7_fetch cX7_fetch 4 (some .int) wsX7_fetch ({ frames := 4, cells := 0, slots := 0, locals := 86 } : Room) 0 0 3) (hC : CK D y s) (hY : SysH D y ob AD Ω H) (hJ : sysJ ob AD) (hOk : okO Ω) (hS : va_S A0 H0 H locs) (hA : ∀ q, (sysA ob AD) q → A0 q) (hsz : ls.size = nL) (hW : (rest.map fun v => v.category).sum ≤ 8) (hdg : decode cc pc = .ok (.invokevirtual index, 3)) (hf : cells ≤ R.cells ∧ slots ≤ R.slots)
    (k : ∀ (H1 : Heap) (locs1 : List Loc), SysH D y ob AD (zX7_fetch Ω x1 x2 x3).2 H1 → H.size ≤ H1.size → (∀ q : Nat, q < H.size → ¬ (sysA ob AD) q → H1[q]? = H[q]?) → va_S A0 H0 H1 locs1 → W p l e R s m args below meth c H1 locs1 cells slots Q (F0 m (pc + 3) ls (.int ((zX7_fetch Ω x1 x2 x3).1) :: rest))) : W p l e R s m args below meth c H locs cells slots Q (F0 m pc ls (.int x3 :: .int x2 :: .int x1 :: .ref (ob 0) :: rest)) := by
  refine va_calli (va_runV (As := [.int x1, .int x2, .int x3]) (rest := rest) hF (mX7_fetch l D y ob AD Ω x1 x2 x3) cw ⟨fun a U g mk q => by obtain ⟨q0, q1, q2, q3, q4⟩ := q; exact ⟨q0, q1.call g mk a, q2, q3, q4⟩, va_recv hC.1 hY.1 (ci := 7) (q0 := 0) rfl rfl, fun U hU hW => ⟨rfl, hC.warm hW, by rw [hU]; exact hY, hJ, hOk⟩⟩ rfl rfl hsz rfl (lv_room hW) hdg ⟨hf.1, hf.2⟩) hS (fun q _ h => hA q h) hA (fun r u t H1 locs1 ht hvm hp hB hz1 hk1 hS1 => ?_)
  obtain ⟨hp1, hp2⟩ := hp
  subst hp1; subst hp2
  rw [ht] at hB
  exact k H1 locs1 hB hz1 hk1 hS1
def zX7_take (Ω : Og) (x1 : Int32) (x2 : Int32) : Int32 × Og := ((zX7_settle (oS (zonT Ω) 1 (zX0_takeMeal ((zonT Ω) 1) x1 x2).2) ((zX0_takeMeal ((zonT Ω) 1) x1 x2).1)).1, (zX7_settle (oS (zonT Ω) 1 (zX0_takeMeal ((zonT Ω) 1) x1 x2).2) ((zX0_takeMeal ((zonT Ω) 1) x1 x2).1)).2)
theorem hdX7_take : yX7_take.cls = RX7 ∧ yX7_take.cls ≠ "java/lang/invoke/MethodHandle" ∧ yX7_take.cls ≠ "java/lang/invoke/VarHandle" ∧ (parseMethodDescriptor yX7_take.desc).map (fun d => d.parameters.length) = some 2 := by decide +kernel
set_option maxHeartbeats 4000000 in
set_option maxRecDepth 100000 in
theorem mX7_take (l : Launch) (D : va_G) (y : Y3) (ob : Nat → Nat) (AD : Nat → Nat → Nat) (Ω : Og) (x1 : Int32) (x2 : Int32) : Met l yX7_take wsX7_take ({ frames := 4, cells := 0, slots := 0, locals := 86 } : Room) (va_Pc [.ref (ob 0), .int x1, .int x2] (fun U => CK D y U ∧ SysH D y ob AD Ω U.heap ∧ sysJ ob AD ∧ okO Ω)) (va_Qi (fun (r : Int32) (u : Og) => r = (zX7_take Ω x1 x2).1 ∧ u = (zX7_take Ω x1 x2).2) (fun u t => SysH D y ob AD u t.heap) (sysA ob AD)) 0 0 (sysA ob AD) := by
  refine Met.ofW (cc := cX7_take) (maxL := 3) (ret := (some .int)) (by decide) rfl ?_
  intro p e s m args below meth c s₁ B hml hv
  obtain ⟨rfl, hC, hY, hJ, hOk⟩ := hv
  have hx := B.exec
  have hb := B.bytes
  have hr := B.returns
  have hts := atoms_spec (ws := wsX7_take) B.pre
  have hown : s.vm.findClass RX7 = some m.cls := findClass_of_methodNamed B.named
  have hlocks := B.notSynchronized
  have hF := (⟨hx, hb, hml, hown, hts⟩ : CallFix p m c cX7_take 3 s _ wsX7_take RX7)
  have hS : va_S (sysA ob AD) s.heap s.heap [] := va_S.rf
  have hl := lv_entry ([.ref (ob 0), .int x1, .int x2]) (n := 3) (Nat.le_of_ble_eq_true rfl)
  rw [lg_entry_eq]
  generalize (lg_sl ([.ref (ob 0), .int x1, .int x2]) ++ List.replicate (3 - (lg_sl ([.ref (ob 0), .int x1, .int x2])).length) Slot.unset).toArray = ls at hl ⊢
  have hl : lv_has ls 3 [(0, .ref (ob 0)), (1, .int x1), (2, .int x2)] := hl
  refine lv_aload_n hx hb dX7_take_0 rfl (lv_at hl 0 rfl) ?_
  refine lv_aload_n hx hb dX7_take_1 rfl (lv_at hl 0 rfl) ?_
  refine kX7_onTrial hF (cwV 0 hts gX7_take_X7_onTrial rfl rfl rfl hdX7_onTrial ⟨Nat.le_of_ble_eq_true rfl, Nat.le_of_ble_eq_true rfl⟩) hC hY hJ hOk hS (fun _ h => h) hl.1 (Nat.le_of_ble_eq_true rfl) dX7_take_2 ⟨Nat.zero_le _, Nat.zero_le _⟩ (fun H locs hY _ _ hS => ?_)
  have hOk : okO (zonT Ω) := okO_st hOk (by decide) _
  refine lv_iload_n hx hb dX7_take_5 rfl (lv_at hl 1 rfl) ?_
  refine lv_iload_n hx hb dX7_take_6 rfl (lv_at hl 2 rfl) ?_
  refine kX0_takeMeal hF (cwV 2 hts gX7_take_X0_takeMeal rfl rfl rfl hdX0_takeMeal ⟨Nat.le_of_ble_eq_true rfl, Nat.le_of_ble_eq_true rfl⟩) hC hY.2.1 (hY.2.2.2.2.2.2 1 (by decide)) (hJ.1.one (by decide)) (fun k hk => hJ.2.2 1 k 1 (by decide) hk (by decide)) hS (sysA_st (by decide)) hl.1 (Nat.le_of_ble_eq_true rfl) dX7_take_7 ⟨Nat.zero_le _, Nat.zero_le _⟩ (fun H locs hSt _ hk hS => ?_)
  have hY := Sys.st hY hJ 1 (by decide) hSt hk
  have hOk := okO_st hOk (k := 1) (by decide) (zX0_takeMeal ((zonT Ω) 1) x1 x2).2
  refine kX7_settle hF (cwV 1 hts gX7_take_X7_settle rfl rfl rfl hdX7_settle ⟨Nat.le_of_ble_eq_true rfl, Nat.le_of_ble_eq_true rfl⟩) hC hY hJ hOk hS (fun _ h => h) hl.1 (Nat.le_of_ble_eq_true rfl) dX7_take_10 ⟨Nat.zero_le _, Nat.zero_le _⟩ (fun H locs hY _ _ hS => ?_)
  exact W.iret (v := (zX7_settle (oS (zonT Ω) 1 (zX0_takeMeal ((zonT Ω) 1) x1 x2).2) ((zX0_takeMeal ((zonT Ω) 1) x1 x2).1)).1) hx hb hr (fun t ht hW => ⟨⟨(zX7_settle (oS (zonT Ω) 1 (zX0_takeMeal ((zonT Ω) 1) x1 x2).2) ((zX0_takeMeal ((zonT Ω) 1) x1 x2).1)).1, (zX7_settle (oS (zonT Ω) 1 (zX0_takeMeal ((zonT Ω) 1) x1 x2).2) ((zX0_takeMeal ((zonT Ω) 1) x1 x2).1)).2, rfl, ⟨rfl, rfl⟩, by dsimp only; rw [ht]; exact hY⟩, hS.F ht⟩) hS.2.2 dX7_take_13
set_option maxHeartbeats 4000000 in
set_option maxRecDepth 100000 in
theorem kX7_take {p : Program} {l : Launch} {e : Env} {R : Room} {s : State} {m : MethodId} {args : Array Value} {below : List Frame} {meth : Method} {c : Code} {H : Heap} {locs : List Loc} {cells slots : Nat} {Q : State → Prop} {cc : ByteArray} {nL : Nat} {Ts : List Cond} {own : String} {index pc : Nat} {ls : Array Slot} {rest : List Value} {D : va_G} {y : Y3} {ob : Nat → Nat} {AD : Nat → Nat → Nat} {Ω : Og} {x1 : Int32} {x2 : Int32} {A0 : Nat → Prop} {H0 : Heap} (hF : CallFix p m c cc nL s args Ts own) (cw : CallW R s args own RX7 index yX7_take cX7_take 3 (some .int) wsX7_take ({ frames := 4, cells := 0, slots := 0, locals := 86 } : Room) 0 0 2) (hC : CK D y s) (hY : SysH D y ob AD Ω H) (hJ : sysJ ob AD) (hOk : okO Ω) (hS : va_S A0 H0 H locs) (hA : ∀ q, (sysA ob AD) q → A0 q) (hsz : ls.size = nL) (hW : (rest.map fun v => v.category).sum ≤ 8) (hdg : decode cc pc = .ok (.invokevirtual index, 3)) (hf : cells ≤ R.cells ∧ slots ≤ R.slots)
    (k : ∀ (H1 : Heap) (locs1 : List Loc), SysH D y ob AD (zX7_take Ω x1 x2).2 H1 → H.size ≤ H1.size → (∀ q : Nat, q < H.size → ¬ (sysA ob AD) q → H1[q]? = H[q]?) → va_S A0 H0 H1 locs1 → W p l e R s m args below meth c H1 locs1 cells slots Q (F0 m (pc + 3) ls (.int ((zX7_take Ω x1 x2).1) :: rest))) : W p l e R s m args below meth c H locs cells slots Q (F0 m pc ls (.int x2 :: .int x1 :: .ref (ob 0) :: rest)) := by
  refine va_calli (va_runV (As := [.int x1, .int x2]) (rest := rest) hF (mX7_take l D y ob AD Ω x1 x2) cw ⟨fun a U g mk q => by obtain ⟨q0, q1, q2, q3, q4⟩ := q; exact ⟨q0, q1.call g mk a, q2, q3, q4⟩, va_recv hC.1 hY.1 (ci := 7) (q0 := 0) rfl rfl, fun U hU hW => ⟨rfl, hC.warm hW, by rw [hU]; exact hY, hJ, hOk⟩⟩ rfl rfl hsz rfl (lv_room hW) hdg ⟨hf.1, hf.2⟩) hS (fun q _ h => hA q h) hA (fun r u t H1 locs1 ht hvm hp hB hz1 hk1 hS1 => ?_)
  obtain ⟨hp1, hp2⟩ := hp
  subst hp1; subst hp2
  rw [ht] at hB
  exact k H1 locs1 hB hz1 hk1 hS1
def zX7_go (Ω : Og) (x1 : Int32) (x2 : Int32) : Int32 × Og := ((zX7_settle (oS (zonT Ω) 1 (zX0_sendVolunteer ((zonT Ω) 1) x1 x2).2) ((zX0_sendVolunteer ((zonT Ω) 1) x1 x2).1)).1, (zX7_settle (oS (zonT Ω) 1 (zX0_sendVolunteer ((zonT Ω) 1) x1 x2).2) ((zX0_sendVolunteer ((zonT Ω) 1) x1 x2).1)).2)
theorem hdX7_go : yX7_go.cls = RX7 ∧ yX7_go.cls ≠ "java/lang/invoke/MethodHandle" ∧ yX7_go.cls ≠ "java/lang/invoke/VarHandle" ∧ (parseMethodDescriptor yX7_go.desc).map (fun d => d.parameters.length) = some 2 := by decide +kernel
set_option maxHeartbeats 4000000 in
set_option maxRecDepth 100000 in
theorem mX7_go (l : Launch) (D : va_G) (y : Y3) (ob : Nat → Nat) (AD : Nat → Nat → Nat) (Ω : Og) (x1 : Int32) (x2 : Int32) : Met l yX7_go wsX7_go ({ frames := 4, cells := 0, slots := 0, locals := 90 } : Room) (va_Pc [.ref (ob 0), .int x1, .int x2] (fun U => CK D y U ∧ SysH D y ob AD Ω U.heap ∧ sysJ ob AD ∧ okO Ω)) (va_Qi (fun (r : Int32) (u : Og) => r = (zX7_go Ω x1 x2).1 ∧ u = (zX7_go Ω x1 x2).2) (fun u t => SysH D y ob AD u t.heap) (sysA ob AD)) 0 0 (sysA ob AD) := by
  refine Met.ofW (cc := cX7_go) (maxL := 3) (ret := (some .int)) (by decide) rfl ?_
  intro p e s m args below meth c s₁ B hml hv
  obtain ⟨rfl, hC, hY, hJ, hOk⟩ := hv
  have hx := B.exec
  have hb := B.bytes
  have hr := B.returns
  have hts := atoms_spec (ws := wsX7_go) B.pre
  have hown : s.vm.findClass RX7 = some m.cls := findClass_of_methodNamed B.named
  have hlocks := B.notSynchronized
  have hF := (⟨hx, hb, hml, hown, hts⟩ : CallFix p m c cX7_go 3 s _ wsX7_go RX7)
  have hS : va_S (sysA ob AD) s.heap s.heap [] := va_S.rf
  have hl := lv_entry ([.ref (ob 0), .int x1, .int x2]) (n := 3) (Nat.le_of_ble_eq_true rfl)
  rw [lg_entry_eq]
  generalize (lg_sl ([.ref (ob 0), .int x1, .int x2]) ++ List.replicate (3 - (lg_sl ([.ref (ob 0), .int x1, .int x2])).length) Slot.unset).toArray = ls at hl ⊢
  have hl : lv_has ls 3 [(0, .ref (ob 0)), (1, .int x1), (2, .int x2)] := hl
  refine lv_aload_n hx hb dX7_go_0 rfl (lv_at hl 0 rfl) ?_
  refine lv_aload_n hx hb dX7_go_1 rfl (lv_at hl 0 rfl) ?_
  refine kX7_onTrial hF (cwV 0 hts gX7_go_X7_onTrial rfl rfl rfl hdX7_onTrial ⟨Nat.le_of_ble_eq_true rfl, Nat.le_of_ble_eq_true rfl⟩) hC hY hJ hOk hS (fun _ h => h) hl.1 (Nat.le_of_ble_eq_true rfl) dX7_go_2 ⟨Nat.zero_le _, Nat.zero_le _⟩ (fun H locs hY _ _ hS => ?_)
  have hOk : okO (zonT Ω) := okO_st hOk (by decide) _
  refine lv_iload_n hx hb dX7_go_5 rfl (lv_at hl 1 rfl) ?_
  refine lv_iload_n hx hb dX7_go_6 rfl (lv_at hl 2 rfl) ?_
  refine kX0_sendVolunteer hF (cwV 2 hts gX7_go_X0_sendVolunteer rfl rfl rfl hdX0_sendVolunteer ⟨Nat.le_of_ble_eq_true rfl, Nat.le_of_ble_eq_true rfl⟩) hC hY.2.1 (hY.2.2.2.2.2.2 1 (by decide)) (hJ.1.one (by decide)) (fun k hk => hJ.2.2 1 k 1 (by decide) hk (by decide)) hS (sysA_st (by decide)) hl.1 (Nat.le_of_ble_eq_true rfl) dX7_go_7 ⟨Nat.zero_le _, Nat.zero_le _⟩ (fun H locs hSt _ hk hS => ?_)
  have hY := Sys.st hY hJ 1 (by decide) hSt hk
  have hOk := okO_st hOk (k := 1) (by decide) (zX0_sendVolunteer ((zonT Ω) 1) x1 x2).2
  refine kX7_settle hF (cwV 1 hts gX7_go_X7_settle rfl rfl rfl hdX7_settle ⟨Nat.le_of_ble_eq_true rfl, Nat.le_of_ble_eq_true rfl⟩) hC hY hJ hOk hS (fun _ h => h) hl.1 (Nat.le_of_ble_eq_true rfl) dX7_go_10 ⟨Nat.zero_le _, Nat.zero_le _⟩ (fun H locs hY _ _ hS => ?_)
  exact W.iret (v := (zX7_settle (oS (zonT Ω) 1 (zX0_sendVolunteer ((zonT Ω) 1) x1 x2).2) ((zX0_sendVolunteer ((zonT Ω) 1) x1 x2).1)).1) hx hb hr (fun t ht hW => ⟨⟨(zX7_settle (oS (zonT Ω) 1 (zX0_sendVolunteer ((zonT Ω) 1) x1 x2).2) ((zX0_sendVolunteer ((zonT Ω) 1) x1 x2).1)).1, (zX7_settle (oS (zonT Ω) 1 (zX0_sendVolunteer ((zonT Ω) 1) x1 x2).2) ((zX0_sendVolunteer ((zonT Ω) 1) x1 x2).1)).2, rfl, ⟨rfl, rfl⟩, by dsimp only; rw [ht]; exact hY⟩, hS.F ht⟩) hS.2.2 dX7_go_13
set_option maxHeartbeats 4000000 in
set_option maxRecDepth 100000 in
theorem kX7_go {p : Program} {l : Launch} {e : Env} {R : Room} {s : State} {m : MethodId} {args : Array Value} {below : List Frame} {meth : Method} {c : Code} {H : Heap} {locs : List Loc} {cells slots : Nat} {Q : State → Prop} {cc : ByteArray} {nL : Nat} {Ts : List Cond} {own : String} {index pc : Nat} {ls : Array Slot} {rest : List Value} {D : va_G} {y : Y3} {ob : Nat → Nat} {AD : Nat → Nat → Nat} {Ω : Og} {x1 : Int32} {x2 : Int32} {A0 : Nat → Prop} {H0 : Heap} (hF : CallFix p m c cc nL s args Ts own) (cw : CallW R s args own RX7 index yX7_go cX7_go 3 (some .int) wsX7_go ({ frames := 4, cells := 0, slots := 0, locals := 90 } : Room) 0 0 2) (hC : CK D y s) (hY : SysH D y ob AD Ω H) (hJ : sysJ ob AD) (hOk : okO Ω) (hS : va_S A0 H0 H locs) (hA : ∀ q, (sysA ob AD) q → A0 q) (hsz : ls.size = nL) (hW : (rest.map fun v => v.category).sum ≤ 8) (hdg : decode cc pc = .ok (.invokevirtual index, 3)) (hf : cells ≤ R.cells ∧ slots ≤ R.slots)
    (k : ∀ (H1 : Heap) (locs1 : List Loc), SysH D y ob AD (zX7_go Ω x1 x2).2 H1 → H.size ≤ H1.size → (∀ q : Nat, q < H.size → ¬ (sysA ob AD) q → H1[q]? = H[q]?) → va_S A0 H0 H1 locs1 → W p l e R s m args below meth c H1 locs1 cells slots Q (F0 m (pc + 3) ls (.int ((zX7_go Ω x1 x2).1) :: rest))) : W p l e R s m args below meth c H locs cells slots Q (F0 m pc ls (.int x2 :: .int x1 :: .ref (ob 0) :: rest)) := by
  refine va_calli (va_runV (As := [.int x1, .int x2]) (rest := rest) hF (mX7_go l D y ob AD Ω x1 x2) cw ⟨fun a U g mk q => by obtain ⟨q0, q1, q2, q3, q4⟩ := q; exact ⟨q0, q1.call g mk a, q2, q3, q4⟩, va_recv hC.1 hY.1 (ci := 7) (q0 := 0) rfl rfl, fun U hU hW => ⟨rfl, hC.warm hW, by rw [hU]; exact hY, hJ, hOk⟩⟩ rfl rfl hsz rfl (lv_room hW) hdg ⟨hf.1, hf.2⟩) hS (fun q _ h => hA q h) hA (fun r u t H1 locs1 ht hvm hp hB hz1 hk1 hS1 => ?_)
  obtain ⟨hp1, hp2⟩ := hp
  subst hp1; subst hp2
  rw [ht] at hB
  exact k H1 locs1 hB hz1 hk1 hS1
def zX7_put (Ω : Og) (x1 : Int32) : Int32 × Og := ((zX7_settle (oS (zonT Ω) 1 (zX0_putMealsIn ((zonT Ω) 1) x1).2) ((zX0_putMealsIn ((zonT Ω) 1) x1).1)).1, (zX7_settle (oS (zonT Ω) 1 (zX0_putMealsIn ((zonT Ω) 1) x1).2) ((zX0_putMealsIn ((zonT Ω) 1) x1).1)).2)
theorem hdX7_put : yX7_put.cls = RX7 ∧ yX7_put.cls ≠ "java/lang/invoke/MethodHandle" ∧ yX7_put.cls ≠ "java/lang/invoke/VarHandle" ∧ (parseMethodDescriptor yX7_put.desc).map (fun d => d.parameters.length) = some 1 := by decide +kernel
set_option maxHeartbeats 4000000 in
set_option maxRecDepth 100000 in
theorem mX7_put (l : Launch) (D : va_G) (y : Y3) (ob : Nat → Nat) (AD : Nat → Nat → Nat) (Ω : Og) (x1 : Int32) : Met l yX7_put wsX7_put ({ frames := 5, cells := 0, slots := 0, locals := 114 } : Room) (va_Pc [.ref (ob 0), .int x1] (fun U => CK D y U ∧ SysH D y ob AD Ω U.heap ∧ sysJ ob AD ∧ okO Ω)) (va_Qi (fun (r : Int32) (u : Og) => r = (zX7_put Ω x1).1 ∧ u = (zX7_put Ω x1).2) (fun u t => SysH D y ob AD u t.heap) (sysA ob AD)) 0 0 (sysA ob AD) := by
  refine Met.ofW (cc := cX7_put) (maxL := 2) (ret := (some .int)) (by decide) rfl ?_
  intro p e s m args below meth c s₁ B hml hv
  obtain ⟨rfl, hC, hY, hJ, hOk⟩ := hv
  have hx := B.exec
  have hb := B.bytes
  have hr := B.returns
  have hts := atoms_spec (ws := wsX7_put) B.pre
  have hown : s.vm.findClass RX7 = some m.cls := findClass_of_methodNamed B.named
  have hlocks := B.notSynchronized
  have hF := (⟨hx, hb, hml, hown, hts⟩ : CallFix p m c cX7_put 2 s _ wsX7_put RX7)
  have hS : va_S (sysA ob AD) s.heap s.heap [] := va_S.rf
  have hl := lv_entry ([.ref (ob 0), .int x1]) (n := 2) (Nat.le_of_ble_eq_true rfl)
  rw [lg_entry_eq]
  generalize (lg_sl ([.ref (ob 0), .int x1]) ++ List.replicate (2 - (lg_sl ([.ref (ob 0), .int x1])).length) Slot.unset).toArray = ls at hl ⊢
  have hl : lv_has ls 2 [(0, .ref (ob 0)), (1, .int x1)] := hl
  refine lv_aload_n hx hb dX7_put_0 rfl (lv_at hl 0 rfl) ?_
  refine lv_aload_n hx hb dX7_put_1 rfl (lv_at hl 0 rfl) ?_
  refine kX7_onTrial hF (cwV 0 hts gX7_put_X7_onTrial rfl rfl rfl hdX7_onTrial ⟨Nat.le_of_ble_eq_true rfl, Nat.le_of_ble_eq_true rfl⟩) hC hY hJ hOk hS (fun _ h => h) hl.1 (Nat.le_of_ble_eq_true rfl) dX7_put_2 ⟨Nat.zero_le _, Nat.zero_le _⟩ (fun H locs hY _ _ hS => ?_)
  have hOk : okO (zonT Ω) := okO_st hOk (by decide) _
  refine lv_iload_n hx hb dX7_put_5 rfl (lv_at hl 1 rfl) ?_
  refine kX0_putMealsIn hF (cwV 1 hts gX7_put_X0_putMealsIn rfl rfl rfl hdX0_putMealsIn ⟨Nat.le_of_ble_eq_true rfl, Nat.le_of_ble_eq_true rfl⟩) hC hY.2.1 (hY.2.2.2.2.2.2 1 (by decide)) (hJ.1.one (by decide)) (fun k hk => hJ.2.2 1 k 1 (by decide) hk (by decide)) hS (sysA_st (by decide)) hl.1 (Nat.le_of_ble_eq_true rfl) dX7_put_6 ⟨Nat.zero_le _, Nat.zero_le _⟩ (fun H locs hSt _ hk hS => ?_)
  have hY := Sys.st hY hJ 1 (by decide) hSt hk
  have hOk := okO_st hOk (k := 1) (by decide) (zX0_putMealsIn ((zonT Ω) 1) x1).2
  refine kX7_settle hF (cwV 1 hts gX7_put_X7_settle rfl rfl rfl hdX7_settle ⟨Nat.le_of_ble_eq_true rfl, Nat.le_of_ble_eq_true rfl⟩) hC hY hJ hOk hS (fun _ h => h) hl.1 (Nat.le_of_ble_eq_true rfl) dX7_put_9 ⟨Nat.zero_le _, Nat.zero_le _⟩ (fun H locs hY _ _ hS => ?_)
  exact W.iret (v := (zX7_settle (oS (zonT Ω) 1 (zX0_putMealsIn ((zonT Ω) 1) x1).2) ((zX0_putMealsIn ((zonT Ω) 1) x1).1)).1) hx hb hr (fun t ht hW => ⟨⟨(zX7_settle (oS (zonT Ω) 1 (zX0_putMealsIn ((zonT Ω) 1) x1).2) ((zX0_putMealsIn ((zonT Ω) 1) x1).1)).1, (zX7_settle (oS (zonT Ω) 1 (zX0_putMealsIn ((zonT Ω) 1) x1).2) ((zX0_putMealsIn ((zonT Ω) 1) x1).1)).2, rfl, ⟨rfl, rfl⟩, by dsimp only; rw [ht]; exact hY⟩, hS.F ht⟩) hS.2.2 dX7_put_12
set_option maxHeartbeats 4000000 in
set_option maxRecDepth 100000 in
theorem kX7_put {p : Program} {l : Launch} {e : Env} {R : Room} {s : State} {m : MethodId} {args : Array Value} {below : List Frame} {meth : Method} {c : Code} {H : Heap} {locs : List Loc} {cells slots : Nat} {Q : State → Prop} {cc : ByteArray} {nL : Nat} {Ts : List Cond} {own : String} {index pc : Nat} {ls : Array Slot} {rest : List Value} {D : va_G} {y : Y3} {ob : Nat → Nat} {AD : Nat → Nat → Nat} {Ω : Og} {x1 : Int32} {A0 : Nat → Prop} {H0 : Heap} (hF : CallFix p m c cc nL s args Ts own) (cw : CallW R s args own RX7 index yX7_put cX7_put 2 (some .int) wsX7_put ({ frames := 5, cells := 0, slots := 0, locals := 114 } : Room) 0 0 1) (hC : CK D y s) (hY : SysH D y ob AD Ω H) (hJ : sysJ ob AD) (hOk : okO Ω) (hS : va_S A0 H0 H locs) (hA : ∀ q, (sysA ob AD) q → A0 q) (hsz : ls.size = nL) (hW : (rest.map fun v => v.category).sum ≤ 8) (hdg : decode cc pc = .ok (.invokevirtual index, 3)) (hf : cells ≤ R.cells ∧ slots ≤ R.slots)
    (k : ∀ (H1 : Heap) (locs1 : List Loc), SysH D y ob AD (zX7_put Ω x1).2 H1 → H.size ≤ H1.size → (∀ q : Nat, q < H.size → ¬ (sysA ob AD) q → H1[q]? = H[q]?) → va_S A0 H0 H1 locs1 → W p l e R s m args below meth c H1 locs1 cells slots Q (F0 m (pc + 3) ls (.int ((zX7_put Ω x1).1) :: rest))) : W p l e R s m args below meth c H locs cells slots Q (F0 m pc ls (.int x1 :: .ref (ob 0) :: rest)) := by
  refine va_calli (va_runV (As := [.int x1]) (rest := rest) hF (mX7_put l D y ob AD Ω x1) cw ⟨fun a U g mk q => by obtain ⟨q0, q1, q2, q3, q4⟩ := q; exact ⟨q0, q1.call g mk a, q2, q3, q4⟩, va_recv hC.1 hY.1 (ci := 7) (q0 := 0) rfl rfl, fun U hU hW => ⟨rfl, hC.warm hW, by rw [hU]; exact hY, hJ, hOk⟩⟩ rfl rfl hsz rfl (lv_room hW) hdg ⟨hf.1, hf.2⟩) hS (fun q _ h => hA q h) hA (fun r u t H1 locs1 ht hvm hp hB hz1 hk1 hS1 => ?_)
  obtain ⟨hp1, hp2⟩ := hp
  subst hp1; subst hp2
  rw [ht] at hB
  exact k H1 locs1 hB hz1 hk1 hS1
def zX7_pass (Ω : Og) (x1 : Int32) : Int32 × Og := ((zX7_settle (oS (zonT Ω) 1 (zX0_passHours ((zonT Ω) 1) x1 5000).2) ((zX0_passHours ((zonT Ω) 1) x1 5000).1)).1, (zX7_settle (oS (zonT Ω) 1 (zX0_passHours ((zonT Ω) 1) x1 5000).2) ((zX0_passHours ((zonT Ω) 1) x1 5000).1)).2)
theorem hdX7_pass : yX7_pass.cls = RX7 ∧ yX7_pass.cls ≠ "java/lang/invoke/MethodHandle" ∧ yX7_pass.cls ≠ "java/lang/invoke/VarHandle" ∧ (parseMethodDescriptor yX7_pass.desc).map (fun d => d.parameters.length) = some 1 := by decide +kernel
set_option maxHeartbeats 4000000 in
set_option maxRecDepth 100000 in
theorem mX7_pass (l : Launch) (D : va_G) (y : Y3) (ob : Nat → Nat) (AD : Nat → Nat → Nat) (Ω : Og) (x1 : Int32) : Met l yX7_pass wsX7_pass ({ frames := 5, cells := 0, slots := 0, locals := 117 } : Room) (va_Pc [.ref (ob 0), .int x1] (fun U => CK D y U ∧ SysH D y ob AD Ω U.heap ∧ sysJ ob AD ∧ okO Ω)) (va_Qi (fun (r : Int32) (u : Og) => r = (zX7_pass Ω x1).1 ∧ u = (zX7_pass Ω x1).2) (fun u t => SysH D y ob AD u t.heap) (sysA ob AD)) 0 0 (sysA ob AD) := by
  refine Met.ofW (cc := cX7_pass) (maxL := 2) (ret := (some .int)) (by decide) rfl ?_
  intro p e s m args below meth c s₁ B hml hv
  obtain ⟨rfl, hC, hY, hJ, hOk⟩ := hv
  have hx := B.exec
  have hb := B.bytes
  have hr := B.returns
  have hts := atoms_spec (ws := wsX7_pass) B.pre
  have hown : s.vm.findClass RX7 = some m.cls := findClass_of_methodNamed B.named
  have hlocks := B.notSynchronized
  have hF := (⟨hx, hb, hml, hown, hts⟩ : CallFix p m c cX7_pass 2 s _ wsX7_pass RX7)
  have hS : va_S (sysA ob AD) s.heap s.heap [] := va_S.rf
  have hl := lv_entry ([.ref (ob 0), .int x1]) (n := 2) (Nat.le_of_ble_eq_true rfl)
  rw [lg_entry_eq]
  generalize (lg_sl ([.ref (ob 0), .int x1]) ++ List.replicate (2 - (lg_sl ([.ref (ob 0), .int x1])).length) Slot.unset).toArray = ls at hl ⊢
  have hl : lv_has ls 2 [(0, .ref (ob 0)), (1, .int x1)] := hl
  refine lv_aload_n hx hb dX7_pass_0 rfl (lv_at hl 0 rfl) ?_
  refine lv_aload_n hx hb dX7_pass_1 rfl (lv_at hl 0 rfl) ?_
  refine kX7_onTrial hF (cwV 0 hts gX7_pass_X7_onTrial rfl rfl rfl hdX7_onTrial ⟨Nat.le_of_ble_eq_true rfl, Nat.le_of_ble_eq_true rfl⟩) hC hY hJ hOk hS (fun _ h => h) hl.1 (Nat.le_of_ble_eq_true rfl) dX7_pass_2 ⟨Nat.zero_le _, Nat.zero_le _⟩ (fun H locs hY _ _ hS => ?_)
  have hOk : okO (zonT Ω) := okO_st hOk (by decide) _
  refine lv_iload_n hx hb dX7_pass_5 rfl (lv_at hl 1 rfl) ?_
  refine lv_sipush (v := 5000) hx hb dX7_pass_6 (by decide) ?_
  refine kX0_passHours hF (cwV 2 hts gX7_pass_X0_passHours rfl rfl rfl hdX0_passHours ⟨Nat.le_of_ble_eq_true rfl, Nat.le_of_ble_eq_true rfl⟩) hC hY.2.1 (hY.2.2.2.2.2.2 1 (by decide)) (hJ.1.one (by decide)) (fun k hk => hJ.2.2 1 k 1 (by decide) hk (by decide)) hS (sysA_st (by decide)) hl.1 (Nat.le_of_ble_eq_true rfl) dX7_pass_9 ⟨Nat.zero_le _, Nat.zero_le _⟩ (fun H locs hSt _ hk hS => ?_)
  have hY := Sys.st hY hJ 1 (by decide) hSt hk
  have hOk := okO_st hOk (k := 1) (by decide) (zX0_passHours ((zonT Ω) 1) x1 5000).2
  refine kX7_settle hF (cwV 1 hts gX7_pass_X7_settle rfl rfl rfl hdX7_settle ⟨Nat.le_of_ble_eq_true rfl, Nat.le_of_ble_eq_true rfl⟩) hC hY hJ hOk hS (fun _ h => h) hl.1 (Nat.le_of_ble_eq_true rfl) dX7_pass_12 ⟨Nat.zero_le _, Nat.zero_le _⟩ (fun H locs hY _ _ hS => ?_)
  exact W.iret (v := (zX7_settle (oS (zonT Ω) 1 (zX0_passHours ((zonT Ω) 1) x1 5000).2) ((zX0_passHours ((zonT Ω) 1) x1 5000).1)).1) hx hb hr (fun t ht hW => ⟨⟨(zX7_settle (oS (zonT Ω) 1 (zX0_passHours ((zonT Ω) 1) x1 5000).2) ((zX0_passHours ((zonT Ω) 1) x1 5000).1)).1, (zX7_settle (oS (zonT Ω) 1 (zX0_passHours ((zonT Ω) 1) x1 5000).2) ((zX0_passHours ((zonT Ω) 1) x1 5000).1)).2, rfl, ⟨rfl, rfl⟩, by dsimp only; rw [ht]; exact hY⟩, hS.F ht⟩) hS.2.2 dX7_pass_15
set_option maxHeartbeats 4000000 in
set_option maxRecDepth 100000 in
theorem kX7_pass {p : Program} {l : Launch} {e : Env} {R : Room} {s : State} {m : MethodId} {args : Array Value} {below : List Frame} {meth : Method} {c : Code} {H : Heap} {locs : List Loc} {cells slots : Nat} {Q : State → Prop} {cc : ByteArray} {nL : Nat} {Ts : List Cond} {own : String} {index pc : Nat} {ls : Array Slot} {rest : List Value} {D : va_G} {y : Y3} {ob : Nat → Nat} {AD : Nat → Nat → Nat} {Ω : Og} {x1 : Int32} {A0 : Nat → Prop} {H0 : Heap} (hF : CallFix p m c cc nL s args Ts own) (cw : CallW R s args own RX7 index yX7_pass cX7_pass 2 (some .int) wsX7_pass ({ frames := 5, cells := 0, slots := 0, locals := 117 } : Room) 0 0 1) (hC : CK D y s) (hY : SysH D y ob AD Ω H) (hJ : sysJ ob AD) (hOk : okO Ω) (hS : va_S A0 H0 H locs) (hA : ∀ q, (sysA ob AD) q → A0 q) (hsz : ls.size = nL) (hW : (rest.map fun v => v.category).sum ≤ 8) (hdg : decode cc pc = .ok (.invokevirtual index, 3)) (hf : cells ≤ R.cells ∧ slots ≤ R.slots)
    (k : ∀ (H1 : Heap) (locs1 : List Loc), SysH D y ob AD (zX7_pass Ω x1).2 H1 → H.size ≤ H1.size → (∀ q : Nat, q < H.size → ¬ (sysA ob AD) q → H1[q]? = H[q]?) → va_S A0 H0 H1 locs1 → W p l e R s m args below meth c H1 locs1 cells slots Q (F0 m (pc + 3) ls (.int ((zX7_pass Ω x1).1) :: rest))) : W p l e R s m args below meth c H locs cells slots Q (F0 m pc ls (.int x1 :: .ref (ob 0) :: rest)) := by
  refine va_calli (va_runV (As := [.int x1]) (rest := rest) hF (mX7_pass l D y ob AD Ω x1) cw ⟨fun a U g mk q => by obtain ⟨q0, q1, q2, q3, q4⟩ := q; exact ⟨q0, q1.call g mk a, q2, q3, q4⟩, va_recv hC.1 hY.1 (ci := 7) (q0 := 0) rfl rfl, fun U hU hW => ⟨rfl, hC.warm hW, by rw [hU]; exact hY, hJ, hOk⟩⟩ rfl rfl hsz rfl (lv_room hW) hdg ⟨hf.1, hf.2⟩) hS (fun q _ h => hA q h) hA (fun r u t H1 locs1 ht hvm hp hB hz1 hk1 hS1 => ?_)
  obtain ⟨hp1, hp2⟩ := hp
  subst hp1; subst hp2
  rw [ht] at hB
  exact k H1 locs1 hB hz1 hk1 hS1
