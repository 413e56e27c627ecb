theorem rd3 {Ω : Og} {f : Int32 × Og} {a : Int32} {X : Og} (h : f.1 = 1 ∧ InvO f.2 ∧ HSt Ω f.2) (e : f = (a, X)) : a = 1 ∧ InvO X ∧ HSt Ω X := by
  subst e
  exact h
theorem hdL_reads : yL_reads.cls ≠ "java/lang/invoke/MethodHandle" ∧ yL_reads.cls ≠ "java/lang/invoke/VarHandle" ∧ (parseMethodDescriptor yL_reads.desc).map (fun d => d.parameters.length) = some 1 := by decide +kernel
set_option maxHeartbeats 40000000 in
set_option maxRecDepth 100000 in
theorem mL_reads (l : Launch) (D : va_G) (y : Y3) (ob : Nat → Nat) (AD : Nat → Nat → Nat) (Ω : Og) : Met l yL_reads wsL_reads ({ frames := 8, cells := 0, slots := 0, locals := 181 } : Room) (va_Pc [.ref (ob 0)] (fun U => CK D y U ∧ SysH D y ob AD Ω U.heap ∧ sysJ ob AD ∧ InvO Ω)) (va_Qi (fun (r : Int32) (u : Og) => (r = 1 ∧ InvO u ∧ HSt Ω u)) (fun u t => SysH D y ob AD u t.heap) (sysA ob AD)) 0 0 (sysA ob AD) := by
  refine Met.ofW (cc := cL_reads) (maxL := 7) (ret := (some .boolean)) (by decide) rfl ?_
  intro p e s m args below meth c s₁ B hml hv
  obtain ⟨rfl, hC, hY, hJ, hI⟩ := hv
  have hx := B.exec
  have hb := B.bytes
  have hr := B.returns
  have hts := atoms_spec (ws := wsL_reads) B.pre
  have hown : s.vm.findClass RL = some m.cls := findClass_of_methodNamed B.named
  have hlocks := B.notSynchronized
  have hF := (⟨hx, hb, hml, hown, hts⟩ : CallFix p m c cL_reads 7 s _ wsL_reads RL)
  have hS : va_S (sysA ob AD) s.heap s.heap [] := va_S.rf
  have hl := lv_entry ([.ref (ob 0)]) (n := 7) (Nat.le_of_ble_eq_true rfl)
  rw [lg_entry_eq]
  generalize (lg_sl ([.ref (ob 0)]) ++ List.replicate (7 - (lg_sl ([.ref (ob 0)])).length) Slot.unset).toArray = ls at hl ⊢
  have hl : lv_has ls 7 [(0, .ref (ob 0))] := hl
  have hOk := hI.1
  have hI0 := hI
  refine lv_aload_n hx hb dL_reads_0 rfl (lv_at hl 0 rfl) ?_
  refine lv_iconst (v := 0) hx hb dL_reads_1 (by decide) ?_
  refine kX7_fault hF (cwV 1 hts gL_reads_X7_fault rfl rfl rfl hdX7_fault ⟨Nat.le_of_ble_eq_true rfl, Nat.le_of_ble_eq_true rfl⟩) hC hY hJ hOk hS (fun _ h => h) hl.1 (Nat.le_of_ble_eq_true rfl) dL_reads_2 ⟨Nat.zero_le _, Nat.zero_le _⟩ (fun H locs hY _ _ hS => ?_)
  have hI : InvO ((zX7_fault Ω 0).2) := (fault_ok hI 0).1
  have hOk := hI.1
  refine lv_istore_n (lv' := [(1, .int ((zX7_fault Ω 0).1)), (0, .ref (ob 0))]) hx hb dL_reads_5 rfl hl (by decide) rfl (fun ls hl => ?_)
  refine lv_aload_n hx hb dL_reads_6 rfl (lv_at hl 1 rfl) ?_
  refine lv_iconst (v := 1) hx hb dL_reads_7 (by decide) ?_
  refine kX7_fault hF (cwV 1 hts gL_reads_X7_fault rfl rfl rfl hdX7_fault ⟨Nat.le_of_ble_eq_true rfl, Nat.le_of_ble_eq_true rfl⟩) hC hY hJ hOk hS (fun _ h => h) hl.1 (Nat.le_of_ble_eq_true rfl) dL_reads_8 ⟨Nat.zero_le _, Nat.zero_le _⟩ (fun H locs hY _ _ hS => ?_)
  have hI : InvO ((zX7_fault ((zX7_fault Ω 0).2) 1).2) := (fault_ok hI 1).1
  have hOk := hI.1
  refine lv_istore_n (lv' := [(2, .int ((zX7_fault ((zX7_fault Ω 0).2) 1).1)), (1, .int ((zX7_fault Ω 0).1)), (0, .ref (ob 0))]) hx hb dL_reads_11 rfl hl (by decide) rfl (fun ls hl => ?_)
  refine lv_aload_n hx hb dL_reads_12 rfl (lv_at hl 2 rfl) ?_
  refine lv_bipush (v := 12) hx hb dL_reads_13 (by decide) ?_
  refine rX7_count hF (cwV 1 hts gL_reads_X7_count rfl rfl rfl hdX7_count ⟨Nat.le_of_ble_eq_true rfl, Nat.le_of_ble_eq_true rfl⟩) hC hY hJ hOk hS (fun _ h => h) hl.1 (Nat.le_of_ble_eq_true rfl) dL_reads_15 ⟨Nat.zero_le _, Nat.zero_le _⟩ (fun H locs hY _ _ hS => ?_)
  refine lv_istore_n (lv' := [(3, .int ((zX7_count ((zX7_fault ((zX7_fault Ω 0).2) 1).2) 12).1)), (2, .int ((zX7_fault ((zX7_fault Ω 0).2) 1).1)), (1, .int ((zX7_fault Ω 0).1)), (0, .ref (ob 0))]) hx hb dL_reads_18 rfl hl (by decide) rfl (fun ls hl => ?_)
  refine lv_aload_n hx hb dL_reads_19 rfl (lv_at hl 3 rfl) ?_
  refine kX7_play hF (cwV 0 hts gL_reads_X7_play rfl rfl rfl hdX7_play ⟨Nat.le_of_ble_eq_true rfl, Nat.le_of_ble_eq_true rfl⟩) hC hY hJ hOk hS (fun _ h => h) hl.1 (Nat.le_of_ble_eq_true rfl) dL_reads_20 ⟨Nat.zero_le _, Nat.zero_le _⟩ (fun H locs hY _ _ hS => ?_)
  have hI : InvO ((zX7_play ((zX7_fault ((zX7_fault Ω 0).2) 1).2)).2) := (pub_play hI).1
  have hOk := hI.1
  refine lv_istore (lv' := [(4, .int ((zX7_play ((zX7_fault ((zX7_fault Ω 0).2) 1).2)).1)), (3, .int ((zX7_count ((zX7_fault ((zX7_fault Ω 0).2) 1).2) 12).1)), (2, .int ((zX7_fault ((zX7_fault Ω 0).2) 1).1)), (1, .int ((zX7_fault Ω 0).1)), (0, .ref (ob 0))]) hx hb dL_reads_23 hl (by decide) rfl (fun ls hl => ?_)
  refine lv_iload_n hx hb dL_reads_25 rfl (lv_at hl 3 rfl) ?_
  refine lv_bipush (v := (-4)) hx hb dL_reads_26 (by decide) ?_
  refine lv_icmp_ne (tgt := 54) hx hb dL_reads_28 (by decide) (fun c_1 => ?_) (fun c_1 => ?_)
  · refine lv_iconst (v := 0) hx hb dL_reads_54 (by decide) ?_
    refine lv_istore (lv' := [(5, .int 0), (4, .int ((zX7_play ((zX7_fault ((zX7_fault Ω 0).2) 1).2)).1)), (3, .int ((zX7_count ((zX7_fault ((zX7_fault Ω 0).2) 1).2) 12).1)), (2, .int ((zX7_fault ((zX7_fault Ω 0).2) 1).1)), (1, .int ((zX7_fault Ω 0).1)), (0, .ref (ob 0))]) hx hb dL_reads_55 hl (by decide) rfl (fun ls hl => ?_)
    refine lv_iload_n hx hb dL_reads_57 rfl (lv_at hl 4 rfl) ?_
    refine lv_if_lt (tgt := 86) hx hb dL_reads_58 (by decide) (fun c_2 => ?_) (fun c_2 => ?_)
    · refine lv_iconst (v := 0) hx hb dL_reads_86 (by decide) ?_
      refine lv_istore (lv' := [(6, .int 0), (5, .int 0), (4, .int ((zX7_play ((zX7_fault ((zX7_fault Ω 0).2) 1).2)).1)), (3, .int ((zX7_count ((zX7_fault ((zX7_fault Ω 0).2) 1).2) 12).1)), (2, .int ((zX7_fault ((zX7_fault Ω 0).2) 1).1)), (1, .int ((zX7_fault Ω 0).1)), (0, .ref (ob 0))]) hx hb dL_reads_87 hl (by decide) rfl (fun ls hl => ?_)
      refine lv_iload hx hb dL_reads_89 (lv_at hl 1 rfl) ?_
      refine lv_if_ne (tgt := 99) hx hb dL_reads_91 (by decide) (fun c_3 => absurd c_3 (by decide)) (fun _ => ?_)
      refine lv_iload hx hb dL_reads_94 (lv_at hl 0 rfl) ?_
      refine lv_if_eq (tgt := 113) hx hb dL_reads_96 (by decide) (fun _ => ?_) (fun c_4 => absurd (by decide) c_4)
      refine lv_iconst (v := 0) hx hb dL_reads_113 (by decide) ?_
      have e9 : (zL_reads Ω) = (0, (zX7_play ((zX7_fault ((zX7_fault Ω 0).2) 1).2)).2) := by unfold zL_reads; rw [if_neg c_1, if_pos c_2]
      have hz := rd3 (reads_ok hI0) e9
      exact W.zret (v := 0) hx hb hr (by decide) (fun t ht hW => ⟨⟨0, (zX7_play ((zX7_fault ((zX7_fault Ω 0).2) 1).2)).2, rfl, hz, by dsimp only; rw [ht]; exact hY⟩, hS.F ht⟩) hS.2.2 dL_reads_114
    · refine lv_iload_n hx hb dL_reads_61 rfl (lv_at hl 4 rfl) ?_
      refine lv_iload_n hx hb dL_reads_62 rfl (lv_at hl 2 rfl) ?_
      refine lv_icmp_ge (tgt := 86) hx hb dL_reads_63 (by decide) (fun c_5 => ?_) (fun c_5 => ?_)
      · refine lv_iconst (v := 0) hx hb dL_reads_86 (by decide) ?_
        refine lv_istore (lv' := [(6, .int 0), (5, .int 0), (4, .int ((zX7_play ((zX7_fault ((zX7_fault Ω 0).2) 1).2)).1)), (3, .int ((zX7_count ((zX7_fault ((zX7_fault Ω 0).2) 1).2) 12).1)), (2, .int ((zX7_fault ((zX7_fault Ω 0).2) 1).1)), (1, .int ((zX7_fault Ω 0).1)), (0, .ref (ob 0))]) hx hb dL_reads_87 hl (by decide) rfl (fun ls hl => ?_)
        refine lv_iload hx hb dL_reads_89 (lv_at hl 1 rfl) ?_
        refine lv_if_ne (tgt := 99) hx hb dL_reads_91 (by decide) (fun c_6 => absurd c_6 (by decide)) (fun _ => ?_)
        refine lv_iload hx hb dL_reads_94 (lv_at hl 0 rfl) ?_
        refine lv_if_eq (tgt := 113) hx hb dL_reads_96 (by decide) (fun _ => ?_) (fun c_7 => absurd (by decide) c_7)
        refine lv_iconst (v := 0) hx hb dL_reads_113 (by decide) ?_
        have e9 : (zL_reads Ω) = (0, (zX7_play ((zX7_fault ((zX7_fault Ω 0).2) 1).2)).2) := by unfold zL_reads; rw [if_neg c_1, if_neg c_2, if_pos c_5]
        have hz := rd3 (reads_ok hI0) e9
        exact W.zret (v := 0) hx hb hr (by decide) (fun t ht hW => ⟨⟨0, (zX7_play ((zX7_fault ((zX7_fault Ω 0).2) 1).2)).2, rfl, hz, by dsimp only; rw [ht]; exact hY⟩, hS.F ht⟩) hS.2.2 dL_reads_114
      · refine lv_iload_n hx hb dL_reads_66 rfl (lv_at hl 3 rfl) ?_
        refine lv_if_le (tgt := 86) hx hb dL_reads_67 (by decide) (fun c_8 => ?_) (fun c_8 => ?_)
        · refine lv_iconst (v := 0) hx hb dL_reads_86 (by decide) ?_
          refine lv_istore (lv' := [(6, .int 0), (5, .int 0), (4, .int ((zX7_play ((zX7_fault ((zX7_fault Ω 0).2) 1).2)).1)), (3, .int ((zX7_count ((zX7_fault ((zX7_fault Ω 0).2) 1).2) 12).1)), (2, .int ((zX7_fault ((zX7_fault Ω 0).2) 1).1)), (1, .int ((zX7_fault Ω 0).1)), (0, .ref (ob 0))]) hx hb dL_reads_87 hl (by decide) rfl (fun ls hl => ?_)
          refine lv_iload hx hb dL_reads_89 (lv_at hl 1 rfl) ?_
          refine lv_if_ne (tgt := 99) hx hb dL_reads_91 (by decide) (fun c_9 => absurd c_9 (by decide)) (fun _ => ?_)
          refine lv_iload hx hb dL_reads_94 (lv_at hl 0 rfl) ?_
          refine lv_if_eq (tgt := 113) hx hb dL_reads_96 (by decide) (fun _ => ?_) (fun c_10 => absurd (by decide) c_10)
          refine lv_iconst (v := 0) hx hb dL_reads_113 (by decide) ?_
          have e9 : (zL_reads Ω) = (0, (zX7_play ((zX7_fault ((zX7_fault Ω 0).2) 1).2)).2) := by unfold zL_reads; rw [if_neg c_1, if_neg c_2, if_neg c_5, if_pos c_8]
          have hz := rd3 (reads_ok hI0) e9
          exact W.zret (v := 0) hx hb hr (by decide) (fun t ht hW => ⟨⟨0, (zX7_play ((zX7_fault ((zX7_fault Ω 0).2) 1).2)).2, rfl, hz, by dsimp only; rw [ht]; exact hY⟩, hS.F ht⟩) hS.2.2 dL_reads_114
        · refine lv_iload_n hx hb dL_reads_70 rfl (lv_at hl 3 rfl) ?_
          refine lv_iconst (v := 4) hx hb dL_reads_71 (by decide) ?_
          refine lv_icmp_ge (tgt := 86) hx hb dL_reads_72 (by decide) (fun c_11 => ?_) (fun c_11 => ?_)
          · refine lv_iconst (v := 0) hx hb dL_reads_86 (by decide) ?_
            refine lv_istore (lv' := [(6, .int 0), (5, .int 0), (4, .int ((zX7_play ((zX7_fault ((zX7_fault Ω 0).2) 1).2)).1)), (3, .int ((zX7_count ((zX7_fault ((zX7_fault Ω 0).2) 1).2) 12).1)), (2, .int ((zX7_fault ((zX7_fault Ω 0).2) 1).1)), (1, .int ((zX7_fault Ω 0).1)), (0, .ref (ob 0))]) hx hb dL_reads_87 hl (by decide) rfl (fun ls hl => ?_)
            refine lv_iload hx hb dL_reads_89 (lv_at hl 1 rfl) ?_
            refine lv_if_ne (tgt := 99) hx hb dL_reads_91 (by decide) (fun c_12 => absurd c_12 (by decide)) (fun _ => ?_)
            refine lv_iload hx hb dL_reads_94 (lv_at hl 0 rfl) ?_
            refine lv_if_eq (tgt := 113) hx hb dL_reads_96 (by decide) (fun _ => ?_) (fun c_13 => absurd (by decide) c_13)
            refine lv_iconst (v := 0) hx hb dL_reads_113 (by decide) ?_
            have e9 : (zL_reads Ω) = (0, (zX7_play ((zX7_fault ((zX7_fault Ω 0).2) 1).2)).2) := by unfold zL_reads; rw [if_neg c_1, if_neg c_2, if_neg c_5, if_neg c_8, if_pos c_11]
            have hz := rd3 (reads_ok hI0) e9
            exact W.zret (v := 0) hx hb hr (by decide) (fun t ht hW => ⟨⟨0, (zX7_play ((zX7_fault ((zX7_fault Ω 0).2) 1).2)).2, rfl, hz, by dsimp only; rw [ht]; exact hY⟩, hS.F ht⟩) hS.2.2 dL_reads_114
          · refine lv_iload hx hb dL_reads_75 (lv_at hl 1 rfl) ?_
            refine lv_bipush (v := (-2)) hx hb dL_reads_77 (by decide) ?_
            refine lv_icmp_ne (tgt := 86) hx hb dL_reads_79 (by decide) (fun c_14 => ?_) (fun c_14 => ?_)
            · refine lv_iconst (v := 0) hx hb dL_reads_86 (by decide) ?_
              refine lv_istore (lv' := [(6, .int 0), (5, .int 0), (4, .int ((zX7_play ((zX7_fault ((zX7_fault Ω 0).2) 1).2)).1)), (3, .int ((zX7_count ((zX7_fault ((zX7_fault Ω 0).2) 1).2) 12).1)), (2, .int ((zX7_fault ((zX7_fault Ω 0).2) 1).1)), (1, .int ((zX7_fault Ω 0).1)), (0, .ref (ob 0))]) hx hb dL_reads_87 hl (by decide) rfl (fun ls hl => ?_)
              refine lv_iload hx hb dL_reads_89 (lv_at hl 1 rfl) ?_
              refine lv_if_ne (tgt := 99) hx hb dL_reads_91 (by decide) (fun c_15 => absurd c_15 (by decide)) (fun _ => ?_)
              refine lv_iload hx hb dL_reads_94 (lv_at hl 0 rfl) ?_
              refine lv_if_eq (tgt := 113) hx hb dL_reads_96 (by decide) (fun _ => ?_) (fun c_16 => absurd (by decide) c_16)
              refine lv_iconst (v := 0) hx hb dL_reads_113 (by decide) ?_
              have e9 : (zL_reads Ω) = (0, (zX7_play ((zX7_fault ((zX7_fault Ω 0).2) 1).2)).2) := by unfold zL_reads; rw [if_neg c_1, if_neg c_2, if_neg c_5, if_neg c_8, if_neg c_11, if_neg c_14]
              have hz := rd3 (reads_ok hI0) e9
              exact W.zret (v := 0) hx hb hr (by decide) (fun t ht hW => ⟨⟨0, (zX7_play ((zX7_fault ((zX7_fault Ω 0).2) 1).2)).2, rfl, hz, by dsimp only; rw [ht]; exact hY⟩, hS.F ht⟩) hS.2.2 dL_reads_114
            · refine lv_iconst (v := 1) hx hb dL_reads_82 (by decide) ?_
              refine lv_goto (tgt := 87) hx hb dL_reads_83 (by decide) ?_
              refine lv_istore (lv' := [(6, .int 1), (5, .int 0), (4, .int ((zX7_play ((zX7_fault ((zX7_fault Ω 0).2) 1).2)).1)), (3, .int ((zX7_count ((zX7_fault ((zX7_fault Ω 0).2) 1).2) 12).1)), (2, .int ((zX7_fault ((zX7_fault Ω 0).2) 1).1)), (1, .int ((zX7_fault Ω 0).1)), (0, .ref (ob 0))]) hx hb dL_reads_87 hl (by decide) rfl (fun ls hl => ?_)
              refine lv_iload hx hb dL_reads_89 (lv_at hl 1 rfl) ?_
              refine lv_if_ne (tgt := 99) hx hb dL_reads_91 (by decide) (fun c_17 => absurd c_17 (by decide)) (fun _ => ?_)
              refine lv_iload hx hb dL_reads_94 (lv_at hl 0 rfl) ?_
              refine lv_if_eq (tgt := 113) hx hb dL_reads_96 (by decide) (fun c_18 => absurd c_18 (by decide)) (fun _ => ?_)
              refine lv_aload_n hx hb dL_reads_99 rfl (lv_at hl 6 rfl) ?_
              refine lv_bipush (v := 12) hx hb dL_reads_100 (by decide) ?_
              refine rX7_count hF (cwV 1 hts gL_reads_X7_count rfl rfl rfl hdX7_count ⟨Nat.le_of_ble_eq_true rfl, Nat.le_of_ble_eq_true rfl⟩) hC hY hJ hOk hS (fun _ h => h) hl.1 (Nat.le_of_ble_eq_true rfl) dL_reads_102 ⟨Nat.zero_le _, Nat.zero_le _⟩ (fun H locs hY _ _ hS => ?_)
              refine lv_iload_n hx hb dL_reads_105 rfl (lv_at hl 3 rfl) ?_
              refine lv_icmp_ne (tgt := 113) hx hb dL_reads_106 (by decide) (fun c_19 => ?_) (fun c_19 => ?_)
              · refine lv_iconst (v := 0) hx hb dL_reads_113 (by decide) ?_
                have e9 : (zL_reads Ω) = (0, (zX7_play ((zX7_fault ((zX7_fault Ω 0).2) 1).2)).2) := by unfold zL_reads; rw [if_neg c_1, if_neg c_2, if_neg c_5, if_neg c_8, if_neg c_11, if_pos c_14, if_neg c_19]
                have hz := rd3 (reads_ok hI0) e9
                exact W.zret (v := 0) hx hb hr (by decide) (fun t ht hW => ⟨⟨0, (zX7_play ((zX7_fault ((zX7_fault Ω 0).2) 1).2)).2, rfl, hz, by dsimp only; rw [ht]; exact hY⟩, hS.F ht⟩) hS.2.2 dL_reads_114
              · refine lv_iconst (v := 1) hx hb dL_reads_109 (by decide) ?_
                refine lv_goto (tgt := 114) hx hb dL_reads_110 (by decide) ?_
                have e9 : (zL_reads Ω) = (1, (zX7_play ((zX7_fault ((zX7_fault Ω 0).2) 1).2)).2) := by unfold zL_reads; rw [if_neg c_1, if_neg c_2, if_neg c_5, if_neg c_8, if_neg c_11, if_pos c_14, if_pos c_19]
                have hz := rd3 (reads_ok hI0) e9
                exact W.zret (v := 1) hx hb hr (by decide) (fun t ht hW => ⟨⟨1, (zX7_play ((zX7_fault ((zX7_fault Ω 0).2) 1).2)).2, rfl, hz, by dsimp only; rw [ht]; exact hY⟩, hS.F ht⟩) hS.2.2 dL_reads_114
  · refine lv_iload_n hx hb dL_reads_31 rfl (lv_at hl 2 rfl) ?_
    refine lv_bipush (v := (-4)) hx hb dL_reads_32 (by decide) ?_
    refine lv_icmp_ne (tgt := 54) hx hb dL_reads_34 (by decide) (fun c_20 => ?_) (fun c_20 => ?_)
    · refine lv_iconst (v := 0) hx hb dL_reads_54 (by decide) ?_
      refine lv_istore (lv' := [(5, .int 0), (4, .int ((zX7_play ((zX7_fault ((zX7_fault Ω 0).2) 1).2)).1)), (3, .int ((zX7_count ((zX7_fault ((zX7_fault Ω 0).2) 1).2) 12).1)), (2, .int ((zX7_fault ((zX7_fault Ω 0).2) 1).1)), (1, .int ((zX7_fault Ω 0).1)), (0, .ref (ob 0))]) hx hb dL_reads_55 hl (by decide) rfl (fun ls hl => ?_)
      refine lv_iload_n hx hb dL_reads_57 rfl (lv_at hl 4 rfl) ?_
      refine lv_if_lt (tgt := 86) hx hb dL_reads_58 (by decide) (fun c_21 => ?_) (fun c_21 => ?_)
      · refine lv_iconst (v := 0) hx hb dL_reads_86 (by decide) ?_
        refine lv_istore (lv' := [(6, .int 0), (5, .int 0), (4, .int ((zX7_play ((zX7_fault ((zX7_fault Ω 0).2) 1).2)).1)), (3, .int ((zX7_count ((zX7_fault ((zX7_fault Ω 0).2) 1).2) 12).1)), (2, .int ((zX7_fault ((zX7_fault Ω 0).2) 1).1)), (1, .int ((zX7_fault Ω 0).1)), (0, .ref (ob 0))]) hx hb dL_reads_87 hl (by decide) rfl (fun ls hl => ?_)
        refine lv_iload hx hb dL_reads_89 (lv_at hl 1 rfl) ?_
        refine lv_if_ne (tgt := 99) hx hb dL_reads_91 (by decide) (fun c_22 => absurd c_22 (by decide)) (fun _ => ?_)
        refine lv_iload hx hb dL_reads_94 (lv_at hl 0 rfl) ?_
        refine lv_if_eq (tgt := 113) hx hb dL_reads_96 (by decide) (fun _ => ?_) (fun c_23 => absurd (by decide) c_23)
        refine lv_iconst (v := 0) hx hb dL_reads_113 (by decide) ?_
        have e9 : (zL_reads Ω) = (0, (zX7_play ((zX7_fault ((zX7_fault Ω 0).2) 1).2)).2) := by unfold zL_reads; rw [if_pos c_1, if_neg c_20, if_pos c_21]
        have hz := rd3 (reads_ok hI0) e9
        exact W.zret (v := 0) hx hb hr (by decide) (fun t ht hW => ⟨⟨0, (zX7_play ((zX7_fault ((zX7_fault Ω 0).2) 1).2)).2, rfl, hz, by dsimp only; rw [ht]; exact hY⟩, hS.F ht⟩) hS.2.2 dL_reads_114
      · refine lv_iload_n hx hb dL_reads_61 rfl (lv_at hl 4 rfl) ?_
        refine lv_iload_n hx hb dL_reads_62 rfl (lv_at hl 2 rfl) ?_
        refine lv_icmp_ge (tgt := 86) hx hb dL_reads_63 (by decide) (fun c_24 => ?_) (fun c_24 => ?_)
        · refine lv_iconst (v := 0) hx hb dL_reads_86 (by decide) ?_
          refine lv_istore (lv' := [(6, .int 0), (5, .int 0), (4, .int ((zX7_play ((zX7_fault ((zX7_fault Ω 0).2) 1).2)).1)), (3, .int ((zX7_count ((zX7_fault ((zX7_fault Ω 0).2) 1).2) 12).1)), (2, .int ((zX7_fault ((zX7_fault Ω 0).2) 1).1)), (1, .int ((zX7_fault Ω 0).1)), (0, .ref (ob 0))]) hx hb dL_reads_87 hl (by decide) rfl (fun ls hl => ?_)
          refine lv_iload hx hb dL_reads_89 (lv_at hl 1 rfl) ?_
          refine lv_if_ne (tgt := 99) hx hb dL_reads_91 (by decide) (fun c_25 => absurd c_25 (by decide)) (fun _ => ?_)
          refine lv_iload hx hb dL_reads_94 (lv_at hl 0 rfl) ?_
          refine lv_if_eq (tgt := 113) hx hb dL_reads_96 (by decide) (fun _ => ?_) (fun c_26 => absurd (by decide) c_26)
          refine lv_iconst (v := 0) hx hb dL_reads_113 (by decide) ?_
          have e9 : (zL_reads Ω) = (0, (zX7_play ((zX7_fault ((zX7_fault Ω 0).2) 1).2)).2) := by unfold zL_reads; rw [if_pos c_1, if_neg c_20, if_neg c_21, if_pos c_24]
          have hz := rd3 (reads_ok hI0) e9
          exact W.zret (v := 0) hx hb hr (by decide) (fun t ht hW => ⟨⟨0, (zX7_play ((zX7_fault ((zX7_fault Ω 0).2) 1).2)).2, rfl, hz, by dsimp only; rw [ht]; exact hY⟩, hS.F ht⟩) hS.2.2 dL_reads_114
        · refine lv_iload_n hx hb dL_reads_66 rfl (lv_at hl 3 rfl) ?_
          refine lv_if_le (tgt := 86) hx hb dL_reads_67 (by decide) (fun c_27 => ?_) (fun c_27 => ?_)
          · refine lv_iconst (v := 0) hx hb dL_reads_86 (by decide) ?_
            refine lv_istore (lv' := [(6, .int 0), (5, .int 0), (4, .int ((zX7_play ((zX7_fault ((zX7_fault Ω 0).2) 1).2)).1)), (3, .int ((zX7_count ((zX7_fault ((zX7_fault Ω 0).2) 1).2) 12).1)), (2, .int ((zX7_fault ((zX7_fault Ω 0).2) 1).1)), (1, .int ((zX7_fault Ω 0).1)), (0, .ref (ob 0))]) hx hb dL_reads_87 hl (by decide) rfl (fun ls hl => ?_)
            refine lv_iload hx hb dL_reads_89 (lv_at hl 1 rfl) ?_
            refine lv_if_ne (tgt := 99) hx hb dL_reads_91 (by decide) (fun c_28 => absurd c_28 (by decide)) (fun _ => ?_)
            refine lv_iload hx hb dL_reads_94 (lv_at hl 0 rfl) ?_
            refine lv_if_eq (tgt := 113) hx hb dL_reads_96 (by decide) (fun _ => ?_) (fun c_29 => absurd (by decide) c_29)
            refine lv_iconst (v := 0) hx hb dL_reads_113 (by decide) ?_
            have e9 : (zL_reads Ω) = (0, (zX7_play ((zX7_fault ((zX7_fault Ω 0).2) 1).2)).2) := by unfold zL_reads; rw [if_pos c_1, if_neg c_20, if_neg c_21, if_neg c_24, if_pos c_27]
            have hz := rd3 (reads_ok hI0) e9
            exact W.zret (v := 0) hx hb hr (by decide) (fun t ht hW => ⟨⟨0, (zX7_play ((zX7_fault ((zX7_fault Ω 0).2) 1).2)).2, rfl, hz, by dsimp only; rw [ht]; exact hY⟩, hS.F ht⟩) hS.2.2 dL_reads_114
          · refine lv_iload_n hx hb dL_reads_70 rfl (lv_at hl 3 rfl) ?_
            refine lv_iconst (v := 4) hx hb dL_reads_71 (by decide) ?_
            refine lv_icmp_ge (tgt := 86) hx hb dL_reads_72 (by decide) (fun c_30 => ?_) (fun c_30 => ?_)
            · refine lv_iconst (v := 0) hx hb dL_reads_86 (by decide) ?_
              refine lv_istore (lv' := [(6, .int 0), (5, .int 0), (4, .int ((zX7_play ((zX7_fault ((zX7_fault Ω 0).2) 1).2)).1)), (3, .int ((zX7_count ((zX7_fault ((zX7_fault Ω 0).2) 1).2) 12).1)), (2, .int ((zX7_fault ((zX7_fault Ω 0).2) 1).1)), (1, .int ((zX7_fault Ω 0).1)), (0, .ref (ob 0))]) hx hb dL_reads_87 hl (by decide) rfl (fun ls hl => ?_)
              refine lv_iload hx hb dL_reads_89 (lv_at hl 1 rfl) ?_
              refine lv_if_ne (tgt := 99) hx hb dL_reads_91 (by decide) (fun c_31 => absurd c_31 (by decide)) (fun _ => ?_)
              refine lv_iload hx hb dL_reads_94 (lv_at hl 0 rfl) ?_
              refine lv_if_eq (tgt := 113) hx hb dL_reads_96 (by decide) (fun _ => ?_) (fun c_32 => absurd (by decide) c_32)
              refine lv_iconst (v := 0) hx hb dL_reads_113 (by decide) ?_
              have e9 : (zL_reads Ω) = (0, (zX7_play ((zX7_fault ((zX7_fault Ω 0).2) 1).2)).2) := by unfold zL_reads; rw [if_pos c_1, if_neg c_20, if_neg c_21, if_neg c_24, if_neg c_27, if_pos c_30]
              have hz := rd3 (reads_ok hI0) e9
              exact W.zret (v := 0) hx hb hr (by decide) (fun t ht hW => ⟨⟨0, (zX7_play ((zX7_fault ((zX7_fault Ω 0).2) 1).2)).2, rfl, hz, by dsimp only; rw [ht]; exact hY⟩, hS.F ht⟩) hS.2.2 dL_reads_114
            · refine lv_iload hx hb dL_reads_75 (lv_at hl 1 rfl) ?_
              refine lv_bipush (v := (-2)) hx hb dL_reads_77 (by decide) ?_
              refine lv_icmp_ne (tgt := 86) hx hb dL_reads_79 (by decide) (fun c_33 => ?_) (fun c_33 => ?_)
              · refine lv_iconst (v := 0) hx hb dL_reads_86 (by decide) ?_
                refine lv_istore (lv' := [(6, .int 0), (5, .int 0), (4, .int ((zX7_play ((zX7_fault ((zX7_fault Ω 0).2) 1).2)).1)), (3, .int ((zX7_count ((zX7_fault ((zX7_fault Ω 0).2) 1).2) 12).1)), (2, .int ((zX7_fault ((zX7_fault Ω 0).2) 1).1)), (1, .int ((zX7_fault Ω 0).1)), (0, .ref (ob 0))]) hx hb dL_reads_87 hl (by decide) rfl (fun ls hl => ?_)
                refine lv_iload hx hb dL_reads_89 (lv_at hl 1 rfl) ?_
                refine lv_if_ne (tgt := 99) hx hb dL_reads_91 (by decide) (fun c_34 => absurd c_34 (by decide)) (fun _ => ?_)
                refine lv_iload hx hb dL_reads_94 (lv_at hl 0 rfl) ?_
                refine lv_if_eq (tgt := 113) hx hb dL_reads_96 (by decide) (fun _ => ?_) (fun c_35 => absurd (by decide) c_35)
                refine lv_iconst (v := 0) hx hb dL_reads_113 (by decide) ?_
                have e9 : (zL_reads Ω) = (0, (zX7_play ((zX7_fault ((zX7_fault Ω 0).2) 1).2)).2) := by unfold zL_reads; rw [if_pos c_1, if_neg c_20, if_neg c_21, if_neg c_24, if_neg c_27, if_neg c_30, if_neg c_33]
                have hz := rd3 (reads_ok hI0) e9
                exact W.zret (v := 0) hx hb hr (by decide) (fun t ht hW => ⟨⟨0, (zX7_play ((zX7_fault ((zX7_fault Ω 0).2) 1).2)).2, rfl, hz, by dsimp only; rw [ht]; exact hY⟩, hS.F ht⟩) hS.2.2 dL_reads_114
              · refine lv_iconst (v := 1) hx hb dL_reads_82 (by decide) ?_
                refine lv_goto (tgt := 87) hx hb dL_reads_83 (by decide) ?_
                refine lv_istore (lv' := [(6, .int 1), (5, .int 0), (4, .int ((zX7_play ((zX7_fault ((zX7_fault Ω 0).2) 1).2)).1)), (3, .int ((zX7_count ((zX7_fault ((zX7_fault Ω 0).2) 1).2) 12).1)), (2, .int ((zX7_fault ((zX7_fault Ω 0).2) 1).1)), (1, .int ((zX7_fault Ω 0).1)), (0, .ref (ob 0))]) hx hb dL_reads_87 hl (by decide) rfl (fun ls hl => ?_)
                refine lv_iload hx hb dL_reads_89 (lv_at hl 1 rfl) ?_
                refine lv_if_ne (tgt := 99) hx hb dL_reads_91 (by decide) (fun c_36 => absurd c_36 (by decide)) (fun _ => ?_)
                refine lv_iload hx hb dL_reads_94 (lv_at hl 0 rfl) ?_
                refine lv_if_eq (tgt := 113) hx hb dL_reads_96 (by decide) (fun c_37 => absurd c_37 (by decide)) (fun _ => ?_)
                refine lv_aload_n hx hb dL_reads_99 rfl (lv_at hl 6 rfl) ?_
                refine lv_bipush (v := 12) hx hb dL_reads_100 (by decide) ?_
                refine rX7_count hF (cwV 1 hts gL_reads_X7_count rfl rfl rfl hdX7_count ⟨Nat.le_of_ble_eq_true rfl, Nat.le_of_ble_eq_true rfl⟩) hC hY hJ hOk hS (fun _ h => h) hl.1 (Nat.le_of_ble_eq_true rfl) dL_reads_102 ⟨Nat.zero_le _, Nat.zero_le _⟩ (fun H locs hY _ _ hS => ?_)
                refine lv_iload_n hx hb dL_reads_105 rfl (lv_at hl 3 rfl) ?_
                refine lv_icmp_ne (tgt := 113) hx hb dL_reads_106 (by decide) (fun c_38 => ?_) (fun c_38 => ?_)
                · refine lv_iconst (v := 0) hx hb dL_reads_113 (by decide) ?_
                  have e9 : (zL_reads Ω) = (0, (zX7_play ((zX7_fault ((zX7_fault Ω 0).2) 1).2)).2) := by unfold zL_reads; rw [if_pos c_1, if_neg c_20, if_neg c_21, if_neg c_24, if_neg c_27, if_neg c_30, if_pos c_33, if_neg c_38]
                  have hz := rd3 (reads_ok hI0) e9
                  exact W.zret (v := 0) hx hb hr (by decide) (fun t ht hW => ⟨⟨0, (zX7_play ((zX7_fault ((zX7_fault Ω 0).2) 1).2)).2, rfl, hz, by dsimp only; rw [ht]; exact hY⟩, hS.F ht⟩) hS.2.2 dL_reads_114
                · refine lv_iconst (v := 1) hx hb dL_reads_109 (by decide) ?_
                  refine lv_goto (tgt := 114) hx hb dL_reads_110 (by decide) ?_
                  have e9 : (zL_reads Ω) = (1, (zX7_play ((zX7_fault ((zX7_fault Ω 0).2) 1).2)).2) := by unfold zL_reads; rw [if_pos c_1, if_neg c_20, if_neg c_21, if_neg c_24, if_neg c_27, if_neg c_30, if_pos c_33, if_pos c_38]
                  have hz := rd3 (reads_ok hI0) e9
                  exact W.zret (v := 1) hx hb hr (by decide) (fun t ht hW => ⟨⟨1, (zX7_play ((zX7_fault ((zX7_fault Ω 0).2) 1).2)).2, rfl, hz, by dsimp only; rw [ht]; exact hY⟩, hS.F ht⟩) hS.2.2 dL_reads_114
    · refine lv_iload hx hb dL_reads_37 (lv_at hl 0 rfl) ?_
      refine lv_if_lt (tgt := 54) hx hb dL_reads_39 (by decide) (fun c_39 => ?_) (fun c_39 => ?_)
      · refine lv_iconst (v := 0) hx hb dL_reads_54 (by decide) ?_
        refine lv_istore (lv' := [(5, .int 0), (4, .int ((zX7_play ((zX7_fault ((zX7_fault Ω 0).2) 1).2)).1)), (3, .int ((zX7_count ((zX7_fault ((zX7_fault Ω 0).2) 1).2) 12).1)), (2, .int ((zX7_fault ((zX7_fault Ω 0).2) 1).1)), (1, .int ((zX7_fault Ω 0).1)), (0, .ref (ob 0))]) hx hb dL_reads_55 hl (by decide) rfl (fun ls hl => ?_)
        refine lv_iload_n hx hb dL_reads_57 rfl (lv_at hl 4 rfl) ?_
        refine lv_if_lt (tgt := 86) hx hb dL_reads_58 (by decide) (fun c_40 => ?_) (fun c_40 => ?_)
        · refine lv_iconst (v := 0) hx hb dL_reads_86 (by decide) ?_
          refine lv_istore (lv' := [(6, .int 0), (5, .int 0), (4, .int ((zX7_play ((zX7_fault ((zX7_fault Ω 0).2) 1).2)).1)), (3, .int ((zX7_count ((zX7_fault ((zX7_fault Ω 0).2) 1).2) 12).1)), (2, .int ((zX7_fault ((zX7_fault Ω 0).2) 1).1)), (1, .int ((zX7_fault Ω 0).1)), (0, .ref (ob 0))]) hx hb dL_reads_87 hl (by decide) rfl (fun ls hl => ?_)
          refine lv_iload hx hb dL_reads_89 (lv_at hl 1 rfl) ?_
          refine lv_if_ne (tgt := 99) hx hb dL_reads_91 (by decide) (fun c_41 => absurd c_41 (by decide)) (fun _ => ?_)
          refine lv_iload hx hb dL_reads_94 (lv_at hl 0 rfl) ?_
          refine lv_if_eq (tgt := 113) hx hb dL_reads_96 (by decide) (fun _ => ?_) (fun c_42 => absurd (by decide) c_42)
          refine lv_iconst (v := 0) hx hb dL_reads_113 (by decide) ?_
          have e9 : (zL_reads Ω) = (0, (zX7_play ((zX7_fault ((zX7_fault Ω 0).2) 1).2)).2) := by unfold zL_reads; rw [if_pos c_1, if_pos c_20, if_pos c_39, if_pos c_40]
          have hz := rd3 (reads_ok hI0) e9
          exact W.zret (v := 0) hx hb hr (by decide) (fun t ht hW => ⟨⟨0, (zX7_play ((zX7_fault ((zX7_fault Ω 0).2) 1).2)).2, rfl, hz, by dsimp only; rw [ht]; exact hY⟩, hS.F ht⟩) hS.2.2 dL_reads_114
        · refine lv_iload_n hx hb dL_reads_61 rfl (lv_at hl 4 rfl) ?_
          refine lv_iload_n hx hb dL_reads_62 rfl (lv_at hl 2 rfl) ?_
          refine lv_icmp_ge (tgt := 86) hx hb dL_reads_63 (by decide) (fun c_43 => ?_) (fun c_43 => ?_)
          · refine lv_iconst (v := 0) hx hb dL_reads_86 (by decide) ?_
            refine lv_istore (lv' := [(6, .int 0), (5, .int 0), (4, .int ((zX7_play ((zX7_fault ((zX7_fault Ω 0).2) 1).2)).1)), (3, .int ((zX7_count ((zX7_fault ((zX7_fault Ω 0).2) 1).2) 12).1)), (2, .int ((zX7_fault ((zX7_fault Ω 0).2) 1).1)), (1, .int ((zX7_fault Ω 0).1)), (0, .ref (ob 0))]) hx hb dL_reads_87 hl (by decide) rfl (fun ls hl => ?_)
            refine lv_iload hx hb dL_reads_89 (lv_at hl 1 rfl) ?_
            refine lv_if_ne (tgt := 99) hx hb dL_reads_91 (by decide) (fun c_44 => absurd c_44 (by decide)) (fun _ => ?_)
            refine lv_iload hx hb dL_reads_94 (lv_at hl 0 rfl) ?_
            refine lv_if_eq (tgt := 113) hx hb dL_reads_96 (by decide) (fun _ => ?_) (fun c_45 => absurd (by decide) c_45)
            refine lv_iconst (v := 0) hx hb dL_reads_113 (by decide) ?_
            have e9 : (zL_reads Ω) = (0, (zX7_play ((zX7_fault ((zX7_fault Ω 0).2) 1).2)).2) := by unfold zL_reads; rw [if_pos c_1, if_pos c_20, if_pos c_39, if_neg c_40, if_pos c_43]
            have hz := rd3 (reads_ok hI0) e9
            exact W.zret (v := 0) hx hb hr (by decide) (fun t ht hW => ⟨⟨0, (zX7_play ((zX7_fault ((zX7_fault Ω 0).2) 1).2)).2, rfl, hz, by dsimp only; rw [ht]; exact hY⟩, hS.F ht⟩) hS.2.2 dL_reads_114
          · refine lv_iload_n hx hb dL_reads_66 rfl (lv_at hl 3 rfl) ?_
            refine lv_if_le (tgt := 86) hx hb dL_reads_67 (by decide) (fun c_46 => ?_) (fun c_46 => ?_)
            · refine lv_iconst (v := 0) hx hb dL_reads_86 (by decide) ?_
              refine lv_istore (lv' := [(6, .int 0), (5, .int 0), (4, .int ((zX7_play ((zX7_fault ((zX7_fault Ω 0).2) 1).2)).1)), (3, .int ((zX7_count ((zX7_fault ((zX7_fault Ω 0).2) 1).2) 12).1)), (2, .int ((zX7_fault ((zX7_fault Ω 0).2) 1).1)), (1, .int ((zX7_fault Ω 0).1)), (0, .ref (ob 0))]) hx hb dL_reads_87 hl (by decide) rfl (fun ls hl => ?_)
              refine lv_iload hx hb dL_reads_89 (lv_at hl 1 rfl) ?_
              refine lv_if_ne (tgt := 99) hx hb dL_reads_91 (by decide) (fun c_47 => absurd c_47 (by decide)) (fun _ => ?_)
              refine lv_iload hx hb dL_reads_94 (lv_at hl 0 rfl) ?_
              refine lv_if_eq (tgt := 113) hx hb dL_reads_96 (by decide) (fun _ => ?_) (fun c_48 => absurd (by decide) c_48)
              refine lv_iconst (v := 0) hx hb dL_reads_113 (by decide) ?_
              have e9 : (zL_reads Ω) = (0, (zX7_play ((zX7_fault ((zX7_fault Ω 0).2) 1).2)).2) := by unfold zL_reads; rw [if_pos c_1, if_pos c_20, if_pos c_39, if_neg c_40, if_neg c_43, if_pos c_46]
              have hz := rd3 (reads_ok hI0) e9
              exact W.zret (v := 0) hx hb hr (by decide) (fun t ht hW => ⟨⟨0, (zX7_play ((zX7_fault ((zX7_fault Ω 0).2) 1).2)).2, rfl, hz, by dsimp only; rw [ht]; exact hY⟩, hS.F ht⟩) hS.2.2 dL_reads_114
            · refine lv_iload_n hx hb dL_reads_70 rfl (lv_at hl 3 rfl) ?_
              refine lv_iconst (v := 4) hx hb dL_reads_71 (by decide) ?_
              refine lv_icmp_ge (tgt := 86) hx hb dL_reads_72 (by decide) (fun c_49 => ?_) (fun c_49 => ?_)
              · refine lv_iconst (v := 0) hx hb dL_reads_86 (by decide) ?_
                refine lv_istore (lv' := [(6, .int 0), (5, .int 0), (4, .int ((zX7_play ((zX7_fault ((zX7_fault Ω 0).2) 1).2)).1)), (3, .int ((zX7_count ((zX7_fault ((zX7_fault Ω 0).2) 1).2) 12).1)), (2, .int ((zX7_fault ((zX7_fault Ω 0).2) 1).1)), (1, .int ((zX7_fault Ω 0).1)), (0, .ref (ob 0))]) hx hb dL_reads_87 hl (by decide) rfl (fun ls hl => ?_)
                refine lv_iload hx hb dL_reads_89 (lv_at hl 1 rfl) ?_
                refine lv_if_ne (tgt := 99) hx hb dL_reads_91 (by decide) (fun c_50 => absurd c_50 (by decide)) (fun _ => ?_)
                refine lv_iload hx hb dL_reads_94 (lv_at hl 0 rfl) ?_
                refine lv_if_eq (tgt := 113) hx hb dL_reads_96 (by decide) (fun _ => ?_) (fun c_51 => absurd (by decide) c_51)
                refine lv_iconst (v := 0) hx hb dL_reads_113 (by decide) ?_
                have e9 : (zL_reads Ω) = (0, (zX7_play ((zX7_fault ((zX7_fault Ω 0).2) 1).2)).2) := by unfold zL_reads; rw [if_pos c_1, if_pos c_20, if_pos c_39, if_neg c_40, if_neg c_43, if_neg c_46, if_pos c_49]
                have hz := rd3 (reads_ok hI0) e9
                exact W.zret (v := 0) hx hb hr (by decide) (fun t ht hW => ⟨⟨0, (zX7_play ((zX7_fault ((zX7_fault Ω 0).2) 1).2)).2, rfl, hz, by dsimp only; rw [ht]; exact hY⟩, hS.F ht⟩) hS.2.2 dL_reads_114
              · refine lv_iload hx hb dL_reads_75 (lv_at hl 1 rfl) ?_
                refine lv_bipush (v := (-2)) hx hb dL_reads_77 (by decide) ?_
                refine lv_icmp_ne (tgt := 86) hx hb dL_reads_79 (by decide) (fun c_52 => ?_) (fun c_52 => ?_)
                · refine lv_iconst (v := 0) hx hb dL_reads_86 (by decide) ?_
                  refine lv_istore (lv' := [(6, .int 0), (5, .int 0), (4, .int ((zX7_play ((zX7_fault ((zX7_fault Ω 0).2) 1).2)).1)), (3, .int ((zX7_count ((zX7_fault ((zX7_fault Ω 0).2) 1).2) 12).1)), (2, .int ((zX7_fault ((zX7_fault Ω 0).2) 1).1)), (1, .int ((zX7_fault Ω 0).1)), (0, .ref (ob 0))]) hx hb dL_reads_87 hl (by decide) rfl (fun ls hl => ?_)
                  refine lv_iload hx hb dL_reads_89 (lv_at hl 1 rfl) ?_
                  refine lv_if_ne (tgt := 99) hx hb dL_reads_91 (by decide) (fun c_53 => absurd c_53 (by decide)) (fun _ => ?_)
                  refine lv_iload hx hb dL_reads_94 (lv_at hl 0 rfl) ?_
                  refine lv_if_eq (tgt := 113) hx hb dL_reads_96 (by decide) (fun _ => ?_) (fun c_54 => absurd (by decide) c_54)
                  refine lv_iconst (v := 0) hx hb dL_reads_113 (by decide) ?_
                  have e9 : (zL_reads Ω) = (0, (zX7_play ((zX7_fault ((zX7_fault Ω 0).2) 1).2)).2) := by unfold zL_reads; rw [if_pos c_1, if_pos c_20, if_pos c_39, if_neg c_40, if_neg c_43, if_neg c_46, if_neg c_49, if_neg c_52]
                  have hz := rd3 (reads_ok hI0) e9
                  exact W.zret (v := 0) hx hb hr (by decide) (fun t ht hW => ⟨⟨0, (zX7_play ((zX7_fault ((zX7_fault Ω 0).2) 1).2)).2, rfl, hz, by dsimp only; rw [ht]; exact hY⟩, hS.F ht⟩) hS.2.2 dL_reads_114
                · refine lv_iconst (v := 1) hx hb dL_reads_82 (by decide) ?_
                  refine lv_goto (tgt := 87) hx hb dL_reads_83 (by decide) ?_
                  refine lv_istore (lv' := [(6, .int 1), (5, .int 0), (4, .int ((zX7_play ((zX7_fault ((zX7_fault Ω 0).2) 1).2)).1)), (3, .int ((zX7_count ((zX7_fault ((zX7_fault Ω 0).2) 1).2) 12).1)), (2, .int ((zX7_fault ((zX7_fault Ω 0).2) 1).1)), (1, .int ((zX7_fault Ω 0).1)), (0, .ref (ob 0))]) hx hb dL_reads_87 hl (by decide) rfl (fun ls hl => ?_)
                  refine lv_iload hx hb dL_reads_89 (lv_at hl 1 rfl) ?_
                  refine lv_if_ne (tgt := 99) hx hb dL_reads_91 (by decide) (fun c_55 => absurd c_55 (by decide)) (fun _ => ?_)
                  refine lv_iload hx hb dL_reads_94 (lv_at hl 0 rfl) ?_
                  refine lv_if_eq (tgt := 113) hx hb dL_reads_96 (by decide) (fun c_56 => absurd c_56 (by decide)) (fun _ => ?_)
                  refine lv_aload_n hx hb dL_reads_99 rfl (lv_at hl 6 rfl) ?_
                  refine lv_bipush (v := 12) hx hb dL_reads_100 (by decide) ?_
                  refine rX7_count hF (cwV 1 hts gL_reads_X7_count rfl rfl rfl hdX7_count ⟨Nat.le_of_ble_eq_true rfl, Nat.le_of_ble_eq_true rfl⟩) hC hY hJ hOk hS (fun _ h => h) hl.1 (Nat.le_of_ble_eq_true rfl) dL_reads_102 ⟨Nat.zero_le _, Nat.zero_le _⟩ (fun H locs hY _ _ hS => ?_)
                  refine lv_iload_n hx hb dL_reads_105 rfl (lv_at hl 3 rfl) ?_
                  refine lv_icmp_ne (tgt := 113) hx hb dL_reads_106 (by decide) (fun c_57 => ?_) (fun c_57 => ?_)
                  · refine lv_iconst (v := 0) hx hb dL_reads_113 (by decide) ?_
                    have e9 : (zL_reads Ω) = (0, (zX7_play ((zX7_fault ((zX7_fault Ω 0).2) 1).2)).2) := by unfold zL_reads; rw [if_pos c_1, if_pos c_20, if_pos c_39, if_neg c_40, if_neg c_43, if_neg c_46, if_neg c_49, if_pos c_52, if_neg c_57]
                    have hz := rd3 (reads_ok hI0) e9
                    exact W.zret (v := 0) hx hb hr (by decide) (fun t ht hW => ⟨⟨0, (zX7_play ((zX7_fault ((zX7_fault Ω 0).2) 1).2)).2, rfl, hz, by dsimp only; rw [ht]; exact hY⟩, hS.F ht⟩) hS.2.2 dL_reads_114
                  · refine lv_iconst (v := 1) hx hb dL_reads_109 (by decide) ?_
                    refine lv_goto (tgt := 114) hx hb dL_reads_110 (by decide) ?_
                    have e9 : (zL_reads Ω) = (1, (zX7_play ((zX7_fault ((zX7_fault Ω 0).2) 1).2)).2) := by unfold zL_reads; rw [if_pos c_1, if_pos c_20, if_pos c_39, if_neg c_40, if_neg c_43, if_neg c_46, if_neg c_49, if_pos c_52, if_pos c_57]
                    have hz := rd3 (reads_ok hI0) e9
                    exact W.zret (v := 1) hx hb hr (by decide) (fun t ht hW => ⟨⟨1, (zX7_play ((zX7_fault ((zX7_fault Ω 0).2) 1).2)).2, rfl, hz, by dsimp only; rw [ht]; exact hY⟩, hS.F ht⟩) hS.2.2 dL_reads_114
      · refine lv_iload hx hb dL_reads_42 (lv_at hl 0 rfl) ?_
        refine lv_iload_n hx hb dL_reads_44 rfl (lv_at hl 1 rfl) ?_
        refine lv_iconst (v := 3) hx hb dL_reads_45 (by decide) ?_
        refine lv_idiv hx hb dL_reads_46 (by decide) ?_
        refine lv_icmp_gt (tgt := 54) hx hb dL_reads_47 (by decide) (fun c_58 => ?_) (fun c_58 => ?_)
        · refine lv_iconst (v := 0) hx hb dL_reads_54 (by decide) ?_
          refine lv_istore (lv' := [(5, .int 0), (4, .int ((zX7_play ((zX7_fault ((zX7_fault Ω 0).2) 1).2)).1)), (3, .int ((zX7_count ((zX7_fault ((zX7_fault Ω 0).2) 1).2) 12).1)), (2, .int ((zX7_fault ((zX7_fault Ω 0).2) 1).1)), (1, .int ((zX7_fault Ω 0).1)), (0, .ref (ob 0))]) hx hb dL_reads_55 hl (by decide) rfl (fun ls hl => ?_)
          refine lv_iload_n hx hb dL_reads_57 rfl (lv_at hl 4 rfl) ?_
          refine lv_if_lt (tgt := 86) hx hb dL_reads_58 (by decide) (fun c_59 => ?_) (fun c_59 => ?_)
          · refine lv_iconst (v := 0) hx hb dL_reads_86 (by decide) ?_
            refine lv_istore (lv' := [(6, .int 0), (5, .int 0), (4, .int ((zX7_play ((zX7_fault ((zX7_fault Ω 0).2) 1).2)).1)), (3, .int ((zX7_count ((zX7_fault ((zX7_fault Ω 0).2) 1).2) 12).1)), (2, .int ((zX7_fault ((zX7_fault Ω 0).2) 1).1)), (1, .int ((zX7_fault Ω 0).1)), (0, .ref (ob 0))]) hx hb dL_reads_87 hl (by decide) rfl (fun ls hl => ?_)
            refine lv_iload hx hb dL_reads_89 (lv_at hl 1 rfl) ?_
            refine lv_if_ne (tgt := 99) hx hb dL_reads_91 (by decide) (fun c_60 => absurd c_60 (by decide)) (fun _ => ?_)
            refine lv_iload hx hb dL_reads_94 (lv_at hl 0 rfl) ?_
            refine lv_if_eq (tgt := 113) hx hb dL_reads_96 (by decide) (fun _ => ?_) (fun c_61 => absurd (by decide) c_61)
            refine lv_iconst (v := 0) hx hb dL_reads_113 (by decide) ?_
            have e9 : (zL_reads Ω) = (0, (zX7_play ((zX7_fault ((zX7_fault Ω 0).2) 1).2)).2) := by unfold zL_reads; rw [if_pos c_1, if_pos c_20, if_neg c_39, if_pos c_58, if_pos c_59]
            have hz := rd3 (reads_ok hI0) e9
            exact W.zret (v := 0) hx hb hr (by decide) (fun t ht hW => ⟨⟨0, (zX7_play ((zX7_fault ((zX7_fault Ω 0).2) 1).2)).2, rfl, hz, by dsimp only; rw [ht]; exact hY⟩, hS.F ht⟩) hS.2.2 dL_reads_114
          · refine lv_iload_n hx hb dL_reads_61 rfl (lv_at hl 4 rfl) ?_
            refine lv_iload_n hx hb dL_reads_62 rfl (lv_at hl 2 rfl) ?_
            refine lv_icmp_ge (tgt := 86) hx hb dL_reads_63 (by decide) (fun c_62 => ?_) (fun c_62 => ?_)
            · refine lv_iconst (v := 0) hx hb dL_reads_86 (by decide) ?_
              refine lv_istore (lv' := [(6, .int 0), (5, .int 0), (4, .int ((zX7_play ((zX7_fault ((zX7_fault Ω 0).2) 1).2)).1)), (3, .int ((zX7_count ((zX7_fault ((zX7_fault Ω 0).2) 1).2) 12).1)), (2, .int ((zX7_fault ((zX7_fault Ω 0).2) 1).1)), (1, .int ((zX7_fault Ω 0).1)), (0, .ref (ob 0))]) hx hb dL_reads_87 hl (by decide) rfl (fun ls hl => ?_)
              refine lv_iload hx hb dL_reads_89 (lv_at hl 1 rfl) ?_
              refine lv_if_ne (tgt := 99) hx hb dL_reads_91 (by decide) (fun c_63 => absurd c_63 (by decide)) (fun _ => ?_)
              refine lv_iload hx hb dL_reads_94 (lv_at hl 0 rfl) ?_
              refine lv_if_eq (tgt := 113) hx hb dL_reads_96 (by decide) (fun _ => ?_) (fun c_64 => absurd (by decide) c_64)
              refine lv_iconst (v := 0) hx hb dL_reads_113 (by decide) ?_
              have e9 : (zL_reads Ω) = (0, (zX7_play ((zX7_fault ((zX7_fault Ω 0).2) 1).2)).2) := by unfold zL_reads; rw [if_pos c_1, if_pos c_20, if_neg c_39, if_pos c_58, if_neg c_59, if_pos c_62]
              have hz := rd3 (reads_ok hI0) e9
              exact W.zret (v := 0) hx hb hr (by decide) (fun t ht hW => ⟨⟨0, (zX7_play ((zX7_fault ((zX7_fault Ω 0).2) 1).2)).2, rfl, hz, by dsimp only; rw [ht]; exact hY⟩, hS.F ht⟩) hS.2.2 dL_reads_114
            · refine lv_iload_n hx hb dL_reads_66 rfl (lv_at hl 3 rfl) ?_
              refine lv_if_le (tgt := 86) hx hb dL_reads_67 (by decide) (fun c_65 => ?_) (fun c_65 => ?_)
              · refine lv_iconst (v := 0) hx hb dL_reads_86 (by decide) ?_
                refine lv_istore (lv' := [(6, .int 0), (5, .int 0), (4, .int ((zX7_play ((zX7_fault ((zX7_fault Ω 0).2) 1).2)).1)), (3, .int ((zX7_count ((zX7_fault ((zX7_fault Ω 0).2) 1).2) 12).1)), (2, .int ((zX7_fault ((zX7_fault Ω 0).2) 1).1)), (1, .int ((zX7_fault Ω 0).1)), (0, .ref (ob 0))]) hx hb dL_reads_87 hl (by decide) rfl (fun ls hl => ?_)
                refine lv_iload hx hb dL_reads_89 (lv_at hl 1 rfl) ?_
                refine lv_if_ne (tgt := 99) hx hb dL_reads_91 (by decide) (fun c_66 => absurd c_66 (by decide)) (fun _ => ?_)
                refine lv_iload hx hb dL_reads_94 (lv_at hl 0 rfl) ?_
                refine lv_if_eq (tgt := 113) hx hb dL_reads_96 (by decide) (fun _ => ?_) (fun c_67 => absurd (by decide) c_67)
                refine lv_iconst (v := 0) hx hb dL_reads_113 (by decide) ?_
                have e9 : (zL_reads Ω) = (0, (zX7_play ((zX7_fault ((zX7_fault Ω 0).2) 1).2)).2) := by unfold zL_reads; rw [if_pos c_1, if_pos c_20, if_neg c_39, if_pos c_58, if_neg c_59, if_neg c_62, if_pos c_65]
                have hz := rd3 (reads_ok hI0) e9
                exact W.zret (v := 0) hx hb hr (by decide) (fun t ht hW => ⟨⟨0, (zX7_play ((zX7_fault ((zX7_fault Ω 0).2) 1).2)).2, rfl, hz, by dsimp only; rw [ht]; exact hY⟩, hS.F ht⟩) hS.2.2 dL_reads_114
              · refine lv_iload_n hx hb dL_reads_70 rfl (lv_at hl 3 rfl) ?_
                refine lv_iconst (v := 4) hx hb dL_reads_71 (by decide) ?_
                refine lv_icmp_ge (tgt := 86) hx hb dL_reads_72 (by decide) (fun c_68 => ?_) (fun c_68 => ?_)
                · refine lv_iconst (v := 0) hx hb dL_reads_86 (by decide) ?_
                  refine lv_istore (lv' := [(6, .int 0), (5, .int 0), (4, .int ((zX7_play ((zX7_fault ((zX7_fault Ω 0).2) 1).2)).1)), (3, .int ((zX7_count ((zX7_fault ((zX7_fault Ω 0).2) 1).2) 12).1)), (2, .int ((zX7_fault ((zX7_fault Ω 0).2) 1).1)), (1, .int ((zX7_fault Ω 0).1)), (0, .ref (ob 0))]) hx hb dL_reads_87 hl (by decide) rfl (fun ls hl => ?_)
                  refine lv_iload hx hb dL_reads_89 (lv_at hl 1 rfl) ?_
                  refine lv_if_ne (tgt := 99) hx hb dL_reads_91 (by decide) (fun c_69 => absurd c_69 (by decide)) (fun _ => ?_)
                  refine lv_iload hx hb dL_reads_94 (lv_at hl 0 rfl) ?_
                  refine lv_if_eq (tgt := 113) hx hb dL_reads_96 (by decide) (fun _ => ?_) (fun c_70 => absurd (by decide) c_70)
                  refine lv_iconst (v := 0) hx hb dL_reads_113 (by decide) ?_
                  have e9 : (zL_reads Ω) = (0, (zX7_play ((zX7_fault ((zX7_fault Ω 0).2) 1).2)).2) := by unfold zL_reads; rw [if_pos c_1, if_pos c_20, if_neg c_39, if_pos c_58, if_neg c_59, if_neg c_62, if_neg c_65, if_pos c_68]
                  have hz := rd3 (reads_ok hI0) e9
                  exact W.zret (v := 0) hx hb hr (by decide) (fun t ht hW => ⟨⟨0, (zX7_play ((zX7_fault ((zX7_fault Ω 0).2) 1).2)).2, rfl, hz, by dsimp only; rw [ht]; exact hY⟩, hS.F ht⟩) hS.2.2 dL_reads_114
                · refine lv_iload hx hb dL_reads_75 (lv_at hl 1 rfl) ?_
                  refine lv_bipush (v := (-2)) hx hb dL_reads_77 (by decide) ?_
                  refine lv_icmp_ne (tgt := 86) hx hb dL_reads_79 (by decide) (fun c_71 => ?_) (fun c_71 => ?_)
                  · refine lv_iconst (v := 0) hx hb dL_reads_86 (by decide) ?_
                    refine lv_istore (lv' := [(6, .int 0), (5, .int 0), (4, .int ((zX7_play ((zX7_fault ((zX7_fault Ω 0).2) 1).2)).1)), (3, .int ((zX7_count ((zX7_fault ((zX7_fault Ω 0).2) 1).2) 12).1)), (2, .int ((zX7_fault ((zX7_fault Ω 0).2) 1).1)), (1, .int ((zX7_fault Ω 0).1)), (0, .ref (ob 0))]) hx hb dL_reads_87 hl (by decide) rfl (fun ls hl => ?_)
                    refine lv_iload hx hb dL_reads_89 (lv_at hl 1 rfl) ?_
                    refine lv_if_ne (tgt := 99) hx hb dL_reads_91 (by decide) (fun c_72 => absurd c_72 (by decide)) (fun _ => ?_)
                    refine lv_iload hx hb dL_reads_94 (lv_at hl 0 rfl) ?_
                    refine lv_if_eq (tgt := 113) hx hb dL_reads_96 (by decide) (fun _ => ?_) (fun c_73 => absurd (by decide) c_73)
                    refine lv_iconst (v := 0) hx hb dL_reads_113 (by decide) ?_
                    have e9 : (zL_reads Ω) = (0, (zX7_play ((zX7_fault ((zX7_fault Ω 0).2) 1).2)).2) := by unfold zL_reads; rw [if_pos c_1, if_pos c_20, if_neg c_39, if_pos c_58, if_neg c_59, if_neg c_62, if_neg c_65, if_neg c_68, if_neg c_71]
                    have hz := rd3 (reads_ok hI0) e9
                    exact W.zret (v := 0) hx hb hr (by decide) (fun t ht hW => ⟨⟨0, (zX7_play ((zX7_fault ((zX7_fault Ω 0).2) 1).2)).2, rfl, hz, by dsimp only; rw [ht]; exact hY⟩, hS.F ht⟩) hS.2.2 dL_reads_114
                  · refine lv_iconst (v := 1) hx hb dL_reads_82 (by decide) ?_
                    refine lv_goto (tgt := 87) hx hb dL_reads_83 (by decide) ?_
                    refine lv_istore (lv' := [(6, .int 1), (5, .int 0), (4, .int ((zX7_play ((zX7_fault ((zX7_fault Ω 0).2) 1).2)).1)), (3, .int ((zX7_count ((zX7_fault ((zX7_fault Ω 0).2) 1).2) 12).1)), (2, .int ((zX7_fault ((zX7_fault Ω 0).2) 1).1)), (1, .int ((zX7_fault Ω 0).1)), (0, .ref (ob 0))]) hx hb dL_reads_87 hl (by decide) rfl (fun ls hl => ?_)
                    refine lv_iload hx hb dL_reads_89 (lv_at hl 1 rfl) ?_
                    refine lv_if_ne (tgt := 99) hx hb dL_reads_91 (by decide) (fun c_74 => absurd c_74 (by decide)) (fun _ => ?_)
                    refine lv_iload hx hb dL_reads_94 (lv_at hl 0 rfl) ?_
                    refine lv_if_eq (tgt := 113) hx hb dL_reads_96 (by decide) (fun c_75 => absurd c_75 (by decide)) (fun _ => ?_)
                    refine lv_aload_n hx hb dL_reads_99 rfl (lv_at hl 6 rfl) ?_
                    refine lv_bipush (v := 12) hx hb dL_reads_100 (by decide) ?_
                    refine rX7_count hF (cwV 1 hts gL_reads_X7_count rfl rfl rfl hdX7_count ⟨Nat.le_of_ble_eq_true rfl, Nat.le_of_ble_eq_true rfl⟩) hC hY hJ hOk hS (fun _ h => h) hl.1 (Nat.le_of_ble_eq_true rfl) dL_reads_102 ⟨Nat.zero_le _, Nat.zero_le _⟩ (fun H locs hY _ _ hS => ?_)
                    refine lv_iload_n hx hb dL_reads_105 rfl (lv_at hl 3 rfl) ?_
                    refine lv_icmp_ne (tgt := 113) hx hb dL_reads_106 (by decide) (fun c_76 => ?_) (fun c_76 => ?_)
                    · refine lv_iconst (v := 0) hx hb dL_reads_113 (by decide) ?_
                      have e9 : (zL_reads Ω) = (0, (zX7_play ((zX7_fault ((zX7_fault Ω 0).2) 1).2)).2) := by unfold zL_reads; rw [if_pos c_1, if_pos c_20, if_neg c_39, if_pos c_58, if_neg c_59, if_neg c_62, if_neg c_65, if_neg c_68, if_pos c_71, if_neg c_76]
                      have hz := rd3 (reads_ok hI0) e9
                      exact W.zret (v := 0) hx hb hr (by decide) (fun t ht hW => ⟨⟨0, (zX7_play ((zX7_fault ((zX7_fault Ω 0).2) 1).2)).2, rfl, hz, by dsimp only; rw [ht]; exact hY⟩, hS.F ht⟩) hS.2.2 dL_reads_114
                    · refine lv_iconst (v := 1) hx hb dL_reads_109 (by decide) ?_
                      refine lv_goto (tgt := 114) hx hb dL_reads_110 (by decide) ?_
                      have e9 : (zL_reads Ω) = (1, (zX7_play ((zX7_fault ((zX7_fault Ω 0).2) 1).2)).2) := by unfold zL_reads; rw [if_pos c_1, if_pos c_20, if_neg c_39, if_pos c_58, if_neg c_59, if_neg c_62, if_neg c_65, if_neg c_68, if_pos c_71, if_pos c_76]
                      have hz := rd3 (reads_ok hI0) e9
                      exact W.zret (v := 1) hx hb hr (by decide) (fun t ht hW => ⟨⟨1, (zX7_play ((zX7_fault ((zX7_fault Ω 0).2) 1).2)).2, rfl, hz, by dsimp only; rw [ht]; exact hY⟩, hS.F ht⟩) hS.2.2 dL_reads_114
        · refine lv_iconst (v := 1) hx hb dL_reads_50 (by decide) ?_
          refine lv_goto (tgt := 55) hx hb dL_reads_51 (by decide) ?_
          refine lv_istore (lv' := [(5, .int 1), (4, .int ((zX7_play ((zX7_fault ((zX7_fault Ω 0).2) 1).2)).1)), (3, .int ((zX7_count ((zX7_fault ((zX7_fault Ω 0).2) 1).2) 12).1)), (2, .int ((zX7_fault ((zX7_fault Ω 0).2) 1).1)), (1, .int ((zX7_fault Ω 0).1)), (0, .ref (ob 0))]) hx hb dL_reads_55 hl (by decide) rfl (fun ls hl => ?_)
          refine lv_iload_n hx hb dL_reads_57 rfl (lv_at hl 4 rfl) ?_
          refine lv_if_lt (tgt := 86) hx hb dL_reads_58 (by decide) (fun c_77 => ?_) (fun c_77 => ?_)
          · refine lv_iconst (v := 0) hx hb dL_reads_86 (by decide) ?_
            refine lv_istore (lv' := [(6, .int 0), (5, .int 1), (4, .int ((zX7_play ((zX7_fault ((zX7_fault Ω 0).2) 1).2)).1)), (3, .int ((zX7_count ((zX7_fault ((zX7_fault Ω 0).2) 1).2) 12).1)), (2, .int ((zX7_fault ((zX7_fault Ω 0).2) 1).1)), (1, .int ((zX7_fault Ω 0).1)), (0, .ref (ob 0))]) hx hb dL_reads_87 hl (by decide) rfl (fun ls hl => ?_)
            refine lv_iload hx hb dL_reads_89 (lv_at hl 1 rfl) ?_
            refine lv_if_ne (tgt := 99) hx hb dL_reads_91 (by decide) (fun _ => ?_) (fun c_78 => absurd c_78 (by decide))
            refine lv_aload_n hx hb dL_reads_99 rfl (lv_at hl 6 rfl) ?_
            refine lv_bipush (v := 12) hx hb dL_reads_100 (by decide) ?_
            refine rX7_count hF (cwV 1 hts gL_reads_X7_count rfl rfl rfl hdX7_count ⟨Nat.le_of_ble_eq_true rfl, Nat.le_of_ble_eq_true rfl⟩) hC hY hJ hOk hS (fun _ h => h) hl.1 (Nat.le_of_ble_eq_true rfl) dL_reads_102 ⟨Nat.zero_le _, Nat.zero_le _⟩ (fun H locs hY _ _ hS => ?_)
            refine lv_iload_n hx hb dL_reads_105 rfl (lv_at hl 3 rfl) ?_
            refine lv_icmp_ne (tgt := 113) hx hb dL_reads_106 (by decide) (fun c_79 => ?_) (fun c_79 => ?_)
            · refine lv_iconst (v := 0) hx hb dL_reads_113 (by decide) ?_
              have e9 : (zL_reads Ω) = (0, (zX7_play ((zX7_fault ((zX7_fault Ω 0).2) 1).2)).2) := by unfold zL_reads; rw [if_pos c_1, if_pos c_20, if_neg c_39, if_neg c_58, if_pos c_77, if_neg c_79]
              have hz := rd3 (reads_ok hI0) e9
              exact W.zret (v := 0) hx hb hr (by decide) (fun t ht hW => ⟨⟨0, (zX7_play ((zX7_fault ((zX7_fault Ω 0).2) 1).2)).2, rfl, hz, by dsimp only; rw [ht]; exact hY⟩, hS.F ht⟩) hS.2.2 dL_reads_114
            · refine lv_iconst (v := 1) hx hb dL_reads_109 (by decide) ?_
              refine lv_goto (tgt := 114) hx hb dL_reads_110 (by decide) ?_
              have e9 : (zL_reads Ω) = (1, (zX7_play ((zX7_fault ((zX7_fault Ω 0).2) 1).2)).2) := by unfold zL_reads; rw [if_pos c_1, if_pos c_20, if_neg c_39, if_neg c_58, if_pos c_77, if_pos c_79]
              have hz := rd3 (reads_ok hI0) e9
              exact W.zret (v := 1) hx hb hr (by decide) (fun t ht hW => ⟨⟨1, (zX7_play ((zX7_fault ((zX7_fault Ω 0).2) 1).2)).2, rfl, hz, by dsimp only; rw [ht]; exact hY⟩, hS.F ht⟩) hS.2.2 dL_reads_114
          · refine lv_iload_n hx hb dL_reads_61 rfl (lv_at hl 4 rfl) ?_
            refine lv_iload_n hx hb dL_reads_62 rfl (lv_at hl 2 rfl) ?_
            refine lv_icmp_ge (tgt := 86) hx hb dL_reads_63 (by decide) (fun c_80 => ?_) (fun c_80 => ?_)
            · refine lv_iconst (v := 0) hx hb dL_reads_86 (by decide) ?_
              refine lv_istore (lv' := [(6, .int 0), (5, .int 1), (4, .int ((zX7_play ((zX7_fault ((zX7_fault Ω 0).2) 1).2)).1)), (3, .int ((zX7_count ((zX7_fault ((zX7_fault Ω 0).2) 1).2) 12).1)), (2, .int ((zX7_fault ((zX7_fault Ω 0).2) 1).1)), (1, .int ((zX7_fault Ω 0).1)), (0, .ref (ob 0))]) hx hb dL_reads_87 hl (by decide) rfl (fun ls hl => ?_)
              refine lv_iload hx hb dL_reads_89 (lv_at hl 1 rfl) ?_
              refine lv_if_ne (tgt := 99) hx hb dL_reads_91 (by decide) (fun _ => ?_) (fun c_81 => absurd c_81 (by decide))
              refine lv_aload_n hx hb dL_reads_99 rfl (lv_at hl 6 rfl) ?_
              refine lv_bipush (v := 12) hx hb dL_reads_100 (by decide) ?_
              refine rX7_count hF (cwV 1 hts gL_reads_X7_count rfl rfl rfl hdX7_count ⟨Nat.le_of_ble_eq_true rfl, Nat.le_of_ble_eq_true rfl⟩) hC hY hJ hOk hS (fun _ h => h) hl.1 (Nat.le_of_ble_eq_true rfl) dL_reads_102 ⟨Nat.zero_le _, Nat.zero_le _⟩ (fun H locs hY _ _ hS => ?_)
              refine lv_iload_n hx hb dL_reads_105 rfl (lv_at hl 3 rfl) ?_
              refine lv_icmp_ne (tgt := 113) hx hb dL_reads_106 (by decide) (fun c_82 => ?_) (fun c_82 => ?_)
              · refine lv_iconst (v := 0) hx hb dL_reads_113 (by decide) ?_
                have e9 : (zL_reads Ω) = (0, (zX7_play ((zX7_fault ((zX7_fault Ω 0).2) 1).2)).2) := by unfold zL_reads; rw [if_pos c_1, if_pos c_20, if_neg c_39, if_neg c_58, if_neg c_77, if_pos c_80, if_neg c_82]
                have hz := rd3 (reads_ok hI0) e9
                exact W.zret (v := 0) hx hb hr (by decide) (fun t ht hW => ⟨⟨0, (zX7_play ((zX7_fault ((zX7_fault Ω 0).2) 1).2)).2, rfl, hz, by dsimp only; rw [ht]; exact hY⟩, hS.F ht⟩) hS.2.2 dL_reads_114
              · refine lv_iconst (v := 1) hx hb dL_reads_109 (by decide) ?_
                refine lv_goto (tgt := 114) hx hb dL_reads_110 (by decide) ?_
                have e9 : (zL_reads Ω) = (1, (zX7_play ((zX7_fault ((zX7_fault Ω 0).2) 1).2)).2) := by unfold zL_reads; rw [if_pos c_1, if_pos c_20, if_neg c_39, if_neg c_58, if_neg c_77, if_pos c_80, if_pos c_82]
                have hz := rd3 (reads_ok hI0) e9
                exact W.zret (v := 1) hx hb hr (by decide) (fun t ht hW => ⟨⟨1, (zX7_play ((zX7_fault ((zX7_fault Ω 0).2) 1).2)).2, rfl, hz, by dsimp only; rw [ht]; exact hY⟩, hS.F ht⟩) hS.2.2 dL_reads_114
            · refine lv_iload_n hx hb dL_reads_66 rfl (lv_at hl 3 rfl) ?_
              refine lv_if_le (tgt := 86) hx hb dL_reads_67 (by decide) (fun c_83 => ?_) (fun c_83 => ?_)
              · refine lv_iconst (v := 0) hx hb dL_reads_86 (by decide) ?_
                refine lv_istore (lv' := [(6, .int 0), (5, .int 1), (4, .int ((zX7_play ((zX7_fault ((zX7_fault Ω 0).2) 1).2)).1)), (3, .int ((zX7_count ((zX7_fault ((zX7_fault Ω 0).2) 1).2) 12).1)), (2, .int ((zX7_fault ((zX7_fault Ω 0).2) 1).1)), (1, .int ((zX7_fault Ω 0).1)), (0, .ref (ob 0))]) hx hb dL_reads_87 hl (by decide) rfl (fun ls hl => ?_)
                refine lv_iload hx hb dL_reads_89 (lv_at hl 1 rfl) ?_
                refine lv_if_ne (tgt := 99) hx hb dL_reads_91 (by decide) (fun _ => ?_) (fun c_84 => absurd c_84 (by decide))
                refine lv_aload_n hx hb dL_reads_99 rfl (lv_at hl 6 rfl) ?_
                refine lv_bipush (v := 12) hx hb dL_reads_100 (by decide) ?_
                refine rX7_count hF (cwV 1 hts gL_reads_X7_count rfl rfl rfl hdX7_count ⟨Nat.le_of_ble_eq_true rfl, Nat.le_of_ble_eq_true rfl⟩) hC hY hJ hOk hS (fun _ h => h) hl.1 (Nat.le_of_ble_eq_true rfl) dL_reads_102 ⟨Nat.zero_le _, Nat.zero_le _⟩ (fun H locs hY _ _ hS => ?_)
                refine lv_iload_n hx hb dL_reads_105 rfl (lv_at hl 3 rfl) ?_
                refine lv_icmp_ne (tgt := 113) hx hb dL_reads_106 (by decide) (fun c_85 => ?_) (fun c_85 => ?_)
                · refine lv_iconst (v := 0) hx hb dL_reads_113 (by decide) ?_
                  have e9 : (zL_reads Ω) = (0, (zX7_play ((zX7_fault ((zX7_fault Ω 0).2) 1).2)).2) := by unfold zL_reads; rw [if_pos c_1, if_pos c_20, if_neg c_39, if_neg c_58, if_neg c_77, if_neg c_80, if_pos c_83, if_neg c_85]
                  have hz := rd3 (reads_ok hI0) e9
                  exact W.zret (v := 0) hx hb hr (by decide) (fun t ht hW => ⟨⟨0, (zX7_play ((zX7_fault ((zX7_fault Ω 0).2) 1).2)).2, rfl, hz, by dsimp only; rw [ht]; exact hY⟩, hS.F ht⟩) hS.2.2 dL_reads_114
                · refine lv_iconst (v := 1) hx hb dL_reads_109 (by decide) ?_
                  refine lv_goto (tgt := 114) hx hb dL_reads_110 (by decide) ?_
                  have e9 : (zL_reads Ω) = (1, (zX7_play ((zX7_fault ((zX7_fault Ω 0).2) 1).2)).2) := by unfold zL_reads; rw [if_pos c_1, if_pos c_20, if_neg c_39, if_neg c_58, if_neg c_77, if_neg c_80, if_pos c_83, if_pos c_85]
                  have hz := rd3 (reads_ok hI0) e9
                  exact W.zret (v := 1) hx hb hr (by decide) (fun t ht hW => ⟨⟨1, (zX7_play ((zX7_fault ((zX7_fault Ω 0).2) 1).2)).2, rfl, hz, by dsimp only; rw [ht]; exact hY⟩, hS.F ht⟩) hS.2.2 dL_reads_114
              · refine lv_iload_n hx hb dL_reads_70 rfl (lv_at hl 3 rfl) ?_
                refine lv_iconst (v := 4) hx hb dL_reads_71 (by decide) ?_
                refine lv_icmp_ge (tgt := 86) hx hb dL_reads_72 (by decide) (fun c_86 => ?_) (fun c_86 => ?_)
                · refine lv_iconst (v := 0) hx hb dL_reads_86 (by decide) ?_
                  refine lv_istore (lv' := [(6, .int 0), (5, .int 1), (4, .int ((zX7_play ((zX7_fault ((zX7_fault Ω 0).2) 1).2)).1)), (3, .int ((zX7_count ((zX7_fault ((zX7_fault Ω 0).2) 1).2) 12).1)), (2, .int ((zX7_fault ((zX7_fault Ω 0).2) 1).1)), (1, .int ((zX7_fault Ω 0).1)), (0, .ref (ob 0))]) hx hb dL_reads_87 hl (by decide) rfl (fun ls hl => ?_)
                  refine lv_iload hx hb dL_reads_89 (lv_at hl 1 rfl) ?_
                  refine lv_if_ne (tgt := 99) hx hb dL_reads_91 (by decide) (fun _ => ?_) (fun c_87 => absurd c_87 (by decide))
                  refine lv_aload_n hx hb dL_reads_99 rfl (lv_at hl 6 rfl) ?_
                  refine lv_bipush (v := 12) hx hb dL_reads_100 (by decide) ?_
                  refine rX7_count hF (cwV 1 hts gL_reads_X7_count rfl rfl rfl hdX7_count ⟨Nat.le_of_ble_eq_true rfl, Nat.le_of_ble_eq_true rfl⟩) hC hY hJ hOk hS (fun _ h => h) hl.1 (Nat.le_of_ble_eq_true rfl) dL_reads_102 ⟨Nat.zero_le _, Nat.zero_le _⟩ (fun H locs hY _ _ hS => ?_)
                  refine lv_iload_n hx hb dL_reads_105 rfl (lv_at hl 3 rfl) ?_
                  refine lv_icmp_ne (tgt := 113) hx hb dL_reads_106 (by decide) (fun c_88 => ?_) (fun c_88 => ?_)
                  · refine lv_iconst (v := 0) hx hb dL_reads_113 (by decide) ?_
                    have e9 : (zL_reads Ω) = (0, (zX7_play ((zX7_fault ((zX7_fault Ω 0).2) 1).2)).2) := by unfold zL_reads; rw [if_pos c_1, if_pos c_20, if_neg c_39, if_neg c_58, if_neg c_77, if_neg c_80, if_neg c_83, if_pos c_86, if_neg c_88]
                    have hz := rd3 (reads_ok hI0) e9
                    exact W.zret (v := 0) hx hb hr (by decide) (fun t ht hW => ⟨⟨0, (zX7_play ((zX7_fault ((zX7_fault Ω 0).2) 1).2)).2, rfl, hz, by dsimp only; rw [ht]; exact hY⟩, hS.F ht⟩) hS.2.2 dL_reads_114
                  · refine lv_iconst (v := 1) hx hb dL_reads_109 (by decide) ?_
                    refine lv_goto (tgt := 114) hx hb dL_reads_110 (by decide) ?_
                    have e9 : (zL_reads Ω) = (1, (zX7_play ((zX7_fault ((zX7_fault Ω 0).2) 1).2)).2) := by unfold zL_reads; rw [if_pos c_1, if_pos c_20, if_neg c_39, if_neg c_58, if_neg c_77, if_neg c_80, if_neg c_83, if_pos c_86, if_pos c_88]
                    have hz := rd3 (reads_ok hI0) e9
                    exact W.zret (v := 1) hx hb hr (by decide) (fun t ht hW => ⟨⟨1, (zX7_play ((zX7_fault ((zX7_fault Ω 0).2) 1).2)).2, rfl, hz, by dsimp only; rw [ht]; exact hY⟩, hS.F ht⟩) hS.2.2 dL_reads_114
                · refine lv_iload hx hb dL_reads_75 (lv_at hl 1 rfl) ?_
                  refine lv_bipush (v := (-2)) hx hb dL_reads_77 (by decide) ?_
                  refine lv_icmp_ne (tgt := 86) hx hb dL_reads_79 (by decide) (fun c_89 => ?_) (fun c_89 => ?_)
                  · refine lv_iconst (v := 0) hx hb dL_reads_86 (by decide) ?_
                    refine lv_istore (lv' := [(6, .int 0), (5, .int 1), (4, .int ((zX7_play ((zX7_fault ((zX7_fault Ω 0).2) 1).2)).1)), (3, .int ((zX7_count ((zX7_fault ((zX7_fault Ω 0).2) 1).2) 12).1)), (2, .int ((zX7_fault ((zX7_fault Ω 0).2) 1).1)), (1, .int ((zX7_fault Ω 0).1)), (0, .ref (ob 0))]) hx hb dL_reads_87 hl (by decide) rfl (fun ls hl => ?_)
                    refine lv_iload hx hb dL_reads_89 (lv_at hl 1 rfl) ?_
                    refine lv_if_ne (tgt := 99) hx hb dL_reads_91 (by decide) (fun _ => ?_) (fun c_90 => absurd c_90 (by decide))
                    refine lv_aload_n hx hb dL_reads_99 rfl (lv_at hl 6 rfl) ?_
                    refine lv_bipush (v := 12) hx hb dL_reads_100 (by decide) ?_
                    refine rX7_count hF (cwV 1 hts gL_reads_X7_count rfl rfl rfl hdX7_count ⟨Nat.le_of_ble_eq_true rfl, Nat.le_of_ble_eq_true rfl⟩) hC hY hJ hOk hS (fun _ h => h) hl.1 (Nat.le_of_ble_eq_true rfl) dL_reads_102 ⟨Nat.zero_le _, Nat.zero_le _⟩ (fun H locs hY _ _ hS => ?_)
                    refine lv_iload_n hx hb dL_reads_105 rfl (lv_at hl 3 rfl) ?_
                    refine lv_icmp_ne (tgt := 113) hx hb dL_reads_106 (by decide) (fun c_91 => ?_) (fun c_91 => ?_)
                    · refine lv_iconst (v := 0) hx hb dL_reads_113 (by decide) ?_
                      have e9 : (zL_reads Ω) = (0, (zX7_play ((zX7_fault ((zX7_fault Ω 0).2) 1).2)).2) := by unfold zL_reads; rw [if_pos c_1, if_pos c_20, if_neg c_39, if_neg c_58, if_neg c_77, if_neg c_80, if_neg c_83, if_neg c_86, if_neg c_89, if_neg c_91]
                      have hz := rd3 (reads_ok hI0) e9
                      exact W.zret (v := 0) hx hb hr (by decide) (fun t ht hW => ⟨⟨0, (zX7_play ((zX7_fault ((zX7_fault Ω 0).2) 1).2)).2, rfl, hz, by dsimp only; rw [ht]; exact hY⟩, hS.F ht⟩) hS.2.2 dL_reads_114
                    · refine lv_iconst (v := 1) hx hb dL_reads_109 (by decide) ?_
                      refine lv_goto (tgt := 114) hx hb dL_reads_110 (by decide) ?_
                      have e9 : (zL_reads Ω) = (1, (zX7_play ((zX7_fault ((zX7_fault Ω 0).2) 1).2)).2) := by unfold zL_reads; rw [if_pos c_1, if_pos c_20, if_neg c_39, if_neg c_58, if_neg c_77, if_neg c_80, if_neg c_83, if_neg c_86, if_neg c_89, if_pos c_91]
                      have hz := rd3 (reads_ok hI0) e9
                      exact W.zret (v := 1) hx hb hr (by decide) (fun t ht hW => ⟨⟨1, (zX7_play ((zX7_fault ((zX7_fault Ω 0).2) 1).2)).2, rfl, hz, by dsimp only; rw [ht]; exact hY⟩, hS.F ht⟩) hS.2.2 dL_reads_114
                  · refine lv_iconst (v := 1) hx hb dL_reads_82 (by decide) ?_
                    refine lv_goto (tgt := 87) hx hb dL_reads_83 (by decide) ?_
                    refine lv_istore (lv' := [(6, .int 1), (5, .int 1), (4, .int ((zX7_play ((zX7_fault ((zX7_fault Ω 0).2) 1).2)).1)), (3, .int ((zX7_count ((zX7_fault ((zX7_fault Ω 0).2) 1).2) 12).1)), (2, .int ((zX7_fault ((zX7_fault Ω 0).2) 1).1)), (1, .int ((zX7_fault Ω 0).1)), (0, .ref (ob 0))]) hx hb dL_reads_87 hl (by decide) rfl (fun ls hl => ?_)
                    refine lv_iload hx hb dL_reads_89 (lv_at hl 1 rfl) ?_
                    refine lv_if_ne (tgt := 99) hx hb dL_reads_91 (by decide) (fun _ => ?_) (fun c_92 => absurd c_92 (by decide))
                    refine lv_aload_n hx hb dL_reads_99 rfl (lv_at hl 6 rfl) ?_
                    refine lv_bipush (v := 12) hx hb dL_reads_100 (by decide) ?_
                    refine rX7_count hF (cwV 1 hts gL_reads_X7_count rfl rfl rfl hdX7_count ⟨Nat.le_of_ble_eq_true rfl, Nat.le_of_ble_eq_true rfl⟩) hC hY hJ hOk hS (fun _ h => h) hl.1 (Nat.le_of_ble_eq_true rfl) dL_reads_102 ⟨Nat.zero_le _, Nat.zero_le _⟩ (fun H locs hY _ _ hS => ?_)
                    refine lv_iload_n hx hb dL_reads_105 rfl (lv_at hl 3 rfl) ?_
                    refine lv_icmp_ne (tgt := 113) hx hb dL_reads_106 (by decide) (fun c_93 => ?_) (fun c_93 => ?_)
                    · refine lv_iconst (v := 0) hx hb dL_reads_113 (by decide) ?_
                      have e9 : (zL_reads Ω) = (0, (zX7_play ((zX7_fault ((zX7_fault Ω 0).2) 1).2)).2) := by unfold zL_reads; rw [if_pos c_1, if_pos c_20, if_neg c_39, if_neg c_58, if_neg c_77, if_neg c_80, if_neg c_83, if_neg c_86, if_pos c_89, if_neg c_93]
                      have hz := rd3 (reads_ok hI0) e9
                      exact W.zret (v := 0) hx hb hr (by decide) (fun t ht hW => ⟨⟨0, (zX7_play ((zX7_fault ((zX7_fault Ω 0).2) 1).2)).2, rfl, hz, by dsimp only; rw [ht]; exact hY⟩, hS.F ht⟩) hS.2.2 dL_reads_114
                    · refine lv_iconst (v := 1) hx hb dL_reads_109 (by decide) ?_
                      refine lv_goto (tgt := 114) hx hb dL_reads_110 (by decide) ?_
                      have e9 : (zL_reads Ω) = (1, (zX7_play ((zX7_fault ((zX7_fault Ω 0).2) 1).2)).2) := by unfold zL_reads; rw [if_pos c_1, if_pos c_20, if_neg c_39, if_neg c_58, if_neg c_77, if_neg c_80, if_neg c_83, if_neg c_86, if_pos c_89, if_pos c_93]
                      have hz := rd3 (reads_ok hI0) e9
                      exact W.zret (v := 1) hx hb hr (by decide) (fun t ht hW => ⟨⟨1, (zX7_play ((zX7_fault ((zX7_fault Ω 0).2) 1).2)).2, rfl, hz, by dsimp only; rw [ht]; exact hY⟩, hS.F ht⟩) hS.2.2 dL_reads_114
set_option maxHeartbeats 4000000 in
set_option maxRecDepth 100000 in
theorem kL_reads {p : Program} {l : Launch} {e : Env} {R : Room} {s : State} {m : MethodId} {args : Array Value} {below : List Frame} {meth : Method} {c : Code} {H : Heap} {locs : List Loc} {cells slots : Nat} {Q : State → Prop} {cc : ByteArray} {nL : Nat} {Ts : List Cond} {own : String} {index pc : Nat} {ls : Array Slot} {rest : List Value} {D : va_G} {y : Y3} {ob : Nat → Nat} {AD : Nat → Nat → Nat} {Ω : Og} {A0 : Nat → Prop} {H0 : Heap} (hF : CallFix p m c cc nL s args Ts own) (cw : CallB R s args own index yL_reads cL_reads 7 (some .boolean) wsL_reads ({ frames := 8, cells := 0, slots := 0, locals := 181 } : Room) 0 0 1 ∧ (Cond.static yL_reads).before args s = true) (hC : CK D y s) (hY : SysH D y ob AD Ω H) (hJ : sysJ ob AD) (hI : InvO Ω) (hS : va_S A0 H0 H locs) (hA : ∀ q, (sysA ob AD) q → A0 q) (hsz : ls.size = nL) (hW : (rest.map fun v => v.category).sum ≤ 8) (hdg : decode cc pc = .ok (.invokestatic index, 3)) (hf : cells ≤ R.cells ∧ slots ≤ R.slots)
    (k : ∀ (r : Int32) (u : Og) (H1 : Heap) (locs1 : List Loc), (r = 1 ∧ InvO u ∧ HSt Ω u) → SysH D y ob AD u H1 → va_S A0 H0 H1 locs1 → W p l e R s m args below meth c H1 locs1 cells slots Q (F0 m (pc + 3) ls (.int r :: rest))) : W p l e R s m args below meth c H locs cells slots Q (F0 m pc ls (.ref (ob 0) :: rest)) := by
  refine va_calli (va_runS (As := [.ref (ob 0)]) (rest := rest) hF (mL_reads l D y ob AD Ω) cw ⟨fun a U g mk q => by obtain ⟨q0, q1, q2, q3, q4⟩ := q; exact ⟨q0, q1.call g mk a, q2, q3, q4⟩, fun U hU hW => ⟨rfl, hC.warm hW, by rw [hU]; exact hY, hJ, hI⟩⟩ rfl rfl hsz rfl (lv_room hW) hdg ⟨hf.1, hf.2⟩) hS (fun q _ h => hA q h) hA (fun r u t H1 locs1 ht hvm hp hB hz1 hk1 hS1 => ?_)
  rw [ht] at hB
  exact k r u H1 locs1 hp hB hS1
