theorem hdL_holds : yL_holds.cls ≠ "java/lang/invoke/MethodHandle" ∧ yL_holds.cls ≠ "java/lang/invoke/VarHandle" ∧ (parseMethodDescriptor yL_holds.desc).map (fun d => d.parameters.length) = some 1 := by decide +kernel
set_option maxHeartbeats 4000000 in
set_option maxRecDepth 100000 in
theorem lpL_h1 {p : Program} {l : Launch} {e : Env} {s : State} {m : MethodId} {args : Array Value} {below : List Frame} {meth : Method} {c : Code} {Q : State → Prop} {D : va_G} {y : Y3} {ob : Nat → Nat} {AD : Nat → Nat → Nat} {Ω : Og} {acc : Nat → Int32} (hx : p.tables.exec = Jvm.exec) (hb : c.code = cL_holds) (hml : c.maxLocals = 6) (hown : s.vm.findClass RL = some m.cls) (hts : ∀ w ∈ wsL_holds, w.before args s = true) (hC : CK D y s) (hJ : sysJ ob AD) (hOk : okO Ω) (hok : ∀ i, i < (zX3_total (Ω 0) 2).toNatClampNeg → bh1 (Ω 0) i (acc i) = some (acc (i + 1)))
    (K : ∀ (H : Heap) (locs : List Loc) (ls : Array Slot), SysH D y ob AD Ω H → va_S (sysA ob AD) s.heap H locs → lv_has ls 6 [(2, .int (nI ((zX3_total (Ω 0) 2).toNatClampNeg))), (1, .int (acc ((zX3_total (Ω 0) 2).toNatClampNeg))), (0, .ref (ob 0))] → W p l e (headSpec wsL_holds ({ frames := 4, cells := 0, slots := 0, locals := 90 } : Room)).room s m args below meth c H locs 0 0 Q (F0 m 155 ls [])) :
    ∀ (j i : Nat), i + j = (zX3_total (Ω 0) 2).toNatClampNeg → ∀ (H : Heap) (locs : List Loc), SysH D y ob AD Ω H → va_S (sysA ob AD) s.heap H locs → ∀ ls : Array Slot, lv_has ls 6 [(2, .int (nI i)), (1, .int (acc i)), (0, .ref (ob 0))] → W p l e (headSpec wsL_holds ({ frames := 4, cells := 0, slots := 0, locals := 90 } : Room)).room s m args below meth c H locs 0 0 Q (F0 m 4 ls []) := by
  have hF := (⟨hx, hb, hml, hown, hts⟩ : CallFix p m c cL_holds 6 s args wsL_holds RL)
  have hN := clamp_lt (zX3_total (Ω 0) 2)
  intro j
  induction j with
  | zero =>
    intro i hin H locs hY hS ls hl
    obtain rfl : i = (zX3_total (Ω 0) 2).toNatClampNeg := by omega
    refine lv_iload_n hx hb dL_holds_4 rfl (lv_at hl 0 rfl) ?_
    refine lv_aload_n hx hb dL_holds_5 rfl (lv_at hl 2 rfl) ?_
    refine lv_iconst (v := 2) hx hb dL_holds_6 (by decide) ?_
    refine rX7_countT hF (cwV 1 hts gL_holds_X7_count rfl rfl rfl hdX7_count ⟨Nat.le_of_ble_eq_true rfl, Nat.le_of_ble_eq_true rfl⟩) hC hY hJ hOk ⟨by decide, by decide⟩ hS (fun _ h => h) hl.1 (Nat.le_of_ble_eq_true rfl) dL_holds_7 ⟨Nat.zero_le _, Nat.zero_le _⟩ (fun H locs hY _ _ hS => ?_)
    refine lv_icmp_ge (tgt := 155) hx hb dL_holds_10 (by decide) (fun _ => ?_) (fun c_1 => absurd (up_le _) c_1)
    exact K H locs ls hY hS (lv_sub hl [0, 1, 2] rfl)
  | succ j ih =>
    intro i hin H locs hY hS ls hl
    obtain ⟨v, hv⟩ : ∃ v, v = acc i := ⟨_, rfl⟩
    rw [← hv] at hl
    refine lv_iload_n hx hb dL_holds_4 rfl (lv_at hl 0 rfl) ?_
    refine lv_aload_n hx hb dL_holds_5 rfl (lv_at hl 2 rfl) ?_
    refine lv_iconst (v := 2) hx hb dL_holds_6 (by decide) ?_
    refine rX7_countT hF (cwV 1 hts gL_holds_X7_count rfl rfl rfl hdX7_count ⟨Nat.le_of_ble_eq_true rfl, Nat.le_of_ble_eq_true rfl⟩) hC hY hJ hOk ⟨by decide, by decide⟩ hS (fun _ h => h) hl.1 (Nat.le_of_ble_eq_true rfl) dL_holds_7 ⟨Nat.zero_le _, Nat.zero_le _⟩ (fun H locs hY _ _ hS => ?_)
    refine lv_icmp_ge (tgt := 155) hx hb dL_holds_10 (by decide) (fun c_2 => absurd c_2 (up_gt (by omega))) (fun _ => ?_)
    refine lv_aload_n hx hb dL_holds_13 rfl (lv_at hl 2 rfl) ?_
    refine lv_iload_n hx hb dL_holds_14 rfl (lv_at hl 0 rfl) ?_
    refine lv_iconst (v := 3) hx hb dL_holds_15 (by decide) ?_
    refine rX7_personOf hF (cwV 2 hts gL_holds_X7_personOf rfl rfl rfl hdX7_personOf ⟨Nat.le_of_ble_eq_true rfl, Nat.le_of_ble_eq_true rfl⟩) hC hY hJ hOk hS (fun _ h => h) hl.1 (Nat.le_of_ble_eq_true rfl) dL_holds_16 ⟨Nat.zero_le _, Nat.zero_le _⟩ (fun H locs hY _ _ hS => ?_)
    refine lv_istore_n (lv' := [(3, .int (zX3_ofPerson (Ω 0) (nI i) 3)), (2, .int (nI i)), (1, .int v), (0, .ref (ob 0))]) hx hb dL_holds_19 rfl hl (by decide) rfl (fun ls hl => ?_)
    refine lv_iload_n hx hb dL_holds_20 rfl (lv_at hl 2 rfl) ?_
    refine lv_iload_n hx hb dL_holds_21 rfl (lv_at hl 0 rfl) ?_
    refine lv_if_lt (tgt := 29) hx hb dL_holds_22 (by decide) (fun c_3 => ?_) (fun c_3 => ?_)
    · refine lv_iconst (v := 0) hx hb dL_holds_29 (by decide) ?_
      refine lv_iadd hx hb dL_holds_30 ?_
      refine lv_istore_n (lv' := [(1, .int (v + 0)), (3, .int (zX3_ofPerson (Ω 0) (nI i) 3)), (2, .int (nI i)), (0, .ref (ob 0))]) hx hb dL_holds_31 rfl hl (by decide) rfl (fun ls hl => ?_)
      refine lv_iload_n hx hb dL_holds_32 rfl (lv_at hl 1 rfl) ?_
      refine lv_bipush (v := (-4)) hx hb dL_holds_33 (by decide) ?_
      refine lv_icmp_eq (tgt := 98) hx hb dL_holds_35 (by decide) (fun c_4 => ?_) (fun c_4 => ?_)
      · refine lv_iconst (v := 1) hx hb dL_holds_98 (by decide) ?_
        refine lv_goto (tgt := 103) hx hb dL_holds_99 (by decide) ?_
        refine lv_istore (lv' := [(4, .int 1), (1, .int (v + 0)), (3, .int (zX3_ofPerson (Ω 0) (nI i) 3)), (2, .int (nI i)), (0, .ref (ob 0))]) hx hb dL_holds_103 hl (by decide) rfl (fun ls hl => ?_)
        refine lv_iload hx hb dL_holds_105 (lv_at hl 0 rfl) ?_
        refine lv_if_eq (tgt := 147) hx hb dL_holds_107 (by decide) (fun c_5 => absurd c_5 (by decide)) (fun _ => ?_)
        refine lv_aload_n hx hb dL_holds_110 rfl (lv_at hl 4 rfl) ?_
        refine lv_iload_n hx hb dL_holds_111 rfl (lv_at hl 3 rfl) ?_
        refine lv_iconst (v := 2) hx hb dL_holds_112 (by decide) ?_
        refine rX7_personOf hF (cwV 2 hts gL_holds_X7_personOf rfl rfl rfl hdX7_personOf ⟨Nat.le_of_ble_eq_true rfl, Nat.le_of_ble_eq_true rfl⟩) hC hY hJ hOk hS (fun _ h => h) hl.1 (Nat.le_of_ble_eq_true rfl) dL_holds_113 ⟨Nat.zero_le _, Nat.zero_le _⟩ (fun H locs hY _ _ hS => ?_)
        refine lv_bipush (v := 99) hx hb dL_holds_116 (by decide) ?_
        refine lv_icmp_gt (tgt := 147) hx hb dL_holds_118 (by decide) (fun c_6 => ?_) (fun c_6 => ?_)
        · refine lv_iconst (v := 0) hx hb dL_holds_147 (by decide) ?_
          have q9 := hok i (by omega)
          rw [← hv, show bh1 (Ω 0) i v = none by unfold bh1; rw [if_pos c_3, if_pos c_4, if_pos c_6]] at q9
          exact absurd q9 (by intro q; cases q)
        · refine lv_aload_n hx hb dL_holds_121 rfl (lv_at hl 4 rfl) ?_
          refine lv_iload_n hx hb dL_holds_122 rfl (lv_at hl 3 rfl) ?_
          refine lv_iconst (v := 1) hx hb dL_holds_123 (by decide) ?_
          refine rX7_personOf hF (cwV 2 hts gL_holds_X7_personOf rfl rfl rfl hdX7_personOf ⟨Nat.le_of_ble_eq_true rfl, Nat.le_of_ble_eq_true rfl⟩) hC hY hJ hOk hS (fun _ h => h) hl.1 (Nat.le_of_ble_eq_true rfl) dL_holds_124 ⟨Nat.zero_le _, Nat.zero_le _⟩ (fun H locs hY _ _ hS => ?_)
          refine lv_bipush (v := 8) hx hb dL_holds_127 (by decide) ?_
          refine lv_icmp_gt (tgt := 147) hx hb dL_holds_129 (by decide) (fun c_7 => ?_) (fun c_7 => ?_)
          · refine lv_iconst (v := 0) hx hb dL_holds_147 (by decide) ?_
            have q9 := hok i (by omega)
            rw [← hv, show bh1 (Ω 0) i v = none by unfold bh1; rw [if_pos c_3, if_pos c_4, if_neg c_6, if_pos c_7]] at q9
            exact absurd q9 (by intro q; cases q)
          · refine lv_aload_n hx hb dL_holds_132 rfl (lv_at hl 4 rfl) ?_
            refine lv_iload_n hx hb dL_holds_133 rfl (lv_at hl 3 rfl) ?_
            refine lv_iconst (v := 1) hx hb dL_holds_134 (by decide) ?_
            refine rX7_personOf hF (cwV 2 hts gL_holds_X7_personOf rfl rfl rfl hdX7_personOf ⟨Nat.le_of_ble_eq_true rfl, Nat.le_of_ble_eq_true rfl⟩) hC hY hJ hOk hS (fun _ h => h) hl.1 (Nat.le_of_ble_eq_true rfl) dL_holds_135 ⟨Nat.zero_le _, Nat.zero_le _⟩ (fun H locs hY _ _ hS => ?_)
            refine lv_aload_n hx hb dL_holds_138 rfl (lv_at hl 4 rfl) ?_
            refine lv_iload_n hx hb dL_holds_139 rfl (lv_at hl 3 rfl) ?_
            refine lv_iconst (v := 5) hx hb dL_holds_140 (by decide) ?_
            refine rX7_personOf hF (cwV 2 hts gL_holds_X7_personOf rfl rfl rfl hdX7_personOf ⟨Nat.le_of_ble_eq_true rfl, Nat.le_of_ble_eq_true rfl⟩) hC hY hJ hOk hS (fun _ h => h) hl.1 (Nat.le_of_ble_eq_true rfl) dL_holds_141 ⟨Nat.zero_le _, Nat.zero_le _⟩ (fun H locs hY _ _ hS => ?_)
            refine lv_icmp_le (tgt := 149) hx hb dL_holds_144 (by decide) (fun c_8 => ?_) (fun c_8 => ?_)
            · refine lv_iinc (v := (nI (i + 1))) (lv' := [(2, .int (nI (i + 1))), (4, .int 1), (1, .int (v + 0)), (3, .int (zX3_ofPerson (Ω 0) (nI i) 3)), (0, .ref (ob 0))]) hx hb dL_holds_149 hl (k := 3) rfl (by rw [nI_succ]; rfl) (by decide) rfl (fun ls hl => ?_)
              refine lv_goto (tgt := 4) hx hb dL_holds_152 (by decide) ?_
              have e9 : acc (i + 1) = (v + 0) := by
                have q9 := hok i (by omega)
                rw [← hv, show bh1 (Ω 0) i v = some ((v + 0)) by unfold bh1; rw [if_pos c_3, if_pos c_4, if_neg c_6, if_neg c_7, if_pos c_8]] at q9
                exact (Option.some.inj q9).symm
              exact ih (i + 1) (by omega) H locs hY hS ls (by rw [e9]; exact lv_sub hl [0, 2, 4] rfl)
            · refine lv_iconst (v := 0) hx hb dL_holds_147 (by decide) ?_
              have q9 := hok i (by omega)
              rw [← hv, show bh1 (Ω 0) i v = none by unfold bh1; rw [if_pos c_3, if_pos c_4, if_neg c_6, if_neg c_7, if_neg c_8]] at q9
              exact absurd q9 (by intro q; cases q)
      · refine lv_aload_n hx hb dL_holds_38 rfl (lv_at hl 3 rfl) ?_
        refine lv_iload_n hx hb dL_holds_39 rfl (lv_at hl 1 rfl) ?_
        refine lv_iconst (v := 0) hx hb dL_holds_40 (by decide) ?_
        refine rX7_mealOf hF (cwV 2 hts gL_holds_X7_mealOf rfl rfl rfl hdX7_mealOf ⟨Nat.le_of_ble_eq_true rfl, Nat.le_of_ble_eq_true rfl⟩) hC hY hJ hOk hS (fun _ h => h) hl.1 (Nat.le_of_ble_eq_true rfl) dL_holds_41 ⟨Nat.zero_le _, Nat.zero_le _⟩ (fun H locs hY _ _ hS => ?_)
        refine lv_iconst (v := 1) hx hb dL_holds_44 (by decide) ?_
        refine lv_icmp_ne (tgt := 102) hx hb dL_holds_45 (by decide) (fun c_9 => ?_) (fun c_9 => ?_)
        · refine lv_iconst (v := 0) hx hb dL_holds_102 (by decide) ?_
          refine lv_istore (lv' := [(4, .int 0), (1, .int (v + 0)), (3, .int (zX3_ofPerson (Ω 0) (nI i) 3)), (2, .int (nI i)), (0, .ref (ob 0))]) hx hb dL_holds_103 hl (by decide) rfl (fun ls hl => ?_)
          refine lv_iload hx hb dL_holds_105 (lv_at hl 0 rfl) ?_
          refine lv_if_eq (tgt := 147) hx hb dL_holds_107 (by decide) (fun _ => ?_) (fun c_10 => absurd (by decide) c_10)
          refine lv_iconst (v := 0) hx hb dL_holds_147 (by decide) ?_
          have q9 := hok i (by omega)
          rw [← hv, show bh1 (Ω 0) i v = none by unfold bh1; rw [if_pos c_3, if_neg c_4, if_neg c_9]] at q9
          exact absurd q9 (by intro q; cases q)
        · refine lv_aload_n hx hb dL_holds_48 rfl (lv_at hl 3 rfl) ?_
          refine lv_iload_n hx hb dL_holds_49 rfl (lv_at hl 1 rfl) ?_
          refine lv_iconst (v := 5) hx hb dL_holds_50 (by decide) ?_
          refine rX7_mealOf hF (cwV 2 hts gL_holds_X7_mealOf rfl rfl rfl hdX7_mealOf ⟨Nat.le_of_ble_eq_true rfl, Nat.le_of_ble_eq_true rfl⟩) hC hY hJ hOk hS (fun _ h => h) hl.1 (Nat.le_of_ble_eq_true rfl) dL_holds_51 ⟨Nat.zero_le _, Nat.zero_le _⟩ (fun H locs hY _ _ hS => ?_)
          refine lv_iload_n hx hb dL_holds_54 rfl (lv_at hl 2 rfl) ?_
          refine lv_icmp_ne (tgt := 102) hx hb dL_holds_55 (by decide) (fun c_11 => ?_) (fun c_11 => ?_)
          · refine lv_iconst (v := 0) hx hb dL_holds_102 (by decide) ?_
            refine lv_istore (lv' := [(4, .int 0), (1, .int (v + 0)), (3, .int (zX3_ofPerson (Ω 0) (nI i) 3)), (2, .int (nI i)), (0, .ref (ob 0))]) hx hb dL_holds_103 hl (by decide) rfl (fun ls hl => ?_)
            refine lv_iload hx hb dL_holds_105 (lv_at hl 0 rfl) ?_
            refine lv_if_eq (tgt := 147) hx hb dL_holds_107 (by decide) (fun _ => ?_) (fun c_12 => absurd (by decide) c_12)
            refine lv_iconst (v := 0) hx hb dL_holds_147 (by decide) ?_
            have q9 := hok i (by omega)
            rw [← hv, show bh1 (Ω 0) i v = none by unfold bh1; rw [if_pos c_3, if_neg c_4, if_pos c_9, if_neg c_11]] at q9
            exact absurd q9 (by intro q; cases q)
          · refine lv_aload_n hx hb dL_holds_58 rfl (lv_at hl 3 rfl) ?_
            refine lv_iload_n hx hb dL_holds_59 rfl (lv_at hl 1 rfl) ?_
            refine lv_iconst (v := 3) hx hb dL_holds_60 (by decide) ?_
            refine rX7_mealOf hF (cwV 2 hts gL_holds_X7_mealOf rfl rfl rfl hdX7_mealOf ⟨Nat.le_of_ble_eq_true rfl, Nat.le_of_ble_eq_true rfl⟩) hC hY hJ hOk hS (fun _ h => h) hl.1 (Nat.le_of_ble_eq_true rfl) dL_holds_61 ⟨Nat.zero_le _, Nat.zero_le _⟩ (fun H locs hY _ _ hS => ?_)
            refine lv_aload_n hx hb dL_holds_64 rfl (lv_at hl 3 rfl) ?_
            refine lv_iload_n hx hb dL_holds_65 rfl (lv_at hl 2 rfl) ?_
            refine lv_iconst (v := 0) hx hb dL_holds_66 (by decide) ?_
            refine rX7_personOf hF (cwV 2 hts gL_holds_X7_personOf rfl rfl rfl hdX7_personOf ⟨Nat.le_of_ble_eq_true rfl, Nat.le_of_ble_eq_true rfl⟩) hC hY hJ hOk hS (fun _ h => h) hl.1 (Nat.le_of_ble_eq_true rfl) dL_holds_67 ⟨Nat.zero_le _, Nat.zero_le _⟩ (fun H locs hY _ _ hS => ?_)
            refine lv_iand hx hb dL_holds_70 ?_
            refine lv_if_ne (tgt := 102) hx hb dL_holds_71 (by decide) (fun c_13 => ?_) (fun c_13 => ?_)
            · refine lv_iconst (v := 0) hx hb dL_holds_102 (by decide) ?_
              refine lv_istore (lv' := [(4, .int 0), (1, .int (v + 0)), (3, .int (zX3_ofPerson (Ω 0) (nI i) 3)), (2, .int (nI i)), (0, .ref (ob 0))]) hx hb dL_holds_103 hl (by decide) rfl (fun ls hl => ?_)
              refine lv_iload hx hb dL_holds_105 (lv_at hl 0 rfl) ?_
              refine lv_if_eq (tgt := 147) hx hb dL_holds_107 (by decide) (fun _ => ?_) (fun c_14 => absurd (by decide) c_14)
              refine lv_iconst (v := 0) hx hb dL_holds_147 (by decide) ?_
              have q9 := hok i (by omega)
              rw [← hv, show bh1 (Ω 0) i v = none by unfold bh1; rw [if_pos c_3, if_neg c_4, if_pos c_9, if_pos c_11, if_neg c_13]] at q9
              exact absurd q9 (by intro q; cases q)
            · refine lv_aload_n hx hb dL_holds_74 rfl (lv_at hl 3 rfl) ?_
              refine lv_iload_n hx hb dL_holds_75 rfl (lv_at hl 1 rfl) ?_
              refine lv_iconst (v := 4) hx hb dL_holds_76 (by decide) ?_
              refine rX7_mealOf hF (cwV 2 hts gL_holds_X7_mealOf rfl rfl rfl hdX7_mealOf ⟨Nat.le_of_ble_eq_true rfl, Nat.le_of_ble_eq_true rfl⟩) hC hY hJ hOk hS (fun _ h => h) hl.1 (Nat.le_of_ble_eq_true rfl) dL_holds_77 ⟨Nat.zero_le _, Nat.zero_le _⟩ (fun H locs hY _ _ hS => ?_)
              refine lv_sipush (v := 1000) hx hb dL_holds_80 (by decide) ?_
              refine lv_icmp_lt (tgt := 102) hx hb dL_holds_83 (by decide) (fun c_15 => ?_) (fun c_15 => ?_)
              · refine lv_iconst (v := 0) hx hb dL_holds_102 (by decide) ?_
                refine lv_istore (lv' := [(4, .int 0), (1, .int (v + 0)), (3, .int (zX3_ofPerson (Ω 0) (nI i) 3)), (2, .int (nI i)), (0, .ref (ob 0))]) hx hb dL_holds_103 hl (by decide) rfl (fun ls hl => ?_)
                refine lv_iload hx hb dL_holds_105 (lv_at hl 0 rfl) ?_
                refine lv_if_eq (tgt := 147) hx hb dL_holds_107 (by decide) (fun _ => ?_) (fun c_16 => absurd (by decide) c_16)
                refine lv_iconst (v := 0) hx hb dL_holds_147 (by decide) ?_
                have q9 := hok i (by omega)
                rw [← hv, show bh1 (Ω 0) i v = none by unfold bh1; rw [if_pos c_3, if_neg c_4, if_pos c_9, if_pos c_11, if_pos c_13, if_pos c_15]] at q9
                exact absurd q9 (by intro q; cases q)
              · refine lv_aload_n hx hb dL_holds_86 rfl (lv_at hl 3 rfl) ?_
                refine lv_iload_n hx hb dL_holds_87 rfl (lv_at hl 1 rfl) ?_
                refine lv_iconst (v := 4) hx hb dL_holds_88 (by decide) ?_
                refine rX7_mealOf hF (cwV 2 hts gL_holds_X7_mealOf rfl rfl rfl hdX7_mealOf ⟨Nat.le_of_ble_eq_true rfl, Nat.le_of_ble_eq_true rfl⟩) hC hY hJ hOk hS (fun _ h => h) hl.1 (Nat.le_of_ble_eq_true rfl) dL_holds_89 ⟨Nat.zero_le _, Nat.zero_le _⟩ (fun H locs hY _ _ hS => ?_)
                refine lv_sipush (v := 9999) hx hb dL_holds_92 (by decide) ?_
                refine lv_icmp_gt (tgt := 102) hx hb dL_holds_95 (by decide) (fun c_17 => ?_) (fun c_17 => ?_)
                · refine lv_iconst (v := 0) hx hb dL_holds_102 (by decide) ?_
                  refine lv_istore (lv' := [(4, .int 0), (1, .int (v + 0)), (3, .int (zX3_ofPerson (Ω 0) (nI i) 3)), (2, .int (nI i)), (0, .ref (ob 0))]) hx hb dL_holds_103 hl (by decide) rfl (fun ls hl => ?_)
                  refine lv_iload hx hb dL_holds_105 (lv_at hl 0 rfl) ?_
                  refine lv_if_eq (tgt := 147) hx hb dL_holds_107 (by decide) (fun _ => ?_) (fun c_18 => absurd (by decide) c_18)
                  refine lv_iconst (v := 0) hx hb dL_holds_147 (by decide) ?_
                  have q9 := hok i (by omega)
                  rw [← hv, show bh1 (Ω 0) i v = none by unfold bh1; rw [if_pos c_3, if_neg c_4, if_pos c_9, if_pos c_11, if_pos c_13, if_neg c_15, if_pos c_17]] at q9
                  exact absurd q9 (by intro q; cases q)
                · refine lv_iconst (v := 1) hx hb dL_holds_98 (by decide) ?_
                  refine lv_goto (tgt := 103) hx hb dL_holds_99 (by decide) ?_
                  refine lv_istore (lv' := [(4, .int 1), (1, .int (v + 0)), (3, .int (zX3_ofPerson (Ω 0) (nI i) 3)), (2, .int (nI i)), (0, .ref (ob 0))]) hx hb dL_holds_103 hl (by decide) rfl (fun ls hl => ?_)
                  refine lv_iload hx hb dL_holds_105 (lv_at hl 0 rfl) ?_
                  refine lv_if_eq (tgt := 147) hx hb dL_holds_107 (by decide) (fun c_19 => absurd c_19 (by decide)) (fun _ => ?_)
                  refine lv_aload_n hx hb dL_holds_110 rfl (lv_at hl 4 rfl) ?_
                  refine lv_iload_n hx hb dL_holds_111 rfl (lv_at hl 3 rfl) ?_
                  refine lv_iconst (v := 2) hx hb dL_holds_112 (by decide) ?_
                  refine rX7_personOf hF (cwV 2 hts gL_holds_X7_personOf rfl rfl rfl hdX7_personOf ⟨Nat.le_of_ble_eq_true rfl, Nat.le_of_ble_eq_true rfl⟩) hC hY hJ hOk hS (fun _ h => h) hl.1 (Nat.le_of_ble_eq_true rfl) dL_holds_113 ⟨Nat.zero_le _, Nat.zero_le _⟩ (fun H locs hY _ _ hS => ?_)
                  refine lv_bipush (v := 99) hx hb dL_holds_116 (by decide) ?_
                  refine lv_icmp_gt (tgt := 147) hx hb dL_holds_118 (by decide) (fun c_20 => ?_) (fun c_20 => ?_)
                  · refine lv_iconst (v := 0) hx hb dL_holds_147 (by decide) ?_
                    have q9 := hok i (by omega)
                    rw [← hv, show bh1 (Ω 0) i v = none by unfold bh1; rw [if_pos c_3, if_neg c_4, if_pos c_9, if_pos c_11, if_pos c_13, if_neg c_15, if_neg c_17, if_pos c_20]] at q9
                    exact absurd q9 (by intro q; cases q)
                  · refine lv_aload_n hx hb dL_holds_121 rfl (lv_at hl 4 rfl) ?_
                    refine lv_iload_n hx hb dL_holds_122 rfl (lv_at hl 3 rfl) ?_
                    refine lv_iconst (v := 1) hx hb dL_holds_123 (by decide) ?_
                    refine rX7_personOf hF (cwV 2 hts gL_holds_X7_personOf rfl rfl rfl hdX7_personOf ⟨Nat.le_of_ble_eq_true rfl, Nat.le_of_ble_eq_true rfl⟩) hC hY hJ hOk hS (fun _ h => h) hl.1 (Nat.le_of_ble_eq_true rfl) dL_holds_124 ⟨Nat.zero_le _, Nat.zero_le _⟩ (fun H locs hY _ _ hS => ?_)
                    refine lv_bipush (v := 8) hx hb dL_holds_127 (by decide) ?_
                    refine lv_icmp_gt (tgt := 147) hx hb dL_holds_129 (by decide) (fun c_21 => ?_) (fun c_21 => ?_)
                    · refine lv_iconst (v := 0) hx hb dL_holds_147 (by decide) ?_
                      have q9 := hok i (by omega)
                      rw [← hv, show bh1 (Ω 0) i v = none by unfold bh1; rw [if_pos c_3, if_neg c_4, if_pos c_9, if_pos c_11, if_pos c_13, if_neg c_15, if_neg c_17, if_neg c_20, if_pos c_21]] at q9
                      exact absurd q9 (by intro q; cases q)
                    · refine lv_aload_n hx hb dL_holds_132 rfl (lv_at hl 4 rfl) ?_
                      refine lv_iload_n hx hb dL_holds_133 rfl (lv_at hl 3 rfl) ?_
                      refine lv_iconst (v := 1) hx hb dL_holds_134 (by decide) ?_
                      refine rX7_personOf hF (cwV 2 hts gL_holds_X7_personOf rfl rfl rfl hdX7_personOf ⟨Nat.le_of_ble_eq_true rfl, Nat.le_of_ble_eq_true rfl⟩) hC hY hJ hOk hS (fun _ h => h) hl.1 (Nat.le_of_ble_eq_true rfl) dL_holds_135 ⟨Nat.zero_le _, Nat.zero_le _⟩ (fun H locs hY _ _ hS => ?_)
                      refine lv_aload_n hx hb dL_holds_138 rfl (lv_at hl 4 rfl) ?_
                      refine lv_iload_n hx hb dL_holds_139 rfl (lv_at hl 3 rfl) ?_
                      refine lv_iconst (v := 5) hx hb dL_holds_140 (by decide) ?_
                      refine rX7_personOf hF (cwV 2 hts gL_holds_X7_personOf rfl rfl rfl hdX7_personOf ⟨Nat.le_of_ble_eq_true rfl, Nat.le_of_ble_eq_true rfl⟩) hC hY hJ hOk hS (fun _ h => h) hl.1 (Nat.le_of_ble_eq_true rfl) dL_holds_141 ⟨Nat.zero_le _, Nat.zero_le _⟩ (fun H locs hY _ _ hS => ?_)
                      refine lv_icmp_le (tgt := 149) hx hb dL_holds_144 (by decide) (fun c_22 => ?_) (fun c_22 => ?_)
                      · refine lv_iinc (v := (nI (i + 1))) (lv' := [(2, .int (nI (i + 1))), (4, .int 1), (1, .int (v + 0)), (3, .int (zX3_ofPerson (Ω 0) (nI i) 3)), (0, .ref (ob 0))]) hx hb dL_holds_149 hl (k := 3) rfl (by rw [nI_succ]; rfl) (by decide) rfl (fun ls hl => ?_)
                        refine lv_goto (tgt := 4) hx hb dL_holds_152 (by decide) ?_
                        have e9 : acc (i + 1) = (v + 0) := by
                          have q9 := hok i (by omega)
                          rw [← hv, show bh1 (Ω 0) i v = some ((v + 0)) by unfold bh1; rw [if_pos c_3, if_neg c_4, if_pos c_9, if_pos c_11, if_pos c_13, if_neg c_15, if_neg c_17, if_neg c_20, if_neg c_21, if_pos c_22]] at q9
                          exact (Option.some.inj q9).symm
                        exact ih (i + 1) (by omega) H locs hY hS ls (by rw [e9]; exact lv_sub hl [0, 2, 4] rfl)
                      · refine lv_iconst (v := 0) hx hb dL_holds_147 (by decide) ?_
                        have q9 := hok i (by omega)
                        rw [← hv, show bh1 (Ω 0) i v = none by unfold bh1; rw [if_pos c_3, if_neg c_4, if_pos c_9, if_pos c_11, if_pos c_13, if_neg c_15, if_neg c_17, if_neg c_20, if_neg c_21, if_neg c_22]] at q9
                        exact absurd q9 (by intro q; cases q)
    · refine lv_iconst (v := 1) hx hb dL_holds_25 (by decide) ?_
      refine lv_goto (tgt := 30) hx hb dL_holds_26 (by decide) ?_
      refine lv_iadd hx hb dL_holds_30 ?_
      refine lv_istore_n (lv' := [(1, .int (v + 1)), (3, .int (zX3_ofPerson (Ω 0) (nI i) 3)), (2, .int (nI i)), (0, .ref (ob 0))]) hx hb dL_holds_31 rfl hl (by decide) rfl (fun ls hl => ?_)
      refine lv_iload_n hx hb dL_holds_32 rfl (lv_at hl 1 rfl) ?_
      refine lv_bipush (v := (-4)) hx hb dL_holds_33 (by decide) ?_
      refine lv_icmp_eq (tgt := 98) hx hb dL_holds_35 (by decide) (fun c_23 => ?_) (fun c_23 => ?_)
      · refine lv_iconst (v := 1) hx hb dL_holds_98 (by decide) ?_
        refine lv_goto (tgt := 103) hx hb dL_holds_99 (by decide) ?_
        refine lv_istore (lv' := [(4, .int 1), (1, .int (v + 1)), (3, .int (zX3_ofPerson (Ω 0) (nI i) 3)), (2, .int (nI i)), (0, .ref (ob 0))]) hx hb dL_holds_103 hl (by decide) rfl (fun ls hl => ?_)
        refine lv_iload hx hb dL_holds_105 (lv_at hl 0 rfl) ?_
        refine lv_if_eq (tgt := 147) hx hb dL_holds_107 (by decide) (fun c_24 => absurd c_24 (by decide)) (fun _ => ?_)
        refine lv_aload_n hx hb dL_holds_110 rfl (lv_at hl 4 rfl) ?_
        refine lv_iload_n hx hb dL_holds_111 rfl (lv_at hl 3 rfl) ?_
        refine lv_iconst (v := 2) hx hb dL_holds_112 (by decide) ?_
        refine rX7_personOf hF (cwV 2 hts gL_holds_X7_personOf rfl rfl rfl hdX7_personOf ⟨Nat.le_of_ble_eq_true rfl, Nat.le_of_ble_eq_true rfl⟩) hC hY hJ hOk hS (fun _ h => h) hl.1 (Nat.le_of_ble_eq_true rfl) dL_holds_113 ⟨Nat.zero_le _, Nat.zero_le _⟩ (fun H locs hY _ _ hS => ?_)
        refine lv_bipush (v := 99) hx hb dL_holds_116 (by decide) ?_
        refine lv_icmp_gt (tgt := 147) hx hb dL_holds_118 (by decide) (fun c_25 => ?_) (fun c_25 => ?_)
        · refine lv_iconst (v := 0) hx hb dL_holds_147 (by decide) ?_
          have q9 := hok i (by omega)
          rw [← hv, show bh1 (Ω 0) i v = none by unfold bh1; rw [if_neg c_3, if_pos c_23, if_pos c_25]] at q9
          exact absurd q9 (by intro q; cases q)
        · refine lv_aload_n hx hb dL_holds_121 rfl (lv_at hl 4 rfl) ?_
          refine lv_iload_n hx hb dL_holds_122 rfl (lv_at hl 3 rfl) ?_
          refine lv_iconst (v := 1) hx hb dL_holds_123 (by decide) ?_
          refine rX7_personOf hF (cwV 2 hts gL_holds_X7_personOf rfl rfl rfl hdX7_personOf ⟨Nat.le_of_ble_eq_true rfl, Nat.le_of_ble_eq_true rfl⟩) hC hY hJ hOk hS (fun _ h => h) hl.1 (Nat.le_of_ble_eq_true rfl) dL_holds_124 ⟨Nat.zero_le _, Nat.zero_le _⟩ (fun H locs hY _ _ hS => ?_)
          refine lv_bipush (v := 8) hx hb dL_holds_127 (by decide) ?_
          refine lv_icmp_gt (tgt := 147) hx hb dL_holds_129 (by decide) (fun c_26 => ?_) (fun c_26 => ?_)
          · refine lv_iconst (v := 0) hx hb dL_holds_147 (by decide) ?_
            have q9 := hok i (by omega)
            rw [← hv, show bh1 (Ω 0) i v = none by unfold bh1; rw [if_neg c_3, if_pos c_23, if_neg c_25, if_pos c_26]] at q9
            exact absurd q9 (by intro q; cases q)
          · refine lv_aload_n hx hb dL_holds_132 rfl (lv_at hl 4 rfl) ?_
            refine lv_iload_n hx hb dL_holds_133 rfl (lv_at hl 3 rfl) ?_
            refine lv_iconst (v := 1) hx hb dL_holds_134 (by decide) ?_
            refine rX7_personOf hF (cwV 2 hts gL_holds_X7_personOf rfl rfl rfl hdX7_personOf ⟨Nat.le_of_ble_eq_true rfl, Nat.le_of_ble_eq_true rfl⟩) hC hY hJ hOk hS (fun _ h => h) hl.1 (Nat.le_of_ble_eq_true rfl) dL_holds_135 ⟨Nat.zero_le _, Nat.zero_le _⟩ (fun H locs hY _ _ hS => ?_)
            refine lv_aload_n hx hb dL_holds_138 rfl (lv_at hl 4 rfl) ?_
            refine lv_iload_n hx hb dL_holds_139 rfl (lv_at hl 3 rfl) ?_
            refine lv_iconst (v := 5) hx hb dL_holds_140 (by decide) ?_
            refine rX7_personOf hF (cwV 2 hts gL_holds_X7_personOf rfl rfl rfl hdX7_personOf ⟨Nat.le_of_ble_eq_true rfl, Nat.le_of_ble_eq_true rfl⟩) hC hY hJ hOk hS (fun _ h => h) hl.1 (Nat.le_of_ble_eq_true rfl) dL_holds_141 ⟨Nat.zero_le _, Nat.zero_le _⟩ (fun H locs hY _ _ hS => ?_)
            refine lv_icmp_le (tgt := 149) hx hb dL_holds_144 (by decide) (fun c_27 => ?_) (fun c_27 => ?_)
            · refine lv_iinc (v := (nI (i + 1))) (lv' := [(2, .int (nI (i + 1))), (4, .int 1), (1, .int (v + 1)), (3, .int (zX3_ofPerson (Ω 0) (nI i) 3)), (0, .ref (ob 0))]) hx hb dL_holds_149 hl (k := 3) rfl (by rw [nI_succ]; rfl) (by decide) rfl (fun ls hl => ?_)
              refine lv_goto (tgt := 4) hx hb dL_holds_152 (by decide) ?_
              have e9 : acc (i + 1) = (v + 1) := by
                have q9 := hok i (by omega)
                rw [← hv, show bh1 (Ω 0) i v = some ((v + 1)) by unfold bh1; rw [if_neg c_3, if_pos c_23, if_neg c_25, if_neg c_26, if_pos c_27]] at q9
                exact (Option.some.inj q9).symm
              exact ih (i + 1) (by omega) H locs hY hS ls (by rw [e9]; exact lv_sub hl [0, 2, 4] rfl)
            · refine lv_iconst (v := 0) hx hb dL_holds_147 (by decide) ?_
              have q9 := hok i (by omega)
              rw [← hv, show bh1 (Ω 0) i v = none by unfold bh1; rw [if_neg c_3, if_pos c_23, if_neg c_25, if_neg c_26, if_neg c_27]] at q9
              exact absurd q9 (by intro q; cases q)
      · refine lv_aload_n hx hb dL_holds_38 rfl (lv_at hl 3 rfl) ?_
        refine lv_iload_n hx hb dL_holds_39 rfl (lv_at hl 1 rfl) ?_
        refine lv_iconst (v := 0) hx hb dL_holds_40 (by decide) ?_
        refine rX7_mealOf hF (cwV 2 hts gL_holds_X7_mealOf rfl rfl rfl hdX7_mealOf ⟨Nat.le_of_ble_eq_true rfl, Nat.le_of_ble_eq_true rfl⟩) hC hY hJ hOk hS (fun _ h => h) hl.1 (Nat.le_of_ble_eq_true rfl) dL_holds_41 ⟨Nat.zero_le _, Nat.zero_le _⟩ (fun H locs hY _ _ hS => ?_)
        refine lv_iconst (v := 1) hx hb dL_holds_44 (by decide) ?_
        refine lv_icmp_ne (tgt := 102) hx hb dL_holds_45 (by decide) (fun c_28 => ?_) (fun c_28 => ?_)
        · refine lv_iconst (v := 0) hx hb dL_holds_102 (by decide) ?_
          refine lv_istore (lv' := [(4, .int 0), (1, .int (v + 1)), (3, .int (zX3_ofPerson (Ω 0) (nI i) 3)), (2, .int (nI i)), (0, .ref (ob 0))]) hx hb dL_holds_103 hl (by decide) rfl (fun ls hl => ?_)
          refine lv_iload hx hb dL_holds_105 (lv_at hl 0 rfl) ?_
          refine lv_if_eq (tgt := 147) hx hb dL_holds_107 (by decide) (fun _ => ?_) (fun c_29 => absurd (by decide) c_29)
          refine lv_iconst (v := 0) hx hb dL_holds_147 (by decide) ?_
          have q9 := hok i (by omega)
          rw [← hv, show bh1 (Ω 0) i v = none by unfold bh1; rw [if_neg c_3, if_neg c_23, if_neg c_28]] at q9
          exact absurd q9 (by intro q; cases q)
        · refine lv_aload_n hx hb dL_holds_48 rfl (lv_at hl 3 rfl) ?_
          refine lv_iload_n hx hb dL_holds_49 rfl (lv_at hl 1 rfl) ?_
          refine lv_iconst (v := 5) hx hb dL_holds_50 (by decide) ?_
          refine rX7_mealOf hF (cwV 2 hts gL_holds_X7_mealOf rfl rfl rfl hdX7_mealOf ⟨Nat.le_of_ble_eq_true rfl, Nat.le_of_ble_eq_true rfl⟩) hC hY hJ hOk hS (fun _ h => h) hl.1 (Nat.le_of_ble_eq_true rfl) dL_holds_51 ⟨Nat.zero_le _, Nat.zero_le _⟩ (fun H locs hY _ _ hS => ?_)
          refine lv_iload_n hx hb dL_holds_54 rfl (lv_at hl 2 rfl) ?_
          refine lv_icmp_ne (tgt := 102) hx hb dL_holds_55 (by decide) (fun c_30 => ?_) (fun c_30 => ?_)
          · refine lv_iconst (v := 0) hx hb dL_holds_102 (by decide) ?_
            refine lv_istore (lv' := [(4, .int 0), (1, .int (v + 1)), (3, .int (zX3_ofPerson (Ω 0) (nI i) 3)), (2, .int (nI i)), (0, .ref (ob 0))]) hx hb dL_holds_103 hl (by decide) rfl (fun ls hl => ?_)
            refine lv_iload hx hb dL_holds_105 (lv_at hl 0 rfl) ?_
            refine lv_if_eq (tgt := 147) hx hb dL_holds_107 (by decide) (fun _ => ?_) (fun c_31 => absurd (by decide) c_31)
            refine lv_iconst (v := 0) hx hb dL_holds_147 (by decide) ?_
            have q9 := hok i (by omega)
            rw [← hv, show bh1 (Ω 0) i v = none by unfold bh1; rw [if_neg c_3, if_neg c_23, if_pos c_28, if_neg c_30]] at q9
            exact absurd q9 (by intro q; cases q)
          · refine lv_aload_n hx hb dL_holds_58 rfl (lv_at hl 3 rfl) ?_
            refine lv_iload_n hx hb dL_holds_59 rfl (lv_at hl 1 rfl) ?_
            refine lv_iconst (v := 3) hx hb dL_holds_60 (by decide) ?_
            refine rX7_mealOf hF (cwV 2 hts gL_holds_X7_mealOf rfl rfl rfl hdX7_mealOf ⟨Nat.le_of_ble_eq_true rfl, Nat.le_of_ble_eq_true rfl⟩) hC hY hJ hOk hS (fun _ h => h) hl.1 (Nat.le_of_ble_eq_true rfl) dL_holds_61 ⟨Nat.zero_le _, Nat.zero_le _⟩ (fun H locs hY _ _ hS => ?_)
            refine lv_aload_n hx hb dL_holds_64 rfl (lv_at hl 3 rfl) ?_
            refine lv_iload_n hx hb dL_holds_65 rfl (lv_at hl 2 rfl) ?_
            refine lv_iconst (v := 0) hx hb dL_holds_66 (by decide) ?_
            refine rX7_personOf hF (cwV 2 hts gL_holds_X7_personOf rfl rfl rfl hdX7_personOf ⟨Nat.le_of_ble_eq_true rfl, Nat.le_of_ble_eq_true rfl⟩) hC hY hJ hOk hS (fun _ h => h) hl.1 (Nat.le_of_ble_eq_true rfl) dL_holds_67 ⟨Nat.zero_le _, Nat.zero_le _⟩ (fun H locs hY _ _ hS => ?_)
            refine lv_iand hx hb dL_holds_70 ?_
            refine lv_if_ne (tgt := 102) hx hb dL_holds_71 (by decide) (fun c_32 => ?_) (fun c_32 => ?_)
            · refine lv_iconst (v := 0) hx hb dL_holds_102 (by decide) ?_
              refine lv_istore (lv' := [(4, .int 0), (1, .int (v + 1)), (3, .int (zX3_ofPerson (Ω 0) (nI i) 3)), (2, .int (nI i)), (0, .ref (ob 0))]) hx hb dL_holds_103 hl (by decide) rfl (fun ls hl => ?_)
              refine lv_iload hx hb dL_holds_105 (lv_at hl 0 rfl) ?_
              refine lv_if_eq (tgt := 147) hx hb dL_holds_107 (by decide) (fun _ => ?_) (fun c_33 => absurd (by decide) c_33)
              refine lv_iconst (v := 0) hx hb dL_holds_147 (by decide) ?_
              have q9 := hok i (by omega)
              rw [← hv, show bh1 (Ω 0) i v = none by unfold bh1; rw [if_neg c_3, if_neg c_23, if_pos c_28, if_pos c_30, if_neg c_32]] at q9
              exact absurd q9 (by intro q; cases q)
            · refine lv_aload_n hx hb dL_holds_74 rfl (lv_at hl 3 rfl) ?_
              refine lv_iload_n hx hb dL_holds_75 rfl (lv_at hl 1 rfl) ?_
              refine lv_iconst (v := 4) hx hb dL_holds_76 (by decide) ?_
              refine rX7_mealOf hF (cwV 2 hts gL_holds_X7_mealOf rfl rfl rfl hdX7_mealOf ⟨Nat.le_of_ble_eq_true rfl, Nat.le_of_ble_eq_true rfl⟩) hC hY hJ hOk hS (fun _ h => h) hl.1 (Nat.le_of_ble_eq_true rfl) dL_holds_77 ⟨Nat.zero_le _, Nat.zero_le _⟩ (fun H locs hY _ _ hS => ?_)
              refine lv_sipush (v := 1000) hx hb dL_holds_80 (by decide) ?_
              refine lv_icmp_lt (tgt := 102) hx hb dL_holds_83 (by decide) (fun c_34 => ?_) (fun c_34 => ?_)
              · refine lv_iconst (v := 0) hx hb dL_holds_102 (by decide) ?_
                refine lv_istore (lv' := [(4, .int 0), (1, .int (v + 1)), (3, .int (zX3_ofPerson (Ω 0) (nI i) 3)), (2, .int (nI i)), (0, .ref (ob 0))]) hx hb dL_holds_103 hl (by decide) rfl (fun ls hl => ?_)
                refine lv_iload hx hb dL_holds_105 (lv_at hl 0 rfl) ?_
                refine lv_if_eq (tgt := 147) hx hb dL_holds_107 (by decide) (fun _ => ?_) (fun c_35 => absurd (by decide) c_35)
                refine lv_iconst (v := 0) hx hb dL_holds_147 (by decide) ?_
                have q9 := hok i (by omega)
                rw [← hv, show bh1 (Ω 0) i v = none by unfold bh1; rw [if_neg c_3, if_neg c_23, if_pos c_28, if_pos c_30, if_pos c_32, if_pos c_34]] at q9
                exact absurd q9 (by intro q; cases q)
              · refine lv_aload_n hx hb dL_holds_86 rfl (lv_at hl 3 rfl) ?_
                refine lv_iload_n hx hb dL_holds_87 rfl (lv_at hl 1 rfl) ?_
                refine lv_iconst (v := 4) hx hb dL_holds_88 (by decide) ?_
                refine rX7_mealOf hF (cwV 2 hts gL_holds_X7_mealOf rfl rfl rfl hdX7_mealOf ⟨Nat.le_of_ble_eq_true rfl, Nat.le_of_ble_eq_true rfl⟩) hC hY hJ hOk hS (fun _ h => h) hl.1 (Nat.le_of_ble_eq_true rfl) dL_holds_89 ⟨Nat.zero_le _, Nat.zero_le _⟩ (fun H locs hY _ _ hS => ?_)
                refine lv_sipush (v := 9999) hx hb dL_holds_92 (by decide) ?_
                refine lv_icmp_gt (tgt := 102) hx hb dL_holds_95 (by decide) (fun c_36 => ?_) (fun c_36 => ?_)
                · refine lv_iconst (v := 0) hx hb dL_holds_102 (by decide) ?_
                  refine lv_istore (lv' := [(4, .int 0), (1, .int (v + 1)), (3, .int (zX3_ofPerson (Ω 0) (nI i) 3)), (2, .int (nI i)), (0, .ref (ob 0))]) hx hb dL_holds_103 hl (by decide) rfl (fun ls hl => ?_)
                  refine lv_iload hx hb dL_holds_105 (lv_at hl 0 rfl) ?_
                  refine lv_if_eq (tgt := 147) hx hb dL_holds_107 (by decide) (fun _ => ?_) (fun c_37 => absurd (by decide) c_37)
                  refine lv_iconst (v := 0) hx hb dL_holds_147 (by decide) ?_
                  have q9 := hok i (by omega)
                  rw [← hv, show bh1 (Ω 0) i v = none by unfold bh1; rw [if_neg c_3, if_neg c_23, if_pos c_28, if_pos c_30, if_pos c_32, if_neg c_34, if_pos c_36]] at q9
                  exact absurd q9 (by intro q; cases q)
                · refine lv_iconst (v := 1) hx hb dL_holds_98 (by decide) ?_
                  refine lv_goto (tgt := 103) hx hb dL_holds_99 (by decide) ?_
                  refine lv_istore (lv' := [(4, .int 1), (1, .int (v + 1)), (3, .int (zX3_ofPerson (Ω 0) (nI i) 3)), (2, .int (nI i)), (0, .ref (ob 0))]) hx hb dL_holds_103 hl (by decide) rfl (fun ls hl => ?_)
                  refine lv_iload hx hb dL_holds_105 (lv_at hl 0 rfl) ?_
                  refine lv_if_eq (tgt := 147) hx hb dL_holds_107 (by decide) (fun c_38 => absurd c_38 (by decide)) (fun _ => ?_)
                  refine lv_aload_n hx hb dL_holds_110 rfl (lv_at hl 4 rfl) ?_
                  refine lv_iload_n hx hb dL_holds_111 rfl (lv_at hl 3 rfl) ?_
                  refine lv_iconst (v := 2) hx hb dL_holds_112 (by decide) ?_
                  refine rX7_personOf hF (cwV 2 hts gL_holds_X7_personOf rfl rfl rfl hdX7_personOf ⟨Nat.le_of_ble_eq_true rfl, Nat.le_of_ble_eq_true rfl⟩) hC hY hJ hOk hS (fun _ h => h) hl.1 (Nat.le_of_ble_eq_true rfl) dL_holds_113 ⟨Nat.zero_le _, Nat.zero_le _⟩ (fun H locs hY _ _ hS => ?_)
                  refine lv_bipush (v := 99) hx hb dL_holds_116 (by decide) ?_
                  refine lv_icmp_gt (tgt := 147) hx hb dL_holds_118 (by decide) (fun c_39 => ?_) (fun c_39 => ?_)
                  · refine lv_iconst (v := 0) hx hb dL_holds_147 (by decide) ?_
                    have q9 := hok i (by omega)
                    rw [← hv, show bh1 (Ω 0) i v = none by unfold bh1; rw [if_neg c_3, if_neg c_23, if_pos c_28, if_pos c_30, if_pos c_32, if_neg c_34, if_neg c_36, if_pos c_39]] at q9
                    exact absurd q9 (by intro q; cases q)
                  · refine lv_aload_n hx hb dL_holds_121 rfl (lv_at hl 4 rfl) ?_
                    refine lv_iload_n hx hb dL_holds_122 rfl (lv_at hl 3 rfl) ?_
                    refine lv_iconst (v := 1) hx hb dL_holds_123 (by decide) ?_
                    refine rX7_personOf hF (cwV 2 hts gL_holds_X7_personOf rfl rfl rfl hdX7_personOf ⟨Nat.le_of_ble_eq_true rfl, Nat.le_of_ble_eq_true rfl⟩) hC hY hJ hOk hS (fun _ h => h) hl.1 (Nat.le_of_ble_eq_true rfl) dL_holds_124 ⟨Nat.zero_le _, Nat.zero_le _⟩ (fun H locs hY _ _ hS => ?_)
                    refine lv_bipush (v := 8) hx hb dL_holds_127 (by decide) ?_
                    refine lv_icmp_gt (tgt := 147) hx hb dL_holds_129 (by decide) (fun c_40 => ?_) (fun c_40 => ?_)
                    · refine lv_iconst (v := 0) hx hb dL_holds_147 (by decide) ?_
                      have q9 := hok i (by omega)
                      rw [← hv, show bh1 (Ω 0) i v = none by unfold bh1; rw [if_neg c_3, if_neg c_23, if_pos c_28, if_pos c_30, if_pos c_32, if_neg c_34, if_neg c_36, if_neg c_39, if_pos c_40]] at q9
                      exact absurd q9 (by intro q; cases q)
                    · refine lv_aload_n hx hb dL_holds_132 rfl (lv_at hl 4 rfl) ?_
                      refine lv_iload_n hx hb dL_holds_133 rfl (lv_at hl 3 rfl) ?_
                      refine lv_iconst (v := 1) hx hb dL_holds_134 (by decide) ?_
                      refine rX7_personOf hF (cwV 2 hts gL_holds_X7_personOf rfl rfl rfl hdX7_personOf ⟨Nat.le_of_ble_eq_true rfl, Nat.le_of_ble_eq_true rfl⟩) hC hY hJ hOk hS (fun _ h => h) hl.1 (Nat.le_of_ble_eq_true rfl) dL_holds_135 ⟨Nat.zero_le _, Nat.zero_le _⟩ (fun H locs hY _ _ hS => ?_)
                      refine lv_aload_n hx hb dL_holds_138 rfl (lv_at hl 4 rfl) ?_
                      refine lv_iload_n hx hb dL_holds_139 rfl (lv_at hl 3 rfl) ?_
                      refine lv_iconst (v := 5) hx hb dL_holds_140 (by decide) ?_
                      refine rX7_personOf hF (cwV 2 hts gL_holds_X7_personOf rfl rfl rfl hdX7_personOf ⟨Nat.le_of_ble_eq_true rfl, Nat.le_of_ble_eq_true rfl⟩) hC hY hJ hOk hS (fun _ h => h) hl.1 (Nat.le_of_ble_eq_true rfl) dL_holds_141 ⟨Nat.zero_le _, Nat.zero_le _⟩ (fun H locs hY _ _ hS => ?_)
                      refine lv_icmp_le (tgt := 149) hx hb dL_holds_144 (by decide) (fun c_41 => ?_) (fun c_41 => ?_)
                      · refine lv_iinc (v := (nI (i + 1))) (lv' := [(2, .int (nI (i + 1))), (4, .int 1), (1, .int (v + 1)), (3, .int (zX3_ofPerson (Ω 0) (nI i) 3)), (0, .ref (ob 0))]) hx hb dL_holds_149 hl (k := 3) rfl (by rw [nI_succ]; rfl) (by decide) rfl (fun ls hl => ?_)
                        refine lv_goto (tgt := 4) hx hb dL_holds_152 (by decide) ?_
                        have e9 : acc (i + 1) = (v + 1) := by
                          have q9 := hok i (by omega)
                          rw [← hv, show bh1 (Ω 0) i v = some ((v + 1)) by unfold bh1; rw [if_neg c_3, if_neg c_23, if_pos c_28, if_pos c_30, if_pos c_32, if_neg c_34, if_neg c_36, if_neg c_39, if_neg c_40, if_pos c_41]] at q9
                          exact (Option.some.inj q9).symm
                        exact ih (i + 1) (by omega) H locs hY hS ls (by rw [e9]; exact lv_sub hl [0, 2, 4] rfl)
                      · refine lv_iconst (v := 0) hx hb dL_holds_147 (by decide) ?_
                        have q9 := hok i (by omega)
                        rw [← hv, show bh1 (Ω 0) i v = none by unfold bh1; rw [if_neg c_3, if_neg c_23, if_pos c_28, if_pos c_30, if_pos c_32, if_neg c_34, if_neg c_36, if_neg c_39, if_neg c_40, if_neg c_41]] at q9
                        exact absurd q9 (by intro q; cases q)
set_option maxHeartbeats 4000000 in
set_option maxRecDepth 100000 in
theorem lpL_h2 {p : Program} {l : Launch} {e : Env} {s : State} {m : MethodId} {args : Array Value} {below : List Frame} {meth : Method} {c : Code} {Q : State → Prop} {D : va_G} {y : Y3} {ob : Nat → Nat} {AD : Nat → Nat → Nat} {Ω : Og} {a1 : Int32} (hx : p.tables.exec = Jvm.exec) (hb : c.code = cL_holds) (hml : c.maxLocals = 6) (hown : s.vm.findClass RL = some m.cls) (hts : ∀ w ∈ wsL_holds, w.before args s = true) (hC : CK D y s) (hJ : sysJ ob AD) (hOk : okO Ω)
    (K : ∀ (H : Heap) (locs : List Loc) (ls : Array Slot), SysH D y ob AD Ω H → va_S (sysA ob AD) s.heap H locs → lv_has ls 6 [(4, .int (nI ((zX3_total (Ω 0) 0).toNatClampNeg))), (3, .int ((upTo (bh2 (Ω 0)) (0, 0) ((zX3_total (Ω 0) 0).toNatClampNeg)).2)), (2, .int ((upTo (bh2 (Ω 0)) (0, 0) ((zX3_total (Ω 0) 0).toNatClampNeg)).1)), (1, .int a1), (0, .ref (ob 0))] → W p l e (headSpec wsL_holds ({ frames := 4, cells := 0, slots := 0, locals := 90 } : Room)).room s m args below meth c H locs 0 0 Q (F0 m 198 ls [])) :
    ∀ (j i : Nat), i + j = (zX3_total (Ω 0) 0).toNatClampNeg → ∀ (H : Heap) (locs : List Loc), SysH D y ob AD Ω H → va_S (sysA ob AD) s.heap H locs → ∀ ls : Array Slot, lv_has ls 6 [(4, .int (nI i)), (3, .int ((upTo (bh2 (Ω 0)) (0, 0) i).2)), (2, .int ((upTo (bh2 (Ω 0)) (0, 0) i).1)), (1, .int a1), (0, .ref (ob 0))] → W p l e (headSpec wsL_holds ({ frames := 4, cells := 0, slots := 0, locals := 90 } : Room)).room s m args below meth c H locs 0 0 Q (F0 m 162 ls []) := by
  have hF := (⟨hx, hb, hml, hown, hts⟩ : CallFix p m c cL_holds 6 s args wsL_holds RL)
  have hN := clamp_lt (zX3_total (Ω 0) 0)
  intro j
  induction j with
  | zero =>
    intro i hin H locs hY hS ls hl
    obtain rfl : i = (zX3_total (Ω 0) 0).toNatClampNeg := by omega
    refine lv_iload hx hb dL_holds_162 (lv_at hl 0 rfl) ?_
    refine lv_aload_n hx hb dL_holds_164 rfl (lv_at hl 4 rfl) ?_
    refine lv_iconst (v := 0) hx hb dL_holds_165 (by decide) ?_
    refine rX7_countT hF (cwV 1 hts gL_holds_X7_count rfl rfl rfl hdX7_count ⟨Nat.le_of_ble_eq_true rfl, Nat.le_of_ble_eq_true rfl⟩) hC hY hJ hOk ⟨by decide, by decide⟩ hS (fun _ h => h) hl.1 (Nat.le_of_ble_eq_true rfl) dL_holds_166 ⟨Nat.zero_le _, Nat.zero_le _⟩ (fun H locs hY _ _ hS => ?_)
    refine lv_icmp_ge (tgt := 198) hx hb dL_holds_169 (by decide) (fun _ => ?_) (fun c_42 => absurd (up_le _) c_42)
    exact K H locs ls hY hS (lv_sub hl [0, 1, 2, 3, 4] rfl)
  | succ j ih =>
    intro i hin H locs hY hS ls hl
    obtain ⟨v, hv⟩ : ∃ v, v = (upTo (bh2 (Ω 0)) (0, 0) i) := ⟨_, rfl⟩
    rw [← hv] at hl
    refine lv_iload hx hb dL_holds_162 (lv_at hl 0 rfl) ?_
    refine lv_aload_n hx hb dL_holds_164 rfl (lv_at hl 4 rfl) ?_
    refine lv_iconst (v := 0) hx hb dL_holds_165 (by decide) ?_
    refine rX7_countT hF (cwV 1 hts gL_holds_X7_count rfl rfl rfl hdX7_count ⟨Nat.le_of_ble_eq_true rfl, Nat.le_of_ble_eq_true rfl⟩) hC hY hJ hOk ⟨by decide, by decide⟩ hS (fun _ h => h) hl.1 (Nat.le_of_ble_eq_true rfl) dL_holds_166 ⟨Nat.zero_le _, Nat.zero_le _⟩ (fun H locs hY _ _ hS => ?_)
    refine lv_icmp_ge (tgt := 198) hx hb dL_holds_169 (by decide) (fun c_43 => absurd c_43 (up_gt (by omega))) (fun _ => ?_)
    refine lv_iload_n hx hb dL_holds_172 rfl (lv_at hl 2 rfl) ?_
    refine lv_aload_n hx hb dL_holds_173 rfl (lv_at hl 4 rfl) ?_
    refine lv_iload hx hb dL_holds_174 (lv_at hl 0 rfl) ?_
    refine lv_iconst (v := 3) hx hb dL_holds_176 (by decide) ?_
    refine rX7_lockerOf hF (cwV 2 hts gL_holds_X7_lockerOf rfl rfl rfl hdX7_lockerOf ⟨Nat.le_of_ble_eq_true rfl, Nat.le_of_ble_eq_true rfl⟩) hC hY hJ hOk hS (fun _ h => h) hl.1 (Nat.le_of_ble_eq_true rfl) dL_holds_177 ⟨Nat.zero_le _, Nat.zero_le _⟩ (fun H locs hY _ _ hS => ?_)
    refine lv_iadd hx hb dL_holds_180 ?_
    refine lv_istore_n (lv' := [(2, .int (v.1 + (zX3_ofLocker (Ω 0) (nI i) 3))), (4, .int (nI i)), (3, .int v.2), (1, .int a1), (0, .ref (ob 0))]) hx hb dL_holds_181 rfl hl (by decide) rfl (fun ls hl => ?_)
    refine lv_iload_n hx hb dL_holds_182 rfl (lv_at hl 2 rfl) ?_
    refine lv_aload_n hx hb dL_holds_183 rfl (lv_at hl 4 rfl) ?_
    refine lv_iload hx hb dL_holds_184 (lv_at hl 1 rfl) ?_
    refine lv_iconst (v := 5) hx hb dL_holds_186 (by decide) ?_
    refine rX7_lockerOf hF (cwV 2 hts gL_holds_X7_lockerOf rfl rfl rfl hdX7_lockerOf ⟨Nat.le_of_ble_eq_true rfl, Nat.le_of_ble_eq_true rfl⟩) hC hY hJ hOk hS (fun _ h => h) hl.1 (Nat.le_of_ble_eq_true rfl) dL_holds_187 ⟨Nat.zero_le _, Nat.zero_le _⟩ (fun H locs hY _ _ hS => ?_)
    refine lv_iadd hx hb dL_holds_190 ?_
    refine lv_istore_n (lv' := [(3, .int (v.2 + (zX3_ofLocker (Ω 0) (nI i) 5))), (2, .int (v.1 + (zX3_ofLocker (Ω 0) (nI i) 3))), (4, .int (nI i)), (1, .int a1), (0, .ref (ob 0))]) hx hb dL_holds_191 rfl hl (by decide) rfl (fun ls hl => ?_)
    refine lv_iinc (v := (nI (i + 1))) (lv' := [(4, .int (nI (i + 1))), (3, .int (v.2 + (zX3_ofLocker (Ω 0) (nI i) 5))), (2, .int (v.1 + (zX3_ofLocker (Ω 0) (nI i) 3))), (1, .int a1), (0, .ref (ob 0))]) hx hb dL_holds_192 hl (k := 2) rfl (by rw [nI_succ]; rfl) (by decide) rfl (fun ls hl => ?_)
    refine lv_goto (tgt := 162) hx hb dL_holds_195 (by decide) ?_
    have e9 : (upTo (bh2 (Ω 0)) (0, 0) (i + 1)) = ((v.1 + (zX3_ofLocker (Ω 0) (nI i) 3)), (v.2 + (zX3_ofLocker (Ω 0) (nI i) 5))) := by show bh2 (Ω 0) i (upTo (bh2 (Ω 0)) (0, 0) i) = _; rw [← hv]; unfold bh2; rfl
    exact ih (i + 1) (by omega) H locs hY hS ls (by rw [e9]; exact lv_sub hl [0, 1, 2, 3, 4] rfl)
set_option maxHeartbeats 4000000 in
set_option maxRecDepth 100000 in
theorem lpL_h3 {p : Program} {l : Launch} {e : Env} {s : State} {m : MethodId} {args : Array Value} {below : List Frame} {meth : Method} {c : Code} {Q : State → Prop} {D : va_G} {y : Y3} {ob : Nat → Nat} {AD : Nat → Nat → Nat} {Ω : Og} {a1 a2 a3 : Int32} (hx : p.tables.exec = Jvm.exec) (hb : c.code = cL_holds) (hml : c.maxLocals = 6) (hown : s.vm.findClass RL = some m.cls) (hts : ∀ w ∈ wsL_holds, w.before args s = true) (hC : CK D y s) (hJ : sysJ ob AD) (hOk : okO Ω) (hok : ∀ i, i < (zX3_total (Ω 0) 3).toNatClampNeg → bh3 (Ω 0) i = true)
    (K : ∀ (H : Heap) (locs : List Loc) (ls : Array Slot), SysH D y ob AD Ω H → va_S (sysA ob AD) s.heap H locs → lv_has ls 6 [(4, .int (nI ((zX3_total (Ω 0) 3).toNatClampNeg))), (3, .int a3), (2, .int a2), (1, .int a1), (0, .ref (ob 0))] → W p l e (headSpec wsL_holds ({ frames := 4, cells := 0, slots := 0, locals := 90 } : Room)).room s m args below meth c H locs 0 0 Q (F0 m 255 ls [])) :
    ∀ (j i : Nat), i + j = (zX3_total (Ω 0) 3).toNatClampNeg → ∀ (H : Heap) (locs : List Loc), SysH D y ob AD Ω H → va_S (sysA ob AD) s.heap H locs → ∀ ls : Array Slot, lv_has ls 6 [(4, .int (nI i)), (3, .int a3), (2, .int a2), (1, .int a1), (0, .ref (ob 0))] → W p l e (headSpec wsL_holds ({ frames := 4, cells := 0, slots := 0, locals := 90 } : Room)).room s m args below meth c H locs 0 0 Q (F0 m 201 ls []) := by
  have hF := (⟨hx, hb, hml, hown, hts⟩ : CallFix p m c cL_holds 6 s args wsL_holds RL)
  have hN := clamp_lt (zX3_total (Ω 0) 3)
  intro j
  induction j with
  | zero =>
    intro i hin H locs hY hS ls hl
    obtain rfl : i = (zX3_total (Ω 0) 3).toNatClampNeg := by omega
    refine lv_iload hx hb dL_holds_201 (lv_at hl 0 rfl) ?_
    refine lv_aload_n hx hb dL_holds_203 rfl (lv_at hl 4 rfl) ?_
    refine lv_iconst (v := 3) hx hb dL_holds_204 (by decide) ?_
    refine rX7_countT hF (cwV 1 hts gL_holds_X7_count rfl rfl rfl hdX7_count ⟨Nat.le_of_ble_eq_true rfl, Nat.le_of_ble_eq_true rfl⟩) hC hY hJ hOk ⟨by decide, by decide⟩ hS (fun _ h => h) hl.1 (Nat.le_of_ble_eq_true rfl) dL_holds_205 ⟨Nat.zero_le _, Nat.zero_le _⟩ (fun H locs hY _ _ hS => ?_)
    refine lv_icmp_ge (tgt := 255) hx hb dL_holds_208 (by decide) (fun _ => ?_) (fun c_44 => absurd (up_le _) c_44)
    exact K H locs ls hY hS (lv_sub hl [0, 1, 2, 3, 4] rfl)
  | succ j ih =>
    intro i hin H locs hY hS ls hl
    refine lv_iload hx hb dL_holds_201 (lv_at hl 0 rfl) ?_
    refine lv_aload_n hx hb dL_holds_203 rfl (lv_at hl 4 rfl) ?_
    refine lv_iconst (v := 3) hx hb dL_holds_204 (by decide) ?_
    refine rX7_countT hF (cwV 1 hts gL_holds_X7_count rfl rfl rfl hdX7_count ⟨Nat.le_of_ble_eq_true rfl, Nat.le_of_ble_eq_true rfl⟩) hC hY hJ hOk ⟨by decide, by decide⟩ hS (fun _ h => h) hl.1 (Nat.le_of_ble_eq_true rfl) dL_holds_205 ⟨Nat.zero_le _, Nat.zero_le _⟩ (fun H locs hY _ _ hS => ?_)
    refine lv_icmp_ge (tgt := 255) hx hb dL_holds_208 (by decide) (fun c_45 => absurd c_45 (up_gt (by omega))) (fun _ => ?_)
    refine lv_aload_n hx hb dL_holds_211 rfl (lv_at hl 4 rfl) ?_
    refine lv_iload hx hb dL_holds_212 (lv_at hl 0 rfl) ?_
    refine lv_iconst (v := 3) hx hb dL_holds_214 (by decide) ?_
    refine rX7_volunteerOf hF (cwV 2 hts gL_holds_X7_volunteerOf rfl rfl rfl hdX7_volunteerOf ⟨Nat.le_of_ble_eq_true rfl, Nat.le_of_ble_eq_true rfl⟩) hC hY hJ hOk hS (fun _ h => h) hl.1 (Nat.le_of_ble_eq_true rfl) dL_holds_215 ⟨Nat.zero_le _, Nat.zero_le _⟩ (fun H locs hY _ _ hS => ?_)
    refine lv_istore (lv' := [(5, .int (zX3_ofVolunteer (Ω 0) (nI i) 3)), (4, .int (nI i)), (3, .int a3), (2, .int a2), (1, .int a1), (0, .ref (ob 0))]) hx hb dL_holds_218 hl (by decide) rfl (fun ls hl => ?_)
    refine lv_iload hx hb dL_holds_220 (lv_at hl 0 rfl) ?_
    refine lv_if_lt (tgt := 247) hx hb dL_holds_222 (by decide) (fun c_46 => ?_) (fun c_46 => ?_)
    · refine lv_iconst (v := 0) hx hb dL_holds_247 (by decide) ?_
      have q9 := hok i (by omega)
      rw [show bh3 (Ω 0) i = false by unfold bh3; rw [if_pos c_46]] at q9
      exact absurd q9 (by decide)
    · refine lv_iload hx hb dL_holds_225 (lv_at hl 0 rfl) ?_
      refine lv_bipush (v := 36) hx hb dL_holds_227 (by decide) ?_
      refine lv_icmp_gt (tgt := 247) hx hb dL_holds_229 (by decide) (fun c_47 => ?_) (fun c_47 => ?_)
      · refine lv_iconst (v := 0) hx hb dL_holds_247 (by decide) ?_
        have q9 := hok i (by omega)
        rw [show bh3 (Ω 0) i = false by unfold bh3; rw [if_neg c_46, if_pos c_47]] at q9
        exact absurd q9 (by decide)
      · refine lv_aload_n hx hb dL_holds_232 rfl (lv_at hl 5 rfl) ?_
        refine lv_iload hx hb dL_holds_233 (lv_at hl 1 rfl) ?_
        refine lv_iconst (v := 4) hx hb dL_holds_235 (by decide) ?_
        refine rX7_volunteerOf hF (cwV 2 hts gL_holds_X7_volunteerOf rfl rfl rfl hdX7_volunteerOf ⟨Nat.le_of_ble_eq_true rfl, Nat.le_of_ble_eq_true rfl⟩) hC hY hJ hOk hS (fun _ h => h) hl.1 (Nat.le_of_ble_eq_true rfl) dL_holds_236 ⟨Nat.zero_le _, Nat.zero_le _⟩ (fun H locs hY _ _ hS => ?_)
        refine lv_aload_n hx hb dL_holds_239 rfl (lv_at hl 5 rfl) ?_
        refine lv_iconst (v := 4) hx hb dL_holds_240 (by decide) ?_
        refine rX7_countT hF (cwV 1 hts gL_holds_X7_count rfl rfl rfl hdX7_count ⟨Nat.le_of_ble_eq_true rfl, Nat.le_of_ble_eq_true rfl⟩) hC hY hJ hOk ⟨by decide, by decide⟩ hS (fun _ h => h) hl.1 (Nat.le_of_ble_eq_true rfl) dL_holds_241 ⟨Nat.zero_le _, Nat.zero_le _⟩ (fun H locs hY _ _ hS => ?_)
        refine lv_icmp_le (tgt := 249) hx hb dL_holds_244 (by decide) (fun c_48 => ?_) (fun c_48 => ?_)
        · refine lv_iinc (v := (nI (i + 1))) (lv' := [(4, .int (nI (i + 1))), (5, .int (zX3_ofVolunteer (Ω 0) (nI i) 3)), (3, .int a3), (2, .int a2), (1, .int a1), (0, .ref (ob 0))]) hx hb dL_holds_249 hl (k := 1) rfl (by rw [nI_succ]; rfl) (by decide) rfl (fun ls hl => ?_)
          refine lv_goto (tgt := 201) hx hb dL_holds_252 (by decide) ?_
          exact ih (i + 1) (by omega) H locs hY hS ls (lv_sub hl [0, 2, 3, 4, 5] rfl)
        · refine lv_iconst (v := 0) hx hb dL_holds_247 (by decide) ?_
          have q9 := hok i (by omega)
          rw [show bh3 (Ω 0) i = false by unfold bh3; rw [if_neg c_46, if_neg c_47, if_neg c_48]] at q9
          exact absurd q9 (by decide)
set_option maxHeartbeats 4000000 in
set_option maxRecDepth 100000 in
theorem mL_holds (l : Launch) (D : va_G) (y : Y3) (ob : Nat → Nat) (AD : Nat → Nat → Nat) (Ω : Og) : Met l yL_holds wsL_holds ({ frames := 4, cells := 0, slots := 0, locals := 90 } : Room) (va_Pc [.ref (ob 0)] (fun U => CK D y U ∧ SysH D y ob AD Ω U.heap ∧ sysJ ob AD ∧ okO Ω ∧ okSh (Ω 0) ∧ HoldsOk (Ω 0))) (va_Qi (fun (r : Int32) (u : Og) => r = 1 ∧ u = Ω) (fun u t => SysH D y ob AD u t.heap) (sysA ob AD)) 0 0 (sysA ob AD) := by
  refine Met.ofW (cc := cL_holds) (maxL := 6) (ret := (some .boolean)) (by decide) rfl ?_
  intro p e s m args below meth c s₁ B hml hv
  obtain ⟨rfl, hC, hY, hJ, hOk, hSh, hH⟩ := hv
  have hx := B.exec
  have hb := B.bytes
  have hr := B.returns
  have hts := atoms_spec (ws := wsL_holds) B.pre
  have hown : s.vm.findClass RL = some m.cls := findClass_of_methodNamed B.named
  have hlocks := B.notSynchronized
  have hF := (⟨hx, hb, hml, hown, hts⟩ : CallFix p m c cL_holds 6 s _ wsL_holds RL)
  have hS : va_S (sysA ob AD) s.heap s.heap [] := va_S.rf
  have hl := lv_entry ([.ref (ob 0)]) (n := 6) (Nat.le_of_ble_eq_true rfl)
  rw [lg_entry_eq]
  generalize (lg_sl ([.ref (ob 0)]) ++ List.replicate (6 - (lg_sl ([.ref (ob 0)])).length) Slot.unset).toArray = ls at hl ⊢
  have hl : lv_has ls 6 [(0, .ref (ob 0))] := hl
  obtain ⟨acc, hac0, hok1, hok3, hend⟩ := hH
  refine lv_iconst (v := 0) hx hb dL_holds_0 (by decide) ?_
  refine lv_istore_n (lv' := [(1, .int 0), (0, .ref (ob 0))]) hx hb dL_holds_1 rfl hl (by decide) rfl (fun ls hl => ?_)
  refine lv_iconst (v := 0) hx hb dL_holds_2 (by decide) ?_
  refine lv_istore_n (lv' := [(2, .int 0), (1, .int 0), (0, .ref (ob 0))]) hx hb dL_holds_3 rfl hl (by decide) rfl (fun ls hl => ?_)
  refine lpL_h1 (acc := acc) hx hb hml hown hts hC hJ hOk hok1 (fun H locs ls hY hS hl => ?_) _ 0 (Nat.zero_add _) _ _ hY hS ls (by rw [hac0]; exact lv_sub hl [0, 1, 2] rfl)
  refine lv_iconst (v := 0) hx hb dL_holds_155 (by decide) ?_
  refine lv_istore_n (lv' := [(2, .int 0), (1, .int (acc ((zX3_total (Ω 0) 2).toNatClampNeg))), (0, .ref (ob 0))]) hx hb dL_holds_156 rfl hl (by decide) rfl (fun ls hl => ?_)
  refine lv_iconst (v := 0) hx hb dL_holds_157 (by decide) ?_
  refine lv_istore_n (lv' := [(3, .int 0), (2, .int 0), (1, .int (acc ((zX3_total (Ω 0) 2).toNatClampNeg))), (0, .ref (ob 0))]) hx hb dL_holds_158 rfl hl (by decide) rfl (fun ls hl => ?_)
  refine lv_iconst (v := 0) hx hb dL_holds_159 (by decide) ?_
  refine lv_istore (lv' := [(4, .int 0), (3, .int 0), (2, .int 0), (1, .int (acc ((zX3_total (Ω 0) 2).toNatClampNeg))), (0, .ref (ob 0))]) hx hb dL_holds_160 hl (by decide) rfl (fun ls hl => ?_)
  refine lpL_h2 (a1 := acc ((zX3_total (Ω 0) 2).toNatClampNeg)) hx hb hml hown hts hC hJ hOk (fun H locs ls hY hS hl => ?_) _ 0 (Nat.zero_add _) _ _ hY hS ls (lv_sub hl [0, 1, 2, 3, 4] rfl)
  refine lv_iconst (v := 0) hx hb dL_holds_198 (by decide) ?_
  refine lv_istore (lv' := [(4, .int 0), (3, .int ((upTo (bh2 (Ω 0)) (0, 0) ((zX3_total (Ω 0) 0).toNatClampNeg)).2)), (2, .int ((upTo (bh2 (Ω 0)) (0, 0) ((zX3_total (Ω 0) 0).toNatClampNeg)).1)), (1, .int (acc ((zX3_total (Ω 0) 2).toNatClampNeg))), (0, .ref (ob 0))]) hx hb dL_holds_199 hl (by decide) rfl (fun ls hl => ?_)
  refine lpL_h3 (a1 := (acc ((zX3_total (Ω 0) 2).toNatClampNeg))) (a2 := (upTo (bh2 (Ω 0)) (0, 0) ((zX3_total (Ω 0) 0).toNatClampNeg)).1) (a3 := (upTo (bh2 (Ω 0)) (0, 0) ((zX3_total (Ω 0) 0).toNatClampNeg)).2) hx hb hml hown hts hC hJ hOk hok3 (fun H locs ls hY hS hl => ?_) _ 0 (Nat.zero_add _) _ _ hY hS ls (lv_sub hl [0, 1, 2, 3, 4] rfl)
  generalize (acc ((zX3_total (Ω 0) 2).toNatClampNeg)) = w1 at hl hend
  generalize (upTo (bh2 (Ω 0)) (0, 0) ((zX3_total (Ω 0) 0).toNatClampNeg)) = w2 at hl hend
  refine lv_iload_n hx hb dL_holds_255 rfl (lv_at hl 3 rfl) ?_
  refine lv_aload_n hx hb dL_holds_256 rfl (lv_at hl 4 rfl) ?_
  refine lv_bipush (v := 10) hx hb dL_holds_257 (by decide) ?_
  refine rX7_countT hF (cwV 1 hts gL_holds_X7_count rfl rfl rfl hdX7_count ⟨Nat.le_of_ble_eq_true rfl, Nat.le_of_ble_eq_true rfl⟩) hC hY hJ hOk ⟨by decide, by decide⟩ hS (fun _ h => h) hl.1 (Nat.le_of_ble_eq_true rfl) dL_holds_259 ⟨Nat.zero_le _, Nat.zero_le _⟩ (fun H locs hY _ _ hS => ?_)
  refine lv_icmp_ne (tgt := 363) hx hb dL_holds_262 (by decide) (fun c_49 => ?_) (fun c_49 => ?_)
  · refine lv_iconst (v := 0) hx hb dL_holds_363 (by decide) ?_
    have e9 : zhe (Ω 0) w1 w2.1 w2.2 = 0 := by unfold zhe; rw [if_neg c_49]
    exact W.zret (v := 0) hx hb hr (by decide) (fun t ht hW => ⟨⟨0, Ω, rfl, ⟨e9.symm.trans hend, rfl⟩, by dsimp only; rw [ht]; exact hY⟩, hS.F ht⟩) hS.2.2 dL_holds_364
  · refine lv_iload_n hx hb dL_holds_265 rfl (lv_at hl 2 rfl) ?_
    refine lv_aload_n hx hb dL_holds_266 rfl (lv_at hl 4 rfl) ?_
    refine lv_iconst (v := 1) hx hb dL_holds_267 (by decide) ?_
    refine rX7_countT hF (cwV 1 hts gL_holds_X7_count rfl rfl rfl hdX7_count ⟨Nat.le_of_ble_eq_true rfl, Nat.le_of_ble_eq_true rfl⟩) hC hY hJ hOk ⟨by decide, by decide⟩ hS (fun _ h => h) hl.1 (Nat.le_of_ble_eq_true rfl) dL_holds_268 ⟨Nat.zero_le _, Nat.zero_le _⟩ (fun H locs hY _ _ hS => ?_)
    refine lv_icmp_ne (tgt := 363) hx hb dL_holds_271 (by decide) (fun c_50 => ?_) (fun c_50 => ?_)
    · refine lv_iconst (v := 0) hx hb dL_holds_363 (by decide) ?_
      have e9 : zhe (Ω 0) w1 w2.1 w2.2 = 0 := by unfold zhe; rw [if_pos c_49, if_neg c_50]
      exact W.zret (v := 0) hx hb hr (by decide) (fun t ht hW => ⟨⟨0, Ω, rfl, ⟨e9.symm.trans hend, rfl⟩, by dsimp only; rw [ht]; exact hY⟩, hS.F ht⟩) hS.2.2 dL_holds_364
    · refine lv_iload_n hx hb dL_holds_274 rfl (lv_at hl 1 rfl) ?_
      refine lv_aload_n hx hb dL_holds_275 rfl (lv_at hl 4 rfl) ?_
      refine lv_bipush (v := 7) hx hb dL_holds_276 (by decide) ?_
      refine rX7_countT hF (cwV 1 hts gL_holds_X7_count rfl rfl rfl hdX7_count ⟨Nat.le_of_ble_eq_true rfl, Nat.le_of_ble_eq_true rfl⟩) hC hY hJ hOk ⟨by decide, by decide⟩ hS (fun _ h => h) hl.1 (Nat.le_of_ble_eq_true rfl) dL_holds_278 ⟨Nat.zero_le _, Nat.zero_le _⟩ (fun H locs hY _ _ hS => ?_)
      refine lv_icmp_ne (tgt := 363) hx hb dL_holds_281 (by decide) (fun c_51 => ?_) (fun c_51 => ?_)
      · refine lv_iconst (v := 0) hx hb dL_holds_363 (by decide) ?_
        have e9 : zhe (Ω 0) w1 w2.1 w2.2 = 0 := by unfold zhe; rw [if_pos c_49, if_pos c_50, if_neg c_51]
        exact W.zret (v := 0) hx hb hr (by decide) (fun t ht hW => ⟨⟨0, Ω, rfl, ⟨e9.symm.trans hend, rfl⟩, by dsimp only; rw [ht]; exact hY⟩, hS.F ht⟩) hS.2.2 dL_holds_364
      · refine lv_aload_n hx hb dL_holds_284 rfl (lv_at hl 4 rfl) ?_
        refine lv_iconst (v := 5) hx hb dL_holds_285 (by decide) ?_
        refine rX7_countT hF (cwV 1 hts gL_holds_X7_count rfl rfl rfl hdX7_count ⟨Nat.le_of_ble_eq_true rfl, Nat.le_of_ble_eq_true rfl⟩) hC hY hJ hOk ⟨by decide, by decide⟩ hS (fun _ h => h) hl.1 (Nat.le_of_ble_eq_true rfl) dL_holds_286 ⟨Nat.zero_le _, Nat.zero_le _⟩ (fun H locs hY _ _ hS => ?_)
        refine lv_aload_n hx hb dL_holds_289 rfl (lv_at hl 4 rfl) ?_
        refine lv_bipush (v := 6) hx hb dL_holds_290 (by decide) ?_
        refine rX7_countT hF (cwV 1 hts gL_holds_X7_count rfl rfl rfl hdX7_count ⟨Nat.le_of_ble_eq_true rfl, Nat.le_of_ble_eq_true rfl⟩) hC hY hJ hOk ⟨by decide, by decide⟩ hS (fun _ h => h) hl.1 (Nat.le_of_ble_eq_true rfl) dL_holds_292 ⟨Nat.zero_le _, Nat.zero_le _⟩ (fun H locs hY _ _ hS => ?_)
        refine lv_iadd hx hb dL_holds_295 ?_
        refine lv_aload_n hx hb dL_holds_296 rfl (lv_at hl 4 rfl) ?_
        refine lv_bipush (v := 7) hx hb dL_holds_297 (by decide) ?_
        refine rX7_countT hF (cwV 1 hts gL_holds_X7_count rfl rfl rfl hdX7_count ⟨Nat.le_of_ble_eq_true rfl, Nat.le_of_ble_eq_true rfl⟩) hC hY hJ hOk ⟨by decide, by decide⟩ hS (fun _ h => h) hl.1 (Nat.le_of_ble_eq_true rfl) dL_holds_299 ⟨Nat.zero_le _, Nat.zero_le _⟩ (fun H locs hY _ _ hS => ?_)
        refine lv_iadd hx hb dL_holds_302 ?_
        refine lv_aload_n hx hb dL_holds_303 rfl (lv_at hl 4 rfl) ?_
        refine lv_bipush (v := 8) hx hb dL_holds_304 (by decide) ?_
        refine rX7_countT hF (cwV 1 hts gL_holds_X7_count rfl rfl rfl hdX7_count ⟨Nat.le_of_ble_eq_true rfl, Nat.le_of_ble_eq_true rfl⟩) hC hY hJ hOk ⟨by decide, by decide⟩ hS (fun _ h => h) hl.1 (Nat.le_of_ble_eq_true rfl) dL_holds_306 ⟨Nat.zero_le _, Nat.zero_le _⟩ (fun H locs hY _ _ hS => ?_)
        refine lv_iadd hx hb dL_holds_309 ?_
        refine lv_aload_n hx hb dL_holds_310 rfl (lv_at hl 4 rfl) ?_
        refine lv_bipush (v := 9) hx hb dL_holds_311 (by decide) ?_
        refine rX7_countT hF (cwV 1 hts gL_holds_X7_count rfl rfl rfl hdX7_count ⟨Nat.le_of_ble_eq_true rfl, Nat.le_of_ble_eq_true rfl⟩) hC hY hJ hOk ⟨by decide, by decide⟩ hS (fun _ h => h) hl.1 (Nat.le_of_ble_eq_true rfl) dL_holds_313 ⟨Nat.zero_le _, Nat.zero_le _⟩ (fun H locs hY _ _ hS => ?_)
        refine lv_iadd hx hb dL_holds_316 ?_
        refine lv_iload_n hx hb dL_holds_317 rfl (lv_at hl 2 rfl) ?_
        refine lv_icmp_ne (tgt := 363) hx hb dL_holds_318 (by decide) (fun c_52 => ?_) (fun c_52 => ?_)
        · refine lv_iconst (v := 0) hx hb dL_holds_363 (by decide) ?_
          have e9 : zhe (Ω 0) w1 w2.1 w2.2 = 0 := by unfold zhe; rw [if_pos c_49, if_pos c_50, if_pos c_51, if_neg c_52]
          exact W.zret (v := 0) hx hb hr (by decide) (fun t ht hW => ⟨⟨0, Ω, rfl, ⟨e9.symm.trans hend, rfl⟩, by dsimp only; rw [ht]; exact hY⟩, hS.F ht⟩) hS.2.2 dL_holds_364
        · refine lv_aload_n hx hb dL_holds_321 rfl (lv_at hl 4 rfl) ?_
          refine rX7_shareBits hF (cwV 0 hts gL_holds_X7_shareBits rfl rfl rfl hdX7_shareBits ⟨Nat.le_of_ble_eq_true rfl, Nat.le_of_ble_eq_true rfl⟩) hC hY hJ hOk hSh hS (fun _ h => h) hl.1 (Nat.le_of_ble_eq_true rfl) dL_holds_322 ⟨Nat.zero_le _, Nat.zero_le _⟩ (fun H locs hY _ _ hS => ?_)
          refine lv_bipush (v := (-4)) hx hb dL_holds_325 (by decide) ?_
          refine lv_icmp_ne (tgt := 334) hx hb dL_holds_327 (by decide) (fun c_53 => ?_) (fun c_53 => ?_)
          · refine lv_iconst (v := 0) hx hb dL_holds_334 (by decide) ?_
            refine lv_aload_n hx hb dL_holds_335 rfl (lv_at hl 4 rfl) ?_
            refine lv_iconst (v := 5) hx hb dL_holds_336 (by decide) ?_
            refine rX7_countT hF (cwV 1 hts gL_holds_X7_count rfl rfl rfl hdX7_count ⟨Nat.le_of_ble_eq_true rfl, Nat.le_of_ble_eq_true rfl⟩) hC hY hJ hOk ⟨by decide, by decide⟩ hS (fun _ h => h) hl.1 (Nat.le_of_ble_eq_true rfl) dL_holds_337 ⟨Nat.zero_le _, Nat.zero_le _⟩ (fun H locs hY _ _ hS => ?_)
            refine lv_aload_n hx hb dL_holds_340 rfl (lv_at hl 4 rfl) ?_
            refine lv_bipush (v := 6) hx hb dL_holds_341 (by decide) ?_
            refine rX7_countT hF (cwV 1 hts gL_holds_X7_count rfl rfl rfl hdX7_count ⟨Nat.le_of_ble_eq_true rfl, Nat.le_of_ble_eq_true rfl⟩) hC hY hJ hOk ⟨by decide, by decide⟩ hS (fun _ h => h) hl.1 (Nat.le_of_ble_eq_true rfl) dL_holds_343 ⟨Nat.zero_le _, Nat.zero_le _⟩ (fun H locs hY _ _ hS => ?_)
            refine lv_iadd hx hb dL_holds_346 ?_
            refine lv_iload_n hx hb dL_holds_347 rfl (lv_at hl 2 rfl) ?_
            refine lv_icmp_ne (tgt := 355) hx hb dL_holds_348 (by decide) (fun c_54 => ?_) (fun c_54 => ?_)
            · refine lv_iconst (v := 0) hx hb dL_holds_355 (by decide) ?_
              refine lv_icmp_ne (tgt := 363) hx hb dL_holds_356 (by decide) (fun c_55 => absurd c_55 (by decide)) (fun _ => ?_)
              refine lv_iconst (v := 1) hx hb dL_holds_359 (by decide) ?_
              refine lv_goto (tgt := 364) hx hb dL_holds_360 (by decide) ?_
              have e9 : zhe (Ω 0) w1 w2.1 w2.2 = 1 := by unfold zhe; rw [if_pos c_49, if_pos c_50, if_pos c_51, if_pos c_52, if_neg c_53, if_neg c_54]
              exact W.zret (v := 1) hx hb hr (by decide) (fun t ht hW => ⟨⟨1, Ω, rfl, ⟨e9.symm.trans hend, rfl⟩, by dsimp only; rw [ht]; exact hY⟩, hS.F ht⟩) hS.2.2 dL_holds_364
            · refine lv_iconst (v := 1) hx hb dL_holds_351 (by decide) ?_
              refine lv_goto (tgt := 356) hx hb dL_holds_352 (by decide) ?_
              refine lv_icmp_ne (tgt := 363) hx hb dL_holds_356 (by decide) (fun _ => ?_) (fun c_56 => absurd c_56 (by decide))
              refine lv_iconst (v := 0) hx hb dL_holds_363 (by decide) ?_
              have e9 : zhe (Ω 0) w1 w2.1 w2.2 = 0 := by unfold zhe; rw [if_pos c_49, if_pos c_50, if_pos c_51, if_pos c_52, if_neg c_53, if_pos c_54]
              exact W.zret (v := 0) hx hb hr (by decide) (fun t ht hW => ⟨⟨0, Ω, rfl, ⟨e9.symm.trans hend, rfl⟩, by dsimp only; rw [ht]; exact hY⟩, hS.F ht⟩) hS.2.2 dL_holds_364
          · refine lv_iconst (v := 1) hx hb dL_holds_330 (by decide) ?_
            refine lv_goto (tgt := 335) hx hb dL_holds_331 (by decide) ?_
            refine lv_aload_n hx hb dL_holds_335 rfl (lv_at hl 4 rfl) ?_
            refine lv_iconst (v := 5) hx hb dL_holds_336 (by decide) ?_
            refine rX7_countT hF (cwV 1 hts gL_holds_X7_count rfl rfl rfl hdX7_count ⟨Nat.le_of_ble_eq_true rfl, Nat.le_of_ble_eq_true rfl⟩) hC hY hJ hOk ⟨by decide, by decide⟩ hS (fun _ h => h) hl.1 (Nat.le_of_ble_eq_true rfl) dL_holds_337 ⟨Nat.zero_le _, Nat.zero_le _⟩ (fun H locs hY _ _ hS => ?_)
            refine lv_aload_n hx hb dL_holds_340 rfl (lv_at hl 4 rfl) ?_
            refine lv_bipush (v := 6) hx hb dL_holds_341 (by decide) ?_
            refine rX7_countT hF (cwV 1 hts gL_holds_X7_count rfl rfl rfl hdX7_count ⟨Nat.le_of_ble_eq_true rfl, Nat.le_of_ble_eq_true rfl⟩) hC hY hJ hOk ⟨by decide, by decide⟩ hS (fun _ h => h) hl.1 (Nat.le_of_ble_eq_true rfl) dL_holds_343 ⟨Nat.zero_le _, Nat.zero_le _⟩ (fun H locs hY _ _ hS => ?_)
            refine lv_iadd hx hb dL_holds_346 ?_
            refine lv_iload_n hx hb dL_holds_347 rfl (lv_at hl 2 rfl) ?_
            refine lv_icmp_ne (tgt := 355) hx hb dL_holds_348 (by decide) (fun c_57 => ?_) (fun c_57 => ?_)
            · refine lv_iconst (v := 0) hx hb dL_holds_355 (by decide) ?_
              refine lv_icmp_ne (tgt := 363) hx hb dL_holds_356 (by decide) (fun _ => ?_) (fun c_58 => absurd c_58 (by decide))
              refine lv_iconst (v := 0) hx hb dL_holds_363 (by decide) ?_
              have e9 : zhe (Ω 0) w1 w2.1 w2.2 = 0 := by unfold zhe; rw [if_pos c_49, if_pos c_50, if_pos c_51, if_pos c_52, if_pos c_53, if_neg c_57]
              exact W.zret (v := 0) hx hb hr (by decide) (fun t ht hW => ⟨⟨0, Ω, rfl, ⟨e9.symm.trans hend, rfl⟩, by dsimp only; rw [ht]; exact hY⟩, hS.F ht⟩) hS.2.2 dL_holds_364
            · refine lv_iconst (v := 1) hx hb dL_holds_351 (by decide) ?_
              refine lv_goto (tgt := 356) hx hb dL_holds_352 (by decide) ?_
              refine lv_icmp_ne (tgt := 363) hx hb dL_holds_356 (by decide) (fun c_59 => absurd c_59 (by decide)) (fun _ => ?_)
              refine lv_iconst (v := 1) hx hb dL_holds_359 (by decide) ?_
              refine lv_goto (tgt := 364) hx hb dL_holds_360 (by decide) ?_
              have e9 : zhe (Ω 0) w1 w2.1 w2.2 = 1 := by unfold zhe; rw [if_pos c_49, if_pos c_50, if_pos c_51, if_pos c_52, if_pos c_53, if_pos c_57]
              exact W.zret (v := 1) hx hb hr (by decide) (fun t ht hW => ⟨⟨1, Ω, rfl, ⟨e9.symm.trans hend, rfl⟩, by dsimp only; rw [ht]; exact hY⟩, hS.F ht⟩) hS.2.2 dL_holds_364
set_option maxHeartbeats 4000000 in
set_option maxRecDepth 100000 in
theorem kL_holds {p : Program} {l : Launch} {e : Env} {R : Room} {s : State} {m : MethodId} {args : Array Value} {below : List Frame} {meth : Method} {c : Code} {H : Heap} {locs : List Loc} {cells slots : Nat} {Q : State → Prop} {cc : ByteArray} {nL : Nat} {Ts : List Cond} {own : String} {index pc : Nat} {ls : Array Slot} {rest : List Value} {D : va_G} {y : Y3} {ob : Nat → Nat} {AD : Nat → Nat → Nat} {Ω : Og} {A0 : Nat → Prop} {H0 : Heap} (hF : CallFix p m c cc nL s args Ts own) (cw : CallB R s args own index yL_holds cL_holds 6 (some .boolean) wsL_holds ({ frames := 4, cells := 0, slots := 0, locals := 90 } : Room) 0 0 1 ∧ (Cond.static yL_holds).before args s = true) (hC : CK D y s) (hY : SysH D y ob AD Ω H) (hJ : sysJ ob AD) (hOk : okO Ω) (hSh : okSh (Ω 0)) (hH : HoldsOk (Ω 0)) (hS : va_S A0 H0 H locs) (hA : ∀ q, (sysA ob AD) q → A0 q) (hsz : ls.size = nL) (hW : (rest.map fun v => v.category).sum ≤ 8) (hdg : decode cc pc = .ok (.invokestatic index, 3)) (hf : cells ≤ R.cells ∧ slots ≤ R.slots)
    (k : ∀ (r : Int32) (u : Og) (H1 : Heap) (locs1 : List Loc), r = 1 ∧ u = Ω → SysH D y ob AD u H1 → va_S A0 H0 H1 locs1 → W p l e R s m args below meth c H1 locs1 cells slots Q (F0 m (pc + 3) ls (.int r :: rest))) : W p l e R s m args below meth c H locs cells slots Q (F0 m pc ls (.ref (ob 0) :: rest)) := by
  refine va_calli (va_runS (As := [.ref (ob 0)]) (rest := rest) hF (mL_holds l D y ob AD Ω) cw ⟨fun a U g mk q => by obtain ⟨q0, q1, q2, q3, q4, q5, q6⟩ := q; exact ⟨q0, q1.call g mk a, q2, q3, q4, q5, q6⟩, fun U hU hW => ⟨rfl, hC.warm hW, by rw [hU]; exact hY, hJ, hOk, hSh, hH⟩⟩ rfl rfl hsz rfl (lv_room hW) hdg ⟨hf.1, hf.2⟩) hS (fun q _ h => hA q h) hA (fun r u t H1 locs1 ht hvm hp hB hz1 hk1 hS1 => ?_)
  rw [ht] at hB
  exact k r u H1 locs1 hp hB hS1
