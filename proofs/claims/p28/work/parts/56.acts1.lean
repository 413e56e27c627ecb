theorem hdL_acts : yL_acts.cls ≠ "java/lang/invoke/MethodHandle" ∧ yL_acts.cls ≠ "java/lang/invoke/VarHandle" ∧ (parseMethodDescriptor yL_acts.desc).map (fun d => d.parameters.length) = some 3 := by decide +kernel
set_option maxHeartbeats 4000000 in
set_option maxRecDepth 100000 in
theorem ba_meal {p : Program} {l : Launch} {e : Env} {s : State} {m : MethodId} {args : Array Value} {below : List Frame} {meth : Method} {c : Code} {D : va_G} {y : Y3} {n0 tM tF : Nat} {ob : Nat → Nat} {AD : Nat → Nat → Nat} {Ω : Og} {y2 x2 how k i who v : Int32} (hx : p.tables.exec = Jvm.exec) (hb : c.code = cL_acts) (hml : c.maxLocals = 16) (hown : s.vm.findClass RL = some m.cls) (hts : ∀ w ∈ wsL_acts, w.before args s = true) (hr : meth.sig.returnType = some .boolean) (hlocks : meth.locks = false) (hC : CK D y s) (hJ : sysJ ob AD) (hI : InvO Ω) (hZs : STM n0 tM tF s s.heap) (hn0 : ∀ q, sysA ob AD q → n0 ≤ q) (hk : KB Ω 0 k) (hi : KB Ω 1 i) (hw : KB Ω 2 who) (hv : KB Ω 3 v) {H : Heap} {locs : List Loc} (hY : SysH D y ob AD Ω H) (hS : va_S (sysA ob AD) s.heap H locs) (ls : Array Slot) (hl : lv_has ls 16 [(11, .int v), (10, .int who), (9, .int i), (8, .int k), (7, .int (zX3_total (Ω 0) 3)), (6, .int (zX3_total (Ω 0) 2)), (5, .int (zX3_total (Ω 0) 1)), (4, .int (zX3_total (Ω 0) 0)), (3, .int how), (2, .int y2), (1, .int x2), (0, .ref (ob 0))]) : W p l e (headSpec wsL_acts ({ frames := 9, cells := 0, slots := 0, locals := 207 } : Room)).room s m args below meth c H locs 0 0 (MQ below (va_Qi (fun (r : Int32) (u : Og) => (r = 1 ∧ InvO u ∧ HSt Ω u)) (fun u t => SysH D y ob AD u t.heap) (sysA ob AD)) args s 0 0 (sysA ob AD)) (F0 m 91 ls []) := by
  have hF := (⟨hx, hb, hml, hown, hts⟩ : CallFix p m c cL_acts 16 s args wsL_acts RL)
  have hI0 := hI
  have hOk := hI.1
  refine lv_iload_n hx hb dL_acts_91 rfl (lv_at hl 9 rfl) ?_
  refine lv_bipush (v := 45) hx hb dL_acts_92 (by decide) ?_
  refine kL_low (x1 := y2) (x2 := 45) hF (va_cwS 2 hts gL_acts_L_low rfl rfl rfl hdL_low ⟨Nat.le_of_ble_eq_true rfl, Nat.le_of_ble_eq_true rfl⟩) hC (by decide) hl.1 (Nat.le_of_ble_eq_true rfl) dL_acts_94 ⟨Nat.zero_le _, Nat.zero_le _⟩ ?_
  refine lv_istore (lv' := [(12, .int (zL_low y2 45)), (11, .int v), (10, .int who), (9, .int i), (8, .int k), (7, .int (zX3_total (Ω 0) 3)), (6, .int (zX3_total (Ω 0) 2)), (5, .int (zX3_total (Ω 0) 1)), (4, .int (zX3_total (Ω 0) 0)), (3, .int how), (2, .int y2), (1, .int x2), (0, .ref (ob 0))]) hx hb dL_acts_97 hl (by decide) rfl (fun ls hl => ?_)
  refine lv_iload hx hb dL_acts_99 (lv_at hl 4 rfl) ?_
  refine lv_iload hx hb dL_acts_101 (lv_at hl 8 rfl) ?_
  refine lv_icmp_ge (tgt := 114) hx hb dL_acts_103 (by decide) (fun c_1 => ?_) (fun c_1 => ?_)
  · refine lv_iconst (v := 0) hx hb dL_acts_114 (by decide) ?_
    refine lv_istore (lv' := [(13, .int 0), (12, .int (zL_low y2 45)), (11, .int v), (10, .int who), (9, .int i), (8, .int k), (7, .int (zX3_total (Ω 0) 3)), (6, .int (zX3_total (Ω 0) 2)), (5, .int (zX3_total (Ω 0) 1)), (4, .int (zX3_total (Ω 0) 0)), (3, .int how), (2, .int y2), (1, .int x2), (0, .ref (ob 0))]) hx hb dL_acts_115 hl (by decide) rfl (fun ls hl => ?_)
    refine lv_iload_n hx hb dL_acts_117 rfl (lv_at hl 11 rfl) ?_
    refine lv_bipush (v := 6) hx hb dL_acts_118 (by decide) ?_
    refine lv_ishr hx hb dL_acts_120 ?_
    refine lv_bipush (v := 34) hx hb dL_acts_121 (by decide) ?_
    refine kL_low (x1 := (y2 >>> (6 &&& 31))) (x2 := 34) hF (va_cwS 2 hts gL_acts_L_low rfl rfl rfl hdL_low ⟨Nat.le_of_ble_eq_true rfl, Nat.le_of_ble_eq_true rfl⟩) hC (by decide) hl.1 (Nat.le_of_ble_eq_true rfl) dL_acts_123 ⟨Nat.zero_le _, Nat.zero_le _⟩ ?_
    refine lv_istore (lv' := [(14, .int (zL_low (y2 >>> (6 &&& 31)) 34)), (13, .int 0), (12, .int (zL_low y2 45)), (11, .int v), (10, .int who), (9, .int i), (8, .int k), (7, .int (zX3_total (Ω 0) 3)), (6, .int (zX3_total (Ω 0) 2)), (5, .int (zX3_total (Ω 0) 1)), (4, .int (zX3_total (Ω 0) 0)), (3, .int how), (2, .int y2), (1, .int x2), (0, .ref (ob 0))]) hx hb dL_acts_126 hl (by decide) rfl (fun ls hl => ?_)
    refine lv_aload_n hx hb dL_acts_128 rfl (lv_at hl 14 rfl) ?_
    refine lv_iload hx hb dL_acts_129 (lv_at hl 6 rfl) ?_
    refine lv_iload hx hb dL_acts_131 (lv_at hl 2 rfl) ?_
    refine lv_iload hx hb dL_acts_133 (lv_at hl 0 rfl) ?_
    refine kX7_meal hF (cwV 3 hts gL_acts_X7_meal rfl rfl rfl hdX7_meal ⟨Nat.le_of_ble_eq_true rfl, Nat.le_of_ble_eq_true rfl⟩) hC hY hJ hOk hS (fun _ h => h) hl.1 (Nat.le_of_ble_eq_true rfl) dL_acts_135 ⟨Nat.zero_le _, Nat.zero_le _⟩ (fun H locs hY _ _ hS => ?_)
    have hI : InvO ((zX7_meal Ω k (zL_low y2 45) (zL_low (y2 >>> (6 &&& 31)) 34)).2) := (pub_meal hI k (zL_low y2 45) (zL_low (y2 >>> (6 &&& 31)) 34)).2.1
    have hOk := hI.1
    refine lv_istore (lv' := [(15, .int ((zX7_meal Ω k (zL_low y2 45) (zL_low (y2 >>> (6 &&& 31)) 34)).1)), (14, .int (zL_low (y2 >>> (6 &&& 31)) 34)), (13, .int 0), (12, .int (zL_low y2 45)), (11, .int v), (10, .int who), (9, .int i), (8, .int k), (7, .int (zX3_total (Ω 0) 3)), (6, .int (zX3_total (Ω 0) 2)), (5, .int (zX3_total (Ω 0) 1)), (4, .int (zX3_total (Ω 0) 0)), (3, .int how), (2, .int y2), (1, .int x2), (0, .ref (ob 0))]) hx hb dL_acts_138 hl (by decide) rfl (fun ls hl => ?_)
    refine lv_iload hx hb dL_acts_140 (lv_at hl 7 rfl) ?_
    refine lv_iload hx hb dL_acts_142 (lv_at hl 11 rfl) ?_
    refine lv_icmp_eq (tgt := 159) hx hb dL_acts_144 (by decide) (fun c_2 => ?_) (fun c_2 => ?_)
    · refine lv_iload hx hb dL_acts_159 (lv_at hl 0 rfl) ?_
      refine lv_iconst (v := (-1)) hx hb dL_acts_161 (by decide) ?_
      refine lv_icmp_ne (tgt := 169) hx hb dL_acts_162 (by decide) (fun c_3 => ?_) (fun c_3 => ?_)
      · refine lv_iconst (v := 0) hx hb dL_acts_169 (by decide) ?_
        refine lv_goto (tgt := 211) hx hb dL_acts_170 (by decide) ?_
        have e9 : (zA_meal Ω y2 k i who v) = ((0 : Int32), (zX7_meal Ω k (zL_low y2 45) (zL_low (y2 >>> (6 &&& 31)) 34)).2) := by unfold zA_meal; rw [if_pos c_1, if_pos c_2, if_neg c_3]
        have hz := rd3 (act_meal hI0 hk hi hw hv y2) e9
        exact W.zret (v := 0) hx hb hr (by decide) (fun t ht hW => ⟨⟨0, (zX7_meal Ω k (zL_low y2 45) (zL_low (y2 >>> (6 &&& 31)) 34)).2, rfl, hz, by dsimp only; rw [ht]; exact hY⟩, hS.F ht⟩) hS.2.2 dL_acts_211
      · refine lv_iconst (v := 1) hx hb dL_acts_165 (by decide) ?_
        refine lv_goto (tgt := 211) hx hb dL_acts_166 (by decide) ?_
        have e9 : (zA_meal Ω y2 k i who v) = ((1 : Int32), (zX7_meal Ω k (zL_low y2 45) (zL_low (y2 >>> (6 &&& 31)) 34)).2) := by unfold zA_meal; rw [if_pos c_1, if_pos c_2, if_pos c_3]
        have hz := rd3 (act_meal hI0 hk hi hw hv y2) e9
        exact W.zret (v := 1) hx hb hr (by decide) (fun t ht hW => ⟨⟨1, (zX7_meal Ω k (zL_low y2 45) (zL_low (y2 >>> (6 &&& 31)) 34)).2, rfl, hz, by dsimp only; rw [ht]; exact hY⟩, hS.F ht⟩) hS.2.2 dL_acts_211
    · refine lv_iload hx hb dL_acts_147 (lv_at hl 3 rfl) ?_
      refine lv_if_eq (tgt := 159) hx hb dL_acts_149 (by decide) (fun c_4 => ?_) (fun c_4 => ?_)
      · refine lv_iload hx hb dL_acts_159 (lv_at hl 0 rfl) ?_
        refine lv_iconst (v := (-1)) hx hb dL_acts_161 (by decide) ?_
        refine lv_icmp_ne (tgt := 169) hx hb dL_acts_162 (by decide) (fun c_5 => ?_) (fun c_5 => ?_)
        · refine lv_iconst (v := 0) hx hb dL_acts_169 (by decide) ?_
          refine lv_goto (tgt := 211) hx hb dL_acts_170 (by decide) ?_
          have e9 : (zA_meal Ω y2 k i who v) = ((0 : Int32), (zX7_meal Ω k (zL_low y2 45) (zL_low (y2 >>> (6 &&& 31)) 34)).2) := by unfold zA_meal; rw [if_pos c_1, if_neg c_2, if_pos c_4, if_neg c_5]
          have hz := rd3 (act_meal hI0 hk hi hw hv y2) e9
          exact W.zret (v := 0) hx hb hr (by decide) (fun t ht hW => ⟨⟨0, (zX7_meal Ω k (zL_low y2 45) (zL_low (y2 >>> (6 &&& 31)) 34)).2, rfl, hz, by dsimp only; rw [ht]; exact hY⟩, hS.F ht⟩) hS.2.2 dL_acts_211
        · refine lv_iconst (v := 1) hx hb dL_acts_165 (by decide) ?_
          refine lv_goto (tgt := 211) hx hb dL_acts_166 (by decide) ?_
          have e9 : (zA_meal Ω y2 k i who v) = ((1 : Int32), (zX7_meal Ω k (zL_low y2 45) (zL_low (y2 >>> (6 &&& 31)) 34)).2) := by unfold zA_meal; rw [if_pos c_1, if_neg c_2, if_pos c_4, if_pos c_5]
          have hz := rd3 (act_meal hI0 hk hi hw hv y2) e9
          exact W.zret (v := 1) hx hb hr (by decide) (fun t ht hW => ⟨⟨1, (zX7_meal Ω k (zL_low y2 45) (zL_low (y2 >>> (6 &&& 31)) 34)).2, rfl, hz, by dsimp only; rw [ht]; exact hY⟩, hS.F ht⟩) hS.2.2 dL_acts_211
      · refine lv_iload hx hb dL_acts_152 (lv_at hl 1 rfl) ?_
        refine lv_bipush (v := 31) hx hb dL_acts_154 (by decide) ?_
        refine lv_icmp_le (tgt := 173) hx hb dL_acts_156 (by decide) (fun c_6 => ?_) (fun c_6 => ?_)
        · refine lv_iload hx hb dL_acts_173 (lv_at hl 0 rfl) ?_
          refine lv_iload hx hb dL_acts_175 (lv_at hl 10 rfl) ?_
          refine lv_icmp_ne (tgt := 185) hx hb dL_acts_177 (by decide) (fun c_7 => ?_) (fun c_7 => ?_)
          · refine lv_iload hx hb dL_acts_185 (lv_at hl 0 rfl) ?_
            refine lv_bipush (v := (-2)) hx hb dL_acts_187 (by decide) ?_
            refine lv_icmp_eq (tgt := 206) hx hb dL_acts_189 (by decide) (fun c_8 => ?_) (fun c_8 => ?_)
            · refine lv_iconst (v := 1) hx hb dL_acts_206 (by decide) ?_
              refine lv_goto (tgt := 211) hx hb dL_acts_207 (by decide) ?_
              have e9 : (zA_meal Ω y2 k i who v) = ((1 : Int32), (zX7_meal Ω k (zL_low y2 45) (zL_low (y2 >>> (6 &&& 31)) 34)).2) := by unfold zA_meal; rw [if_pos c_1, if_neg c_2, if_neg c_4, if_pos c_6, if_neg c_7, if_pos c_8]
              have hz := rd3 (act_meal hI0 hk hi hw hv y2) e9
              exact W.zret (v := 1) hx hb hr (by decide) (fun t ht hW => ⟨⟨1, (zX7_meal Ω k (zL_low y2 45) (zL_low (y2 >>> (6 &&& 31)) 34)).2, rfl, hz, by dsimp only; rw [ht]; exact hY⟩, hS.F ht⟩) hS.2.2 dL_acts_211
            · refine lv_iload hx hb dL_acts_192 (lv_at hl 0 rfl) ?_
              refine lv_bipush (v := (-3)) hx hb dL_acts_194 (by decide) ?_
              refine lv_icmp_ne (tgt := 210) hx hb dL_acts_196 (by decide) (fun c_9 => ?_) (fun c_9 => ?_)
              · refine lv_iconst (v := 0) hx hb dL_acts_210 (by decide) ?_
                have e9 : (zA_meal Ω y2 k i who v) = ((0 : Int32), (zX7_meal Ω k (zL_low y2 45) (zL_low (y2 >>> (6 &&& 31)) 34)).2) := by unfold zA_meal; rw [if_pos c_1, if_neg c_2, if_neg c_4, if_pos c_6, if_neg c_7, if_neg c_8, if_neg c_9]
                have hz := rd3 (act_meal hI0 hk hi hw hv y2) e9
                exact W.zret (v := 0) hx hb hr (by decide) (fun t ht hW => ⟨⟨0, (zX7_meal Ω k (zL_low y2 45) (zL_low (y2 >>> (6 &&& 31)) 34)).2, rfl, hz, by dsimp only; rw [ht]; exact hY⟩, hS.F ht⟩) hS.2.2 dL_acts_211
              · refine lv_iload hx hb dL_acts_199 (lv_at hl 10 rfl) ?_
                refine lv_bipush (v := 24) hx hb dL_acts_201 (by decide) ?_
                refine lv_icmp_ne (tgt := 210) hx hb dL_acts_203 (by decide) (fun c_10 => ?_) (fun c_10 => ?_)
                · refine lv_iconst (v := 0) hx hb dL_acts_210 (by decide) ?_
                  have e9 : (zA_meal Ω y2 k i who v) = ((0 : Int32), (zX7_meal Ω k (zL_low y2 45) (zL_low (y2 >>> (6 &&& 31)) 34)).2) := by unfold zA_meal; rw [if_pos c_1, if_neg c_2, if_neg c_4, if_pos c_6, if_neg c_7, if_neg c_8, if_pos c_9, if_neg c_10]
                  have hz := rd3 (act_meal hI0 hk hi hw hv y2) e9
                  exact W.zret (v := 0) hx hb hr (by decide) (fun t ht hW => ⟨⟨0, (zX7_meal Ω k (zL_low y2 45) (zL_low (y2 >>> (6 &&& 31)) 34)).2, rfl, hz, by dsimp only; rw [ht]; exact hY⟩, hS.F ht⟩) hS.2.2 dL_acts_211
                · refine lv_iconst (v := 1) hx hb dL_acts_206 (by decide) ?_
                  refine lv_goto (tgt := 211) hx hb dL_acts_207 (by decide) ?_
                  have e9 : (zA_meal Ω y2 k i who v) = ((1 : Int32), (zX7_meal Ω k (zL_low y2 45) (zL_low (y2 >>> (6 &&& 31)) 34)).2) := by unfold zA_meal; rw [if_pos c_1, if_neg c_2, if_neg c_4, if_pos c_6, if_neg c_7, if_neg c_8, if_pos c_9, if_pos c_10]
                  have hz := rd3 (act_meal hI0 hk hi hw hv y2) e9
                  exact W.zret (v := 1) hx hb hr (by decide) (fun t ht hW => ⟨⟨1, (zX7_meal Ω k (zL_low y2 45) (zL_low (y2 >>> (6 &&& 31)) 34)).2, rfl, hz, by dsimp only; rw [ht]; exact hY⟩, hS.F ht⟩) hS.2.2 dL_acts_211
          · refine lv_iload hx hb dL_acts_180 (lv_at hl 2 rfl) ?_
            refine lv_if_ge (tgt := 206) hx hb dL_acts_182 (by decide) (fun _ => ?_) (fun c_11 => absurd (by decide) c_11)
            refine lv_iconst (v := 1) hx hb dL_acts_206 (by decide) ?_
            refine lv_goto (tgt := 211) hx hb dL_acts_207 (by decide) ?_
            have e9 : (zA_meal Ω y2 k i who v) = ((1 : Int32), (zX7_meal Ω k (zL_low y2 45) (zL_low (y2 >>> (6 &&& 31)) 34)).2) := by unfold zA_meal; rw [if_pos c_1, if_neg c_2, if_neg c_4, if_pos c_6, if_pos c_7]
            have hz := rd3 (act_meal hI0 hk hi hw hv y2) e9
            exact W.zret (v := 1) hx hb hr (by decide) (fun t ht hW => ⟨⟨1, (zX7_meal Ω k (zL_low y2 45) (zL_low (y2 >>> (6 &&& 31)) 34)).2, rfl, hz, by dsimp only; rw [ht]; exact hY⟩, hS.F ht⟩) hS.2.2 dL_acts_211
        · refine lv_iload hx hb dL_acts_159 (lv_at hl 0 rfl) ?_
          refine lv_iconst (v := (-1)) hx hb dL_acts_161 (by decide) ?_
          refine lv_icmp_ne (tgt := 169) hx hb dL_acts_162 (by decide) (fun c_12 => ?_) (fun c_12 => ?_)
          · refine lv_iconst (v := 0) hx hb dL_acts_169 (by decide) ?_
            refine lv_goto (tgt := 211) hx hb dL_acts_170 (by decide) ?_
            have e9 : (zA_meal Ω y2 k i who v) = ((0 : Int32), (zX7_meal Ω k (zL_low y2 45) (zL_low (y2 >>> (6 &&& 31)) 34)).2) := by unfold zA_meal; rw [if_pos c_1, if_neg c_2, if_neg c_4, if_neg c_6, if_neg c_12]
            have hz := rd3 (act_meal hI0 hk hi hw hv y2) e9
            exact W.zret (v := 0) hx hb hr (by decide) (fun t ht hW => ⟨⟨0, (zX7_meal Ω k (zL_low y2 45) (zL_low (y2 >>> (6 &&& 31)) 34)).2, rfl, hz, by dsimp only; rw [ht]; exact hY⟩, hS.F ht⟩) hS.2.2 dL_acts_211
          · refine lv_iconst (v := 1) hx hb dL_acts_165 (by decide) ?_
            refine lv_goto (tgt := 211) hx hb dL_acts_166 (by decide) ?_
            have e9 : (zA_meal Ω y2 k i who v) = ((1 : Int32), (zX7_meal Ω k (zL_low y2 45) (zL_low (y2 >>> (6 &&& 31)) 34)).2) := by unfold zA_meal; rw [if_pos c_1, if_neg c_2, if_neg c_4, if_neg c_6, if_pos c_12]
            have hz := rd3 (act_meal hI0 hk hi hw hv y2) e9
            exact W.zret (v := 1) hx hb hr (by decide) (fun t ht hW => ⟨⟨1, (zX7_meal Ω k (zL_low y2 45) (zL_low (y2 >>> (6 &&& 31)) 34)).2, rfl, hz, by dsimp only; rw [ht]; exact hY⟩, hS.F ht⟩) hS.2.2 dL_acts_211
  · refine lv_aload_n hx hb dL_acts_106 rfl (lv_at hl 12 rfl) ?_
    refine lv_iconst (v := 4) hx hb dL_acts_107 (by decide) ?_
    refine rX7_countT hF (cwV 1 hts gL_acts_X7_count rfl rfl rfl hdX7_count ⟨Nat.le_of_ble_eq_true rfl, Nat.le_of_ble_eq_true rfl⟩) hC hY hJ hOk ⟨by decide, by decide⟩ hS (fun _ h => h) hl.1 (Nat.le_of_ble_eq_true rfl) dL_acts_108 ⟨Nat.zero_le _, Nat.zero_le _⟩ (fun H locs hY _ _ hS => ?_)
    refine lv_goto (tgt := 115) hx hb dL_acts_111 (by decide) ?_
    refine lv_istore (lv' := [(13, .int (zX3_total (Ω 0) 4)), (12, .int (zL_low y2 45)), (11, .int v), (10, .int who), (9, .int i), (8, .int k), (7, .int (zX3_total (Ω 0) 3)), (6, .int (zX3_total (Ω 0) 2)), (5, .int (zX3_total (Ω 0) 1)), (4, .int (zX3_total (Ω 0) 0)), (3, .int how), (2, .int y2), (1, .int x2), (0, .ref (ob 0))]) hx hb dL_acts_115 hl (by decide) rfl (fun ls hl => ?_)
    refine lv_iload_n hx hb dL_acts_117 rfl (lv_at hl 11 rfl) ?_
    refine lv_bipush (v := 6) hx hb dL_acts_118 (by decide) ?_
    refine lv_ishr hx hb dL_acts_120 ?_
    refine lv_bipush (v := 34) hx hb dL_acts_121 (by decide) ?_
    refine kL_low (x1 := (y2 >>> (6 &&& 31))) (x2 := 34) hF (va_cwS 2 hts gL_acts_L_low rfl rfl rfl hdL_low ⟨Nat.le_of_ble_eq_true rfl, Nat.le_of_ble_eq_true rfl⟩) hC (by decide) hl.1 (Nat.le_of_ble_eq_true rfl) dL_acts_123 ⟨Nat.zero_le _, Nat.zero_le _⟩ ?_
    refine lv_istore (lv' := [(14, .int (zL_low (y2 >>> (6 &&& 31)) 34)), (13, .int (zX3_total (Ω 0) 4)), (12, .int (zL_low y2 45)), (11, .int v), (10, .int who), (9, .int i), (8, .int k), (7, .int (zX3_total (Ω 0) 3)), (6, .int (zX3_total (Ω 0) 2)), (5, .int (zX3_total (Ω 0) 1)), (4, .int (zX3_total (Ω 0) 0)), (3, .int how), (2, .int y2), (1, .int x2), (0, .ref (ob 0))]) hx hb dL_acts_126 hl (by decide) rfl (fun ls hl => ?_)
    refine lv_aload_n hx hb dL_acts_128 rfl (lv_at hl 14 rfl) ?_
    refine lv_iload hx hb dL_acts_129 (lv_at hl 6 rfl) ?_
    refine lv_iload hx hb dL_acts_131 (lv_at hl 2 rfl) ?_
    refine lv_iload hx hb dL_acts_133 (lv_at hl 0 rfl) ?_
    refine kX7_meal hF (cwV 3 hts gL_acts_X7_meal rfl rfl rfl hdX7_meal ⟨Nat.le_of_ble_eq_true rfl, Nat.le_of_ble_eq_true rfl⟩) hC hY hJ hOk hS (fun _ h => h) hl.1 (Nat.le_of_ble_eq_true rfl) dL_acts_135 ⟨Nat.zero_le _, Nat.zero_le _⟩ (fun H locs hY _ _ hS => ?_)
    have hI : InvO ((zX7_meal Ω k (zL_low y2 45) (zL_low (y2 >>> (6 &&& 31)) 34)).2) := (pub_meal hI k (zL_low y2 45) (zL_low (y2 >>> (6 &&& 31)) 34)).2.1
    have hOk := hI.1
    refine lv_istore (lv' := [(15, .int ((zX7_meal Ω k (zL_low y2 45) (zL_low (y2 >>> (6 &&& 31)) 34)).1)), (14, .int (zL_low (y2 >>> (6 &&& 31)) 34)), (13, .int (zX3_total (Ω 0) 4)), (12, .int (zL_low y2 45)), (11, .int v), (10, .int who), (9, .int i), (8, .int k), (7, .int (zX3_total (Ω 0) 3)), (6, .int (zX3_total (Ω 0) 2)), (5, .int (zX3_total (Ω 0) 1)), (4, .int (zX3_total (Ω 0) 0)), (3, .int how), (2, .int y2), (1, .int x2), (0, .ref (ob 0))]) hx hb dL_acts_138 hl (by decide) rfl (fun ls hl => ?_)
    refine lv_iload hx hb dL_acts_140 (lv_at hl 7 rfl) ?_
    refine lv_iload hx hb dL_acts_142 (lv_at hl 11 rfl) ?_
    refine lv_icmp_eq (tgt := 159) hx hb dL_acts_144 (by decide) (fun c_13 => ?_) (fun c_13 => ?_)
    · refine lv_iload hx hb dL_acts_159 (lv_at hl 0 rfl) ?_
      refine lv_iconst (v := (-1)) hx hb dL_acts_161 (by decide) ?_
      refine lv_icmp_ne (tgt := 169) hx hb dL_acts_162 (by decide) (fun c_14 => ?_) (fun c_14 => ?_)
      · refine lv_iconst (v := 0) hx hb dL_acts_169 (by decide) ?_
        refine lv_goto (tgt := 211) hx hb dL_acts_170 (by decide) ?_
        have e9 : (zA_meal Ω y2 k i who v) = ((0 : Int32), (zX7_meal Ω k (zL_low y2 45) (zL_low (y2 >>> (6 &&& 31)) 34)).2) := by unfold zA_meal; rw [if_neg c_1, if_pos c_13, if_neg c_14]
        have hz := rd3 (act_meal hI0 hk hi hw hv y2) e9
        exact W.zret (v := 0) hx hb hr (by decide) (fun t ht hW => ⟨⟨0, (zX7_meal Ω k (zL_low y2 45) (zL_low (y2 >>> (6 &&& 31)) 34)).2, rfl, hz, by dsimp only; rw [ht]; exact hY⟩, hS.F ht⟩) hS.2.2 dL_acts_211
      · refine lv_iconst (v := 1) hx hb dL_acts_165 (by decide) ?_
        refine lv_goto (tgt := 211) hx hb dL_acts_166 (by decide) ?_
        have e9 : (zA_meal Ω y2 k i who v) = ((1 : Int32), (zX7_meal Ω k (zL_low y2 45) (zL_low (y2 >>> (6 &&& 31)) 34)).2) := by unfold zA_meal; rw [if_neg c_1, if_pos c_13, if_pos c_14]
        have hz := rd3 (act_meal hI0 hk hi hw hv y2) e9
        exact W.zret (v := 1) hx hb hr (by decide) (fun t ht hW => ⟨⟨1, (zX7_meal Ω k (zL_low y2 45) (zL_low (y2 >>> (6 &&& 31)) 34)).2, rfl, hz, by dsimp only; rw [ht]; exact hY⟩, hS.F ht⟩) hS.2.2 dL_acts_211
    · refine lv_iload hx hb dL_acts_147 (lv_at hl 3 rfl) ?_
      refine lv_if_eq (tgt := 159) hx hb dL_acts_149 (by decide) (fun c_15 => ?_) (fun c_15 => ?_)
      · refine lv_iload hx hb dL_acts_159 (lv_at hl 0 rfl) ?_
        refine lv_iconst (v := (-1)) hx hb dL_acts_161 (by decide) ?_
        refine lv_icmp_ne (tgt := 169) hx hb dL_acts_162 (by decide) (fun c_16 => ?_) (fun c_16 => ?_)
        · refine lv_iconst (v := 0) hx hb dL_acts_169 (by decide) ?_
          refine lv_goto (tgt := 211) hx hb dL_acts_170 (by decide) ?_
          have e9 : (zA_meal Ω y2 k i who v) = ((0 : Int32), (zX7_meal Ω k (zL_low y2 45) (zL_low (y2 >>> (6 &&& 31)) 34)).2) := by unfold zA_meal; rw [if_neg c_1, if_neg c_13, if_pos c_15, if_neg c_16]
          have hz := rd3 (act_meal hI0 hk hi hw hv y2) e9
          exact W.zret (v := 0) hx hb hr (by decide) (fun t ht hW => ⟨⟨0, (zX7_meal Ω k (zL_low y2 45) (zL_low (y2 >>> (6 &&& 31)) 34)).2, rfl, hz, by dsimp only; rw [ht]; exact hY⟩, hS.F ht⟩) hS.2.2 dL_acts_211
        · refine lv_iconst (v := 1) hx hb dL_acts_165 (by decide) ?_
          refine lv_goto (tgt := 211) hx hb dL_acts_166 (by decide) ?_
          have e9 : (zA_meal Ω y2 k i who v) = ((1 : Int32), (zX7_meal Ω k (zL_low y2 45) (zL_low (y2 >>> (6 &&& 31)) 34)).2) := by unfold zA_meal; rw [if_neg c_1, if_neg c_13, if_pos c_15, if_pos c_16]
          have hz := rd3 (act_meal hI0 hk hi hw hv y2) e9
          exact W.zret (v := 1) hx hb hr (by decide) (fun t ht hW => ⟨⟨1, (zX7_meal Ω k (zL_low y2 45) (zL_low (y2 >>> (6 &&& 31)) 34)).2, rfl, hz, by dsimp only; rw [ht]; exact hY⟩, hS.F ht⟩) hS.2.2 dL_acts_211
      · refine lv_iload hx hb dL_acts_152 (lv_at hl 1 rfl) ?_
        refine lv_bipush (v := 31) hx hb dL_acts_154 (by decide) ?_
        refine lv_icmp_le (tgt := 173) hx hb dL_acts_156 (by decide) (fun c_17 => ?_) (fun c_17 => ?_)
        · refine lv_iload hx hb dL_acts_173 (lv_at hl 0 rfl) ?_
          refine lv_iload hx hb dL_acts_175 (lv_at hl 10 rfl) ?_
          refine lv_icmp_ne (tgt := 185) hx hb dL_acts_177 (by decide) (fun c_18 => ?_) (fun c_18 => ?_)
          · refine lv_iload hx hb dL_acts_185 (lv_at hl 0 rfl) ?_
            refine lv_bipush (v := (-2)) hx hb dL_acts_187 (by decide) ?_
            refine lv_icmp_eq (tgt := 206) hx hb dL_acts_189 (by decide) (fun c_19 => ?_) (fun c_19 => ?_)
            · refine lv_iconst (v := 1) hx hb dL_acts_206 (by decide) ?_
              refine lv_goto (tgt := 211) hx hb dL_acts_207 (by decide) ?_
              have e9 : (zA_meal Ω y2 k i who v) = ((1 : Int32), (zX7_meal Ω k (zL_low y2 45) (zL_low (y2 >>> (6 &&& 31)) 34)).2) := by unfold zA_meal; rw [if_neg c_1, if_neg c_13, if_neg c_15, if_pos c_17, if_neg c_18, if_pos c_19]
              have hz := rd3 (act_meal hI0 hk hi hw hv y2) e9
              exact W.zret (v := 1) hx hb hr (by decide) (fun t ht hW => ⟨⟨1, (zX7_meal Ω k (zL_low y2 45) (zL_low (y2 >>> (6 &&& 31)) 34)).2, rfl, hz, by dsimp only; rw [ht]; exact hY⟩, hS.F ht⟩) hS.2.2 dL_acts_211
            · refine lv_iload hx hb dL_acts_192 (lv_at hl 0 rfl) ?_
              refine lv_bipush (v := (-3)) hx hb dL_acts_194 (by decide) ?_
              refine lv_icmp_ne (tgt := 210) hx hb dL_acts_196 (by decide) (fun c_20 => ?_) (fun c_20 => ?_)
              · refine lv_iconst (v := 0) hx hb dL_acts_210 (by decide) ?_
                have e9 : (zA_meal Ω y2 k i who v) = ((0 : Int32), (zX7_meal Ω k (zL_low y2 45) (zL_low (y2 >>> (6 &&& 31)) 34)).2) := by unfold zA_meal; rw [if_neg c_1, if_neg c_13, if_neg c_15, if_pos c_17, if_neg c_18, if_neg c_19, if_neg c_20]
                have hz := rd3 (act_meal hI0 hk hi hw hv y2) e9
                exact W.zret (v := 0) hx hb hr (by decide) (fun t ht hW => ⟨⟨0, (zX7_meal Ω k (zL_low y2 45) (zL_low (y2 >>> (6 &&& 31)) 34)).2, rfl, hz, by dsimp only; rw [ht]; exact hY⟩, hS.F ht⟩) hS.2.2 dL_acts_211
              · refine lv_iload hx hb dL_acts_199 (lv_at hl 10 rfl) ?_
                refine lv_bipush (v := 24) hx hb dL_acts_201 (by decide) ?_
                refine lv_icmp_ne (tgt := 210) hx hb dL_acts_203 (by decide) (fun c_21 => ?_) (fun c_21 => ?_)
                · refine lv_iconst (v := 0) hx hb dL_acts_210 (by decide) ?_
                  have e9 : (zA_meal Ω y2 k i who v) = ((0 : Int32), (zX7_meal Ω k (zL_low y2 45) (zL_low (y2 >>> (6 &&& 31)) 34)).2) := by unfold zA_meal; rw [if_neg c_1, if_neg c_13, if_neg c_15, if_pos c_17, if_neg c_18, if_neg c_19, if_pos c_20, if_neg c_21]
                  have hz := rd3 (act_meal hI0 hk hi hw hv y2) e9
                  exact W.zret (v := 0) hx hb hr (by decide) (fun t ht hW => ⟨⟨0, (zX7_meal Ω k (zL_low y2 45) (zL_low (y2 >>> (6 &&& 31)) 34)).2, rfl, hz, by dsimp only; rw [ht]; exact hY⟩, hS.F ht⟩) hS.2.2 dL_acts_211
                · refine lv_iconst (v := 1) hx hb dL_acts_206 (by decide) ?_
                  refine lv_goto (tgt := 211) hx hb dL_acts_207 (by decide) ?_
                  have e9 : (zA_meal Ω y2 k i who v) = ((1 : Int32), (zX7_meal Ω k (zL_low y2 45) (zL_low (y2 >>> (6 &&& 31)) 34)).2) := by unfold zA_meal; rw [if_neg c_1, if_neg c_13, if_neg c_15, if_pos c_17, if_neg c_18, if_neg c_19, if_pos c_20, if_pos c_21]
                  have hz := rd3 (act_meal hI0 hk hi hw hv y2) e9
                  exact W.zret (v := 1) hx hb hr (by decide) (fun t ht hW => ⟨⟨1, (zX7_meal Ω k (zL_low y2 45) (zL_low (y2 >>> (6 &&& 31)) 34)).2, rfl, hz, by dsimp only; rw [ht]; exact hY⟩, hS.F ht⟩) hS.2.2 dL_acts_211
          · refine lv_iload hx hb dL_acts_180 (lv_at hl 2 rfl) ?_
            refine lv_if_ge (tgt := 206) hx hb dL_acts_182 (by decide) (fun c_22 => ?_) (fun c_22 => ?_)
            · refine lv_iconst (v := 1) hx hb dL_acts_206 (by decide) ?_
              refine lv_goto (tgt := 211) hx hb dL_acts_207 (by decide) ?_
              have e9 : (zA_meal Ω y2 k i who v) = ((1 : Int32), (zX7_meal Ω k (zL_low y2 45) (zL_low (y2 >>> (6 &&& 31)) 34)).2) := by unfold zA_meal; rw [if_neg c_1, if_neg c_13, if_neg c_15, if_pos c_17, if_pos c_18, if_pos c_22]
              have hz := rd3 (act_meal hI0 hk hi hw hv y2) e9
              exact W.zret (v := 1) hx hb hr (by decide) (fun t ht hW => ⟨⟨1, (zX7_meal Ω k (zL_low y2 45) (zL_low (y2 >>> (6 &&& 31)) 34)).2, rfl, hz, by dsimp only; rw [ht]; exact hY⟩, hS.F ht⟩) hS.2.2 dL_acts_211
            · refine lv_iload hx hb dL_acts_185 (lv_at hl 0 rfl) ?_
              refine lv_bipush (v := (-2)) hx hb dL_acts_187 (by decide) ?_
              refine lv_icmp_eq (tgt := 206) hx hb dL_acts_189 (by decide) (fun c_23 => ?_) (fun c_23 => ?_)
              · refine lv_iconst (v := 1) hx hb dL_acts_206 (by decide) ?_
                refine lv_goto (tgt := 211) hx hb dL_acts_207 (by decide) ?_
                have e9 : (zA_meal Ω y2 k i who v) = ((1 : Int32), (zX7_meal Ω k (zL_low y2 45) (zL_low (y2 >>> (6 &&& 31)) 34)).2) := by unfold zA_meal; rw [if_neg c_1, if_neg c_13, if_neg c_15, if_pos c_17, if_pos c_18, if_neg c_22, if_pos c_23]
                have hz := rd3 (act_meal hI0 hk hi hw hv y2) e9
                exact W.zret (v := 1) hx hb hr (by decide) (fun t ht hW => ⟨⟨1, (zX7_meal Ω k (zL_low y2 45) (zL_low (y2 >>> (6 &&& 31)) 34)).2, rfl, hz, by dsimp only; rw [ht]; exact hY⟩, hS.F ht⟩) hS.2.2 dL_acts_211
              · refine lv_iload hx hb dL_acts_192 (lv_at hl 0 rfl) ?_
                refine lv_bipush (v := (-3)) hx hb dL_acts_194 (by decide) ?_
                refine lv_icmp_ne (tgt := 210) hx hb dL_acts_196 (by decide) (fun c_24 => ?_) (fun c_24 => ?_)
                · refine lv_iconst (v := 0) hx hb dL_acts_210 (by decide) ?_
                  have e9 : (zA_meal Ω y2 k i who v) = ((0 : Int32), (zX7_meal Ω k (zL_low y2 45) (zL_low (y2 >>> (6 &&& 31)) 34)).2) := by unfold zA_meal; rw [if_neg c_1, if_neg c_13, if_neg c_15, if_pos c_17, if_pos c_18, if_neg c_22, if_neg c_23, if_neg c_24]
                  have hz := rd3 (act_meal hI0 hk hi hw hv y2) e9
                  exact W.zret (v := 0) hx hb hr (by decide) (fun t ht hW => ⟨⟨0, (zX7_meal Ω k (zL_low y2 45) (zL_low (y2 >>> (6 &&& 31)) 34)).2, rfl, hz, by dsimp only; rw [ht]; exact hY⟩, hS.F ht⟩) hS.2.2 dL_acts_211
                · refine lv_iload hx hb dL_acts_199 (lv_at hl 10 rfl) ?_
                  refine lv_bipush (v := 24) hx hb dL_acts_201 (by decide) ?_
                  refine lv_icmp_ne (tgt := 210) hx hb dL_acts_203 (by decide) (fun c_25 => ?_) (fun c_25 => ?_)
                  · refine lv_iconst (v := 0) hx hb dL_acts_210 (by decide) ?_
                    have e9 : (zA_meal Ω y2 k i who v) = ((0 : Int32), (zX7_meal Ω k (zL_low y2 45) (zL_low (y2 >>> (6 &&& 31)) 34)).2) := by unfold zA_meal; rw [if_neg c_1, if_neg c_13, if_neg c_15, if_pos c_17, if_pos c_18, if_neg c_22, if_neg c_23, if_pos c_24, if_neg c_25]
                    have hz := rd3 (act_meal hI0 hk hi hw hv y2) e9
                    exact W.zret (v := 0) hx hb hr (by decide) (fun t ht hW => ⟨⟨0, (zX7_meal Ω k (zL_low y2 45) (zL_low (y2 >>> (6 &&& 31)) 34)).2, rfl, hz, by dsimp only; rw [ht]; exact hY⟩, hS.F ht⟩) hS.2.2 dL_acts_211
                  · refine lv_iconst (v := 1) hx hb dL_acts_206 (by decide) ?_
                    refine lv_goto (tgt := 211) hx hb dL_acts_207 (by decide) ?_
                    have e9 : (zA_meal Ω y2 k i who v) = ((1 : Int32), (zX7_meal Ω k (zL_low y2 45) (zL_low (y2 >>> (6 &&& 31)) 34)).2) := by unfold zA_meal; rw [if_neg c_1, if_neg c_13, if_neg c_15, if_pos c_17, if_pos c_18, if_neg c_22, if_neg c_23, if_pos c_24, if_pos c_25]
                    have hz := rd3 (act_meal hI0 hk hi hw hv y2) e9
                    exact W.zret (v := 1) hx hb hr (by decide) (fun t ht hW => ⟨⟨1, (zX7_meal Ω k (zL_low y2 45) (zL_low (y2 >>> (6 &&& 31)) 34)).2, rfl, hz, by dsimp only; rw [ht]; exact hY⟩, hS.F ht⟩) hS.2.2 dL_acts_211
        · refine lv_iload hx hb dL_acts_159 (lv_at hl 0 rfl) ?_
          refine lv_iconst (v := (-1)) hx hb dL_acts_161 (by decide) ?_
          refine lv_icmp_ne (tgt := 169) hx hb dL_acts_162 (by decide) (fun c_26 => ?_) (fun c_26 => ?_)
          · refine lv_iconst (v := 0) hx hb dL_acts_169 (by decide) ?_
            refine lv_goto (tgt := 211) hx hb dL_acts_170 (by decide) ?_
            have e9 : (zA_meal Ω y2 k i who v) = ((0 : Int32), (zX7_meal Ω k (zL_low y2 45) (zL_low (y2 >>> (6 &&& 31)) 34)).2) := by unfold zA_meal; rw [if_neg c_1, if_neg c_13, if_neg c_15, if_neg c_17, if_neg c_26]
            have hz := rd3 (act_meal hI0 hk hi hw hv y2) e9
            exact W.zret (v := 0) hx hb hr (by decide) (fun t ht hW => ⟨⟨0, (zX7_meal Ω k (zL_low y2 45) (zL_low (y2 >>> (6 &&& 31)) 34)).2, rfl, hz, by dsimp only; rw [ht]; exact hY⟩, hS.F ht⟩) hS.2.2 dL_acts_211
          · refine lv_iconst (v := 1) hx hb dL_acts_165 (by decide) ?_
            refine lv_goto (tgt := 211) hx hb dL_acts_166 (by decide) ?_
            have e9 : (zA_meal Ω y2 k i who v) = ((1 : Int32), (zX7_meal Ω k (zL_low y2 45) (zL_low (y2 >>> (6 &&& 31)) 34)).2) := by unfold zA_meal; rw [if_neg c_1, if_neg c_13, if_neg c_15, if_neg c_17, if_pos c_26]
            have hz := rd3 (act_meal hI0 hk hi hw hv y2) e9
            exact W.zret (v := 1) hx hb hr (by decide) (fun t ht hW => ⟨⟨1, (zX7_meal Ω k (zL_low y2 45) (zL_low (y2 >>> (6 &&& 31)) 34)).2, rfl, hz, by dsimp only; rw [ht]; exact hY⟩, hS.F ht⟩) hS.2.2 dL_acts_211
set_option maxHeartbeats 4000000 in
set_option maxRecDepth 100000 in
theorem ba_locker {p : Program} {l : Launch} {e : Env} {s : State} {m : MethodId} {args : Array Value} {below : List Frame} {meth : Method} {c : Code} {D : va_G} {y : Y3} {n0 tM tF : Nat} {ob : Nat → Nat} {AD : Nat → Nat → Nat} {Ω : Og} {y2 x2 how k i who v : Int32} (hx : p.tables.exec = Jvm.exec) (hb : c.code = cL_acts) (hml : c.maxLocals = 16) (hown : s.vm.findClass RL = some m.cls) (hts : ∀ w ∈ wsL_acts, w.before args s = true) (hr : meth.sig.returnType = some .boolean) (hlocks : meth.locks = false) (hC : CK D y s) (hJ : sysJ ob AD) (hI : InvO Ω) (hZs : STM n0 tM tF s s.heap) (hn0 : ∀ q, sysA ob AD q → n0 ≤ q) (hk : KB Ω 0 k) (hi : KB Ω 1 i) (hw : KB Ω 2 who) (hv : KB Ω 3 v) {H : Heap} {locs : List Loc} (hY : SysH D y ob AD Ω H) (hS : va_S (sysA ob AD) s.heap H locs) (ls : Array Slot) (hl : lv_has ls 16 [(11, .int v), (10, .int who), (9, .int i), (8, .int k), (7, .int (zX3_total (Ω 0) 3)), (6, .int (zX3_total (Ω 0) 2)), (5, .int (zX3_total (Ω 0) 1)), (4, .int (zX3_total (Ω 0) 0)), (3, .int how), (2, .int y2), (1, .int x2), (0, .ref (ob 0))]) : W p l e (headSpec wsL_acts ({ frames := 9, cells := 0, slots := 0, locals := 207 } : Room)).room s m args below meth c H locs 0 0 (MQ below (va_Qi (fun (r : Int32) (u : Og) => (r = 1 ∧ InvO u ∧ HSt Ω u)) (fun u t => SysH D y ob AD u t.heap) (sysA ob AD)) args s 0 0 (sysA ob AD)) (F0 m 217 ls []) := by
  have hF := (⟨hx, hb, hml, hown, hts⟩ : CallFix p m c cL_acts 16 s args wsL_acts RL)
  have hI0 := hI
  have hOk := hI.1
  refine lv_iload_n hx hb dL_acts_217 rfl (lv_at hl 9 rfl) ?_
  refine lv_bipush (v := 10) hx hb dL_acts_218 (by decide) ?_
  refine kL_low (x1 := y2) (x2 := 10) hF (va_cwS 2 hts gL_acts_L_low rfl rfl rfl hdL_low ⟨Nat.le_of_ble_eq_true rfl, Nat.le_of_ble_eq_true rfl⟩) hC (by decide) hl.1 (Nat.le_of_ble_eq_true rfl) dL_acts_220 ⟨Nat.zero_le _, Nat.zero_le _⟩ ?_
  refine lv_istore (lv' := [(12, .int (zL_low y2 10)), (11, .int v), (10, .int who), (9, .int i), (8, .int k), (7, .int (zX3_total (Ω 0) 3)), (6, .int (zX3_total (Ω 0) 2)), (5, .int (zX3_total (Ω 0) 1)), (4, .int (zX3_total (Ω 0) 0)), (3, .int how), (2, .int y2), (1, .int x2), (0, .ref (ob 0))]) hx hb dL_acts_223 hl (by decide) rfl (fun ls hl => ?_)
  refine lv_aload_n hx hb dL_acts_225 rfl (lv_at hl 12 rfl) ?_
  refine lv_iload hx hb dL_acts_226 (lv_at hl 0 rfl) ?_
  refine lv_iload_n hx hb dL_acts_228 rfl (lv_at hl 10 rfl) ?_
  refine lv_iconst (v := 4) hx hb dL_acts_229 (by decide) ?_
  refine lv_ishr hx hb dL_acts_230 ?_
  refine lv_iconst (v := 2) hx hb dL_acts_231 (by decide) ?_
  refine kL_low (x1 := (y2 >>> (4 &&& 31))) (x2 := 2) hF (va_cwS 2 hts gL_acts_L_low rfl rfl rfl hdL_low ⟨Nat.le_of_ble_eq_true rfl, Nat.le_of_ble_eq_true rfl⟩) hC (by decide) hl.1 (Nat.le_of_ble_eq_true rfl) dL_acts_232 ⟨Nat.zero_le _, Nat.zero_le _⟩ ?_
  refine kX7_locker hF (cwV 2 hts gL_acts_X7_locker rfl rfl rfl hdX7_locker ⟨Nat.le_of_ble_eq_true rfl, Nat.le_of_ble_eq_true rfl⟩) hC hY hJ hOk hS (fun _ h => h) hl.1 (Nat.le_of_ble_eq_true rfl) dL_acts_235 ⟨Nat.zero_le _, Nat.zero_le _⟩ (fun H locs hY _ _ hS => ?_)
  have hI : InvO ((zX7_locker Ω (zL_low y2 10) (zL_low (y2 >>> (4 &&& 31)) 2)).2) := (pub_locker hI (zL_low y2 10) (zL_low (y2 >>> (4 &&& 31)) 2)).2.1
  have hOk := hI.1
  refine lv_iload hx hb dL_acts_238 (lv_at hl 0 rfl) ?_
  refine lv_if_eq (tgt := 250) hx hb dL_acts_240 (by decide) (fun c_1 => ?_) (fun c_1 => ?_)
  · refine lv_iconst (v := (-1)) hx hb dL_acts_250 (by decide) ?_
    refine lv_goto (tgt := 267) hx hb dL_acts_251 (by decide) ?_
    refine lv_icmp_ne (tgt := 274) hx hb dL_acts_267 (by decide) (fun c_2 => ?_) (fun c_2 => ?_)
    · refine lv_iconst (v := 0) hx hb dL_acts_274 (by decide) ?_
      have e9 : (zA_locker Ω y2 k i who v) = ((0 : Int32), (zX7_locker Ω (zL_low y2 10) (zL_low (y2 >>> (4 &&& 31)) 2)).2) := by unfold zA_locker; rw [if_pos c_1, if_neg c_2]
      have hz := rd3 (act_locker hI0 hk hi hw hv y2) e9
      exact W.zret (v := 0) hx hb hr (by decide) (fun t ht hW => ⟨⟨0, (zX7_locker Ω (zL_low y2 10) (zL_low (y2 >>> (4 &&& 31)) 2)).2, rfl, hz, by dsimp only; rw [ht]; exact hY⟩, hS.F ht⟩) hS.2.2 dL_acts_275
    · refine lv_iconst (v := 1) hx hb dL_acts_270 (by decide) ?_
      refine lv_goto (tgt := 275) hx hb dL_acts_271 (by decide) ?_
      have e9 : (zA_locker Ω y2 k i who v) = ((1 : Int32), (zX7_locker Ω (zL_low y2 10) (zL_low (y2 >>> (4 &&& 31)) 2)).2) := by unfold zA_locker; rw [if_pos c_1, if_pos c_2]
      have hz := rd3 (act_locker hI0 hk hi hw hv y2) e9
      exact W.zret (v := 1) hx hb hr (by decide) (fun t ht hW => ⟨⟨1, (zX7_locker Ω (zL_low y2 10) (zL_low (y2 >>> (4 &&& 31)) 2)).2, rfl, hz, by dsimp only; rw [ht]; exact hY⟩, hS.F ht⟩) hS.2.2 dL_acts_275
  · refine lv_iload hx hb dL_acts_243 (lv_at hl 0 rfl) ?_
    refine lv_bipush (v := 9) hx hb dL_acts_245 (by decide) ?_
    refine lv_icmp_ne (tgt := 254) hx hb dL_acts_247 (by decide) (fun c_3 => ?_) (fun c_3 => ?_)
    · refine lv_iload hx hb dL_acts_254 (lv_at hl 8 rfl) ?_
      refine lv_iconst (v := 5) hx hb dL_acts_256 (by decide) ?_
      refine lv_icmp_ne (tgt := 265) hx hb dL_acts_257 (by decide) (fun c_4 => ?_) (fun c_4 => ?_)
      · refine lv_iload hx hb dL_acts_265 (lv_at hl 8 rfl) ?_
        refine lv_icmp_ne (tgt := 274) hx hb dL_acts_267 (by decide) (fun c_5 => ?_) (fun c_5 => ?_)
        · refine lv_iconst (v := 0) hx hb dL_acts_274 (by decide) ?_
          have e9 : (zA_locker Ω y2 k i who v) = ((0 : Int32), (zX7_locker Ω (zL_low y2 10) (zL_low (y2 >>> (4 &&& 31)) 2)).2) := by unfold zA_locker; rw [if_neg c_1, if_neg c_3, if_neg c_4, if_neg c_5]
          have hz := rd3 (act_locker hI0 hk hi hw hv y2) e9
          exact W.zret (v := 0) hx hb hr (by decide) (fun t ht hW => ⟨⟨0, (zX7_locker Ω (zL_low y2 10) (zL_low (y2 >>> (4 &&& 31)) 2)).2, rfl, hz, by dsimp only; rw [ht]; exact hY⟩, hS.F ht⟩) hS.2.2 dL_acts_275
        · refine lv_iconst (v := 1) hx hb dL_acts_270 (by decide) ?_
          refine lv_goto (tgt := 275) hx hb dL_acts_271 (by decide) ?_
          have e9 : (zA_locker Ω y2 k i who v) = ((1 : Int32), (zX7_locker Ω (zL_low y2 10) (zL_low (y2 >>> (4 &&& 31)) 2)).2) := by unfold zA_locker; rw [if_neg c_1, if_neg c_3, if_neg c_4, if_pos c_5]
          have hz := rd3 (act_locker hI0 hk hi hw hv y2) e9
          exact W.zret (v := 1) hx hb hr (by decide) (fun t ht hW => ⟨⟨1, (zX7_locker Ω (zL_low y2 10) (zL_low (y2 >>> (4 &&& 31)) 2)).2, rfl, hz, by dsimp only; rw [ht]; exact hY⟩, hS.F ht⟩) hS.2.2 dL_acts_275
      · refine lv_bipush (v := (-3)) hx hb dL_acts_260 (by decide) ?_
        refine lv_goto (tgt := 267) hx hb dL_acts_262 (by decide) ?_
        refine lv_icmp_ne (tgt := 274) hx hb dL_acts_267 (by decide) (fun c_6 => ?_) (fun c_6 => ?_)
        · refine lv_iconst (v := 0) hx hb dL_acts_274 (by decide) ?_
          have e9 : (zA_locker Ω y2 k i who v) = ((0 : Int32), (zX7_locker Ω (zL_low y2 10) (zL_low (y2 >>> (4 &&& 31)) 2)).2) := by unfold zA_locker; rw [if_neg c_1, if_neg c_3, if_pos c_4, if_neg c_6]
          have hz := rd3 (act_locker hI0 hk hi hw hv y2) e9
          exact W.zret (v := 0) hx hb hr (by decide) (fun t ht hW => ⟨⟨0, (zX7_locker Ω (zL_low y2 10) (zL_low (y2 >>> (4 &&& 31)) 2)).2, rfl, hz, by dsimp only; rw [ht]; exact hY⟩, hS.F ht⟩) hS.2.2 dL_acts_275
        · refine lv_iconst (v := 1) hx hb dL_acts_270 (by decide) ?_
          refine lv_goto (tgt := 275) hx hb dL_acts_271 (by decide) ?_
          have e9 : (zA_locker Ω y2 k i who v) = ((1 : Int32), (zX7_locker Ω (zL_low y2 10) (zL_low (y2 >>> (4 &&& 31)) 2)).2) := by unfold zA_locker; rw [if_neg c_1, if_neg c_3, if_pos c_4, if_pos c_6]
          have hz := rd3 (act_locker hI0 hk hi hw hv y2) e9
          exact W.zret (v := 1) hx hb hr (by decide) (fun t ht hW => ⟨⟨1, (zX7_locker Ω (zL_low y2 10) (zL_low (y2 >>> (4 &&& 31)) 2)).2, rfl, hz, by dsimp only; rw [ht]; exact hY⟩, hS.F ht⟩) hS.2.2 dL_acts_275
    · refine lv_iconst (v := (-1)) hx hb dL_acts_250 (by decide) ?_
      refine lv_goto (tgt := 267) hx hb dL_acts_251 (by decide) ?_
      refine lv_icmp_ne (tgt := 274) hx hb dL_acts_267 (by decide) (fun c_7 => ?_) (fun c_7 => ?_)
      · refine lv_iconst (v := 0) hx hb dL_acts_274 (by decide) ?_
        have e9 : (zA_locker Ω y2 k i who v) = ((0 : Int32), (zX7_locker Ω (zL_low y2 10) (zL_low (y2 >>> (4 &&& 31)) 2)).2) := by unfold zA_locker; rw [if_neg c_1, if_pos c_3, if_neg c_7]
        have hz := rd3 (act_locker hI0 hk hi hw hv y2) e9
        exact W.zret (v := 0) hx hb hr (by decide) (fun t ht hW => ⟨⟨0, (zX7_locker Ω (zL_low y2 10) (zL_low (y2 >>> (4 &&& 31)) 2)).2, rfl, hz, by dsimp only; rw [ht]; exact hY⟩, hS.F ht⟩) hS.2.2 dL_acts_275
      · refine lv_iconst (v := 1) hx hb dL_acts_270 (by decide) ?_
        refine lv_goto (tgt := 275) hx hb dL_acts_271 (by decide) ?_
        have e9 : (zA_locker Ω y2 k i who v) = ((1 : Int32), (zX7_locker Ω (zL_low y2 10) (zL_low (y2 >>> (4 &&& 31)) 2)).2) := by unfold zA_locker; rw [if_neg c_1, if_pos c_3, if_pos c_7]
        have hz := rd3 (act_locker hI0 hk hi hw hv y2) e9
        exact W.zret (v := 1) hx hb hr (by decide) (fun t ht hW => ⟨⟨1, (zX7_locker Ω (zL_low y2 10) (zL_low (y2 >>> (4 &&& 31)) 2)).2, rfl, hz, by dsimp only; rw [ht]; exact hY⟩, hS.F ht⟩) hS.2.2 dL_acts_275
set_option maxHeartbeats 4000000 in
set_option maxRecDepth 100000 in
theorem ba_person {p : Program} {l : Launch} {e : Env} {s : State} {m : MethodId} {args : Array Value} {below : List Frame} {meth : Method} {c : Code} {D : va_G} {y : Y3} {n0 tM tF : Nat} {ob : Nat → Nat} {AD : Nat → Nat → Nat} {Ω : Og} {y2 x2 how k i who v : Int32} (hx : p.tables.exec = Jvm.exec) (hb : c.code = cL_acts) (hml : c.maxLocals = 16) (hown : s.vm.findClass RL = some m.cls) (hts : ∀ w ∈ wsL_acts, w.before args s = true) (hr : meth.sig.returnType = some .boolean) (hlocks : meth.locks = false) (hC : CK D y s) (hJ : sysJ ob AD) (hI : InvO Ω) (hZs : STM n0 tM tF s s.heap) (hn0 : ∀ q, sysA ob AD q → n0 ≤ q) (hk : KB Ω 0 k) (hi : KB Ω 1 i) (hw : KB Ω 2 who) (hv : KB Ω 3 v) {H : Heap} {locs : List Loc} (hY : SysH D y ob AD Ω H) (hS : va_S (sysA ob AD) s.heap H locs) (ls : Array Slot) (hl : lv_has ls 16 [(11, .int v), (10, .int who), (9, .int i), (8, .int k), (7, .int (zX3_total (Ω 0) 3)), (6, .int (zX3_total (Ω 0) 2)), (5, .int (zX3_total (Ω 0) 1)), (4, .int (zX3_total (Ω 0) 0)), (3, .int how), (2, .int y2), (1, .int x2), (0, .ref (ob 0))]) : W p l e (headSpec wsL_acts ({ frames := 9, cells := 0, slots := 0, locals := 207 } : Room)).room s m args below meth c H locs 0 0 (MQ below (va_Qi (fun (r : Int32) (u : Og) => (r = 1 ∧ InvO u ∧ HSt Ω u)) (fun u t => SysH D y ob AD u t.heap) (sysA ob AD)) args s 0 0 (sysA ob AD)) (F0 m 281 ls []) := by
  have hF := (⟨hx, hb, hml, hown, hts⟩ : CallFix p m c cL_acts 16 s args wsL_acts RL)
  have hI0 := hI
  have hOk := hI.1
  refine lv_iload_n hx hb dL_acts_281 rfl (lv_at hl 9 rfl) ?_
  refine lv_iload_n hx hb dL_acts_282 rfl (lv_at hl 9 rfl) ?_
  refine lv_bipush (v := 6) hx hb dL_acts_283 (by decide) ?_
  refine lv_ishr hx hb dL_acts_285 ?_
  refine lv_iand hx hb dL_acts_286 ?_
  refine lv_bipush (v := 31) hx hb dL_acts_287 (by decide) ?_
  refine lv_iand hx hb dL_acts_289 ?_
  refine lv_istore (lv' := [(12, .int ((y2 &&& (y2 >>> (6 &&& 31))) &&& 31)), (11, .int v), (10, .int who), (9, .int i), (8, .int k), (7, .int (zX3_total (Ω 0) 3)), (6, .int (zX3_total (Ω 0) 2)), (5, .int (zX3_total (Ω 0) 1)), (4, .int (zX3_total (Ω 0) 0)), (3, .int how), (2, .int y2), (1, .int x2), (0, .ref (ob 0))]) hx hb dL_acts_290 hl (by decide) rfl (fun ls hl => ?_)
  refine lv_aload_n hx hb dL_acts_292 rfl (lv_at hl 12 rfl) ?_
  refine lv_iload hx hb dL_acts_293 (lv_at hl 0 rfl) ?_
  refine kX7_person hF (cwV 1 hts gL_acts_X7_person rfl rfl rfl hdX7_person ⟨Nat.le_of_ble_eq_true rfl, Nat.le_of_ble_eq_true rfl⟩) hC hY hJ hOk hS (fun _ h => h) hl.1 (Nat.le_of_ble_eq_true rfl) dL_acts_295 ⟨Nat.zero_le _, Nat.zero_le _⟩ (fun H locs hY _ _ hS => ?_)
  have hI : InvO ((zX7_person Ω ((y2 &&& (y2 >>> (6 &&& 31))) &&& 31)).2) := (pub_person hI ((y2 &&& (y2 >>> (6 &&& 31))) &&& 31)).2.1
  have hOk := hI.1
  refine lv_iload hx hb dL_acts_298 (lv_at hl 6 rfl) ?_
  refine lv_bipush (v := 8) hx hb dL_acts_300 (by decide) ?_
  refine lv_icmp_ne (tgt := 310) hx hb dL_acts_302 (by decide) (fun c_1 => ?_) (fun c_1 => ?_)
  · refine lv_iload hx hb dL_acts_310 (lv_at hl 6 rfl) ?_
    refine lv_icmp_ne (tgt := 319) hx hb dL_acts_312 (by decide) (fun c_2 => ?_) (fun c_2 => ?_)
    · refine lv_iconst (v := 0) hx hb dL_acts_319 (by decide) ?_
      have e9 : (zA_person Ω y2 k i who v) = ((0 : Int32), (zX7_person Ω ((y2 &&& (y2 >>> (6 &&& 31))) &&& 31)).2) := by unfold zA_person; rw [if_neg c_1, if_neg c_2]
      have hz := rd3 (act_person hI0 hk hi hw hv y2) e9
      exact W.zret (v := 0) hx hb hr (by decide) (fun t ht hW => ⟨⟨0, (zX7_person Ω ((y2 &&& (y2 >>> (6 &&& 31))) &&& 31)).2, rfl, hz, by dsimp only; rw [ht]; exact hY⟩, hS.F ht⟩) hS.2.2 dL_acts_320
    · refine lv_iconst (v := 1) hx hb dL_acts_315 (by decide) ?_
      refine lv_goto (tgt := 320) hx hb dL_acts_316 (by decide) ?_
      have e9 : (zA_person Ω y2 k i who v) = ((1 : Int32), (zX7_person Ω ((y2 &&& (y2 >>> (6 &&& 31))) &&& 31)).2) := by unfold zA_person; rw [if_neg c_1, if_pos c_2]
      have hz := rd3 (act_person hI0 hk hi hw hv y2) e9
      exact W.zret (v := 1) hx hb hr (by decide) (fun t ht hW => ⟨⟨1, (zX7_person Ω ((y2 &&& (y2 >>> (6 &&& 31))) &&& 31)).2, rfl, hz, by dsimp only; rw [ht]; exact hY⟩, hS.F ht⟩) hS.2.2 dL_acts_320
  · refine lv_bipush (v := (-3)) hx hb dL_acts_305 (by decide) ?_
    refine lv_goto (tgt := 312) hx hb dL_acts_307 (by decide) ?_
    refine lv_icmp_ne (tgt := 319) hx hb dL_acts_312 (by decide) (fun c_3 => ?_) (fun c_3 => ?_)
    · refine lv_iconst (v := 0) hx hb dL_acts_319 (by decide) ?_
      have e9 : (zA_person Ω y2 k i who v) = ((0 : Int32), (zX7_person Ω ((y2 &&& (y2 >>> (6 &&& 31))) &&& 31)).2) := by unfold zA_person; rw [if_pos c_1, if_neg c_3]
      have hz := rd3 (act_person hI0 hk hi hw hv y2) e9
      exact W.zret (v := 0) hx hb hr (by decide) (fun t ht hW => ⟨⟨0, (zX7_person Ω ((y2 &&& (y2 >>> (6 &&& 31))) &&& 31)).2, rfl, hz, by dsimp only; rw [ht]; exact hY⟩, hS.F ht⟩) hS.2.2 dL_acts_320
    · refine lv_iconst (v := 1) hx hb dL_acts_315 (by decide) ?_
      refine lv_goto (tgt := 320) hx hb dL_acts_316 (by decide) ?_
      have e9 : (zA_person Ω y2 k i who v) = ((1 : Int32), (zX7_person Ω ((y2 &&& (y2 >>> (6 &&& 31))) &&& 31)).2) := by unfold zA_person; rw [if_pos c_1, if_pos c_3]
      have hz := rd3 (act_person hI0 hk hi hw hv y2) e9
      exact W.zret (v := 1) hx hb hr (by decide) (fun t ht hW => ⟨⟨1, (zX7_person Ω ((y2 &&& (y2 >>> (6 &&& 31))) &&& 31)).2, rfl, hz, by dsimp only; rw [ht]; exact hY⟩, hS.F ht⟩) hS.2.2 dL_acts_320
set_option maxHeartbeats 4000000 in
set_option maxRecDepth 100000 in
theorem ba_volunteer {p : Program} {l : Launch} {e : Env} {s : State} {m : MethodId} {args : Array Value} {below : List Frame} {meth : Method} {c : Code} {D : va_G} {y : Y3} {n0 tM tF : Nat} {ob : Nat → Nat} {AD : Nat → Nat → Nat} {Ω : Og} {y2 x2 how k i who v : Int32} (hx : p.tables.exec = Jvm.exec) (hb : c.code = cL_acts) (hml : c.maxLocals = 16) (hown : s.vm.findClass RL = some m.cls) (hts : ∀ w ∈ wsL_acts, w.before args s = true) (hr : meth.sig.returnType = some .boolean) (hlocks : meth.locks = false) (hC : CK D y s) (hJ : sysJ ob AD) (hI : InvO Ω) (hZs : STM n0 tM tF s s.heap) (hn0 : ∀ q, sysA ob AD q → n0 ≤ q) (hk : KB Ω 0 k) (hi : KB Ω 1 i) (hw : KB Ω 2 who) (hv : KB Ω 3 v) {H : Heap} {locs : List Loc} (hY : SysH D y ob AD Ω H) (hS : va_S (sysA ob AD) s.heap H locs) (ls : Array Slot) (hl : lv_has ls 16 [(11, .int v), (10, .int who), (9, .int i), (8, .int k), (7, .int (zX3_total (Ω 0) 3)), (6, .int (zX3_total (Ω 0) 2)), (5, .int (zX3_total (Ω 0) 1)), (4, .int (zX3_total (Ω 0) 0)), (3, .int how), (2, .int y2), (1, .int x2), (0, .ref (ob 0))]) : W p l e (headSpec wsL_acts ({ frames := 9, cells := 0, slots := 0, locals := 207 } : Room)).room s m args below meth c H locs 0 0 (MQ below (va_Qi (fun (r : Int32) (u : Og) => (r = 1 ∧ InvO u ∧ HSt Ω u)) (fun u t => SysH D y ob AD u t.heap) (sysA ob AD)) args s 0 0 (sysA ob AD)) (F0 m 326 ls []) := by
  have hF := (⟨hx, hb, hml, hown, hts⟩ : CallFix p m c cL_acts 16 s args wsL_acts RL)
  have hI0 := hI
  have hOk := hI.1
  refine lv_iload_n hx hb dL_acts_326 rfl (lv_at hl 9 rfl) ?_
  refine lv_bipush (v := 6) hx hb dL_acts_327 (by decide) ?_
  refine kL_low (x1 := y2) (x2 := 6) hF (va_cwS 2 hts gL_acts_L_low rfl rfl rfl hdL_low ⟨Nat.le_of_ble_eq_true rfl, Nat.le_of_ble_eq_true rfl⟩) hC (by decide) hl.1 (Nat.le_of_ble_eq_true rfl) dL_acts_329 ⟨Nat.zero_le _, Nat.zero_le _⟩ ?_
  refine lv_istore (lv' := [(12, .int (zL_low y2 6)), (11, .int v), (10, .int who), (9, .int i), (8, .int k), (7, .int (zX3_total (Ω 0) 3)), (6, .int (zX3_total (Ω 0) 2)), (5, .int (zX3_total (Ω 0) 1)), (4, .int (zX3_total (Ω 0) 0)), (3, .int how), (2, .int y2), (1, .int x2), (0, .ref (ob 0))]) hx hb dL_acts_332 hl (by decide) rfl (fun ls hl => ?_)
  refine lv_aload_n hx hb dL_acts_334 rfl (lv_at hl 12 rfl) ?_
  refine lv_iload hx hb dL_acts_335 (lv_at hl 4 rfl) ?_
  refine lv_iload hx hb dL_acts_337 (lv_at hl 0 rfl) ?_
  refine kX7_volunteer hF (cwV 2 hts gL_acts_X7_volunteer rfl rfl rfl hdX7_volunteer ⟨Nat.le_of_ble_eq_true rfl, Nat.le_of_ble_eq_true rfl⟩) hC hY hJ hOk hS (fun _ h => h) hl.1 (Nat.le_of_ble_eq_true rfl) dL_acts_339 ⟨Nat.zero_le _, Nat.zero_le _⟩ (fun H locs hY _ _ hS => ?_)
  have hI : InvO ((zX7_volunteer Ω k (zL_low y2 6)).2) := (pub_volunteer hI k (zL_low y2 6)).2.1
  have hOk := hI.1
  refine lv_iload hx hb dL_acts_342 (lv_at hl 4 rfl) ?_
  refine lv_iload hx hb dL_acts_344 (lv_at hl 8 rfl) ?_
  refine lv_icmp_eq (tgt := 360) hx hb dL_acts_346 (by decide) (fun c_1 => ?_) (fun c_1 => ?_)
  · refine lv_iconst (v := (-1)) hx hb dL_acts_360 (by decide) ?_
    refine lv_goto (tgt := 377) hx hb dL_acts_361 (by decide) ?_
    refine lv_icmp_ne (tgt := 384) hx hb dL_acts_377 (by decide) (fun c_2 => ?_) (fun c_2 => ?_)
    · refine lv_iconst (v := 0) hx hb dL_acts_384 (by decide) ?_
      have e9 : (zA_volunteer Ω y2 k i who v) = ((0 : Int32), (zX7_volunteer Ω k (zL_low y2 6)).2) := by unfold zA_volunteer; rw [if_pos c_1, if_neg c_2]
      have hz := rd3 (act_volunteer hI0 hk hi hw hv y2) e9
      exact W.zret (v := 0) hx hb hr (by decide) (fun t ht hW => ⟨⟨0, (zX7_volunteer Ω k (zL_low y2 6)).2, rfl, hz, by dsimp only; rw [ht]; exact hY⟩, hS.F ht⟩) hS.2.2 dL_acts_385
    · refine lv_iconst (v := 1) hx hb dL_acts_380 (by decide) ?_
      refine lv_goto (tgt := 385) hx hb dL_acts_381 (by decide) ?_
      have e9 : (zA_volunteer Ω y2 k i who v) = ((1 : Int32), (zX7_volunteer Ω k (zL_low y2 6)).2) := by unfold zA_volunteer; rw [if_pos c_1, if_pos c_2]
      have hz := rd3 (act_volunteer hI0 hk hi hw hv y2) e9
      exact W.zret (v := 1) hx hb hr (by decide) (fun t ht hW => ⟨⟨1, (zX7_volunteer Ω k (zL_low y2 6)).2, rfl, hz, by dsimp only; rw [ht]; exact hY⟩, hS.F ht⟩) hS.2.2 dL_acts_385
  · refine lv_iload hx hb dL_acts_349 (lv_at hl 0 rfl) ?_
    refine lv_if_eq (tgt := 360) hx hb dL_acts_351 (by decide) (fun c_3 => ?_) (fun c_3 => ?_)
    · refine lv_iconst (v := (-1)) hx hb dL_acts_360 (by decide) ?_
      refine lv_goto (tgt := 377) hx hb dL_acts_361 (by decide) ?_
      refine lv_icmp_ne (tgt := 384) hx hb dL_acts_377 (by decide) (fun c_4 => ?_) (fun c_4 => ?_)
      · refine lv_iconst (v := 0) hx hb dL_acts_384 (by decide) ?_
        have e9 : (zA_volunteer Ω y2 k i who v) = ((0 : Int32), (zX7_volunteer Ω k (zL_low y2 6)).2) := by unfold zA_volunteer; rw [if_neg c_1, if_pos c_3, if_neg c_4]
        have hz := rd3 (act_volunteer hI0 hk hi hw hv y2) e9
        exact W.zret (v := 0) hx hb hr (by decide) (fun t ht hW => ⟨⟨0, (zX7_volunteer Ω k (zL_low y2 6)).2, rfl, hz, by dsimp only; rw [ht]; exact hY⟩, hS.F ht⟩) hS.2.2 dL_acts_385
      · refine lv_iconst (v := 1) hx hb dL_acts_380 (by decide) ?_
        refine lv_goto (tgt := 385) hx hb dL_acts_381 (by decide) ?_
        have e9 : (zA_volunteer Ω y2 k i who v) = ((1 : Int32), (zX7_volunteer Ω k (zL_low y2 6)).2) := by unfold zA_volunteer; rw [if_neg c_1, if_pos c_3, if_pos c_4]
        have hz := rd3 (act_volunteer hI0 hk hi hw hv y2) e9
        exact W.zret (v := 1) hx hb hr (by decide) (fun t ht hW => ⟨⟨1, (zX7_volunteer Ω k (zL_low y2 6)).2, rfl, hz, by dsimp only; rw [ht]; exact hY⟩, hS.F ht⟩) hS.2.2 dL_acts_385
    · refine lv_iload hx hb dL_acts_354 (lv_at hl 0 rfl) ?_
      refine lv_iconst (v := 5) hx hb dL_acts_356 (by decide) ?_
      refine lv_icmp_ne (tgt := 364) hx hb dL_acts_357 (by decide) (fun c_5 => ?_) (fun c_5 => ?_)
      · refine lv_iload hx hb dL_acts_364 (lv_at hl 5 rfl) ?_
        refine lv_iconst (v := 3) hx hb dL_acts_366 (by decide) ?_
        refine lv_icmp_ne (tgt := 375) hx hb dL_acts_367 (by decide) (fun c_6 => ?_) (fun c_6 => ?_)
        · refine lv_iload hx hb dL_acts_375 (lv_at hl 5 rfl) ?_
          refine lv_icmp_ne (tgt := 384) hx hb dL_acts_377 (by decide) (fun c_7 => ?_) (fun c_7 => ?_)
          · refine lv_iconst (v := 0) hx hb dL_acts_384 (by decide) ?_
            have e9 : (zA_volunteer Ω y2 k i who v) = ((0 : Int32), (zX7_volunteer Ω k (zL_low y2 6)).2) := by unfold zA_volunteer; rw [if_neg c_1, if_neg c_3, if_neg c_5, if_neg c_6, if_neg c_7]
            have hz := rd3 (act_volunteer hI0 hk hi hw hv y2) e9
            exact W.zret (v := 0) hx hb hr (by decide) (fun t ht hW => ⟨⟨0, (zX7_volunteer Ω k (zL_low y2 6)).2, rfl, hz, by dsimp only; rw [ht]; exact hY⟩, hS.F ht⟩) hS.2.2 dL_acts_385
          · refine lv_iconst (v := 1) hx hb dL_acts_380 (by decide) ?_
            refine lv_goto (tgt := 385) hx hb dL_acts_381 (by decide) ?_
            have e9 : (zA_volunteer Ω y2 k i who v) = ((1 : Int32), (zX7_volunteer Ω k (zL_low y2 6)).2) := by unfold zA_volunteer; rw [if_neg c_1, if_neg c_3, if_neg c_5, if_neg c_6, if_pos c_7]
            have hz := rd3 (act_volunteer hI0 hk hi hw hv y2) e9
            exact W.zret (v := 1) hx hb hr (by decide) (fun t ht hW => ⟨⟨1, (zX7_volunteer Ω k (zL_low y2 6)).2, rfl, hz, by dsimp only; rw [ht]; exact hY⟩, hS.F ht⟩) hS.2.2 dL_acts_385
        · refine lv_bipush (v := (-3)) hx hb dL_acts_370 (by decide) ?_
          refine lv_goto (tgt := 377) hx hb dL_acts_372 (by decide) ?_
          refine lv_icmp_ne (tgt := 384) hx hb dL_acts_377 (by decide) (fun c_8 => ?_) (fun c_8 => ?_)
          · refine lv_iconst (v := 0) hx hb dL_acts_384 (by decide) ?_
            have e9 : (zA_volunteer Ω y2 k i who v) = ((0 : Int32), (zX7_volunteer Ω k (zL_low y2 6)).2) := by unfold zA_volunteer; rw [if_neg c_1, if_neg c_3, if_neg c_5, if_pos c_6, if_neg c_8]
            have hz := rd3 (act_volunteer hI0 hk hi hw hv y2) e9
            exact W.zret (v := 0) hx hb hr (by decide) (fun t ht hW => ⟨⟨0, (zX7_volunteer Ω k (zL_low y2 6)).2, rfl, hz, by dsimp only; rw [ht]; exact hY⟩, hS.F ht⟩) hS.2.2 dL_acts_385
          · refine lv_iconst (v := 1) hx hb dL_acts_380 (by decide) ?_
            refine lv_goto (tgt := 385) hx hb dL_acts_381 (by decide) ?_
            have e9 : (zA_volunteer Ω y2 k i who v) = ((1 : Int32), (zX7_volunteer Ω k (zL_low y2 6)).2) := by unfold zA_volunteer; rw [if_neg c_1, if_neg c_3, if_neg c_5, if_pos c_6, if_pos c_8]
            have hz := rd3 (act_volunteer hI0 hk hi hw hv y2) e9
            exact W.zret (v := 1) hx hb hr (by decide) (fun t ht hW => ⟨⟨1, (zX7_volunteer Ω k (zL_low y2 6)).2, rfl, hz, by dsimp only; rw [ht]; exact hY⟩, hS.F ht⟩) hS.2.2 dL_acts_385
      · refine lv_iconst (v := (-1)) hx hb dL_acts_360 (by decide) ?_
        refine lv_goto (tgt := 377) hx hb dL_acts_361 (by decide) ?_
        refine lv_icmp_ne (tgt := 384) hx hb dL_acts_377 (by decide) (fun c_9 => ?_) (fun c_9 => ?_)
        · refine lv_iconst (v := 0) hx hb dL_acts_384 (by decide) ?_
          have e9 : (zA_volunteer Ω y2 k i who v) = ((0 : Int32), (zX7_volunteer Ω k (zL_low y2 6)).2) := by unfold zA_volunteer; rw [if_neg c_1, if_neg c_3, if_pos c_5, if_neg c_9]
          have hz := rd3 (act_volunteer hI0 hk hi hw hv y2) e9
          exact W.zret (v := 0) hx hb hr (by decide) (fun t ht hW => ⟨⟨0, (zX7_volunteer Ω k (zL_low y2 6)).2, rfl, hz, by dsimp only; rw [ht]; exact hY⟩, hS.F ht⟩) hS.2.2 dL_acts_385
        · refine lv_iconst (v := 1) hx hb dL_acts_380 (by decide) ?_
          refine lv_goto (tgt := 385) hx hb dL_acts_381 (by decide) ?_
          have e9 : (zA_volunteer Ω y2 k i who v) = ((1 : Int32), (zX7_volunteer Ω k (zL_low y2 6)).2) := by unfold zA_volunteer; rw [if_neg c_1, if_neg c_3, if_pos c_5, if_pos c_9]
          have hz := rd3 (act_volunteer hI0 hk hi hw hv y2) e9
          exact W.zret (v := 1) hx hb hr (by decide) (fun t ht hW => ⟨⟨1, (zX7_volunteer Ω k (zL_low y2 6)).2, rfl, hz, by dsimp only; rw [ht]; exact hY⟩, hS.F ht⟩) hS.2.2 dL_acts_385
set_option maxHeartbeats 4000000 in
set_option maxRecDepth 100000 in
theorem ba_reserve {p : Program} {l : Launch} {e : Env} {s : State} {m : MethodId} {args : Array Value} {below : List Frame} {meth : Method} {c : Code} {D : va_G} {y : Y3} {n0 tM tF : Nat} {ob : Nat → Nat} {AD : Nat → Nat → Nat} {Ω : Og} {y2 x2 how k i who v : Int32} (hx : p.tables.exec = Jvm.exec) (hb : c.code = cL_acts) (hml : c.maxLocals = 16) (hown : s.vm.findClass RL = some m.cls) (hts : ∀ w ∈ wsL_acts, w.before args s = true) (hr : meth.sig.returnType = some .boolean) (hlocks : meth.locks = false) (hC : CK D y s) (hJ : sysJ ob AD) (hI : InvO Ω) (hZs : STM n0 tM tF s s.heap) (hn0 : ∀ q, sysA ob AD q → n0 ≤ q) (hk : KB Ω 0 k) (hi : KB Ω 1 i) (hw : KB Ω 2 who) (hv : KB Ω 3 v) {H : Heap} {locs : List Loc} (hY : SysH D y ob AD Ω H) (hS : va_S (sysA ob AD) s.heap H locs) (ls : Array Slot) (hl : lv_has ls 16 [(11, .int v), (10, .int who), (9, .int i), (8, .int k), (7, .int (zX3_total (Ω 0) 3)), (6, .int (zX3_total (Ω 0) 2)), (5, .int (zX3_total (Ω 0) 1)), (4, .int (zX3_total (Ω 0) 0)), (3, .int how), (2, .int y2), (1, .int x2), (0, .ref (ob 0))]) : W p l e (headSpec wsL_acts ({ frames := 9, cells := 0, slots := 0, locals := 207 } : Room)).room s m args below meth c H locs 0 0 (MQ below (va_Qi (fun (r : Int32) (u : Og) => (r = 1 ∧ InvO u ∧ HSt Ω u)) (fun u t => SysH D y ob AD u t.heap) (sysA ob AD)) args s 0 0 (sysA ob AD)) (F0 m 392 ls []) := by
  have hF := (⟨hx, hb, hml, hown, hts⟩ : CallFix p m c cL_acts 16 s args wsL_acts RL)
  have hI0 := hI
  have hOk := hI.1
  refine lv_iload hx hb dL_acts_392 (lv_at hl 1 rfl) ?_
  refine lv_iload hx hb dL_acts_394 (lv_at hl 5 rfl) ?_
  refine lv_icmp_ge (tgt := 410) hx hb dL_acts_396 (by decide) (fun c_1 => ?_) (fun c_1 => ?_)
  · refine lv_iconst (v := 0) hx hb dL_acts_410 (by decide) ?_
    refine lv_istore (lv' := [(12, .int 0), (11, .int v), (10, .int who), (9, .int i), (8, .int k), (7, .int (zX3_total (Ω 0) 3)), (6, .int (zX3_total (Ω 0) 2)), (5, .int (zX3_total (Ω 0) 1)), (4, .int (zX3_total (Ω 0) 0)), (3, .int how), (2, .int y2), (1, .int x2), (0, .ref (ob 0))]) hx hb dL_acts_411 hl (by decide) rfl (fun ls hl => ?_)
    refine lv_iload hx hb dL_acts_413 (lv_at hl 0 rfl) ?_
    refine lv_if_eq (tgt := 472) hx hb dL_acts_415 (by decide) (fun _ => ?_) (fun c_2 => absurd (by decide) c_2)
    refine lv_iconst (v := 0) hx hb dL_acts_472 (by decide) ?_
    refine lv_istore (lv' := [(13, .int 0), (12, .int 0), (11, .int v), (10, .int who), (9, .int i), (8, .int k), (7, .int (zX3_total (Ω 0) 3)), (6, .int (zX3_total (Ω 0) 2)), (5, .int (zX3_total (Ω 0) 1)), (4, .int (zX3_total (Ω 0) 0)), (3, .int how), (2, .int y2), (1, .int x2), (0, .ref (ob 0))]) hx hb dL_acts_473 hl (by decide) rfl (fun ls hl => ?_)
    refine lv_aload_n hx hb dL_acts_475 rfl (lv_at hl 13 rfl) ?_
    refine lv_iload hx hb dL_acts_476 (lv_at hl 3 rfl) ?_
    refine lv_iload hx hb dL_acts_478 (lv_at hl 4 rfl) ?_
    refine kX7_reserve hF (cwV 2 hts gL_acts_X7_reserve rfl rfl rfl hdX7_reserve ⟨Nat.le_of_ble_eq_true rfl, Nat.le_of_ble_eq_true rfl⟩) hC hY hJ hOk hS (fun _ h => h) hl.1 (Nat.le_of_ble_eq_true rfl) dL_acts_480 ⟨Nat.zero_le _, Nat.zero_le _⟩ (fun H locs hY _ _ hS => ?_)
    have hI : InvO ((zX7_reserve Ω who i).2) := (pub_reserve hI who i).2.1
    have hOk := hI.1
    refine lv_istore (lv' := [(14, .int ((zX7_reserve Ω who i).1)), (13, .int 0), (12, .int 0), (11, .int v), (10, .int who), (9, .int i), (8, .int k), (7, .int (zX3_total (Ω 0) 3)), (6, .int (zX3_total (Ω 0) 2)), (5, .int (zX3_total (Ω 0) 1)), (4, .int (zX3_total (Ω 0) 0)), (3, .int how), (2, .int y2), (1, .int x2), (0, .ref (ob 0))]) hx hb dL_acts_483 hl (by decide) rfl (fun ls hl => ?_)
    refine lv_iload hx hb dL_acts_485 (lv_at hl 2 rfl) ?_
    refine lv_if_ne (tgt := 504) hx hb dL_acts_487 (by decide) (fun c_3 => absurd c_3 (by decide)) (fun _ => ?_)
    refine lv_iload hx hb dL_acts_490 (lv_at hl 0 rfl) ?_
    refine lv_iconst (v := (-1)) hx hb dL_acts_492 (by decide) ?_
    refine lv_icmp_ne (tgt := 500) hx hb dL_acts_493 (by decide) (fun c_4 => ?_) (fun c_4 => ?_)
    · refine lv_iconst (v := 0) hx hb dL_acts_500 (by decide) ?_
      refine lv_goto (tgt := 561) hx hb dL_acts_501 (by decide) ?_
      have e9 : (zA_reserve Ω y2 k i who v) = ((0 : Int32), (zX7_reserve Ω who i).2) := by unfold zA_reserve; rw [if_pos c_1, if_neg c_4]
      have hz := rd3 (act_reserve hI0 hk hi hw hv y2) e9
      exact W.zret (v := 0) hx hb hr (by decide) (fun t ht hW => ⟨⟨0, (zX7_reserve Ω who i).2, rfl, hz, by dsimp only; rw [ht]; exact hY⟩, hS.F ht⟩) hS.2.2 dL_acts_561
    · refine lv_iconst (v := 1) hx hb dL_acts_496 (by decide) ?_
      refine lv_goto (tgt := 561) hx hb dL_acts_497 (by decide) ?_
      have e9 : (zA_reserve Ω y2 k i who v) = ((1 : Int32), (zX7_reserve Ω who i).2) := by unfold zA_reserve; rw [if_pos c_1, if_pos c_4]
      have hz := rd3 (act_reserve hI0 hk hi hw hv y2) e9
      exact W.zret (v := 1) hx hb hr (by decide) (fun t ht hW => ⟨⟨1, (zX7_reserve Ω who i).2, rfl, hz, by dsimp only; rw [ht]; exact hY⟩, hS.F ht⟩) hS.2.2 dL_acts_561
  · refine lv_iload hx hb dL_acts_399 (lv_at hl 2 rfl) ?_
    refine lv_iload hx hb dL_acts_401 (lv_at hl 6 rfl) ?_
    refine lv_icmp_ge (tgt := 410) hx hb dL_acts_403 (by decide) (fun c_5 => ?_) (fun c_5 => ?_)
    · refine lv_iconst (v := 0) hx hb dL_acts_410 (by decide) ?_
      refine lv_istore (lv' := [(12, .int 0), (11, .int v), (10, .int who), (9, .int i), (8, .int k), (7, .int (zX3_total (Ω 0) 3)), (6, .int (zX3_total (Ω 0) 2)), (5, .int (zX3_total (Ω 0) 1)), (4, .int (zX3_total (Ω 0) 0)), (3, .int how), (2, .int y2), (1, .int x2), (0, .ref (ob 0))]) hx hb dL_acts_411 hl (by decide) rfl (fun ls hl => ?_)
      refine lv_iload hx hb dL_acts_413 (lv_at hl 0 rfl) ?_
      refine lv_if_eq (tgt := 472) hx hb dL_acts_415 (by decide) (fun _ => ?_) (fun c_6 => absurd (by decide) c_6)
      refine lv_iconst (v := 0) hx hb dL_acts_472 (by decide) ?_
      refine lv_istore (lv' := [(13, .int 0), (12, .int 0), (11, .int v), (10, .int who), (9, .int i), (8, .int k), (7, .int (zX3_total (Ω 0) 3)), (6, .int (zX3_total (Ω 0) 2)), (5, .int (zX3_total (Ω 0) 1)), (4, .int (zX3_total (Ω 0) 0)), (3, .int how), (2, .int y2), (1, .int x2), (0, .ref (ob 0))]) hx hb dL_acts_473 hl (by decide) rfl (fun ls hl => ?_)
      refine lv_aload_n hx hb dL_acts_475 rfl (lv_at hl 13 rfl) ?_
      refine lv_iload hx hb dL_acts_476 (lv_at hl 3 rfl) ?_
      refine lv_iload hx hb dL_acts_478 (lv_at hl 4 rfl) ?_
      refine kX7_reserve hF (cwV 2 hts gL_acts_X7_reserve rfl rfl rfl hdX7_reserve ⟨Nat.le_of_ble_eq_true rfl, Nat.le_of_ble_eq_true rfl⟩) hC hY hJ hOk hS (fun _ h => h) hl.1 (Nat.le_of_ble_eq_true rfl) dL_acts_480 ⟨Nat.zero_le _, Nat.zero_le _⟩ (fun H locs hY _ _ hS => ?_)
      have hI : InvO ((zX7_reserve Ω who i).2) := (pub_reserve hI who i).2.1
      have hOk := hI.1
      refine lv_istore (lv' := [(14, .int ((zX7_reserve Ω who i).1)), (13, .int 0), (12, .int 0), (11, .int v), (10, .int who), (9, .int i), (8, .int k), (7, .int (zX3_total (Ω 0) 3)), (6, .int (zX3_total (Ω 0) 2)), (5, .int (zX3_total (Ω 0) 1)), (4, .int (zX3_total (Ω 0) 0)), (3, .int how), (2, .int y2), (1, .int x2), (0, .ref (ob 0))]) hx hb dL_acts_483 hl (by decide) rfl (fun ls hl => ?_)
      refine lv_iload hx hb dL_acts_485 (lv_at hl 2 rfl) ?_
      refine lv_if_ne (tgt := 504) hx hb dL_acts_487 (by decide) (fun c_7 => absurd c_7 (by decide)) (fun _ => ?_)
      refine lv_iload hx hb dL_acts_490 (lv_at hl 0 rfl) ?_
      refine lv_iconst (v := (-1)) hx hb dL_acts_492 (by decide) ?_
      refine lv_icmp_ne (tgt := 500) hx hb dL_acts_493 (by decide) (fun c_8 => ?_) (fun c_8 => ?_)
      · refine lv_iconst (v := 0) hx hb dL_acts_500 (by decide) ?_
        refine lv_goto (tgt := 561) hx hb dL_acts_501 (by decide) ?_
        have e9 : (zA_reserve Ω y2 k i who v) = ((0 : Int32), (zX7_reserve Ω who i).2) := by unfold zA_reserve; rw [if_neg c_1, if_pos c_5, if_neg c_8]
        have hz := rd3 (act_reserve hI0 hk hi hw hv y2) e9
        exact W.zret (v := 0) hx hb hr (by decide) (fun t ht hW => ⟨⟨0, (zX7_reserve Ω who i).2, rfl, hz, by dsimp only; rw [ht]; exact hY⟩, hS.F ht⟩) hS.2.2 dL_acts_561
      · refine lv_iconst (v := 1) hx hb dL_acts_496 (by decide) ?_
        refine lv_goto (tgt := 561) hx hb dL_acts_497 (by decide) ?_
        have e9 : (zA_reserve Ω y2 k i who v) = ((1 : Int32), (zX7_reserve Ω who i).2) := by unfold zA_reserve; rw [if_neg c_1, if_pos c_5, if_pos c_8]
        have hz := rd3 (act_reserve hI0 hk hi hw hv y2) e9
        exact W.zret (v := 1) hx hb hr (by decide) (fun t ht hW => ⟨⟨1, (zX7_reserve Ω who i).2, rfl, hz, by dsimp only; rw [ht]; exact hY⟩, hS.F ht⟩) hS.2.2 dL_acts_561
    · refine lv_iconst (v := 1) hx hb dL_acts_406 (by decide) ?_
      refine lv_goto (tgt := 411) hx hb dL_acts_407 (by decide) ?_
      refine lv_istore (lv' := [(12, .int 1), (11, .int v), (10, .int who), (9, .int i), (8, .int k), (7, .int (zX3_total (Ω 0) 3)), (6, .int (zX3_total (Ω 0) 2)), (5, .int (zX3_total (Ω 0) 1)), (4, .int (zX3_total (Ω 0) 0)), (3, .int how), (2, .int y2), (1, .int x2), (0, .ref (ob 0))]) hx hb dL_acts_411 hl (by decide) rfl (fun ls hl => ?_)
      refine lv_iload hx hb dL_acts_413 (lv_at hl 0 rfl) ?_
      refine lv_if_eq (tgt := 472) hx hb dL_acts_415 (by decide) (fun c_9 => absurd c_9 (by decide)) (fun _ => ?_)
      refine lv_aload_n hx hb dL_acts_418 rfl (lv_at hl 12 rfl) ?_
      refine lv_iload hx hb dL_acts_419 (lv_at hl 3 rfl) ?_
      refine lv_iconst (v := 0) hx hb dL_acts_421 (by decide) ?_
      refine rX7_mealOf hF (cwV 2 hts gL_acts_X7_mealOf rfl rfl rfl hdX7_mealOf ⟨Nat.le_of_ble_eq_true rfl, Nat.le_of_ble_eq_true rfl⟩) hC hY hJ hOk hS (fun _ h => h) hl.1 (Nat.le_of_ble_eq_true rfl) dL_acts_422 ⟨Nat.zero_le _, Nat.zero_le _⟩ (fun H locs hY _ _ hS => ?_)
      refine lv_if_ne (tgt := 472) hx hb dL_acts_425 (by decide) (fun c_10 => ?_) (fun c_10 => ?_)
      · refine lv_iconst (v := 0) hx hb dL_acts_472 (by decide) ?_
        refine lv_istore (lv' := [(13, .int 0), (12, .int 1), (11, .int v), (10, .int who), (9, .int i), (8, .int k), (7, .int (zX3_total (Ω 0) 3)), (6, .int (zX3_total (Ω 0) 2)), (5, .int (zX3_total (Ω 0) 1)), (4, .int (zX3_total (Ω 0) 0)), (3, .int how), (2, .int y2), (1, .int x2), (0, .ref (ob 0))]) hx hb dL_acts_473 hl (by decide) rfl (fun ls hl => ?_)
        refine lv_aload_n hx hb dL_acts_475 rfl (lv_at hl 13 rfl) ?_
        refine lv_iload hx hb dL_acts_476 (lv_at hl 3 rfl) ?_
        refine lv_iload hx hb dL_acts_478 (lv_at hl 4 rfl) ?_
        refine kX7_reserve hF (cwV 2 hts gL_acts_X7_reserve rfl rfl rfl hdX7_reserve ⟨Nat.le_of_ble_eq_true rfl, Nat.le_of_ble_eq_true rfl⟩) hC hY hJ hOk hS (fun _ h => h) hl.1 (Nat.le_of_ble_eq_true rfl) dL_acts_480 ⟨Nat.zero_le _, Nat.zero_le _⟩ (fun H locs hY _ _ hS => ?_)
        have hI : InvO ((zX7_reserve Ω who i).2) := (pub_reserve hI who i).2.1
        have hOk := hI.1
        refine lv_istore (lv' := [(14, .int ((zX7_reserve Ω who i).1)), (13, .int 0), (12, .int 1), (11, .int v), (10, .int who), (9, .int i), (8, .int k), (7, .int (zX3_total (Ω 0) 3)), (6, .int (zX3_total (Ω 0) 2)), (5, .int (zX3_total (Ω 0) 1)), (4, .int (zX3_total (Ω 0) 0)), (3, .int how), (2, .int y2), (1, .int x2), (0, .ref (ob 0))]) hx hb dL_acts_483 hl (by decide) rfl (fun ls hl => ?_)
        refine lv_iload hx hb dL_acts_485 (lv_at hl 2 rfl) ?_
        refine lv_if_ne (tgt := 504) hx hb dL_acts_487 (by decide) (fun _ => ?_) (fun c_11 => absurd c_11 (by decide))
        refine lv_iload hx hb dL_acts_504 (lv_at hl 1 rfl) ?_
        refine lv_if_ne (tgt := 524) hx hb dL_acts_506 (by decide) (fun c_12 => absurd c_12 (by decide)) (fun _ => ?_)
        refine lv_iload hx hb dL_acts_509 (lv_at hl 0 rfl) ?_
        refine lv_bipush (v := (-2)) hx hb dL_acts_511 (by decide) ?_
        refine lv_icmp_ne (tgt := 520) hx hb dL_acts_513 (by decide) (fun c_13 => ?_) (fun c_13 => ?_)
        · refine lv_iconst (v := 0) hx hb dL_acts_520 (by decide) ?_
          refine lv_goto (tgt := 561) hx hb dL_acts_521 (by decide) ?_
          have e9 : (zA_reserve Ω y2 k i who v) = ((0 : Int32), (zX7_reserve Ω who i).2) := by unfold zA_reserve; rw [if_neg c_1, if_neg c_5, if_neg c_10, if_neg c_13]
          have hz := rd3 (act_reserve hI0 hk hi hw hv y2) e9
          exact W.zret (v := 0) hx hb hr (by decide) (fun t ht hW => ⟨⟨0, (zX7_reserve Ω who i).2, rfl, hz, by dsimp only; rw [ht]; exact hY⟩, hS.F ht⟩) hS.2.2 dL_acts_561
        · refine lv_iconst (v := 1) hx hb dL_acts_516 (by decide) ?_
          refine lv_goto (tgt := 561) hx hb dL_acts_517 (by decide) ?_
          have e9 : (zA_reserve Ω y2 k i who v) = ((1 : Int32), (zX7_reserve Ω who i).2) := by unfold zA_reserve; rw [if_neg c_1, if_neg c_5, if_neg c_10, if_pos c_13]
          have hz := rd3 (act_reserve hI0 hk hi hw hv y2) e9
          exact W.zret (v := 1) hx hb hr (by decide) (fun t ht hW => ⟨⟨1, (zX7_reserve Ω who i).2, rfl, hz, by dsimp only; rw [ht]; exact hY⟩, hS.F ht⟩) hS.2.2 dL_acts_561
      · refine lv_aload_n hx hb dL_acts_428 rfl (lv_at hl 12 rfl) ?_
        refine lv_iload hx hb dL_acts_429 (lv_at hl 2 rfl) ?_
        refine lv_iconst (v := 2) hx hb dL_acts_431 (by decide) ?_
        refine rX7_personOf hF (cwV 2 hts gL_acts_X7_personOf rfl rfl rfl hdX7_personOf ⟨Nat.le_of_ble_eq_true rfl, Nat.le_of_ble_eq_true rfl⟩) hC hY hJ hOk hS (fun _ h => h) hl.1 (Nat.le_of_ble_eq_true rfl) dL_acts_432 ⟨Nat.zero_le _, Nat.zero_le _⟩ (fun H locs hY _ _ hS => ?_)
        refine lv_if_ne (tgt := 472) hx hb dL_acts_435 (by decide) (fun c_14 => ?_) (fun c_14 => ?_)
        · refine lv_iconst (v := 0) hx hb dL_acts_472 (by decide) ?_
          refine lv_istore (lv' := [(13, .int 0), (12, .int 1), (11, .int v), (10, .int who), (9, .int i), (8, .int k), (7, .int (zX3_total (Ω 0) 3)), (6, .int (zX3_total (Ω 0) 2)), (5, .int (zX3_total (Ω 0) 1)), (4, .int (zX3_total (Ω 0) 0)), (3, .int how), (2, .int y2), (1, .int x2), (0, .ref (ob 0))]) hx hb dL_acts_473 hl (by decide) rfl (fun ls hl => ?_)
          refine lv_aload_n hx hb dL_acts_475 rfl (lv_at hl 13 rfl) ?_
          refine lv_iload hx hb dL_acts_476 (lv_at hl 3 rfl) ?_
          refine lv_iload hx hb dL_acts_478 (lv_at hl 4 rfl) ?_
          refine kX7_reserve hF (cwV 2 hts gL_acts_X7_reserve rfl rfl rfl hdX7_reserve ⟨Nat.le_of_ble_eq_true rfl, Nat.le_of_ble_eq_true rfl⟩) hC hY hJ hOk hS (fun _ h => h) hl.1 (Nat.le_of_ble_eq_true rfl) dL_acts_480 ⟨Nat.zero_le _, Nat.zero_le _⟩ (fun H locs hY _ _ hS => ?_)
          have hI : InvO ((zX7_reserve Ω who i).2) := (pub_reserve hI who i).2.1
          have hOk := hI.1
          refine lv_istore (lv' := [(14, .int ((zX7_reserve Ω who i).1)), (13, .int 0), (12, .int 1), (11, .int v), (10, .int who), (9, .int i), (8, .int k), (7, .int (zX3_total (Ω 0) 3)), (6, .int (zX3_total (Ω 0) 2)), (5, .int (zX3_total (Ω 0) 1)), (4, .int (zX3_total (Ω 0) 0)), (3, .int how), (2, .int y2), (1, .int x2), (0, .ref (ob 0))]) hx hb dL_acts_483 hl (by decide) rfl (fun ls hl => ?_)
          refine lv_iload hx hb dL_acts_485 (lv_at hl 2 rfl) ?_
          refine lv_if_ne (tgt := 504) hx hb dL_acts_487 (by decide) (fun _ => ?_) (fun c_15 => absurd c_15 (by decide))
          refine lv_iload hx hb dL_acts_504 (lv_at hl 1 rfl) ?_
          refine lv_if_ne (tgt := 524) hx hb dL_acts_506 (by decide) (fun c_16 => absurd c_16 (by decide)) (fun _ => ?_)
          refine lv_iload hx hb dL_acts_509 (lv_at hl 0 rfl) ?_
          refine lv_bipush (v := (-2)) hx hb dL_acts_511 (by decide) ?_
          refine lv_icmp_ne (tgt := 520) hx hb dL_acts_513 (by decide) (fun c_17 => ?_) (fun c_17 => ?_)
          · refine lv_iconst (v := 0) hx hb dL_acts_520 (by decide) ?_
            refine lv_goto (tgt := 561) hx hb dL_acts_521 (by decide) ?_
            have e9 : (zA_reserve Ω y2 k i who v) = ((0 : Int32), (zX7_reserve Ω who i).2) := by unfold zA_reserve; rw [if_neg c_1, if_neg c_5, if_pos c_10, if_neg c_14, if_neg c_17]
            have hz := rd3 (act_reserve hI0 hk hi hw hv y2) e9
            exact W.zret (v := 0) hx hb hr (by decide) (fun t ht hW => ⟨⟨0, (zX7_reserve Ω who i).2, rfl, hz, by dsimp only; rw [ht]; exact hY⟩, hS.F ht⟩) hS.2.2 dL_acts_561
          · refine lv_iconst (v := 1) hx hb dL_acts_516 (by decide) ?_
            refine lv_goto (tgt := 561) hx hb dL_acts_517 (by decide) ?_
            have e9 : (zA_reserve Ω y2 k i who v) = ((1 : Int32), (zX7_reserve Ω who i).2) := by unfold zA_reserve; rw [if_neg c_1, if_neg c_5, if_pos c_10, if_neg c_14, if_pos c_17]
            have hz := rd3 (act_reserve hI0 hk hi hw hv y2) e9
            exact W.zret (v := 1) hx hb hr (by decide) (fun t ht hW => ⟨⟨1, (zX7_reserve Ω who i).2, rfl, hz, by dsimp only; rw [ht]; exact hY⟩, hS.F ht⟩) hS.2.2 dL_acts_561
        · refine lv_aload_n hx hb dL_acts_438 rfl (lv_at hl 12 rfl) ?_
          refine lv_iload hx hb dL_acts_439 (lv_at hl 2 rfl) ?_
          refine lv_iconst (v := 3) hx hb dL_acts_441 (by decide) ?_
          refine rX7_personOf hF (cwV 2 hts gL_acts_X7_personOf rfl rfl rfl hdX7_personOf ⟨Nat.le_of_ble_eq_true rfl, Nat.le_of_ble_eq_true rfl⟩) hC hY hJ hOk hS (fun _ h => h) hl.1 (Nat.le_of_ble_eq_true rfl) dL_acts_442 ⟨Nat.zero_le _, Nat.zero_le _⟩ (fun H locs hY _ _ hS => ?_)
          refine lv_bipush (v := (-4)) hx hb dL_acts_445 (by decide) ?_
          refine lv_icmp_ne (tgt := 472) hx hb dL_acts_447 (by decide) (fun c_18 => ?_) (fun c_18 => ?_)
          · refine lv_iconst (v := 0) hx hb dL_acts_472 (by decide) ?_
            refine lv_istore (lv' := [(13, .int 0), (12, .int 1), (11, .int v), (10, .int who), (9, .int i), (8, .int k), (7, .int (zX3_total (Ω 0) 3)), (6, .int (zX3_total (Ω 0) 2)), (5, .int (zX3_total (Ω 0) 1)), (4, .int (zX3_total (Ω 0) 0)), (3, .int how), (2, .int y2), (1, .int x2), (0, .ref (ob 0))]) hx hb dL_acts_473 hl (by decide) rfl (fun ls hl => ?_)
            refine lv_aload_n hx hb dL_acts_475 rfl (lv_at hl 13 rfl) ?_
            refine lv_iload hx hb dL_acts_476 (lv_at hl 3 rfl) ?_
            refine lv_iload hx hb dL_acts_478 (lv_at hl 4 rfl) ?_
            refine kX7_reserve hF (cwV 2 hts gL_acts_X7_reserve rfl rfl rfl hdX7_reserve ⟨Nat.le_of_ble_eq_true rfl, Nat.le_of_ble_eq_true rfl⟩) hC hY hJ hOk hS (fun _ h => h) hl.1 (Nat.le_of_ble_eq_true rfl) dL_acts_480 ⟨Nat.zero_le _, Nat.zero_le _⟩ (fun H locs hY _ _ hS => ?_)
            have hI : InvO ((zX7_reserve Ω who i).2) := (pub_reserve hI who i).2.1
            have hOk := hI.1
            refine lv_istore (lv' := [(14, .int ((zX7_reserve Ω who i).1)), (13, .int 0), (12, .int 1), (11, .int v), (10, .int who), (9, .int i), (8, .int k), (7, .int (zX3_total (Ω 0) 3)), (6, .int (zX3_total (Ω 0) 2)), (5, .int (zX3_total (Ω 0) 1)), (4, .int (zX3_total (Ω 0) 0)), (3, .int how), (2, .int y2), (1, .int x2), (0, .ref (ob 0))]) hx hb dL_acts_483 hl (by decide) rfl (fun ls hl => ?_)
            refine lv_iload hx hb dL_acts_485 (lv_at hl 2 rfl) ?_
            refine lv_if_ne (tgt := 504) hx hb dL_acts_487 (by decide) (fun _ => ?_) (fun c_19 => absurd c_19 (by decide))
            refine lv_iload hx hb dL_acts_504 (lv_at hl 1 rfl) ?_
            refine lv_if_ne (tgt := 524) hx hb dL_acts_506 (by decide) (fun c_20 => absurd c_20 (by decide)) (fun _ => ?_)
            refine lv_iload hx hb dL_acts_509 (lv_at hl 0 rfl) ?_
            refine lv_bipush (v := (-2)) hx hb dL_acts_511 (by decide) ?_
            refine lv_icmp_ne (tgt := 520) hx hb dL_acts_513 (by decide) (fun c_21 => ?_) (fun c_21 => ?_)
            · refine lv_iconst (v := 0) hx hb dL_acts_520 (by decide) ?_
              refine lv_goto (tgt := 561) hx hb dL_acts_521 (by decide) ?_
              have e9 : (zA_reserve Ω y2 k i who v) = ((0 : Int32), (zX7_reserve Ω who i).2) := by unfold zA_reserve; rw [if_neg c_1, if_neg c_5, if_pos c_10, if_pos c_14, if_neg c_18, if_neg c_21]
              have hz := rd3 (act_reserve hI0 hk hi hw hv y2) e9
              exact W.zret (v := 0) hx hb hr (by decide) (fun t ht hW => ⟨⟨0, (zX7_reserve Ω who i).2, rfl, hz, by dsimp only; rw [ht]; exact hY⟩, hS.F ht⟩) hS.2.2 dL_acts_561
            · refine lv_iconst (v := 1) hx hb dL_acts_516 (by decide) ?_
              refine lv_goto (tgt := 561) hx hb dL_acts_517 (by decide) ?_
              have e9 : (zA_reserve Ω y2 k i who v) = ((1 : Int32), (zX7_reserve Ω who i).2) := by unfold zA_reserve; rw [if_neg c_1, if_neg c_5, if_pos c_10, if_pos c_14, if_neg c_18, if_pos c_21]
              have hz := rd3 (act_reserve hI0 hk hi hw hv y2) e9
              exact W.zret (v := 1) hx hb hr (by decide) (fun t ht hW => ⟨⟨1, (zX7_reserve Ω who i).2, rfl, hz, by dsimp only; rw [ht]; exact hY⟩, hS.F ht⟩) hS.2.2 dL_acts_561
          · refine lv_aload_n hx hb dL_acts_450 rfl (lv_at hl 12 rfl) ?_
            refine lv_iload hx hb dL_acts_451 (lv_at hl 3 rfl) ?_
            refine lv_iconst (v := 3) hx hb dL_acts_453 (by decide) ?_
            refine rX7_mealOf hF (cwV 2 hts gL_acts_X7_mealOf rfl rfl rfl hdX7_mealOf ⟨Nat.le_of_ble_eq_true rfl, Nat.le_of_ble_eq_true rfl⟩) hC hY hJ hOk hS (fun _ h => h) hl.1 (Nat.le_of_ble_eq_true rfl) dL_acts_454 ⟨Nat.zero_le _, Nat.zero_le _⟩ (fun H locs hY _ _ hS => ?_)
            refine lv_aload_n hx hb dL_acts_457 rfl (lv_at hl 12 rfl) ?_
            refine lv_iload hx hb dL_acts_458 (lv_at hl 2 rfl) ?_
            refine lv_iconst (v := 0) hx hb dL_acts_460 (by decide) ?_
            refine rX7_personOf hF (cwV 2 hts gL_acts_X7_personOf rfl rfl rfl hdX7_personOf ⟨Nat.le_of_ble_eq_true rfl, Nat.le_of_ble_eq_true rfl⟩) hC hY hJ hOk hS (fun _ h => h) hl.1 (Nat.le_of_ble_eq_true rfl) dL_acts_461 ⟨Nat.zero_le _, Nat.zero_le _⟩ (fun H locs hY _ _ hS => ?_)
            refine lv_iand hx hb dL_acts_464 ?_
            refine lv_if_ne (tgt := 472) hx hb dL_acts_465 (by decide) (fun c_22 => ?_) (fun c_22 => ?_)
            · refine lv_iconst (v := 0) hx hb dL_acts_472 (by decide) ?_
              refine lv_istore (lv' := [(13, .int 0), (12, .int 1), (11, .int v), (10, .int who), (9, .int i), (8, .int k), (7, .int (zX3_total (Ω 0) 3)), (6, .int (zX3_total (Ω 0) 2)), (5, .int (zX3_total (Ω 0) 1)), (4, .int (zX3_total (Ω 0) 0)), (3, .int how), (2, .int y2), (1, .int x2), (0, .ref (ob 0))]) hx hb dL_acts_473 hl (by decide) rfl (fun ls hl => ?_)
              refine lv_aload_n hx hb dL_acts_475 rfl (lv_at hl 13 rfl) ?_
              refine lv_iload hx hb dL_acts_476 (lv_at hl 3 rfl) ?_
              refine lv_iload hx hb dL_acts_478 (lv_at hl 4 rfl) ?_
              refine kX7_reserve hF (cwV 2 hts gL_acts_X7_reserve rfl rfl rfl hdX7_reserve ⟨Nat.le_of_ble_eq_true rfl, Nat.le_of_ble_eq_true rfl⟩) hC hY hJ hOk hS (fun _ h => h) hl.1 (Nat.le_of_ble_eq_true rfl) dL_acts_480 ⟨Nat.zero_le _, Nat.zero_le _⟩ (fun H locs hY _ _ hS => ?_)
              have hI : InvO ((zX7_reserve Ω who i).2) := (pub_reserve hI who i).2.1
              have hOk := hI.1
              refine lv_istore (lv' := [(14, .int ((zX7_reserve Ω who i).1)), (13, .int 0), (12, .int 1), (11, .int v), (10, .int who), (9, .int i), (8, .int k), (7, .int (zX3_total (Ω 0) 3)), (6, .int (zX3_total (Ω 0) 2)), (5, .int (zX3_total (Ω 0) 1)), (4, .int (zX3_total (Ω 0) 0)), (3, .int how), (2, .int y2), (1, .int x2), (0, .ref (ob 0))]) hx hb dL_acts_483 hl (by decide) rfl (fun ls hl => ?_)
              refine lv_iload hx hb dL_acts_485 (lv_at hl 2 rfl) ?_
              refine lv_if_ne (tgt := 504) hx hb dL_acts_487 (by decide) (fun _ => ?_) (fun c_23 => absurd c_23 (by decide))
              refine lv_iload hx hb dL_acts_504 (lv_at hl 1 rfl) ?_
              refine lv_if_ne (tgt := 524) hx hb dL_acts_506 (by decide) (fun c_24 => absurd c_24 (by decide)) (fun _ => ?_)
              refine lv_iload hx hb dL_acts_509 (lv_at hl 0 rfl) ?_
              refine lv_bipush (v := (-2)) hx hb dL_acts_511 (by decide) ?_
              refine lv_icmp_ne (tgt := 520) hx hb dL_acts_513 (by decide) (fun c_25 => ?_) (fun c_25 => ?_)
              · refine lv_iconst (v := 0) hx hb dL_acts_520 (by decide) ?_
                refine lv_goto (tgt := 561) hx hb dL_acts_521 (by decide) ?_
                have e9 : (zA_reserve Ω y2 k i who v) = ((0 : Int32), (zX7_reserve Ω who i).2) := by unfold zA_reserve; rw [if_neg c_1, if_neg c_5, if_pos c_10, if_pos c_14, if_pos c_18, if_neg c_22, if_neg c_25]
                have hz := rd3 (act_reserve hI0 hk hi hw hv y2) e9
                exact W.zret (v := 0) hx hb hr (by decide) (fun t ht hW => ⟨⟨0, (zX7_reserve Ω who i).2, rfl, hz, by dsimp only; rw [ht]; exact hY⟩, hS.F ht⟩) hS.2.2 dL_acts_561
              · refine lv_iconst (v := 1) hx hb dL_acts_516 (by decide) ?_
                refine lv_goto (tgt := 561) hx hb dL_acts_517 (by decide) ?_
                have e9 : (zA_reserve Ω y2 k i who v) = ((1 : Int32), (zX7_reserve Ω who i).2) := by unfold zA_reserve; rw [if_neg c_1, if_neg c_5, if_pos c_10, if_pos c_14, if_pos c_18, if_neg c_22, if_pos c_25]
                have hz := rd3 (act_reserve hI0 hk hi hw hv y2) e9
                exact W.zret (v := 1) hx hb hr (by decide) (fun t ht hW => ⟨⟨1, (zX7_reserve Ω who i).2, rfl, hz, by dsimp only; rw [ht]; exact hY⟩, hS.F ht⟩) hS.2.2 dL_acts_561
            · refine lv_iconst (v := 1) hx hb dL_acts_468 (by decide) ?_
              refine lv_goto (tgt := 473) hx hb dL_acts_469 (by decide) ?_
              refine lv_istore (lv' := [(13, .int 1), (12, .int 1), (11, .int v), (10, .int who), (9, .int i), (8, .int k), (7, .int (zX3_total (Ω 0) 3)), (6, .int (zX3_total (Ω 0) 2)), (5, .int (zX3_total (Ω 0) 1)), (4, .int (zX3_total (Ω 0) 0)), (3, .int how), (2, .int y2), (1, .int x2), (0, .ref (ob 0))]) hx hb dL_acts_473 hl (by decide) rfl (fun ls hl => ?_)
              refine lv_aload_n hx hb dL_acts_475 rfl (lv_at hl 13 rfl) ?_
              refine lv_iload hx hb dL_acts_476 (lv_at hl 3 rfl) ?_
              refine lv_iload hx hb dL_acts_478 (lv_at hl 4 rfl) ?_
              refine kX7_reserve hF (cwV 2 hts gL_acts_X7_reserve rfl rfl rfl hdX7_reserve ⟨Nat.le_of_ble_eq_true rfl, Nat.le_of_ble_eq_true rfl⟩) hC hY hJ hOk hS (fun _ h => h) hl.1 (Nat.le_of_ble_eq_true rfl) dL_acts_480 ⟨Nat.zero_le _, Nat.zero_le _⟩ (fun H locs hY _ _ hS => ?_)
              have hI : InvO ((zX7_reserve Ω who i).2) := (pub_reserve hI who i).2.1
              have hOk := hI.1
              refine lv_istore (lv' := [(14, .int ((zX7_reserve Ω who i).1)), (13, .int 1), (12, .int 1), (11, .int v), (10, .int who), (9, .int i), (8, .int k), (7, .int (zX3_total (Ω 0) 3)), (6, .int (zX3_total (Ω 0) 2)), (5, .int (zX3_total (Ω 0) 1)), (4, .int (zX3_total (Ω 0) 0)), (3, .int how), (2, .int y2), (1, .int x2), (0, .ref (ob 0))]) hx hb dL_acts_483 hl (by decide) rfl (fun ls hl => ?_)
              refine lv_iload hx hb dL_acts_485 (lv_at hl 2 rfl) ?_
              refine lv_if_ne (tgt := 504) hx hb dL_acts_487 (by decide) (fun _ => ?_) (fun c_26 => absurd c_26 (by decide))
              refine lv_iload hx hb dL_acts_504 (lv_at hl 1 rfl) ?_
              refine lv_if_ne (tgt := 524) hx hb dL_acts_506 (by decide) (fun _ => ?_) (fun c_27 => absurd c_27 (by decide))
              refine lv_iload hx hb dL_acts_524 (lv_at hl 0 rfl) ?_
              refine lv_sipush (v := 1000) hx hb dL_acts_526 (by decide) ?_
              refine lv_icmp_lt (tgt := 560) hx hb dL_acts_529 (by decide) (fun c_28 => ?_) (fun c_28 => ?_)
              · refine lv_iconst (v := 0) hx hb dL_acts_560 (by decide) ?_
                have e9 : (zA_reserve Ω y2 k i who v) = ((0 : Int32), (zX7_reserve Ω who i).2) := by unfold zA_reserve; rw [if_neg c_1, if_neg c_5, if_pos c_10, if_pos c_14, if_pos c_18, if_pos c_22, if_pos c_28]
                have hz := rd3 (act_reserve hI0 hk hi hw hv y2) e9
                exact W.zret (v := 0) hx hb hr (by decide) (fun t ht hW => ⟨⟨0, (zX7_reserve Ω who i).2, rfl, hz, by dsimp only; rw [ht]; exact hY⟩, hS.F ht⟩) hS.2.2 dL_acts_561
              · refine lv_aload_n hx hb dL_acts_532 rfl (lv_at hl 14 rfl) ?_
                refine lv_iload hx hb dL_acts_533 (lv_at hl 5 rfl) ?_
                refine lv_iconst (v := 4) hx hb dL_acts_535 (by decide) ?_
                refine rX7_mealOf hF (cwV 2 hts gL_acts_X7_mealOf rfl rfl rfl hdX7_mealOf ⟨Nat.le_of_ble_eq_true rfl, Nat.le_of_ble_eq_true rfl⟩) hC hY hJ hOk hS (fun _ h => h) hl.1 (Nat.le_of_ble_eq_true rfl) dL_acts_536 ⟨Nat.zero_le _, Nat.zero_le _⟩ (fun H locs hY _ _ hS => ?_)
                refine lv_iload hx hb dL_acts_539 (lv_at hl 0 rfl) ?_
                refine lv_icmp_ne (tgt := 560) hx hb dL_acts_541 (by decide) (fun c_29 => ?_) (fun c_29 => ?_)
                · refine lv_iconst (v := 0) hx hb dL_acts_560 (by decide) ?_
                  have e9 : (zA_reserve Ω y2 k i who v) = ((0 : Int32), (zX7_reserve Ω who i).2) := by unfold zA_reserve; rw [if_neg c_1, if_neg c_5, if_pos c_10, if_pos c_14, if_pos c_18, if_pos c_22, if_neg c_28, if_neg c_29]
                  have hz := rd3 (act_reserve hI0 hk hi hw hv y2) e9
                  exact W.zret (v := 0) hx hb hr (by decide) (fun t ht hW => ⟨⟨0, (zX7_reserve Ω who i).2, rfl, hz, by dsimp only; rw [ht]; exact hY⟩, hS.F ht⟩) hS.2.2 dL_acts_561
                · refine lv_aload_n hx hb dL_acts_544 rfl (lv_at hl 14 rfl) ?_
                  refine lv_iload hx hb dL_acts_545 (lv_at hl 4 rfl) ?_
                  refine lv_iconst (v := 3) hx hb dL_acts_547 (by decide) ?_
                  refine rX7_personOf hF (cwV 2 hts gL_acts_X7_personOf rfl rfl rfl hdX7_personOf ⟨Nat.le_of_ble_eq_true rfl, Nat.le_of_ble_eq_true rfl⟩) hC hY hJ hOk hS (fun _ h => h) hl.1 (Nat.le_of_ble_eq_true rfl) dL_acts_548 ⟨Nat.zero_le _, Nat.zero_le _⟩ (fun H locs hY _ _ hS => ?_)
                  refine lv_iload hx hb dL_acts_551 (lv_at hl 5 rfl) ?_
                  refine lv_icmp_ne (tgt := 560) hx hb dL_acts_553 (by decide) (fun c_30 => ?_) (fun c_30 => ?_)
                  · refine lv_iconst (v := 0) hx hb dL_acts_560 (by decide) ?_
                    have e9 : (zA_reserve Ω y2 k i who v) = ((0 : Int32), (zX7_reserve Ω who i).2) := by unfold zA_reserve; rw [if_neg c_1, if_neg c_5, if_pos c_10, if_pos c_14, if_pos c_18, if_pos c_22, if_neg c_28, if_pos c_29, if_neg c_30]
                    have hz := rd3 (act_reserve hI0 hk hi hw hv y2) e9
                    exact W.zret (v := 0) hx hb hr (by decide) (fun t ht hW => ⟨⟨0, (zX7_reserve Ω who i).2, rfl, hz, by dsimp only; rw [ht]; exact hY⟩, hS.F ht⟩) hS.2.2 dL_acts_561
                  · refine lv_iconst (v := 1) hx hb dL_acts_556 (by decide) ?_
                    refine lv_goto (tgt := 561) hx hb dL_acts_557 (by decide) ?_
                    have e9 : (zA_reserve Ω y2 k i who v) = ((1 : Int32), (zX7_reserve Ω who i).2) := by unfold zA_reserve; rw [if_neg c_1, if_neg c_5, if_pos c_10, if_pos c_14, if_pos c_18, if_pos c_22, if_neg c_28, if_pos c_29, if_pos c_30]
                    have hz := rd3 (act_reserve hI0 hk hi hw hv y2) e9
                    exact W.zret (v := 1) hx hb hr (by decide) (fun t ht hW => ⟨⟨1, (zX7_reserve Ω who i).2, rfl, hz, by dsimp only; rw [ht]; exact hY⟩, hS.F ht⟩) hS.2.2 dL_acts_561
set_option maxHeartbeats 4000000 in
set_option maxRecDepth 100000 in
theorem ba_fetch {p : Program} {l : Launch} {e : Env} {s : State} {m : MethodId} {args : Array Value} {below : List Frame} {meth : Method} {c : Code} {D : va_G} {y : Y3} {n0 tM tF : Nat} {ob : Nat → Nat} {AD : Nat → Nat → Nat} {Ω : Og} {y2 x2 how k i who v : Int32} (hx : p.tables.exec = Jvm.exec) (hb : c.code = cL_acts) (hml : c.maxLocals = 16) (hown : s.vm.findClass RL = some m.cls) (hts : ∀ w ∈ wsL_acts, w.before args s = true) (hr : meth.sig.returnType = some .boolean) (hlocks : meth.locks = false) (hC : CK D y s) (hJ : sysJ ob AD) (hI : InvO Ω) (hZs : STM n0 tM tF s s.heap) (hn0 : ∀ q, sysA ob AD q → n0 ≤ q) (hk : KB Ω 0 k) (hi : KB Ω 1 i) (hw : KB Ω 2 who) (hv : KB Ω 3 v) {H : Heap} {locs : List Loc} (hY : SysH D y ob AD Ω H) (hS : va_S (sysA ob AD) s.heap H locs) (ls : Array Slot) (hl : lv_has ls 16 [(11, .int v), (10, .int who), (9, .int i), (8, .int k), (7, .int (zX3_total (Ω 0) 3)), (6, .int (zX3_total (Ω 0) 2)), (5, .int (zX3_total (Ω 0) 1)), (4, .int (zX3_total (Ω 0) 0)), (3, .int how), (2, .int y2), (1, .int x2), (0, .ref (ob 0))]) : W p l e (headSpec wsL_acts ({ frames := 9, cells := 0, slots := 0, locals := 207 } : Room)).room s m args below meth c H locs 0 0 (MQ below (va_Qi (fun (r : Int32) (u : Og) => (r = 1 ∧ InvO u ∧ HSt Ω u)) (fun u t => SysH D y ob AD u t.heap) (sysA ob AD)) args s 0 0 (sysA ob AD)) (F0 m 568 ls []) := by
  have hF := (⟨hx, hb, hml, hown, hts⟩ : CallFix p m c cL_acts 16 s args wsL_acts RL)
  have hI0 := hI
  have hOk := hI.1
  refine lv_iload hx hb dL_acts_568 (lv_at hl 2 rfl) ?_
  refine lv_iload hx hb dL_acts_570 (lv_at hl 6 rfl) ?_
  refine lv_icmp_eq (tgt := 586) hx hb dL_acts_572 (by decide) (fun c_1 => ?_) (fun c_1 => ?_)
  · refine lv_aload_n hx hb dL_acts_586 rfl (lv_at hl 11 rfl) ?_
    refine lv_iconst (v := 0) hx hb dL_acts_587 (by decide) ?_
    refine lv_sipush (v := 999) hx hb dL_acts_588 (by decide) ?_
    refine lv_iconst (v := 0) hx hb dL_acts_591 (by decide) ?_
    refine kX7_fetch hF (cwV 3 hts gL_acts_X7_fetch rfl rfl rfl hdX7_fetch ⟨Nat.le_of_ble_eq_true rfl, Nat.le_of_ble_eq_true rfl⟩) hC hY hJ hOk hS (fun _ h => h) hl.1 (Nat.le_of_ble_eq_true rfl) dL_acts_592 ⟨Nat.zero_le _, Nat.zero_le _⟩ (fun H locs hY _ _ hS => ?_)
    have hI : InvO ((zX7_fetch Ω 0 999 0).2) := (pub_fetch hI 0 999 0).2.1
    have hOk := hI.1
    refine lv_iconst (v := (-1)) hx hb dL_acts_595 (by decide) ?_
    refine lv_icmp_ne (tgt := 617) hx hb dL_acts_596 (by decide) (fun c_2 => ?_) (fun c_2 => ?_)
    · refine lv_iconst (v := 0) hx hb dL_acts_617 (by decide) ?_
      have e9 : (zA_fetch Ω y2 k i who v) = ((0 : Int32), (zX7_fetch Ω 0 999 0).2) := by unfold zA_fetch; rw [if_pos c_1, if_neg c_2]
      have hz := rd3 (act_fetch hI0 hk hi hw hv y2) e9
      exact W.zret (v := 0) hx hb hr (by decide) (fun t ht hW => ⟨⟨0, (zX7_fetch Ω 0 999 0).2, rfl, hz, by dsimp only; rw [ht]; exact hY⟩, hS.F ht⟩) hS.2.2 dL_acts_618
    · refine lv_aload_n hx hb dL_acts_599 rfl (lv_at hl 11 rfl) ?_
      refine lv_iload hx hb dL_acts_600 (lv_at hl 3 rfl) ?_
      refine lv_sipush (v := 1000) hx hb dL_acts_602 (by decide) ?_
      refine lv_iconst (v := 2) hx hb dL_acts_605 (by decide) ?_
      refine kX7_fetch hF (cwV 3 hts gL_acts_X7_fetch rfl rfl rfl hdX7_fetch ⟨Nat.le_of_ble_eq_true rfl, Nat.le_of_ble_eq_true rfl⟩) hC hY hJ hOk hS (fun _ h => h) hl.1 (Nat.le_of_ble_eq_true rfl) dL_acts_606 ⟨Nat.zero_le _, Nat.zero_le _⟩ (fun H locs hY _ _ hS => ?_)
      have hI : InvO ((zX7_fetch ((zX7_fetch Ω 0 999 0).2) k 1000 2).2) := (pub_fetch hI k 1000 2).2.1
      have hOk := hI.1
      refine lv_iconst (v := (-1)) hx hb dL_acts_609 (by decide) ?_
      refine lv_icmp_ne (tgt := 617) hx hb dL_acts_610 (by decide) (fun c_3 => ?_) (fun c_3 => ?_)
      · refine lv_iconst (v := 0) hx hb dL_acts_617 (by decide) ?_
        have e9 : (zA_fetch Ω y2 k i who v) = ((0 : Int32), (zX7_fetch ((zX7_fetch Ω 0 999 0).2) k 1000 2).2) := by unfold zA_fetch; rw [if_pos c_1, if_pos c_2, if_neg c_3]
        have hz := rd3 (act_fetch hI0 hk hi hw hv y2) e9
        exact W.zret (v := 0) hx hb hr (by decide) (fun t ht hW => ⟨⟨0, (zX7_fetch ((zX7_fetch Ω 0 999 0).2) k 1000 2).2, rfl, hz, by dsimp only; rw [ht]; exact hY⟩, hS.F ht⟩) hS.2.2 dL_acts_618
      · refine lv_iconst (v := 1) hx hb dL_acts_613 (by decide) ?_
        refine lv_goto (tgt := 618) hx hb dL_acts_614 (by decide) ?_
        have e9 : (zA_fetch Ω y2 k i who v) = ((1 : Int32), (zX7_fetch ((zX7_fetch Ω 0 999 0).2) k 1000 2).2) := by unfold zA_fetch; rw [if_pos c_1, if_pos c_2, if_pos c_3]
        have hz := rd3 (act_fetch hI0 hk hi hw hv y2) e9
        exact W.zret (v := 1) hx hb hr (by decide) (fun t ht hW => ⟨⟨1, (zX7_fetch ((zX7_fetch Ω 0 999 0).2) k 1000 2).2, rfl, hz, by dsimp only; rw [ht]; exact hY⟩, hS.F ht⟩) hS.2.2 dL_acts_618
  · refine lv_aload_n hx hb dL_acts_575 rfl (lv_at hl 11 rfl) ?_
    refine lv_iload hx hb dL_acts_576 (lv_at hl 2 rfl) ?_
    refine lv_iconst (v := 0) hx hb dL_acts_578 (by decide) ?_
    refine rX7_mealOf hF (cwV 2 hts gL_acts_X7_mealOf rfl rfl rfl hdX7_mealOf ⟨Nat.le_of_ble_eq_true rfl, Nat.le_of_ble_eq_true rfl⟩) hC hY hJ hOk hS (fun _ h => h) hl.1 (Nat.le_of_ble_eq_true rfl) dL_acts_579 ⟨Nat.zero_le _, Nat.zero_le _⟩ (fun H locs hY _ _ hS => ?_)
    refine lv_iconst (v := 1) hx hb dL_acts_582 (by decide) ?_
    refine lv_icmp_eq (tgt := 619) hx hb dL_acts_583 (by decide) (fun c_4 => ?_) (fun c_4 => ?_)
    · refine lv_iload_n hx hb dL_acts_619 rfl (lv_at hl 9 rfl) ?_
      refine lv_iconst (v := 2) hx hb dL_acts_620 (by decide) ?_
      refine kL_low (x1 := y2) (x2 := 2) hF (va_cwS 2 hts gL_acts_L_low rfl rfl rfl hdL_low ⟨Nat.le_of_ble_eq_true rfl, Nat.le_of_ble_eq_true rfl⟩) hC (by decide) hl.1 (Nat.le_of_ble_eq_true rfl) dL_acts_621 ⟨Nat.zero_le _, Nat.zero_le _⟩ ?_
      refine lv_istore (lv' := [(12, .int (zL_low y2 2)), (11, .int v), (10, .int who), (9, .int i), (8, .int k), (7, .int (zX3_total (Ω 0) 3)), (6, .int (zX3_total (Ω 0) 2)), (5, .int (zX3_total (Ω 0) 1)), (4, .int (zX3_total (Ω 0) 0)), (3, .int how), (2, .int y2), (1, .int x2), (0, .ref (ob 0))]) hx hb dL_acts_624 hl (by decide) rfl (fun ls hl => ?_)
      refine lv_aload_n hx hb dL_acts_626 rfl (lv_at hl 12 rfl) ?_
      refine lv_iload hx hb dL_acts_627 (lv_at hl 3 rfl) ?_
      refine lv_iconst (v := 4) hx hb dL_acts_629 (by decide) ?_
      refine rX7_mealOf hF (cwV 2 hts gL_acts_X7_mealOf rfl rfl rfl hdX7_mealOf ⟨Nat.le_of_ble_eq_true rfl, Nat.le_of_ble_eq_true rfl⟩) hC hY hJ hOk hS (fun _ h => h) hl.1 (Nat.le_of_ble_eq_true rfl) dL_acts_630 ⟨Nat.zero_le _, Nat.zero_le _⟩ (fun H locs hY _ _ hS => ?_)
      refine lv_istore (lv' := [(13, .int (zX3_ofMeal (Ω 0) i 4)), (12, .int (zL_low y2 2)), (11, .int v), (10, .int who), (9, .int i), (8, .int k), (7, .int (zX3_total (Ω 0) 3)), (6, .int (zX3_total (Ω 0) 2)), (5, .int (zX3_total (Ω 0) 1)), (4, .int (zX3_total (Ω 0) 0)), (3, .int how), (2, .int y2), (1, .int x2), (0, .ref (ob 0))]) hx hb dL_acts_633 hl (by decide) rfl (fun ls hl => ?_)
      refine lv_aload_n hx hb dL_acts_635 rfl (lv_at hl 13 rfl) ?_
      refine lv_aload_n hx hb dL_acts_636 rfl (lv_at hl 13 rfl) ?_
      refine lv_iload hx hb dL_acts_637 (lv_at hl 4 rfl) ?_
      refine lv_iconst (v := 1) hx hb dL_acts_639 (by decide) ?_
      refine rX7_mealOf hF (cwV 2 hts gL_acts_X7_mealOf rfl rfl rfl hdX7_mealOf ⟨Nat.le_of_ble_eq_true rfl, Nat.le_of_ble_eq_true rfl⟩) hC hY hJ hOk hS (fun _ h => h) hl.1 (Nat.le_of_ble_eq_true rfl) dL_acts_640 ⟨Nat.zero_le _, Nat.zero_le _⟩ (fun H locs hY _ _ hS => ?_)
      refine lv_iload hx hb dL_acts_643 (lv_at hl 0 rfl) ?_
      refine lv_iload hx hb dL_acts_645 (lv_at hl 1 rfl) ?_
      refine kX7_fetch hF (cwV 3 hts gL_acts_X7_fetch rfl rfl rfl hdX7_fetch ⟨Nat.le_of_ble_eq_true rfl, Nat.le_of_ble_eq_true rfl⟩) hC hY hJ hOk hS (fun _ h => h) hl.1 (Nat.le_of_ble_eq_true rfl) dL_acts_647 ⟨Nat.zero_le _, Nat.zero_le _⟩ (fun H locs hY _ _ hS => ?_)
      have hI : InvO ((zX7_fetch Ω (zX3_ofMeal (Ω 0) i 1) (zX3_ofMeal (Ω 0) i 4) (zL_low y2 2)).2) := (pub_fetch hI (zX3_ofMeal (Ω 0) i 1) (zX3_ofMeal (Ω 0) i 4) (zL_low y2 2)).2.1
      have hOk := hI.1
      refine lv_istore (lv' := [(14, .int ((zX7_fetch Ω (zX3_ofMeal (Ω 0) i 1) (zX3_ofMeal (Ω 0) i 4) (zL_low y2 2)).1)), (13, .int (zX3_ofMeal (Ω 0) i 4)), (12, .int (zL_low y2 2)), (11, .int v), (10, .int who), (9, .int i), (8, .int k), (7, .int (zX3_total (Ω 0) 3)), (6, .int (zX3_total (Ω 0) 2)), (5, .int (zX3_total (Ω 0) 1)), (4, .int (zX3_total (Ω 0) 0)), (3, .int how), (2, .int y2), (1, .int x2), (0, .ref (ob 0))]) hx hb dL_acts_650 hl (by decide) rfl (fun ls hl => ?_)
      refine lv_iload hx hb dL_acts_652 (lv_at hl 0 rfl) ?_
      refine lv_if_lt (tgt := 694) hx hb dL_acts_654 (by decide) (fun c_5 => ?_) (fun c_5 => ?_)
      · refine lv_iconst (v := 0) hx hb dL_acts_694 (by decide) ?_
        have e9 : (zA_fetch Ω y2 k i who v) = ((0 : Int32), (zX7_fetch Ω (zX3_ofMeal (Ω 0) i 1) (zX3_ofMeal (Ω 0) i 4) (zL_low y2 2)).2) := by unfold zA_fetch; rw [if_neg c_1, if_pos c_4, if_pos c_5]
        have hz := rd3 (act_fetch hI0 hk hi hw hv y2) e9
        exact W.zret (v := 0) hx hb hr (by decide) (fun t ht hW => ⟨⟨0, (zX7_fetch Ω (zX3_ofMeal (Ω 0) i 1) (zX3_ofMeal (Ω 0) i 4) (zL_low y2 2)).2, rfl, hz, by dsimp only; rw [ht]; exact hY⟩, hS.F ht⟩) hS.2.2 dL_acts_695
      · refine lv_iload hx hb dL_acts_657 (lv_at hl 0 rfl) ?_
        refine lv_iload hx hb dL_acts_659 (lv_at hl 5 rfl) ?_
        refine lv_icmp_gt (tgt := 694) hx hb dL_acts_661 (by decide) (fun c_6 => ?_) (fun c_6 => ?_)
        · refine lv_iconst (v := 0) hx hb dL_acts_694 (by decide) ?_
          have e9 : (zA_fetch Ω y2 k i who v) = ((0 : Int32), (zX7_fetch Ω (zX3_ofMeal (Ω 0) i 1) (zX3_ofMeal (Ω 0) i 4) (zL_low y2 2)).2) := by unfold zA_fetch; rw [if_neg c_1, if_pos c_4, if_neg c_5, if_pos c_6]
          have hz := rd3 (act_fetch hI0 hk hi hw hv y2) e9
          exact W.zret (v := 0) hx hb hr (by decide) (fun t ht hW => ⟨⟨0, (zX7_fetch Ω (zX3_ofMeal (Ω 0) i 1) (zX3_ofMeal (Ω 0) i 4) (zL_low y2 2)).2, rfl, hz, by dsimp only; rw [ht]; exact hY⟩, hS.F ht⟩) hS.2.2 dL_acts_695
        · refine lv_aload_n hx hb dL_acts_664 rfl (lv_at hl 14 rfl) ?_
          refine lv_iload hx hb dL_acts_665 (lv_at hl 0 rfl) ?_
          refine lv_iconst (v := 0) hx hb dL_acts_667 (by decide) ?_
          refine rX7_mealOf hF (cwV 2 hts gL_acts_X7_mealOf rfl rfl rfl hdX7_mealOf ⟨Nat.le_of_ble_eq_true rfl, Nat.le_of_ble_eq_true rfl⟩) hC hY hJ hOk hS (fun _ h => h) hl.1 (Nat.le_of_ble_eq_true rfl) dL_acts_668 ⟨Nat.zero_le _, Nat.zero_le _⟩ (fun H locs hY _ _ hS => ?_)
          refine lv_iconst (v := 3) hx hb dL_acts_671 (by decide) ?_
          refine lv_iload hx hb dL_acts_672 (lv_at hl 2 rfl) ?_
          refine lv_iadd hx hb dL_acts_674 ?_
          refine lv_icmp_ne (tgt := 694) hx hb dL_acts_675 (by decide) (fun c_7 => ?_) (fun c_7 => ?_)
          · refine lv_iconst (v := 0) hx hb dL_acts_694 (by decide) ?_
            have e9 : (zA_fetch Ω y2 k i who v) = ((0 : Int32), (zX7_fetch Ω (zX3_ofMeal (Ω 0) i 1) (zX3_ofMeal (Ω 0) i 4) (zL_low y2 2)).2) := by unfold zA_fetch; rw [if_neg c_1, if_pos c_4, if_neg c_5, if_neg c_6, if_neg c_7]
            have hz := rd3 (act_fetch hI0 hk hi hw hv y2) e9
            exact W.zret (v := 0) hx hb hr (by decide) (fun t ht hW => ⟨⟨0, (zX7_fetch Ω (zX3_ofMeal (Ω 0) i 1) (zX3_ofMeal (Ω 0) i 4) (zL_low y2 2)).2, rfl, hz, by dsimp only; rw [ht]; exact hY⟩, hS.F ht⟩) hS.2.2 dL_acts_695
          · refine lv_aload_n hx hb dL_acts_678 rfl (lv_at hl 14 rfl) ?_
            refine lv_bipush (v := 7) hx hb dL_acts_679 (by decide) ?_
            refine lv_iload hx hb dL_acts_681 (lv_at hl 2 rfl) ?_
            refine lv_iadd hx hb dL_acts_683 ?_
            refine rX7_count hF (cwV 1 hts gL_acts_X7_count rfl rfl rfl hdX7_count ⟨Nat.le_of_ble_eq_true rfl, Nat.le_of_ble_eq_true rfl⟩) hC hY hJ hOk hS (fun _ h => h) hl.1 (Nat.le_of_ble_eq_true rfl) dL_acts_684 ⟨Nat.zero_le _, Nat.zero_le _⟩ (fun H locs hY _ _ hS => ?_)
            refine lv_if_le (tgt := 694) hx hb dL_acts_687 (by decide) (fun c_8 => ?_) (fun c_8 => ?_)
            · refine lv_iconst (v := 0) hx hb dL_acts_694 (by decide) ?_
              have e9 : (zA_fetch Ω y2 k i who v) = ((0 : Int32), (zX7_fetch Ω (zX3_ofMeal (Ω 0) i 1) (zX3_ofMeal (Ω 0) i 4) (zL_low y2 2)).2) := by unfold zA_fetch; rw [if_neg c_1, if_pos c_4, if_neg c_5, if_neg c_6, if_pos c_7, if_pos c_8]
              have hz := rd3 (act_fetch hI0 hk hi hw hv y2) e9
              exact W.zret (v := 0) hx hb hr (by decide) (fun t ht hW => ⟨⟨0, (zX7_fetch Ω (zX3_ofMeal (Ω 0) i 1) (zX3_ofMeal (Ω 0) i 4) (zL_low y2 2)).2, rfl, hz, by dsimp only; rw [ht]; exact hY⟩, hS.F ht⟩) hS.2.2 dL_acts_695
            · refine lv_iconst (v := 1) hx hb dL_acts_690 (by decide) ?_
              refine lv_goto (tgt := 695) hx hb dL_acts_691 (by decide) ?_
              have e9 : (zA_fetch Ω y2 k i who v) = ((1 : Int32), (zX7_fetch Ω (zX3_ofMeal (Ω 0) i 1) (zX3_ofMeal (Ω 0) i 4) (zL_low y2 2)).2) := by unfold zA_fetch; rw [if_neg c_1, if_pos c_4, if_neg c_5, if_neg c_6, if_pos c_7, if_neg c_8]
              have hz := rd3 (act_fetch hI0 hk hi hw hv y2) e9
              exact W.zret (v := 1) hx hb hr (by decide) (fun t ht hW => ⟨⟨1, (zX7_fetch Ω (zX3_ofMeal (Ω 0) i 1) (zX3_ofMeal (Ω 0) i 4) (zL_low y2 2)).2, rfl, hz, by dsimp only; rw [ht]; exact hY⟩, hS.F ht⟩) hS.2.2 dL_acts_695
    · refine lv_aload_n hx hb dL_acts_586 rfl (lv_at hl 11 rfl) ?_
      refine lv_iconst (v := 0) hx hb dL_acts_587 (by decide) ?_
      refine lv_sipush (v := 999) hx hb dL_acts_588 (by decide) ?_
      refine lv_iconst (v := 0) hx hb dL_acts_591 (by decide) ?_
      refine kX7_fetch hF (cwV 3 hts gL_acts_X7_fetch rfl rfl rfl hdX7_fetch ⟨Nat.le_of_ble_eq_true rfl, Nat.le_of_ble_eq_true rfl⟩) hC hY hJ hOk hS (fun _ h => h) hl.1 (Nat.le_of_ble_eq_true rfl) dL_acts_592 ⟨Nat.zero_le _, Nat.zero_le _⟩ (fun H locs hY _ _ hS => ?_)
      have hI : InvO ((zX7_fetch Ω 0 999 0).2) := (pub_fetch hI 0 999 0).2.1
      have hOk := hI.1
      refine lv_iconst (v := (-1)) hx hb dL_acts_595 (by decide) ?_
      refine lv_icmp_ne (tgt := 617) hx hb dL_acts_596 (by decide) (fun c_9 => ?_) (fun c_9 => ?_)
      · refine lv_iconst (v := 0) hx hb dL_acts_617 (by decide) ?_
        have e9 : (zA_fetch Ω y2 k i who v) = ((0 : Int32), (zX7_fetch Ω 0 999 0).2) := by unfold zA_fetch; rw [if_neg c_1, if_neg c_4, if_neg c_9]
        have hz := rd3 (act_fetch hI0 hk hi hw hv y2) e9
        exact W.zret (v := 0) hx hb hr (by decide) (fun t ht hW => ⟨⟨0, (zX7_fetch Ω 0 999 0).2, rfl, hz, by dsimp only; rw [ht]; exact hY⟩, hS.F ht⟩) hS.2.2 dL_acts_618
      · refine lv_aload_n hx hb dL_acts_599 rfl (lv_at hl 11 rfl) ?_
        refine lv_iload hx hb dL_acts_600 (lv_at hl 3 rfl) ?_
        refine lv_sipush (v := 1000) hx hb dL_acts_602 (by decide) ?_
        refine lv_iconst (v := 2) hx hb dL_acts_605 (by decide) ?_
        refine kX7_fetch hF (cwV 3 hts gL_acts_X7_fetch rfl rfl rfl hdX7_fetch ⟨Nat.le_of_ble_eq_true rfl, Nat.le_of_ble_eq_true rfl⟩) hC hY hJ hOk hS (fun _ h => h) hl.1 (Nat.le_of_ble_eq_true rfl) dL_acts_606 ⟨Nat.zero_le _, Nat.zero_le _⟩ (fun H locs hY _ _ hS => ?_)
        have hI : InvO ((zX7_fetch ((zX7_fetch Ω 0 999 0).2) k 1000 2).2) := (pub_fetch hI k 1000 2).2.1
        have hOk := hI.1
        refine lv_iconst (v := (-1)) hx hb dL_acts_609 (by decide) ?_
        refine lv_icmp_ne (tgt := 617) hx hb dL_acts_610 (by decide) (fun c_10 => ?_) (fun c_10 => ?_)
        · refine lv_iconst (v := 0) hx hb dL_acts_617 (by decide) ?_
          have e9 : (zA_fetch Ω y2 k i who v) = ((0 : Int32), (zX7_fetch ((zX7_fetch Ω 0 999 0).2) k 1000 2).2) := by unfold zA_fetch; rw [if_neg c_1, if_neg c_4, if_pos c_9, if_neg c_10]
          have hz := rd3 (act_fetch hI0 hk hi hw hv y2) e9
          exact W.zret (v := 0) hx hb hr (by decide) (fun t ht hW => ⟨⟨0, (zX7_fetch ((zX7_fetch Ω 0 999 0).2) k 1000 2).2, rfl, hz, by dsimp only; rw [ht]; exact hY⟩, hS.F ht⟩) hS.2.2 dL_acts_618
        · refine lv_iconst (v := 1) hx hb dL_acts_613 (by decide) ?_
          refine lv_goto (tgt := 618) hx hb dL_acts_614 (by decide) ?_
          have e9 : (zA_fetch Ω y2 k i who v) = ((1 : Int32), (zX7_fetch ((zX7_fetch Ω 0 999 0).2) k 1000 2).2) := by unfold zA_fetch; rw [if_neg c_1, if_neg c_4, if_pos c_9, if_pos c_10]
          have hz := rd3 (act_fetch hI0 hk hi hw hv y2) e9
          exact W.zret (v := 1) hx hb hr (by decide) (fun t ht hW => ⟨⟨1, (zX7_fetch ((zX7_fetch Ω 0 999 0).2) k 1000 2).2, rfl, hz, by dsimp only; rw [ht]; exact hY⟩, hS.F ht⟩) hS.2.2 dL_acts_618
set_option maxHeartbeats 4000000 in
set_option maxRecDepth 100000 in
theorem ba_take {p : Program} {l : Launch} {e : Env} {s : State} {m : MethodId} {args : Array Value} {below : List Frame} {meth : Method} {c : Code} {D : va_G} {y : Y3} {n0 tM tF : Nat} {ob : Nat → Nat} {AD : Nat → Nat → Nat} {Ω : Og} {y2 x2 how k i who v : Int32} (hx : p.tables.exec = Jvm.exec) (hb : c.code = cL_acts) (hml : c.maxLocals = 16) (hown : s.vm.findClass RL = some m.cls) (hts : ∀ w ∈ wsL_acts, w.before args s = true) (hr : meth.sig.returnType = some .boolean) (hlocks : meth.locks = false) (hC : CK D y s) (hJ : sysJ ob AD) (hI : InvO Ω) (hZs : STM n0 tM tF s s.heap) (hn0 : ∀ q, sysA ob AD q → n0 ≤ q) (hk : KB Ω 0 k) (hi : KB Ω 1 i) (hw : KB Ω 2 who) (hv : KB Ω 3 v) {H : Heap} {locs : List Loc} (hY : SysH D y ob AD Ω H) (hS : va_S (sysA ob AD) s.heap H locs) (ls : Array Slot) (hl : lv_has ls 16 [(11, .int v), (10, .int who), (9, .int i), (8, .int k), (7, .int (zX3_total (Ω 0) 3)), (6, .int (zX3_total (Ω 0) 2)), (5, .int (zX3_total (Ω 0) 1)), (4, .int (zX3_total (Ω 0) 0)), (3, .int how), (2, .int y2), (1, .int x2), (0, .ref (ob 0))]) : W p l e (headSpec wsL_acts ({ frames := 9, cells := 0, slots := 0, locals := 207 } : Room)).room s m args below meth c H locs 0 0 (MQ below (va_Qi (fun (r : Int32) (u : Og) => (r = 1 ∧ InvO u ∧ HSt Ω u)) (fun u t => SysH D y ob AD u t.heap) (sysA ob AD)) args s 0 0 (sysA ob AD)) (F0 m 702 ls []) := by
  have hF := (⟨hx, hb, hml, hown, hts⟩ : CallFix p m c cL_acts 16 s args wsL_acts RL)
  have hI0 := hI
  have hOk := hI.1
  refine lv_iload hx hb dL_acts_702 (lv_at hl 0 rfl) ?_
  refine lv_iload hx hb dL_acts_704 (lv_at hl 4 rfl) ?_
  refine lv_icmp_ge (tgt := 720) hx hb dL_acts_706 (by decide) (fun c_1 => ?_) (fun c_1 => ?_)
  · refine lv_iconst (v := 0) hx hb dL_acts_720 (by decide) ?_
    refine lv_istore (lv' := [(12, .int 0), (11, .int v), (10, .int who), (9, .int i), (8, .int k), (7, .int (zX3_total (Ω 0) 3)), (6, .int (zX3_total (Ω 0) 2)), (5, .int (zX3_total (Ω 0) 1)), (4, .int (zX3_total (Ω 0) 0)), (3, .int how), (2, .int y2), (1, .int x2), (0, .ref (ob 0))]) hx hb dL_acts_721 hl (by decide) rfl (fun ls hl => ?_)
    refine lv_iload hx hb dL_acts_723 (lv_at hl 0 rfl) ?_
    refine lv_if_eq (tgt := 769) hx hb dL_acts_725 (by decide) (fun _ => ?_) (fun c_2 => absurd (by decide) c_2)
    refine lv_iconst (v := 0) hx hb dL_acts_769 (by decide) ?_
    refine lv_istore (lv' := [(13, .int 0), (12, .int 0), (11, .int v), (10, .int who), (9, .int i), (8, .int k), (7, .int (zX3_total (Ω 0) 3)), (6, .int (zX3_total (Ω 0) 2)), (5, .int (zX3_total (Ω 0) 1)), (4, .int (zX3_total (Ω 0) 0)), (3, .int how), (2, .int y2), (1, .int x2), (0, .ref (ob 0))]) hx hb dL_acts_770 hl (by decide) rfl (fun ls hl => ?_)
    refine lv_aload_n hx hb dL_acts_772 rfl (lv_at hl 13 rfl) ?_
    refine lv_iload hx hb dL_acts_773 (lv_at hl 2 rfl) ?_
    refine lv_iload hx hb dL_acts_775 (lv_at hl 4 rfl) ?_
    refine kX7_take hF (cwV 2 hts gL_acts_X7_take rfl rfl rfl hdX7_take ⟨Nat.le_of_ble_eq_true rfl, Nat.le_of_ble_eq_true rfl⟩) hC hY hJ hOk hS (fun _ h => h) hl.1 (Nat.le_of_ble_eq_true rfl) dL_acts_777 ⟨Nat.zero_le _, Nat.zero_le _⟩ (fun H locs hY _ _ hS => ?_)
    have hI : InvO ((zX7_take Ω v i).2) := (pub_take hI v i).2.1
    have hOk := hI.1
    refine lv_istore (lv' := [(14, .int ((zX7_take Ω v i).1)), (13, .int 0), (12, .int 0), (11, .int v), (10, .int who), (9, .int i), (8, .int k), (7, .int (zX3_total (Ω 0) 3)), (6, .int (zX3_total (Ω 0) 2)), (5, .int (zX3_total (Ω 0) 1)), (4, .int (zX3_total (Ω 0) 0)), (3, .int how), (2, .int y2), (1, .int x2), (0, .ref (ob 0))]) hx hb dL_acts_780 hl (by decide) rfl (fun ls hl => ?_)
    refine lv_iload hx hb dL_acts_782 (lv_at hl 2 rfl) ?_
    refine lv_if_ne (tgt := 801) hx hb dL_acts_784 (by decide) (fun c_3 => absurd c_3 (by decide)) (fun _ => ?_)
    refine lv_iload hx hb dL_acts_787 (lv_at hl 0 rfl) ?_
    refine lv_iconst (v := (-1)) hx hb dL_acts_789 (by decide) ?_
    refine lv_icmp_ne (tgt := 797) hx hb dL_acts_790 (by decide) (fun c_4 => ?_) (fun c_4 => ?_)
    · refine lv_iconst (v := 0) hx hb dL_acts_797 (by decide) ?_
      refine lv_goto (tgt := 856) hx hb dL_acts_798 (by decide) ?_
      have e9 : (zA_take Ω y2 k i who v) = ((0 : Int32), (zX7_take Ω v i).2) := by unfold zA_take; rw [if_pos c_1, if_neg c_4]
      have hz := rd3 (act_take hI0 hk hi hw hv y2) e9
      exact W.zret (v := 0) hx hb hr (by decide) (fun t ht hW => ⟨⟨0, (zX7_take Ω v i).2, rfl, hz, by dsimp only; rw [ht]; exact hY⟩, hS.F ht⟩) hS.2.2 dL_acts_856
    · refine lv_iconst (v := 1) hx hb dL_acts_793 (by decide) ?_
      refine lv_goto (tgt := 856) hx hb dL_acts_794 (by decide) ?_
      have e9 : (zA_take Ω y2 k i who v) = ((1 : Int32), (zX7_take Ω v i).2) := by unfold zA_take; rw [if_pos c_1, if_pos c_4]
      have hz := rd3 (act_take hI0 hk hi hw hv y2) e9
      exact W.zret (v := 1) hx hb hr (by decide) (fun t ht hW => ⟨⟨1, (zX7_take Ω v i).2, rfl, hz, by dsimp only; rw [ht]; exact hY⟩, hS.F ht⟩) hS.2.2 dL_acts_856
  · refine lv_iload hx hb dL_acts_709 (lv_at hl 2 rfl) ?_
    refine lv_iload hx hb dL_acts_711 (lv_at hl 6 rfl) ?_
    refine lv_icmp_ge (tgt := 720) hx hb dL_acts_713 (by decide) (fun c_5 => ?_) (fun c_5 => ?_)
    · refine lv_iconst (v := 0) hx hb dL_acts_720 (by decide) ?_
      refine lv_istore (lv' := [(12, .int 0), (11, .int v), (10, .int who), (9, .int i), (8, .int k), (7, .int (zX3_total (Ω 0) 3)), (6, .int (zX3_total (Ω 0) 2)), (5, .int (zX3_total (Ω 0) 1)), (4, .int (zX3_total (Ω 0) 0)), (3, .int how), (2, .int y2), (1, .int x2), (0, .ref (ob 0))]) hx hb dL_acts_721 hl (by decide) rfl (fun ls hl => ?_)
      refine lv_iload hx hb dL_acts_723 (lv_at hl 0 rfl) ?_
      refine lv_if_eq (tgt := 769) hx hb dL_acts_725 (by decide) (fun _ => ?_) (fun c_6 => absurd (by decide) c_6)
      refine lv_iconst (v := 0) hx hb dL_acts_769 (by decide) ?_
      refine lv_istore (lv' := [(13, .int 0), (12, .int 0), (11, .int v), (10, .int who), (9, .int i), (8, .int k), (7, .int (zX3_total (Ω 0) 3)), (6, .int (zX3_total (Ω 0) 2)), (5, .int (zX3_total (Ω 0) 1)), (4, .int (zX3_total (Ω 0) 0)), (3, .int how), (2, .int y2), (1, .int x2), (0, .ref (ob 0))]) hx hb dL_acts_770 hl (by decide) rfl (fun ls hl => ?_)
      refine lv_aload_n hx hb dL_acts_772 rfl (lv_at hl 13 rfl) ?_
      refine lv_iload hx hb dL_acts_773 (lv_at hl 2 rfl) ?_
      refine lv_iload hx hb dL_acts_775 (lv_at hl 4 rfl) ?_
      refine kX7_take hF (cwV 2 hts gL_acts_X7_take rfl rfl rfl hdX7_take ⟨Nat.le_of_ble_eq_true rfl, Nat.le_of_ble_eq_true rfl⟩) hC hY hJ hOk hS (fun _ h => h) hl.1 (Nat.le_of_ble_eq_true rfl) dL_acts_777 ⟨Nat.zero_le _, Nat.zero_le _⟩ (fun H locs hY _ _ hS => ?_)
      have hI : InvO ((zX7_take Ω v i).2) := (pub_take hI v i).2.1
      have hOk := hI.1
      refine lv_istore (lv' := [(14, .int ((zX7_take Ω v i).1)), (13, .int 0), (12, .int 0), (11, .int v), (10, .int who), (9, .int i), (8, .int k), (7, .int (zX3_total (Ω 0) 3)), (6, .int (zX3_total (Ω 0) 2)), (5, .int (zX3_total (Ω 0) 1)), (4, .int (zX3_total (Ω 0) 0)), (3, .int how), (2, .int y2), (1, .int x2), (0, .ref (ob 0))]) hx hb dL_acts_780 hl (by decide) rfl (fun ls hl => ?_)
      refine lv_iload hx hb dL_acts_782 (lv_at hl 2 rfl) ?_
      refine lv_if_ne (tgt := 801) hx hb dL_acts_784 (by decide) (fun c_7 => absurd c_7 (by decide)) (fun _ => ?_)
      refine lv_iload hx hb dL_acts_787 (lv_at hl 0 rfl) ?_
      refine lv_iconst (v := (-1)) hx hb dL_acts_789 (by decide) ?_
      refine lv_icmp_ne (tgt := 797) hx hb dL_acts_790 (by decide) (fun c_8 => ?_) (fun c_8 => ?_)
      · refine lv_iconst (v := 0) hx hb dL_acts_797 (by decide) ?_
        refine lv_goto (tgt := 856) hx hb dL_acts_798 (by decide) ?_
        have e9 : (zA_take Ω y2 k i who v) = ((0 : Int32), (zX7_take Ω v i).2) := by unfold zA_take; rw [if_neg c_1, if_pos c_5, if_neg c_8]
        have hz := rd3 (act_take hI0 hk hi hw hv y2) e9
        exact W.zret (v := 0) hx hb hr (by decide) (fun t ht hW => ⟨⟨0, (zX7_take Ω v i).2, rfl, hz, by dsimp only; rw [ht]; exact hY⟩, hS.F ht⟩) hS.2.2 dL_acts_856
      · refine lv_iconst (v := 1) hx hb dL_acts_793 (by decide) ?_
        refine lv_goto (tgt := 856) hx hb dL_acts_794 (by decide) ?_
        have e9 : (zA_take Ω y2 k i who v) = ((1 : Int32), (zX7_take Ω v i).2) := by unfold zA_take; rw [if_neg c_1, if_pos c_5, if_pos c_8]
        have hz := rd3 (act_take hI0 hk hi hw hv y2) e9
        exact W.zret (v := 1) hx hb hr (by decide) (fun t ht hW => ⟨⟨1, (zX7_take Ω v i).2, rfl, hz, by dsimp only; rw [ht]; exact hY⟩, hS.F ht⟩) hS.2.2 dL_acts_856
    · refine lv_iconst (v := 1) hx hb dL_acts_716 (by decide) ?_
      refine lv_goto (tgt := 721) hx hb dL_acts_717 (by decide) ?_
      refine lv_istore (lv' := [(12, .int 1), (11, .int v), (10, .int who), (9, .int i), (8, .int k), (7, .int (zX3_total (Ω 0) 3)), (6, .int (zX3_total (Ω 0) 2)), (5, .int (zX3_total (Ω 0) 1)), (4, .int (zX3_total (Ω 0) 0)), (3, .int how), (2, .int y2), (1, .int x2), (0, .ref (ob 0))]) hx hb dL_acts_721 hl (by decide) rfl (fun ls hl => ?_)
      refine lv_iload hx hb dL_acts_723 (lv_at hl 0 rfl) ?_
      refine lv_if_eq (tgt := 769) hx hb dL_acts_725 (by decide) (fun c_9 => absurd c_9 (by decide)) (fun _ => ?_)
      refine lv_aload_n hx hb dL_acts_728 rfl (lv_at hl 12 rfl) ?_
      refine lv_iload hx hb dL_acts_729 (lv_at hl 1 rfl) ?_
      refine lv_iconst (v := 3) hx hb dL_acts_731 (by decide) ?_
      refine rX7_volunteerOf hF (cwV 2 hts gL_acts_X7_volunteerOf rfl rfl rfl hdX7_volunteerOf ⟨Nat.le_of_ble_eq_true rfl, Nat.le_of_ble_eq_true rfl⟩) hC hY hJ hOk hS (fun _ h => h) hl.1 (Nat.le_of_ble_eq_true rfl) dL_acts_732 ⟨Nat.zero_le _, Nat.zero_le _⟩ (fun H locs hY _ _ hS => ?_)
      refine lv_if_ne (tgt := 769) hx hb dL_acts_735 (by decide) (fun c_10 => ?_) (fun c_10 => ?_)
      · refine lv_iconst (v := 0) hx hb dL_acts_769 (by decide) ?_
        refine lv_istore (lv' := [(13, .int 0), (12, .int 1), (11, .int v), (10, .int who), (9, .int i), (8, .int k), (7, .int (zX3_total (Ω 0) 3)), (6, .int (zX3_total (Ω 0) 2)), (5, .int (zX3_total (Ω 0) 1)), (4, .int (zX3_total (Ω 0) 0)), (3, .int how), (2, .int y2), (1, .int x2), (0, .ref (ob 0))]) hx hb dL_acts_770 hl (by decide) rfl (fun ls hl => ?_)
        refine lv_aload_n hx hb dL_acts_772 rfl (lv_at hl 13 rfl) ?_
        refine lv_iload hx hb dL_acts_773 (lv_at hl 2 rfl) ?_
        refine lv_iload hx hb dL_acts_775 (lv_at hl 4 rfl) ?_
        refine kX7_take hF (cwV 2 hts gL_acts_X7_take rfl rfl rfl hdX7_take ⟨Nat.le_of_ble_eq_true rfl, Nat.le_of_ble_eq_true rfl⟩) hC hY hJ hOk hS (fun _ h => h) hl.1 (Nat.le_of_ble_eq_true rfl) dL_acts_777 ⟨Nat.zero_le _, Nat.zero_le _⟩ (fun H locs hY _ _ hS => ?_)
        have hI : InvO ((zX7_take Ω v i).2) := (pub_take hI v i).2.1
        have hOk := hI.1
        refine lv_istore (lv' := [(14, .int ((zX7_take Ω v i).1)), (13, .int 0), (12, .int 1), (11, .int v), (10, .int who), (9, .int i), (8, .int k), (7, .int (zX3_total (Ω 0) 3)), (6, .int (zX3_total (Ω 0) 2)), (5, .int (zX3_total (Ω 0) 1)), (4, .int (zX3_total (Ω 0) 0)), (3, .int how), (2, .int y2), (1, .int x2), (0, .ref (ob 0))]) hx hb dL_acts_780 hl (by decide) rfl (fun ls hl => ?_)
        refine lv_iload hx hb dL_acts_782 (lv_at hl 2 rfl) ?_
        refine lv_if_ne (tgt := 801) hx hb dL_acts_784 (by decide) (fun _ => ?_) (fun c_11 => absurd c_11 (by decide))
        refine lv_iload hx hb dL_acts_801 (lv_at hl 0 rfl) ?_
        refine lv_if_ge (tgt := 821) hx hb dL_acts_803 (by decide) (fun c_12 => ?_) (fun c_12 => ?_)
        · refine lv_iload hx hb dL_acts_821 (lv_at hl 1 rfl) ?_
          refine lv_if_eq (tgt := 855) hx hb dL_acts_823 (by decide) (fun _ => ?_) (fun c_13 => absurd (by decide) c_13)
          refine lv_iconst (v := 0) hx hb dL_acts_855 (by decide) ?_
          have e9 : (zA_take Ω y2 k i who v) = ((0 : Int32), (zX7_take Ω v i).2) := by unfold zA_take; rw [if_neg c_1, if_neg c_5, if_neg c_10, if_pos c_12]
          have hz := rd3 (act_take hI0 hk hi hw hv y2) e9
          exact W.zret (v := 0) hx hb hr (by decide) (fun t ht hW => ⟨⟨0, (zX7_take Ω v i).2, rfl, hz, by dsimp only; rw [ht]; exact hY⟩, hS.F ht⟩) hS.2.2 dL_acts_856
        · refine lv_iload hx hb dL_acts_806 (lv_at hl 0 rfl) ?_
          refine lv_bipush (v := (-2)) hx hb dL_acts_808 (by decide) ?_
          refine lv_icmp_ne (tgt := 817) hx hb dL_acts_810 (by decide) (fun c_14 => ?_) (fun c_14 => ?_)
          · refine lv_iconst (v := 0) hx hb dL_acts_817 (by decide) ?_
            refine lv_goto (tgt := 856) hx hb dL_acts_818 (by decide) ?_
            have e9 : (zA_take Ω y2 k i who v) = ((0 : Int32), (zX7_take Ω v i).2) := by unfold zA_take; rw [if_neg c_1, if_neg c_5, if_neg c_10, if_neg c_12, if_neg c_14]
            have hz := rd3 (act_take hI0 hk hi hw hv y2) e9
            exact W.zret (v := 0) hx hb hr (by decide) (fun t ht hW => ⟨⟨0, (zX7_take Ω v i).2, rfl, hz, by dsimp only; rw [ht]; exact hY⟩, hS.F ht⟩) hS.2.2 dL_acts_856
          · refine lv_iconst (v := 1) hx hb dL_acts_813 (by decide) ?_
            refine lv_goto (tgt := 856) hx hb dL_acts_814 (by decide) ?_
            have e9 : (zA_take Ω y2 k i who v) = ((1 : Int32), (zX7_take Ω v i).2) := by unfold zA_take; rw [if_neg c_1, if_neg c_5, if_neg c_10, if_neg c_12, if_pos c_14]
            have hz := rd3 (act_take hI0 hk hi hw hv y2) e9
            exact W.zret (v := 1) hx hb hr (by decide) (fun t ht hW => ⟨⟨1, (zX7_take Ω v i).2, rfl, hz, by dsimp only; rw [ht]; exact hY⟩, hS.F ht⟩) hS.2.2 dL_acts_856
      · refine lv_aload_n hx hb dL_acts_738 rfl (lv_at hl 12 rfl) ?_
        refine lv_iload hx hb dL_acts_739 (lv_at hl 3 rfl) ?_
        refine lv_iconst (v := 0) hx hb dL_acts_741 (by decide) ?_
        refine rX7_mealOf hF (cwV 2 hts gL_acts_X7_mealOf rfl rfl rfl hdX7_mealOf ⟨Nat.le_of_ble_eq_true rfl, Nat.le_of_ble_eq_true rfl⟩) hC hY hJ hOk hS (fun _ h => h) hl.1 (Nat.le_of_ble_eq_true rfl) dL_acts_742 ⟨Nat.zero_le _, Nat.zero_le _⟩ (fun H locs hY _ _ hS => ?_)
        refine lv_if_ne (tgt := 769) hx hb dL_acts_745 (by decide) (fun c_15 => ?_) (fun c_15 => ?_)
        · refine lv_iconst (v := 0) hx hb dL_acts_769 (by decide) ?_
          refine lv_istore (lv' := [(13, .int 0), (12, .int 1), (11, .int v), (10, .int who), (9, .int i), (8, .int k), (7, .int (zX3_total (Ω 0) 3)), (6, .int (zX3_total (Ω 0) 2)), (5, .int (zX3_total (Ω 0) 1)), (4, .int (zX3_total (Ω 0) 0)), (3, .int how), (2, .int y2), (1, .int x2), (0, .ref (ob 0))]) hx hb dL_acts_770 hl (by decide) rfl (fun ls hl => ?_)
          refine lv_aload_n hx hb dL_acts_772 rfl (lv_at hl 13 rfl) ?_
          refine lv_iload hx hb dL_acts_773 (lv_at hl 2 rfl) ?_
          refine lv_iload hx hb dL_acts_775 (lv_at hl 4 rfl) ?_
          refine kX7_take hF (cwV 2 hts gL_acts_X7_take rfl rfl rfl hdX7_take ⟨Nat.le_of_ble_eq_true rfl, Nat.le_of_ble_eq_true rfl⟩) hC hY hJ hOk hS (fun _ h => h) hl.1 (Nat.le_of_ble_eq_true rfl) dL_acts_777 ⟨Nat.zero_le _, Nat.zero_le _⟩ (fun H locs hY _ _ hS => ?_)
          have hI : InvO ((zX7_take Ω v i).2) := (pub_take hI v i).2.1
          have hOk := hI.1
          refine lv_istore (lv' := [(14, .int ((zX7_take Ω v i).1)), (13, .int 0), (12, .int 1), (11, .int v), (10, .int who), (9, .int i), (8, .int k), (7, .int (zX3_total (Ω 0) 3)), (6, .int (zX3_total (Ω 0) 2)), (5, .int (zX3_total (Ω 0) 1)), (4, .int (zX3_total (Ω 0) 0)), (3, .int how), (2, .int y2), (1, .int x2), (0, .ref (ob 0))]) hx hb dL_acts_780 hl (by decide) rfl (fun ls hl => ?_)
          refine lv_iload hx hb dL_acts_782 (lv_at hl 2 rfl) ?_
          refine lv_if_ne (tgt := 801) hx hb dL_acts_784 (by decide) (fun _ => ?_) (fun c_16 => absurd c_16 (by decide))
          refine lv_iload hx hb dL_acts_801 (lv_at hl 0 rfl) ?_
          refine lv_if_ge (tgt := 821) hx hb dL_acts_803 (by decide) (fun c_17 => ?_) (fun c_17 => ?_)
          · refine lv_iload hx hb dL_acts_821 (lv_at hl 1 rfl) ?_
            refine lv_if_eq (tgt := 855) hx hb dL_acts_823 (by decide) (fun _ => ?_) (fun c_18 => absurd (by decide) c_18)
            refine lv_iconst (v := 0) hx hb dL_acts_855 (by decide) ?_
            have e9 : (zA_take Ω y2 k i who v) = ((0 : Int32), (zX7_take Ω v i).2) := by unfold zA_take; rw [if_neg c_1, if_neg c_5, if_pos c_10, if_neg c_15, if_pos c_17]
            have hz := rd3 (act_take hI0 hk hi hw hv y2) e9
            exact W.zret (v := 0) hx hb hr (by decide) (fun t ht hW => ⟨⟨0, (zX7_take Ω v i).2, rfl, hz, by dsimp only; rw [ht]; exact hY⟩, hS.F ht⟩) hS.2.2 dL_acts_856
          · refine lv_iload hx hb dL_acts_806 (lv_at hl 0 rfl) ?_
            refine lv_bipush (v := (-2)) hx hb dL_acts_808 (by decide) ?_
            refine lv_icmp_ne (tgt := 817) hx hb dL_acts_810 (by decide) (fun c_19 => ?_) (fun c_19 => ?_)
            · refine lv_iconst (v := 0) hx hb dL_acts_817 (by decide) ?_
              refine lv_goto (tgt := 856) hx hb dL_acts_818 (by decide) ?_
              have e9 : (zA_take Ω y2 k i who v) = ((0 : Int32), (zX7_take Ω v i).2) := by unfold zA_take; rw [if_neg c_1, if_neg c_5, if_pos c_10, if_neg c_15, if_neg c_17, if_neg c_19]
              have hz := rd3 (act_take hI0 hk hi hw hv y2) e9
              exact W.zret (v := 0) hx hb hr (by decide) (fun t ht hW => ⟨⟨0, (zX7_take Ω v i).2, rfl, hz, by dsimp only; rw [ht]; exact hY⟩, hS.F ht⟩) hS.2.2 dL_acts_856
            · refine lv_iconst (v := 1) hx hb dL_acts_813 (by decide) ?_
              refine lv_goto (tgt := 856) hx hb dL_acts_814 (by decide) ?_
              have e9 : (zA_take Ω y2 k i who v) = ((1 : Int32), (zX7_take Ω v i).2) := by unfold zA_take; rw [if_neg c_1, if_neg c_5, if_pos c_10, if_neg c_15, if_neg c_17, if_pos c_19]
              have hz := rd3 (act_take hI0 hk hi hw hv y2) e9
              exact W.zret (v := 1) hx hb hr (by decide) (fun t ht hW => ⟨⟨1, (zX7_take Ω v i).2, rfl, hz, by dsimp only; rw [ht]; exact hY⟩, hS.F ht⟩) hS.2.2 dL_acts_856
        · refine lv_aload_n hx hb dL_acts_748 rfl (lv_at hl 12 rfl) ?_
          refine lv_iload hx hb dL_acts_749 (lv_at hl 3 rfl) ?_
          refine lv_iconst (v := 1) hx hb dL_acts_751 (by decide) ?_
          refine rX7_mealOf hF (cwV 2 hts gL_acts_X7_mealOf rfl rfl rfl hdX7_mealOf ⟨Nat.le_of_ble_eq_true rfl, Nat.le_of_ble_eq_true rfl⟩) hC hY hJ hOk hS (fun _ h => h) hl.1 (Nat.le_of_ble_eq_true rfl) dL_acts_752 ⟨Nat.zero_le _, Nat.zero_le _⟩ (fun H locs hY _ _ hS => ?_)
          refine lv_aload_n hx hb dL_acts_755 rfl (lv_at hl 12 rfl) ?_
          refine lv_iload hx hb dL_acts_756 (lv_at hl 1 rfl) ?_
          refine lv_iconst (v := 1) hx hb dL_acts_758 (by decide) ?_
          refine rX7_volunteerOf hF (cwV 2 hts gL_acts_X7_volunteerOf rfl rfl rfl hdX7_volunteerOf ⟨Nat.le_of_ble_eq_true rfl, Nat.le_of_ble_eq_true rfl⟩) hC hY hJ hOk hS (fun _ h => h) hl.1 (Nat.le_of_ble_eq_true rfl) dL_acts_759 ⟨Nat.zero_le _, Nat.zero_le _⟩ (fun H locs hY _ _ hS => ?_)
          refine lv_icmp_ne (tgt := 769) hx hb dL_acts_762 (by decide) (fun c_20 => ?_) (fun c_20 => ?_)
          · refine lv_iconst (v := 0) hx hb dL_acts_769 (by decide) ?_
            refine lv_istore (lv' := [(13, .int 0), (12, .int 1), (11, .int v), (10, .int who), (9, .int i), (8, .int k), (7, .int (zX3_total (Ω 0) 3)), (6, .int (zX3_total (Ω 0) 2)), (5, .int (zX3_total (Ω 0) 1)), (4, .int (zX3_total (Ω 0) 0)), (3, .int how), (2, .int y2), (1, .int x2), (0, .ref (ob 0))]) hx hb dL_acts_770 hl (by decide) rfl (fun ls hl => ?_)
            refine lv_aload_n hx hb dL_acts_772 rfl (lv_at hl 13 rfl) ?_
            refine lv_iload hx hb dL_acts_773 (lv_at hl 2 rfl) ?_
            refine lv_iload hx hb dL_acts_775 (lv_at hl 4 rfl) ?_
            refine kX7_take hF (cwV 2 hts gL_acts_X7_take rfl rfl rfl hdX7_take ⟨Nat.le_of_ble_eq_true rfl, Nat.le_of_ble_eq_true rfl⟩) hC hY hJ hOk hS (fun _ h => h) hl.1 (Nat.le_of_ble_eq_true rfl) dL_acts_777 ⟨Nat.zero_le _, Nat.zero_le _⟩ (fun H locs hY _ _ hS => ?_)
            have hI : InvO ((zX7_take Ω v i).2) := (pub_take hI v i).2.1
            have hOk := hI.1
            refine lv_istore (lv' := [(14, .int ((zX7_take Ω v i).1)), (13, .int 0), (12, .int 1), (11, .int v), (10, .int who), (9, .int i), (8, .int k), (7, .int (zX3_total (Ω 0) 3)), (6, .int (zX3_total (Ω 0) 2)), (5, .int (zX3_total (Ω 0) 1)), (4, .int (zX3_total (Ω 0) 0)), (3, .int how), (2, .int y2), (1, .int x2), (0, .ref (ob 0))]) hx hb dL_acts_780 hl (by decide) rfl (fun ls hl => ?_)
            refine lv_iload hx hb dL_acts_782 (lv_at hl 2 rfl) ?_
            refine lv_if_ne (tgt := 801) hx hb dL_acts_784 (by decide) (fun _ => ?_) (fun c_21 => absurd c_21 (by decide))
            refine lv_iload hx hb dL_acts_801 (lv_at hl 0 rfl) ?_
            refine lv_if_ge (tgt := 821) hx hb dL_acts_803 (by decide) (fun c_22 => ?_) (fun c_22 => ?_)
            · refine lv_iload hx hb dL_acts_821 (lv_at hl 1 rfl) ?_
              refine lv_if_eq (tgt := 855) hx hb dL_acts_823 (by decide) (fun _ => ?_) (fun c_23 => absurd (by decide) c_23)
              refine lv_iconst (v := 0) hx hb dL_acts_855 (by decide) ?_
              have e9 : (zA_take Ω y2 k i who v) = ((0 : Int32), (zX7_take Ω v i).2) := by unfold zA_take; rw [if_neg c_1, if_neg c_5, if_pos c_10, if_pos c_15, if_neg c_20, if_pos c_22]
              have hz := rd3 (act_take hI0 hk hi hw hv y2) e9
              exact W.zret (v := 0) hx hb hr (by decide) (fun t ht hW => ⟨⟨0, (zX7_take Ω v i).2, rfl, hz, by dsimp only; rw [ht]; exact hY⟩, hS.F ht⟩) hS.2.2 dL_acts_856
            · refine lv_iload hx hb dL_acts_806 (lv_at hl 0 rfl) ?_
              refine lv_bipush (v := (-2)) hx hb dL_acts_808 (by decide) ?_
              refine lv_icmp_ne (tgt := 817) hx hb dL_acts_810 (by decide) (fun c_24 => ?_) (fun c_24 => ?_)
              · refine lv_iconst (v := 0) hx hb dL_acts_817 (by decide) ?_
                refine lv_goto (tgt := 856) hx hb dL_acts_818 (by decide) ?_
                have e9 : (zA_take Ω y2 k i who v) = ((0 : Int32), (zX7_take Ω v i).2) := by unfold zA_take; rw [if_neg c_1, if_neg c_5, if_pos c_10, if_pos c_15, if_neg c_20, if_neg c_22, if_neg c_24]
                have hz := rd3 (act_take hI0 hk hi hw hv y2) e9
                exact W.zret (v := 0) hx hb hr (by decide) (fun t ht hW => ⟨⟨0, (zX7_take Ω v i).2, rfl, hz, by dsimp only; rw [ht]; exact hY⟩, hS.F ht⟩) hS.2.2 dL_acts_856
              · refine lv_iconst (v := 1) hx hb dL_acts_813 (by decide) ?_
                refine lv_goto (tgt := 856) hx hb dL_acts_814 (by decide) ?_
                have e9 : (zA_take Ω y2 k i who v) = ((1 : Int32), (zX7_take Ω v i).2) := by unfold zA_take; rw [if_neg c_1, if_neg c_5, if_pos c_10, if_pos c_15, if_neg c_20, if_neg c_22, if_pos c_24]
                have hz := rd3 (act_take hI0 hk hi hw hv y2) e9
                exact W.zret (v := 1) hx hb hr (by decide) (fun t ht hW => ⟨⟨1, (zX7_take Ω v i).2, rfl, hz, by dsimp only; rw [ht]; exact hY⟩, hS.F ht⟩) hS.2.2 dL_acts_856
          · refine lv_iconst (v := 1) hx hb dL_acts_765 (by decide) ?_
            refine lv_goto (tgt := 770) hx hb dL_acts_766 (by decide) ?_
            refine lv_istore (lv' := [(13, .int 1), (12, .int 1), (11, .int v), (10, .int who), (9, .int i), (8, .int k), (7, .int (zX3_total (Ω 0) 3)), (6, .int (zX3_total (Ω 0) 2)), (5, .int (zX3_total (Ω 0) 1)), (4, .int (zX3_total (Ω 0) 0)), (3, .int how), (2, .int y2), (1, .int x2), (0, .ref (ob 0))]) hx hb dL_acts_770 hl (by decide) rfl (fun ls hl => ?_)
            refine lv_aload_n hx hb dL_acts_772 rfl (lv_at hl 13 rfl) ?_
            refine lv_iload hx hb dL_acts_773 (lv_at hl 2 rfl) ?_
            refine lv_iload hx hb dL_acts_775 (lv_at hl 4 rfl) ?_
            refine kX7_take hF (cwV 2 hts gL_acts_X7_take rfl rfl rfl hdX7_take ⟨Nat.le_of_ble_eq_true rfl, Nat.le_of_ble_eq_true rfl⟩) hC hY hJ hOk hS (fun _ h => h) hl.1 (Nat.le_of_ble_eq_true rfl) dL_acts_777 ⟨Nat.zero_le _, Nat.zero_le _⟩ (fun H locs hY _ _ hS => ?_)
            have hI : InvO ((zX7_take Ω v i).2) := (pub_take hI v i).2.1
            have hOk := hI.1
            refine lv_istore (lv' := [(14, .int ((zX7_take Ω v i).1)), (13, .int 1), (12, .int 1), (11, .int v), (10, .int who), (9, .int i), (8, .int k), (7, .int (zX3_total (Ω 0) 3)), (6, .int (zX3_total (Ω 0) 2)), (5, .int (zX3_total (Ω 0) 1)), (4, .int (zX3_total (Ω 0) 0)), (3, .int how), (2, .int y2), (1, .int x2), (0, .ref (ob 0))]) hx hb dL_acts_780 hl (by decide) rfl (fun ls hl => ?_)
            refine lv_iload hx hb dL_acts_782 (lv_at hl 2 rfl) ?_
            refine lv_if_ne (tgt := 801) hx hb dL_acts_784 (by decide) (fun _ => ?_) (fun c_25 => absurd c_25 (by decide))
            refine lv_iload hx hb dL_acts_801 (lv_at hl 0 rfl) ?_
            refine lv_if_ge (tgt := 821) hx hb dL_acts_803 (by decide) (fun c_26 => ?_) (fun c_26 => ?_)
            · refine lv_iload hx hb dL_acts_821 (lv_at hl 1 rfl) ?_
              refine lv_if_eq (tgt := 855) hx hb dL_acts_823 (by decide) (fun c_27 => absurd c_27 (by decide)) (fun _ => ?_)
              refine lv_iload hx hb dL_acts_826 (lv_at hl 0 rfl) ?_
              refine lv_aload_n hx hb dL_acts_828 rfl (lv_at hl 14 rfl) ?_
              refine lv_iload hx hb dL_acts_829 (lv_at hl 3 rfl) ?_
              refine lv_iconst (v := 0) hx hb dL_acts_831 (by decide) ?_
              refine rX7_volunteerOf hF (cwV 2 hts gL_acts_X7_volunteerOf rfl rfl rfl hdX7_volunteerOf ⟨Nat.le_of_ble_eq_true rfl, Nat.le_of_ble_eq_true rfl⟩) hC hY hJ hOk hS (fun _ h => h) hl.1 (Nat.le_of_ble_eq_true rfl) dL_acts_832 ⟨Nat.zero_le _, Nat.zero_le _⟩ (fun H locs hY _ _ hS => ?_)
              refine lv_icmp_gt (tgt := 855) hx hb dL_acts_835 (by decide) (fun c_28 => ?_) (fun c_28 => ?_)
              · refine lv_iconst (v := 0) hx hb dL_acts_855 (by decide) ?_
                have e9 : (zA_take Ω y2 k i who v) = ((0 : Int32), (zX7_take Ω v i).2) := by unfold zA_take; rw [if_neg c_1, if_neg c_5, if_pos c_10, if_pos c_15, if_pos c_20, if_pos c_26, if_pos c_28]
                have hz := rd3 (act_take hI0 hk hi hw hv y2) e9
                exact W.zret (v := 0) hx hb hr (by decide) (fun t ht hW => ⟨⟨0, (zX7_take Ω v i).2, rfl, hz, by dsimp only; rw [ht]; exact hY⟩, hS.F ht⟩) hS.2.2 dL_acts_856
              · refine lv_aload_n hx hb dL_acts_838 rfl (lv_at hl 14 rfl) ?_
                refine lv_iload hx hb dL_acts_839 (lv_at hl 5 rfl) ?_
                refine lv_bipush (v := 6) hx hb dL_acts_841 (by decide) ?_
                refine rX7_mealOf hF (cwV 2 hts gL_acts_X7_mealOf rfl rfl rfl hdX7_mealOf ⟨Nat.le_of_ble_eq_true rfl, Nat.le_of_ble_eq_true rfl⟩) hC hY hJ hOk hS (fun _ h => h) hl.1 (Nat.le_of_ble_eq_true rfl) dL_acts_843 ⟨Nat.zero_le _, Nat.zero_le _⟩ (fun H locs hY _ _ hS => ?_)
                refine lv_iload hx hb dL_acts_846 (lv_at hl 3 rfl) ?_
                refine lv_icmp_ne (tgt := 855) hx hb dL_acts_848 (by decide) (fun c_29 => ?_) (fun c_29 => ?_)
                · refine lv_iconst (v := 0) hx hb dL_acts_855 (by decide) ?_
                  have e9 : (zA_take Ω y2 k i who v) = ((0 : Int32), (zX7_take Ω v i).2) := by unfold zA_take; rw [if_neg c_1, if_neg c_5, if_pos c_10, if_pos c_15, if_pos c_20, if_pos c_26, if_neg c_28, if_neg c_29]
                  have hz := rd3 (act_take hI0 hk hi hw hv y2) e9
                  exact W.zret (v := 0) hx hb hr (by decide) (fun t ht hW => ⟨⟨0, (zX7_take Ω v i).2, rfl, hz, by dsimp only; rw [ht]; exact hY⟩, hS.F ht⟩) hS.2.2 dL_acts_856
                · refine lv_iconst (v := 1) hx hb dL_acts_851 (by decide) ?_
                  refine lv_goto (tgt := 856) hx hb dL_acts_852 (by decide) ?_
                  have e9 : (zA_take Ω y2 k i who v) = ((1 : Int32), (zX7_take Ω v i).2) := by unfold zA_take; rw [if_neg c_1, if_neg c_5, if_pos c_10, if_pos c_15, if_pos c_20, if_pos c_26, if_neg c_28, if_pos c_29]
                  have hz := rd3 (act_take hI0 hk hi hw hv y2) e9
                  exact W.zret (v := 1) hx hb hr (by decide) (fun t ht hW => ⟨⟨1, (zX7_take Ω v i).2, rfl, hz, by dsimp only; rw [ht]; exact hY⟩, hS.F ht⟩) hS.2.2 dL_acts_856
            · refine lv_iload hx hb dL_acts_806 (lv_at hl 0 rfl) ?_
              refine lv_bipush (v := (-2)) hx hb dL_acts_808 (by decide) ?_
              refine lv_icmp_ne (tgt := 817) hx hb dL_acts_810 (by decide) (fun c_30 => ?_) (fun c_30 => ?_)
              · refine lv_iconst (v := 0) hx hb dL_acts_817 (by decide) ?_
                refine lv_goto (tgt := 856) hx hb dL_acts_818 (by decide) ?_
                have e9 : (zA_take Ω y2 k i who v) = ((0 : Int32), (zX7_take Ω v i).2) := by unfold zA_take; rw [if_neg c_1, if_neg c_5, if_pos c_10, if_pos c_15, if_pos c_20, if_neg c_26, if_neg c_30]
                have hz := rd3 (act_take hI0 hk hi hw hv y2) e9
                exact W.zret (v := 0) hx hb hr (by decide) (fun t ht hW => ⟨⟨0, (zX7_take Ω v i).2, rfl, hz, by dsimp only; rw [ht]; exact hY⟩, hS.F ht⟩) hS.2.2 dL_acts_856
              · refine lv_iconst (v := 1) hx hb dL_acts_813 (by decide) ?_
                refine lv_goto (tgt := 856) hx hb dL_acts_814 (by decide) ?_
                have e9 : (zA_take Ω y2 k i who v) = ((1 : Int32), (zX7_take Ω v i).2) := by unfold zA_take; rw [if_neg c_1, if_neg c_5, if_pos c_10, if_pos c_15, if_pos c_20, if_neg c_26, if_pos c_30]
                have hz := rd3 (act_take hI0 hk hi hw hv y2) e9
                exact W.zret (v := 1) hx hb hr (by decide) (fun t ht hW => ⟨⟨1, (zX7_take Ω v i).2, rfl, hz, by dsimp only; rw [ht]; exact hY⟩, hS.F ht⟩) hS.2.2 dL_acts_856
set_option maxHeartbeats 4000000 in
set_option maxRecDepth 100000 in
theorem ba_go {p : Program} {l : Launch} {e : Env} {s : State} {m : MethodId} {args : Array Value} {below : List Frame} {meth : Method} {c : Code} {D : va_G} {y : Y3} {n0 tM tF : Nat} {ob : Nat → Nat} {AD : Nat → Nat → Nat} {Ω : Og} {y2 x2 how k i who v : Int32} (hx : p.tables.exec = Jvm.exec) (hb : c.code = cL_acts) (hml : c.maxLocals = 16) (hown : s.vm.findClass RL = some m.cls) (hts : ∀ w ∈ wsL_acts, w.before args s = true) (hr : meth.sig.returnType = some .boolean) (hlocks : meth.locks = false) (hC : CK D y s) (hJ : sysJ ob AD) (hI : InvO Ω) (hZs : STM n0 tM tF s s.heap) (hn0 : ∀ q, sysA ob AD q → n0 ≤ q) (hk : KB Ω 0 k) (hi : KB Ω 1 i) (hw : KB Ω 2 who) (hv : KB Ω 3 v) {H : Heap} {locs : List Loc} (hY : SysH D y ob AD Ω H) (hS : va_S (sysA ob AD) s.heap H locs) (ls : Array Slot) (hl : lv_has ls 16 [(11, .int v), (10, .int who), (9, .int i), (8, .int k), (7, .int (zX3_total (Ω 0) 3)), (6, .int (zX3_total (Ω 0) 2)), (5, .int (zX3_total (Ω 0) 1)), (4, .int (zX3_total (Ω 0) 0)), (3, .int how), (2, .int y2), (1, .int x2), (0, .ref (ob 0))]) : W p l e (headSpec wsL_acts ({ frames := 9, cells := 0, slots := 0, locals := 207 } : Room)).room s m args below meth c H locs 0 0 (MQ below (va_Qi (fun (r : Int32) (u : Og) => (r = 1 ∧ InvO u ∧ HSt Ω u)) (fun u t => SysH D y ob AD u t.heap) (sysA ob AD)) args s 0 0 (sysA ob AD)) (F0 m 863 ls []) := by
  have hF := (⟨hx, hb, hml, hown, hts⟩ : CallFix p m c cL_acts 16 s args wsL_acts RL)
  have hI0 := hI
  have hOk := hI.1
  refine lv_iload hx hb dL_acts_863 (lv_at hl 0 rfl) ?_
  refine lv_iload hx hb dL_acts_865 (lv_at hl 4 rfl) ?_
  refine lv_icmp_ge (tgt := 881) hx hb dL_acts_867 (by decide) (fun c_1 => ?_) (fun c_1 => ?_)
  · refine lv_iconst (v := 0) hx hb dL_acts_881 (by decide) ?_
    refine lv_istore (lv' := [(12, .int 0), (11, .int v), (10, .int who), (9, .int i), (8, .int k), (7, .int (zX3_total (Ω 0) 3)), (6, .int (zX3_total (Ω 0) 2)), (5, .int (zX3_total (Ω 0) 1)), (4, .int (zX3_total (Ω 0) 0)), (3, .int how), (2, .int y2), (1, .int x2), (0, .ref (ob 0))]) hx hb dL_acts_882 hl (by decide) rfl (fun ls hl => ?_)
    refine lv_iload hx hb dL_acts_884 (lv_at hl 0 rfl) ?_
    refine lv_if_eq (tgt := 915) hx hb dL_acts_886 (by decide) (fun _ => ?_) (fun c_2 => absurd (by decide) c_2)
    refine lv_iconst (v := 0) hx hb dL_acts_915 (by decide) ?_
    refine lv_istore (lv' := [(13, .int 0), (12, .int 0), (11, .int v), (10, .int who), (9, .int i), (8, .int k), (7, .int (zX3_total (Ω 0) 3)), (6, .int (zX3_total (Ω 0) 2)), (5, .int (zX3_total (Ω 0) 1)), (4, .int (zX3_total (Ω 0) 0)), (3, .int how), (2, .int y2), (1, .int x2), (0, .ref (ob 0))]) hx hb dL_acts_916 hl (by decide) rfl (fun ls hl => ?_)
    refine lv_aload_n hx hb dL_acts_918 rfl (lv_at hl 13 rfl) ?_
    refine lv_iload hx hb dL_acts_919 (lv_at hl 2 rfl) ?_
    refine lv_iload hx hb dL_acts_921 (lv_at hl 5 rfl) ?_
    refine kX7_go hF (cwV 2 hts gL_acts_X7_go rfl rfl rfl hdX7_go ⟨Nat.le_of_ble_eq_true rfl, Nat.le_of_ble_eq_true rfl⟩) hC hY hJ hOk hS (fun _ h => h) hl.1 (Nat.le_of_ble_eq_true rfl) dL_acts_923 ⟨Nat.zero_le _, Nat.zero_le _⟩ (fun H locs hY _ _ hS => ?_)
    have hI : InvO ((zX7_go Ω v k).2) := (pub_go hI v k).2.1
    have hOk := hI.1
    refine lv_istore (lv' := [(14, .int ((zX7_go Ω v k).1)), (13, .int 0), (12, .int 0), (11, .int v), (10, .int who), (9, .int i), (8, .int k), (7, .int (zX3_total (Ω 0) 3)), (6, .int (zX3_total (Ω 0) 2)), (5, .int (zX3_total (Ω 0) 1)), (4, .int (zX3_total (Ω 0) 0)), (3, .int how), (2, .int y2), (1, .int x2), (0, .ref (ob 0))]) hx hb dL_acts_926 hl (by decide) rfl (fun ls hl => ?_)
    refine lv_iload hx hb dL_acts_928 (lv_at hl 0 rfl) ?_
    refine lv_iload hx hb dL_acts_930 (lv_at hl 2 rfl) ?_
    refine lv_if_ne (tgt := 939) hx hb dL_acts_932 (by decide) (fun c_3 => absurd c_3 (by decide)) (fun _ => ?_)
    refine lv_iconst (v := (-1)) hx hb dL_acts_935 (by decide) ?_
    refine lv_goto (tgt := 962) hx hb dL_acts_936 (by decide) ?_
    refine lv_icmp_ne (tgt := 969) hx hb dL_acts_962 (by decide) (fun c_4 => ?_) (fun c_4 => ?_)
    · refine lv_iconst (v := 0) hx hb dL_acts_969 (by decide) ?_
      have e9 : (zA_go Ω y2 k i who v) = ((0 : Int32), (zX7_go Ω v k).2) := by unfold zA_go; rw [if_pos c_1, if_neg c_4]
      have hz := rd3 (act_go hI0 hk hi hw hv y2) e9
      exact W.zret (v := 0) hx hb hr (by decide) (fun t ht hW => ⟨⟨0, (zX7_go Ω v k).2, rfl, hz, by dsimp only; rw [ht]; exact hY⟩, hS.F ht⟩) hS.2.2 dL_acts_970
    · refine lv_iconst (v := 1) hx hb dL_acts_965 (by decide) ?_
      refine lv_goto (tgt := 970) hx hb dL_acts_966 (by decide) ?_
      have e9 : (zA_go Ω y2 k i who v) = ((1 : Int32), (zX7_go Ω v k).2) := by unfold zA_go; rw [if_pos c_1, if_pos c_4]
      have hz := rd3 (act_go hI0 hk hi hw hv y2) e9
      exact W.zret (v := 1) hx hb hr (by decide) (fun t ht hW => ⟨⟨1, (zX7_go Ω v k).2, rfl, hz, by dsimp only; rw [ht]; exact hY⟩, hS.F ht⟩) hS.2.2 dL_acts_970
  · refine lv_iload hx hb dL_acts_870 (lv_at hl 3 rfl) ?_
    refine lv_iload hx hb dL_acts_872 (lv_at hl 7 rfl) ?_
    refine lv_icmp_ge (tgt := 881) hx hb dL_acts_874 (by decide) (fun c_5 => ?_) (fun c_5 => ?_)
    · refine lv_iconst (v := 0) hx hb dL_acts_881 (by decide) ?_
      refine lv_istore (lv' := [(12, .int 0), (11, .int v), (10, .int who), (9, .int i), (8, .int k), (7, .int (zX3_total (Ω 0) 3)), (6, .int (zX3_total (Ω 0) 2)), (5, .int (zX3_total (Ω 0) 1)), (4, .int (zX3_total (Ω 0) 0)), (3, .int how), (2, .int y2), (1, .int x2), (0, .ref (ob 0))]) hx hb dL_acts_882 hl (by decide) rfl (fun ls hl => ?_)
      refine lv_iload hx hb dL_acts_884 (lv_at hl 0 rfl) ?_
      refine lv_if_eq (tgt := 915) hx hb dL_acts_886 (by decide) (fun _ => ?_) (fun c_6 => absurd (by decide) c_6)
      refine lv_iconst (v := 0) hx hb dL_acts_915 (by decide) ?_
      refine lv_istore (lv' := [(13, .int 0), (12, .int 0), (11, .int v), (10, .int who), (9, .int i), (8, .int k), (7, .int (zX3_total (Ω 0) 3)), (6, .int (zX3_total (Ω 0) 2)), (5, .int (zX3_total (Ω 0) 1)), (4, .int (zX3_total (Ω 0) 0)), (3, .int how), (2, .int y2), (1, .int x2), (0, .ref (ob 0))]) hx hb dL_acts_916 hl (by decide) rfl (fun ls hl => ?_)
      refine lv_aload_n hx hb dL_acts_918 rfl (lv_at hl 13 rfl) ?_
      refine lv_iload hx hb dL_acts_919 (lv_at hl 2 rfl) ?_
      refine lv_iload hx hb dL_acts_921 (lv_at hl 5 rfl) ?_
      refine kX7_go hF (cwV 2 hts gL_acts_X7_go rfl rfl rfl hdX7_go ⟨Nat.le_of_ble_eq_true rfl, Nat.le_of_ble_eq_true rfl⟩) hC hY hJ hOk hS (fun _ h => h) hl.1 (Nat.le_of_ble_eq_true rfl) dL_acts_923 ⟨Nat.zero_le _, Nat.zero_le _⟩ (fun H locs hY _ _ hS => ?_)
      have hI : InvO ((zX7_go Ω v k).2) := (pub_go hI v k).2.1
      have hOk := hI.1
      refine lv_istore (lv' := [(14, .int ((zX7_go Ω v k).1)), (13, .int 0), (12, .int 0), (11, .int v), (10, .int who), (9, .int i), (8, .int k), (7, .int (zX3_total (Ω 0) 3)), (6, .int (zX3_total (Ω 0) 2)), (5, .int (zX3_total (Ω 0) 1)), (4, .int (zX3_total (Ω 0) 0)), (3, .int how), (2, .int y2), (1, .int x2), (0, .ref (ob 0))]) hx hb dL_acts_926 hl (by decide) rfl (fun ls hl => ?_)
      refine lv_iload hx hb dL_acts_928 (lv_at hl 0 rfl) ?_
      refine lv_iload hx hb dL_acts_930 (lv_at hl 2 rfl) ?_
      refine lv_if_ne (tgt := 939) hx hb dL_acts_932 (by decide) (fun c_7 => absurd c_7 (by decide)) (fun _ => ?_)
      refine lv_iconst (v := (-1)) hx hb dL_acts_935 (by decide) ?_
      refine lv_goto (tgt := 962) hx hb dL_acts_936 (by decide) ?_
      refine lv_icmp_ne (tgt := 969) hx hb dL_acts_962 (by decide) (fun c_8 => ?_) (fun c_8 => ?_)
      · refine lv_iconst (v := 0) hx hb dL_acts_969 (by decide) ?_
        have e9 : (zA_go Ω y2 k i who v) = ((0 : Int32), (zX7_go Ω v k).2) := by unfold zA_go; rw [if_neg c_1, if_pos c_5, if_neg c_8]
        have hz := rd3 (act_go hI0 hk hi hw hv y2) e9
        exact W.zret (v := 0) hx hb hr (by decide) (fun t ht hW => ⟨⟨0, (zX7_go Ω v k).2, rfl, hz, by dsimp only; rw [ht]; exact hY⟩, hS.F ht⟩) hS.2.2 dL_acts_970
      · refine lv_iconst (v := 1) hx hb dL_acts_965 (by decide) ?_
        refine lv_goto (tgt := 970) hx hb dL_acts_966 (by decide) ?_
        have e9 : (zA_go Ω y2 k i who v) = ((1 : Int32), (zX7_go Ω v k).2) := by unfold zA_go; rw [if_neg c_1, if_pos c_5, if_pos c_8]
        have hz := rd3 (act_go hI0 hk hi hw hv y2) e9
        exact W.zret (v := 1) hx hb hr (by decide) (fun t ht hW => ⟨⟨1, (zX7_go Ω v k).2, rfl, hz, by dsimp only; rw [ht]; exact hY⟩, hS.F ht⟩) hS.2.2 dL_acts_970
    · refine lv_iconst (v := 1) hx hb dL_acts_877 (by decide) ?_
      refine lv_goto (tgt := 882) hx hb dL_acts_878 (by decide) ?_
      refine lv_istore (lv' := [(12, .int 1), (11, .int v), (10, .int who), (9, .int i), (8, .int k), (7, .int (zX3_total (Ω 0) 3)), (6, .int (zX3_total (Ω 0) 2)), (5, .int (zX3_total (Ω 0) 1)), (4, .int (zX3_total (Ω 0) 0)), (3, .int how), (2, .int y2), (1, .int x2), (0, .ref (ob 0))]) hx hb dL_acts_882 hl (by decide) rfl (fun ls hl => ?_)
      refine lv_iload hx hb dL_acts_884 (lv_at hl 0 rfl) ?_
      refine lv_if_eq (tgt := 915) hx hb dL_acts_886 (by decide) (fun c_9 => absurd c_9 (by decide)) (fun _ => ?_)
      refine lv_aload_n hx hb dL_acts_889 rfl (lv_at hl 12 rfl) ?_
      refine lv_iload hx hb dL_acts_890 (lv_at hl 1 rfl) ?_
      refine lv_iconst (v := 3) hx hb dL_acts_892 (by decide) ?_
      refine rX7_volunteerOf hF (cwV 2 hts gL_acts_X7_volunteerOf rfl rfl rfl hdX7_volunteerOf ⟨Nat.le_of_ble_eq_true rfl, Nat.le_of_ble_eq_true rfl⟩) hC hY hJ hOk hS (fun _ h => h) hl.1 (Nat.le_of_ble_eq_true rfl) dL_acts_893 ⟨Nat.zero_le _, Nat.zero_le _⟩ (fun H locs hY _ _ hS => ?_)
      refine lv_if_ne (tgt := 915) hx hb dL_acts_896 (by decide) (fun c_10 => ?_) (fun c_10 => ?_)
      · refine lv_iconst (v := 0) hx hb dL_acts_915 (by decide) ?_
        refine lv_istore (lv' := [(13, .int 0), (12, .int 1), (11, .int v), (10, .int who), (9, .int i), (8, .int k), (7, .int (zX3_total (Ω 0) 3)), (6, .int (zX3_total (Ω 0) 2)), (5, .int (zX3_total (Ω 0) 1)), (4, .int (zX3_total (Ω 0) 0)), (3, .int how), (2, .int y2), (1, .int x2), (0, .ref (ob 0))]) hx hb dL_acts_916 hl (by decide) rfl (fun ls hl => ?_)
        refine lv_aload_n hx hb dL_acts_918 rfl (lv_at hl 13 rfl) ?_
        refine lv_iload hx hb dL_acts_919 (lv_at hl 2 rfl) ?_
        refine lv_iload hx hb dL_acts_921 (lv_at hl 5 rfl) ?_
        refine kX7_go hF (cwV 2 hts gL_acts_X7_go rfl rfl rfl hdX7_go ⟨Nat.le_of_ble_eq_true rfl, Nat.le_of_ble_eq_true rfl⟩) hC hY hJ hOk hS (fun _ h => h) hl.1 (Nat.le_of_ble_eq_true rfl) dL_acts_923 ⟨Nat.zero_le _, Nat.zero_le _⟩ (fun H locs hY _ _ hS => ?_)
        have hI : InvO ((zX7_go Ω v k).2) := (pub_go hI v k).2.1
        have hOk := hI.1
        refine lv_istore (lv' := [(14, .int ((zX7_go Ω v k).1)), (13, .int 0), (12, .int 1), (11, .int v), (10, .int who), (9, .int i), (8, .int k), (7, .int (zX3_total (Ω 0) 3)), (6, .int (zX3_total (Ω 0) 2)), (5, .int (zX3_total (Ω 0) 1)), (4, .int (zX3_total (Ω 0) 0)), (3, .int how), (2, .int y2), (1, .int x2), (0, .ref (ob 0))]) hx hb dL_acts_926 hl (by decide) rfl (fun ls hl => ?_)
        refine lv_iload hx hb dL_acts_928 (lv_at hl 0 rfl) ?_
        refine lv_iload hx hb dL_acts_930 (lv_at hl 2 rfl) ?_
        refine lv_if_ne (tgt := 939) hx hb dL_acts_932 (by decide) (fun _ => ?_) (fun c_11 => absurd c_11 (by decide))
        refine lv_iload hx hb dL_acts_939 (lv_at hl 1 rfl) ?_
        refine lv_if_ne (tgt := 949) hx hb dL_acts_941 (by decide) (fun c_12 => absurd c_12 (by decide)) (fun _ => ?_)
        refine lv_bipush (v := (-2)) hx hb dL_acts_944 (by decide) ?_
        refine lv_goto (tgt := 962) hx hb dL_acts_946 (by decide) ?_
        refine lv_icmp_ne (tgt := 969) hx hb dL_acts_962 (by decide) (fun c_13 => ?_) (fun c_13 => ?_)
        · refine lv_iconst (v := 0) hx hb dL_acts_969 (by decide) ?_
          have e9 : (zA_go Ω y2 k i who v) = ((0 : Int32), (zX7_go Ω v k).2) := by unfold zA_go; rw [if_neg c_1, if_neg c_5, if_neg c_10, if_neg c_13]
          have hz := rd3 (act_go hI0 hk hi hw hv y2) e9
          exact W.zret (v := 0) hx hb hr (by decide) (fun t ht hW => ⟨⟨0, (zX7_go Ω v k).2, rfl, hz, by dsimp only; rw [ht]; exact hY⟩, hS.F ht⟩) hS.2.2 dL_acts_970
        · refine lv_iconst (v := 1) hx hb dL_acts_965 (by decide) ?_
          refine lv_goto (tgt := 970) hx hb dL_acts_966 (by decide) ?_
          have e9 : (zA_go Ω y2 k i who v) = ((1 : Int32), (zX7_go Ω v k).2) := by unfold zA_go; rw [if_neg c_1, if_neg c_5, if_neg c_10, if_pos c_13]
          have hz := rd3 (act_go hI0 hk hi hw hv y2) e9
          exact W.zret (v := 1) hx hb hr (by decide) (fun t ht hW => ⟨⟨1, (zX7_go Ω v k).2, rfl, hz, by dsimp only; rw [ht]; exact hY⟩, hS.F ht⟩) hS.2.2 dL_acts_970
      · refine lv_aload_n hx hb dL_acts_899 rfl (lv_at hl 12 rfl) ?_
        refine lv_iload hx hb dL_acts_900 (lv_at hl 1 rfl) ?_
        refine lv_iconst (v := 1) hx hb dL_acts_902 (by decide) ?_
        refine rX7_volunteerOf hF (cwV 2 hts gL_acts_X7_volunteerOf rfl rfl rfl hdX7_volunteerOf ⟨Nat.le_of_ble_eq_true rfl, Nat.le_of_ble_eq_true rfl⟩) hC hY hJ hOk hS (fun _ h => h) hl.1 (Nat.le_of_ble_eq_true rfl) dL_acts_903 ⟨Nat.zero_le _, Nat.zero_le _⟩ (fun H locs hY _ _ hS => ?_)
        refine lv_iload hx hb dL_acts_906 (lv_at hl 4 rfl) ?_
        refine lv_icmp_eq (tgt := 915) hx hb dL_acts_908 (by decide) (fun c_14 => ?_) (fun c_14 => ?_)
        · refine lv_iconst (v := 0) hx hb dL_acts_915 (by decide) ?_
          refine lv_istore (lv' := [(13, .int 0), (12, .int 1), (11, .int v), (10, .int who), (9, .int i), (8, .int k), (7, .int (zX3_total (Ω 0) 3)), (6, .int (zX3_total (Ω 0) 2)), (5, .int (zX3_total (Ω 0) 1)), (4, .int (zX3_total (Ω 0) 0)), (3, .int how), (2, .int y2), (1, .int x2), (0, .ref (ob 0))]) hx hb dL_acts_916 hl (by decide) rfl (fun ls hl => ?_)
          refine lv_aload_n hx hb dL_acts_918 rfl (lv_at hl 13 rfl) ?_
          refine lv_iload hx hb dL_acts_919 (lv_at hl 2 rfl) ?_
          refine lv_iload hx hb dL_acts_921 (lv_at hl 5 rfl) ?_
          refine kX7_go hF (cwV 2 hts gL_acts_X7_go rfl rfl rfl hdX7_go ⟨Nat.le_of_ble_eq_true rfl, Nat.le_of_ble_eq_true rfl⟩) hC hY hJ hOk hS (fun _ h => h) hl.1 (Nat.le_of_ble_eq_true rfl) dL_acts_923 ⟨Nat.zero_le _, Nat.zero_le _⟩ (fun H locs hY _ _ hS => ?_)
          have hI : InvO ((zX7_go Ω v k).2) := (pub_go hI v k).2.1
          have hOk := hI.1
          refine lv_istore (lv' := [(14, .int ((zX7_go Ω v k).1)), (13, .int 0), (12, .int 1), (11, .int v), (10, .int who), (9, .int i), (8, .int k), (7, .int (zX3_total (Ω 0) 3)), (6, .int (zX3_total (Ω 0) 2)), (5, .int (zX3_total (Ω 0) 1)), (4, .int (zX3_total (Ω 0) 0)), (3, .int how), (2, .int y2), (1, .int x2), (0, .ref (ob 0))]) hx hb dL_acts_926 hl (by decide) rfl (fun ls hl => ?_)
          refine lv_iload hx hb dL_acts_928 (lv_at hl 0 rfl) ?_
          refine lv_iload hx hb dL_acts_930 (lv_at hl 2 rfl) ?_
          refine lv_if_ne (tgt := 939) hx hb dL_acts_932 (by decide) (fun _ => ?_) (fun c_15 => absurd c_15 (by decide))
          refine lv_iload hx hb dL_acts_939 (lv_at hl 1 rfl) ?_
          refine lv_if_ne (tgt := 949) hx hb dL_acts_941 (by decide) (fun c_16 => absurd c_16 (by decide)) (fun _ => ?_)
          refine lv_bipush (v := (-2)) hx hb dL_acts_944 (by decide) ?_
          refine lv_goto (tgt := 962) hx hb dL_acts_946 (by decide) ?_
          refine lv_icmp_ne (tgt := 969) hx hb dL_acts_962 (by decide) (fun c_17 => ?_) (fun c_17 => ?_)
          · refine lv_iconst (v := 0) hx hb dL_acts_969 (by decide) ?_
            have e9 : (zA_go Ω y2 k i who v) = ((0 : Int32), (zX7_go Ω v k).2) := by unfold zA_go; rw [if_neg c_1, if_neg c_5, if_pos c_10, if_pos c_14, if_neg c_17]
            have hz := rd3 (act_go hI0 hk hi hw hv y2) e9
            exact W.zret (v := 0) hx hb hr (by decide) (fun t ht hW => ⟨⟨0, (zX7_go Ω v k).2, rfl, hz, by dsimp only; rw [ht]; exact hY⟩, hS.F ht⟩) hS.2.2 dL_acts_970
          · refine lv_iconst (v := 1) hx hb dL_acts_965 (by decide) ?_
            refine lv_goto (tgt := 970) hx hb dL_acts_966 (by decide) ?_
            have e9 : (zA_go Ω y2 k i who v) = ((1 : Int32), (zX7_go Ω v k).2) := by unfold zA_go; rw [if_neg c_1, if_neg c_5, if_pos c_10, if_pos c_14, if_pos c_17]
            have hz := rd3 (act_go hI0 hk hi hw hv y2) e9
            exact W.zret (v := 1) hx hb hr (by decide) (fun t ht hW => ⟨⟨1, (zX7_go Ω v k).2, rfl, hz, by dsimp only; rw [ht]; exact hY⟩, hS.F ht⟩) hS.2.2 dL_acts_970
        · refine lv_iconst (v := 1) hx hb dL_acts_911 (by decide) ?_
          refine lv_goto (tgt := 916) hx hb dL_acts_912 (by decide) ?_
          refine lv_istore (lv' := [(13, .int 1), (12, .int 1), (11, .int v), (10, .int who), (9, .int i), (8, .int k), (7, .int (zX3_total (Ω 0) 3)), (6, .int (zX3_total (Ω 0) 2)), (5, .int (zX3_total (Ω 0) 1)), (4, .int (zX3_total (Ω 0) 0)), (3, .int how), (2, .int y2), (1, .int x2), (0, .ref (ob 0))]) hx hb dL_acts_916 hl (by decide) rfl (fun ls hl => ?_)
          refine lv_aload_n hx hb dL_acts_918 rfl (lv_at hl 13 rfl) ?_
          refine lv_iload hx hb dL_acts_919 (lv_at hl 2 rfl) ?_
          refine lv_iload hx hb dL_acts_921 (lv_at hl 5 rfl) ?_
          refine kX7_go hF (cwV 2 hts gL_acts_X7_go rfl rfl rfl hdX7_go ⟨Nat.le_of_ble_eq_true rfl, Nat.le_of_ble_eq_true rfl⟩) hC hY hJ hOk hS (fun _ h => h) hl.1 (Nat.le_of_ble_eq_true rfl) dL_acts_923 ⟨Nat.zero_le _, Nat.zero_le _⟩ (fun H locs hY _ _ hS => ?_)
          have hI : InvO ((zX7_go Ω v k).2) := (pub_go hI v k).2.1
          have hOk := hI.1
          refine lv_istore (lv' := [(14, .int ((zX7_go Ω v k).1)), (13, .int 1), (12, .int 1), (11, .int v), (10, .int who), (9, .int i), (8, .int k), (7, .int (zX3_total (Ω 0) 3)), (6, .int (zX3_total (Ω 0) 2)), (5, .int (zX3_total (Ω 0) 1)), (4, .int (zX3_total (Ω 0) 0)), (3, .int how), (2, .int y2), (1, .int x2), (0, .ref (ob 0))]) hx hb dL_acts_926 hl (by decide) rfl (fun ls hl => ?_)
          refine lv_iload hx hb dL_acts_928 (lv_at hl 0 rfl) ?_
          refine lv_iload hx hb dL_acts_930 (lv_at hl 2 rfl) ?_
          refine lv_if_ne (tgt := 939) hx hb dL_acts_932 (by decide) (fun _ => ?_) (fun c_18 => absurd c_18 (by decide))
          refine lv_iload hx hb dL_acts_939 (lv_at hl 1 rfl) ?_
          refine lv_if_ne (tgt := 949) hx hb dL_acts_941 (by decide) (fun _ => ?_) (fun c_19 => absurd c_19 (by decide))
          refine lv_aload_n hx hb dL_acts_949 rfl (lv_at hl 14 rfl) ?_
          refine lv_iconst (v := 4) hx hb dL_acts_950 (by decide) ?_
          refine rX7_countT hF (cwV 1 hts gL_acts_X7_count rfl rfl rfl hdX7_count ⟨Nat.le_of_ble_eq_true rfl, Nat.le_of_ble_eq_true rfl⟩) hC hY hJ hOk ⟨by decide, by decide⟩ hS (fun _ h => h) hl.1 (Nat.le_of_ble_eq_true rfl) dL_acts_951 ⟨Nat.zero_le _, Nat.zero_le _⟩ (fun H locs hY _ _ hS => ?_)
          refine lv_aload_n hx hb dL_acts_954 rfl (lv_at hl 14 rfl) ?_
          refine lv_iload hx hb dL_acts_955 (lv_at hl 3 rfl) ?_
          refine lv_iconst (v := 3) hx hb dL_acts_957 (by decide) ?_
          refine rX7_volunteerOf hF (cwV 2 hts gL_acts_X7_volunteerOf rfl rfl rfl hdX7_volunteerOf ⟨Nat.le_of_ble_eq_true rfl, Nat.le_of_ble_eq_true rfl⟩) hC hY hJ hOk hS (fun _ h => h) hl.1 (Nat.le_of_ble_eq_true rfl) dL_acts_958 ⟨Nat.zero_le _, Nat.zero_le _⟩ (fun H locs hY _ _ hS => ?_)
          refine lv_iadd hx hb dL_acts_961 ?_
          refine lv_icmp_ne (tgt := 969) hx hb dL_acts_962 (by decide) (fun c_20 => ?_) (fun c_20 => ?_)
          · refine lv_iconst (v := 0) hx hb dL_acts_969 (by decide) ?_
            have e9 : (zA_go Ω y2 k i who v) = ((0 : Int32), (zX7_go Ω v k).2) := by unfold zA_go; rw [if_neg c_1, if_neg c_5, if_pos c_10, if_neg c_14, if_neg c_20]
            have hz := rd3 (act_go hI0 hk hi hw hv y2) e9
            exact W.zret (v := 0) hx hb hr (by decide) (fun t ht hW => ⟨⟨0, (zX7_go Ω v k).2, rfl, hz, by dsimp only; rw [ht]; exact hY⟩, hS.F ht⟩) hS.2.2 dL_acts_970
          · refine lv_iconst (v := 1) hx hb dL_acts_965 (by decide) ?_
            refine lv_goto (tgt := 970) hx hb dL_acts_966 (by decide) ?_
            have e9 : (zA_go Ω y2 k i who v) = ((1 : Int32), (zX7_go Ω v k).2) := by unfold zA_go; rw [if_neg c_1, if_neg c_5, if_pos c_10, if_neg c_14, if_pos c_20]
            have hz := rd3 (act_go hI0 hk hi hw hv y2) e9
            exact W.zret (v := 1) hx hb hr (by decide) (fun t ht hW => ⟨⟨1, (zX7_go Ω v k).2, rfl, hz, by dsimp only; rw [ht]; exact hY⟩, hS.F ht⟩) hS.2.2 dL_acts_970
set_option maxHeartbeats 4000000 in
set_option maxRecDepth 100000 in
theorem ba_put {p : Program} {l : Launch} {e : Env} {s : State} {m : MethodId} {args : Array Value} {below : List Frame} {meth : Method} {c : Code} {D : va_G} {y : Y3} {n0 tM tF : Nat} {ob : Nat → Nat} {AD : Nat → Nat → Nat} {Ω : Og} {y2 x2 how k i who v : Int32} (hx : p.tables.exec = Jvm.exec) (hb : c.code = cL_acts) (hml : c.maxLocals = 16) (hown : s.vm.findClass RL = some m.cls) (hts : ∀ w ∈ wsL_acts, w.before args s = true) (hr : meth.sig.returnType = some .boolean) (hlocks : meth.locks = false) (hC : CK D y s) (hJ : sysJ ob AD) (hI : InvO Ω) (hZs : STM n0 tM tF s s.heap) (hn0 : ∀ q, sysA ob AD q → n0 ≤ q) (hk : KB Ω 0 k) (hi : KB Ω 1 i) (hw : KB Ω 2 who) (hv : KB Ω 3 v) {H : Heap} {locs : List Loc} (hY : SysH D y ob AD Ω H) (hS : va_S (sysA ob AD) s.heap H locs) (ls : Array Slot) (hl : lv_has ls 16 [(11, .int v), (10, .int who), (9, .int i), (8, .int k), (7, .int (zX3_total (Ω 0) 3)), (6, .int (zX3_total (Ω 0) 2)), (5, .int (zX3_total (Ω 0) 1)), (4, .int (zX3_total (Ω 0) 0)), (3, .int how), (2, .int y2), (1, .int x2), (0, .ref (ob 0))]) : W p l e (headSpec wsL_acts ({ frames := 9, cells := 0, slots := 0, locals := 207 } : Room)).room s m args below meth c H locs 0 0 (MQ below (va_Qi (fun (r : Int32) (u : Og) => (r = 1 ∧ InvO u ∧ HSt Ω u)) (fun u t => SysH D y ob AD u t.heap) (sysA ob AD)) args s 0 0 (sysA ob AD)) (F0 m 977 ls []) := by
  have hF := (⟨hx, hb, hml, hown, hts⟩ : CallFix p m c cL_acts 16 s args wsL_acts RL)
  have hI0 := hI
  have hOk := hI.1
  refine lv_aload_n hx hb dL_acts_977 rfl (lv_at hl 11 rfl) ?_
  refine lv_iload hx hb dL_acts_978 (lv_at hl 0 rfl) ?_
  refine kX7_put hF (cwV 1 hts gL_acts_X7_put rfl rfl rfl hdX7_put ⟨Nat.le_of_ble_eq_true rfl, Nat.le_of_ble_eq_true rfl⟩) hC hY hJ hOk hS (fun _ h => h) hl.1 (Nat.le_of_ble_eq_true rfl) dL_acts_980 ⟨Nat.zero_le _, Nat.zero_le _⟩ (fun H locs hY _ _ hS => ?_)
  have hI : InvO ((zX7_put Ω v).2) := (pub_put hI v).2.1
  have hOk := hI.1
  refine lv_istore (lv' := [(12, .int ((zX7_put Ω v).1)), (11, .int v), (10, .int who), (9, .int i), (8, .int k), (7, .int (zX3_total (Ω 0) 3)), (6, .int (zX3_total (Ω 0) 2)), (5, .int (zX3_total (Ω 0) 1)), (4, .int (zX3_total (Ω 0) 0)), (3, .int how), (2, .int y2), (1, .int x2), (0, .ref (ob 0))]) hx hb dL_acts_983 hl (by decide) rfl (fun ls hl => ?_)
  refine lv_iload hx hb dL_acts_985 (lv_at hl 1 rfl) ?_
  refine lv_iload hx hb dL_acts_987 (lv_at hl 5 rfl) ?_
  refine lv_icmp_ne (tgt := 1006) hx hb dL_acts_989 (by decide) (fun c_1 => ?_) (fun c_1 => ?_)
  · refine lv_iload hx hb dL_acts_1006 (lv_at hl 0 rfl) ?_
    refine lv_bipush (v := (-2)) hx hb dL_acts_1008 (by decide) ?_
    refine lv_icmp_eq (tgt := 1024) hx hb dL_acts_1010 (by decide) (fun c_2 => ?_) (fun c_2 => ?_)
    · refine lv_iconst (v := 1) hx hb dL_acts_1024 (by decide) ?_
      refine lv_goto (tgt := 1029) hx hb dL_acts_1025 (by decide) ?_
      have e9 : (zA_put Ω y2 k i who v) = ((1 : Int32), (zX7_put Ω v).2) := by unfold zA_put; rw [if_neg c_1, if_pos c_2]
      have hz := rd3 (act_put hI0 hk hi hw hv y2) e9
      exact W.zret (v := 1) hx hb hr (by decide) (fun t ht hW => ⟨⟨1, (zX7_put Ω v).2, rfl, hz, by dsimp only; rw [ht]; exact hY⟩, hS.F ht⟩) hS.2.2 dL_acts_1029
    · refine lv_iload hx hb dL_acts_1013 (lv_at hl 0 rfl) ?_
      refine lv_if_le (tgt := 1028) hx hb dL_acts_1015 (by decide) (fun c_3 => ?_) (fun c_3 => ?_)
      · refine lv_iconst (v := 0) hx hb dL_acts_1028 (by decide) ?_
        have e9 : (zA_put Ω y2 k i who v) = ((0 : Int32), (zX7_put Ω v).2) := by unfold zA_put; rw [if_neg c_1, if_neg c_2, if_pos c_3]
        have hz := rd3 (act_put hI0 hk hi hw hv y2) e9
        exact W.zret (v := 0) hx hb hr (by decide) (fun t ht hW => ⟨⟨0, (zX7_put Ω v).2, rfl, hz, by dsimp only; rw [ht]; exact hY⟩, hS.F ht⟩) hS.2.2 dL_acts_1029
      · refine lv_iload hx hb dL_acts_1018 (lv_at hl 0 rfl) ?_
        refine lv_iconst (v := 4) hx hb dL_acts_1020 (by decide) ?_
        refine lv_icmp_gt (tgt := 1028) hx hb dL_acts_1021 (by decide) (fun c_4 => ?_) (fun c_4 => ?_)
        · refine lv_iconst (v := 0) hx hb dL_acts_1028 (by decide) ?_
          have e9 : (zA_put Ω y2 k i who v) = ((0 : Int32), (zX7_put Ω v).2) := by unfold zA_put; rw [if_neg c_1, if_neg c_2, if_neg c_3, if_pos c_4]
          have hz := rd3 (act_put hI0 hk hi hw hv y2) e9
          exact W.zret (v := 0) hx hb hr (by decide) (fun t ht hW => ⟨⟨0, (zX7_put Ω v).2, rfl, hz, by dsimp only; rw [ht]; exact hY⟩, hS.F ht⟩) hS.2.2 dL_acts_1029
        · refine lv_iconst (v := 1) hx hb dL_acts_1024 (by decide) ?_
          refine lv_goto (tgt := 1029) hx hb dL_acts_1025 (by decide) ?_
          have e9 : (zA_put Ω y2 k i who v) = ((1 : Int32), (zX7_put Ω v).2) := by unfold zA_put; rw [if_neg c_1, if_neg c_2, if_neg c_3, if_neg c_4]
          have hz := rd3 (act_put hI0 hk hi hw hv y2) e9
          exact W.zret (v := 1) hx hb hr (by decide) (fun t ht hW => ⟨⟨1, (zX7_put Ω v).2, rfl, hz, by dsimp only; rw [ht]; exact hY⟩, hS.F ht⟩) hS.2.2 dL_acts_1029
  · refine lv_iload hx hb dL_acts_992 (lv_at hl 0 rfl) ?_
    refine lv_iconst (v := (-1)) hx hb dL_acts_994 (by decide) ?_
    refine lv_icmp_ne (tgt := 1002) hx hb dL_acts_995 (by decide) (fun c_5 => ?_) (fun c_5 => ?_)
    · refine lv_iconst (v := 0) hx hb dL_acts_1002 (by decide) ?_
      refine lv_goto (tgt := 1029) hx hb dL_acts_1003 (by decide) ?_
      have e9 : (zA_put Ω y2 k i who v) = ((0 : Int32), (zX7_put Ω v).2) := by unfold zA_put; rw [if_pos c_1, if_neg c_5]
      have hz := rd3 (act_put hI0 hk hi hw hv y2) e9
      exact W.zret (v := 0) hx hb hr (by decide) (fun t ht hW => ⟨⟨0, (zX7_put Ω v).2, rfl, hz, by dsimp only; rw [ht]; exact hY⟩, hS.F ht⟩) hS.2.2 dL_acts_1029
    · refine lv_iconst (v := 1) hx hb dL_acts_998 (by decide) ?_
      refine lv_goto (tgt := 1029) hx hb dL_acts_999 (by decide) ?_
      have e9 : (zA_put Ω y2 k i who v) = ((1 : Int32), (zX7_put Ω v).2) := by unfold zA_put; rw [if_pos c_1, if_pos c_5]
      have hz := rd3 (act_put hI0 hk hi hw hv y2) e9
      exact W.zret (v := 1) hx hb hr (by decide) (fun t ht hW => ⟨⟨1, (zX7_put Ω v).2, rfl, hz, by dsimp only; rw [ht]; exact hY⟩, hS.F ht⟩) hS.2.2 dL_acts_1029
set_option maxHeartbeats 4000000 in
set_option maxRecDepth 100000 in
theorem ba_set {p : Program} {l : Launch} {e : Env} {s : State} {m : MethodId} {args : Array Value} {below : List Frame} {meth : Method} {c : Code} {D : va_G} {y : Y3} {n0 tM tF : Nat} {ob : Nat → Nat} {AD : Nat → Nat → Nat} {Ω : Og} {y2 x2 how k i who v : Int32} (hx : p.tables.exec = Jvm.exec) (hb : c.code = cL_acts) (hml : c.maxLocals = 16) (hown : s.vm.findClass RL = some m.cls) (hts : ∀ w ∈ wsL_acts, w.before args s = true) (hr : meth.sig.returnType = some .boolean) (hlocks : meth.locks = false) (hC : CK D y s) (hJ : sysJ ob AD) (hI : InvO Ω) (hZs : STM n0 tM tF s s.heap) (hn0 : ∀ q, sysA ob AD q → n0 ≤ q) (hk : KB Ω 0 k) (hi : KB Ω 1 i) (hw : KB Ω 2 who) (hv : KB Ω 3 v) {H : Heap} {locs : List Loc} (hY : SysH D y ob AD Ω H) (hS : va_S (sysA ob AD) s.heap H locs) (ls : Array Slot) (hl : lv_has ls 16 [(11, .int v), (10, .int who), (9, .int i), (8, .int k), (7, .int (zX3_total (Ω 0) 3)), (6, .int (zX3_total (Ω 0) 2)), (5, .int (zX3_total (Ω 0) 1)), (4, .int (zX3_total (Ω 0) 0)), (3, .int how), (2, .int y2), (1, .int x2), (0, .ref (ob 0))]) : W p l e (headSpec wsL_acts ({ frames := 9, cells := 0, slots := 0, locals := 207 } : Room)).room s m args below meth c H locs 0 0 (MQ below (va_Qi (fun (r : Int32) (u : Og) => (r = 1 ∧ InvO u ∧ HSt Ω u)) (fun u t => SysH D y ob AD u t.heap) (sysA ob AD)) args s 0 0 (sysA ob AD)) (F0 m 1036 ls []) := by
  have hF := (⟨hx, hb, hml, hown, hts⟩ : CallFix p m c cL_acts 16 s args wsL_acts RL)
  have hI0 := hI
  have hOk := hI.1
  refine lv_iload_n hx hb dL_acts_1036 rfl (lv_at hl 9 rfl) ?_
  refine lv_iconst (v := 5) hx hb dL_acts_1037 (by decide) ?_
  refine kL_low (x1 := y2) (x2 := 5) hF (va_cwS 2 hts gL_acts_L_low rfl rfl rfl hdL_low ⟨Nat.le_of_ble_eq_true rfl, Nat.le_of_ble_eq_true rfl⟩) hC (by decide) hl.1 (Nat.le_of_ble_eq_true rfl) dL_acts_1038 ⟨Nat.zero_le _, Nat.zero_le _⟩ ?_
  refine lv_istore (lv' := [(12, .int (zL_low y2 5)), (11, .int v), (10, .int who), (9, .int i), (8, .int k), (7, .int (zX3_total (Ω 0) 3)), (6, .int (zX3_total (Ω 0) 2)), (5, .int (zX3_total (Ω 0) 1)), (4, .int (zX3_total (Ω 0) 0)), (3, .int how), (2, .int y2), (1, .int x2), (0, .ref (ob 0))]) hx hb dL_acts_1041 hl (by decide) rfl (fun ls hl => ?_)
  refine lv_iload_n hx hb dL_acts_1043 rfl (lv_at hl 10 rfl) ?_
  refine lv_iconst (v := 3) hx hb dL_acts_1044 (by decide) ?_
  refine lv_ishr hx hb dL_acts_1045 ?_
  refine lv_bipush (v := 11) hx hb dL_acts_1046 (by decide) ?_
  refine kL_low (x1 := (y2 >>> (3 &&& 31))) (x2 := 11) hF (va_cwS 2 hts gL_acts_L_low rfl rfl rfl hdL_low ⟨Nat.le_of_ble_eq_true rfl, Nat.le_of_ble_eq_true rfl⟩) hC (by decide) hl.1 (Nat.le_of_ble_eq_true rfl) dL_acts_1048 ⟨Nat.zero_le _, Nat.zero_le _⟩ ?_
  refine lv_istore (lv' := [(13, .int (zL_low (y2 >>> (3 &&& 31)) 11)), (12, .int (zL_low y2 5)), (11, .int v), (10, .int who), (9, .int i), (8, .int k), (7, .int (zX3_total (Ω 0) 3)), (6, .int (zX3_total (Ω 0) 2)), (5, .int (zX3_total (Ω 0) 1)), (4, .int (zX3_total (Ω 0) 0)), (3, .int how), (2, .int y2), (1, .int x2), (0, .ref (ob 0))]) hx hb dL_acts_1051 hl (by decide) rfl (fun ls hl => ?_)
  refine lv_iload hx hb dL_acts_1053 (lv_at hl 1 rfl) ?_
  refine lv_iconst (v := 4) hx hb dL_acts_1055 (by decide) ?_
  refine lv_icmp_ne (tgt := 1063) hx hb dL_acts_1056 (by decide) (fun c_1 => ?_) (fun c_1 => ?_)
  · refine lv_aload_n hx hb dL_acts_1063 rfl (lv_at hl 13 rfl) ?_
    refine lv_bipush (v := 13) hx hb dL_acts_1064 (by decide) ?_
    refine lv_iload hx hb dL_acts_1066 (lv_at hl 1 rfl) ?_
    refine lv_iadd hx hb dL_acts_1068 ?_
    refine rX7_count hF (cwV 1 hts gL_acts_X7_count rfl rfl rfl hdX7_count ⟨Nat.le_of_ble_eq_true rfl, Nat.le_of_ble_eq_true rfl⟩) hC hY hJ hOk hS (fun _ h => h) hl.1 (Nat.le_of_ble_eq_true rfl) dL_acts_1069 ⟨Nat.zero_le _, Nat.zero_le _⟩ (fun H locs hY _ _ hS => ?_)
    refine lv_istore (lv' := [(14, .int ((zX7_count Ω (13 + (zL_low y2 5))).1)), (13, .int (zL_low (y2 >>> (3 &&& 31)) 11)), (12, .int (zL_low y2 5)), (11, .int v), (10, .int who), (9, .int i), (8, .int k), (7, .int (zX3_total (Ω 0) 3)), (6, .int (zX3_total (Ω 0) 2)), (5, .int (zX3_total (Ω 0) 1)), (4, .int (zX3_total (Ω 0) 0)), (3, .int how), (2, .int y2), (1, .int x2), (0, .ref (ob 0))]) hx hb dL_acts_1072 hl (by decide) rfl (fun ls hl => ?_)
    refine lv_iload hx hb dL_acts_1074 (lv_at hl 2 rfl) ?_
    refine lv_iconst (v := 4) hx hb dL_acts_1076 (by decide) ?_
    refine lv_icmp_eq (tgt := 1104) hx hb dL_acts_1077 (by decide) (fun c_2 => ?_) (fun c_2 => ?_)
    · refine lv_iconst (v := 1) hx hb dL_acts_1104 (by decide) ?_
      refine lv_goto (tgt := 1109) hx hb dL_acts_1105 (by decide) ?_
      refine lv_istore (lv' := [(15, .int 1), (14, .int ((zX7_count Ω (13 + (zL_low y2 5))).1)), (13, .int (zL_low (y2 >>> (3 &&& 31)) 11)), (12, .int (zL_low y2 5)), (11, .int v), (10, .int who), (9, .int i), (8, .int k), (7, .int (zX3_total (Ω 0) 3)), (6, .int (zX3_total (Ω 0) 2)), (5, .int (zX3_total (Ω 0) 1)), (4, .int (zX3_total (Ω 0) 0)), (3, .int how), (2, .int y2), (1, .int x2), (0, .ref (ob 0))]) hx hb dL_acts_1109 hl (by decide) rfl (fun ls hl => ?_)
      refine lv_aload_n hx hb dL_acts_1111 rfl (lv_at hl 15 rfl) ?_
      refine lv_iload hx hb dL_acts_1112 (lv_at hl 3 rfl) ?_
      refine lv_iload hx hb dL_acts_1114 (lv_at hl 2 rfl) ?_
      refine kX7_set hF (cwV 2 hts gL_acts_X7_set rfl rfl rfl hdX7_set ⟨Nat.le_of_ble_eq_true rfl, Nat.le_of_ble_eq_true rfl⟩) hC hY hJ hOk (hZs.at_ hS hn0) hn0 hS (fun _ h => h) hl.1 (Nat.le_of_ble_eq_true rfl) dL_acts_1116 ⟨Nat.zero_le _, Nat.zero_le _⟩ (fun H locs hY _ _ hS => ?_)
      have hI : InvO ((zX7_set Ω (zL_low y2 5) (zL_low (y2 >>> (3 &&& 31)) 11)).2) := (pub_set hI (zL_low y2 5) (zL_low (y2 >>> (3 &&& 31)) 11)).2.1
      have hOk := hI.1
      refine lv_iload hx hb dL_acts_1119 (lv_at hl 0 rfl) ?_
      refine lv_if_eq (tgt := 1128) hx hb dL_acts_1121 (by decide) (fun c_3 => absurd c_3 (by decide)) (fun _ => ?_)
      refine lv_iconst (v := (-1)) hx hb dL_acts_1124 (by decide) ?_
      refine lv_goto (tgt := 1130) hx hb dL_acts_1125 (by decide) ?_
      refine lv_icmp_ne (tgt := 1137) hx hb dL_acts_1130 (by decide) (fun c_4 => ?_) (fun c_4 => ?_)
      · refine lv_iconst (v := 0) hx hb dL_acts_1137 (by decide) ?_
        have e9 : (zA_set Ω y2 k i who v) = ((0 : Int32), (zX7_set Ω (zL_low y2 5) (zL_low (y2 >>> (3 &&& 31)) 11)).2) := by unfold zA_set; rw [if_neg c_1, if_pos c_2, if_neg c_4]
        have hz := rd3 (act_set hI0 hk hi hw hv y2) e9
        exact W.zret (v := 0) hx hb hr (by decide) (fun t ht hW => ⟨⟨0, (zX7_set Ω (zL_low y2 5) (zL_low (y2 >>> (3 &&& 31)) 11)).2, rfl, hz, by dsimp only; rw [ht]; exact hY⟩, hS.F ht⟩) hS.2.2 dL_acts_1138
      · refine lv_iconst (v := 1) hx hb dL_acts_1133 (by decide) ?_
        refine lv_goto (tgt := 1138) hx hb dL_acts_1134 (by decide) ?_
        have e9 : (zA_set Ω y2 k i who v) = ((1 : Int32), (zX7_set Ω (zL_low y2 5) (zL_low (y2 >>> (3 &&& 31)) 11)).2) := by unfold zA_set; rw [if_neg c_1, if_pos c_2, if_pos c_4]
        have hz := rd3 (act_set hI0 hk hi hw hv y2) e9
        exact W.zret (v := 1) hx hb hr (by decide) (fun t ht hW => ⟨⟨1, (zX7_set Ω (zL_low y2 5) (zL_low (y2 >>> (3 &&& 31)) 11)).2, rfl, hz, by dsimp only; rw [ht]; exact hY⟩, hS.F ht⟩) hS.2.2 dL_acts_1138
    · refine lv_iload hx hb dL_acts_1080 (lv_at hl 1 rfl) ?_
      refine lv_if_eq (tgt := 1104) hx hb dL_acts_1082 (by decide) (fun c_5 => ?_) (fun c_5 => ?_)
      · refine lv_iconst (v := 1) hx hb dL_acts_1104 (by decide) ?_
        refine lv_goto (tgt := 1109) hx hb dL_acts_1105 (by decide) ?_
        refine lv_istore (lv' := [(15, .int 1), (14, .int ((zX7_count Ω (13 + (zL_low y2 5))).1)), (13, .int (zL_low (y2 >>> (3 &&& 31)) 11)), (12, .int (zL_low y2 5)), (11, .int v), (10, .int who), (9, .int i), (8, .int k), (7, .int (zX3_total (Ω 0) 3)), (6, .int (zX3_total (Ω 0) 2)), (5, .int (zX3_total (Ω 0) 1)), (4, .int (zX3_total (Ω 0) 0)), (3, .int how), (2, .int y2), (1, .int x2), (0, .ref (ob 0))]) hx hb dL_acts_1109 hl (by decide) rfl (fun ls hl => ?_)
        refine lv_aload_n hx hb dL_acts_1111 rfl (lv_at hl 15 rfl) ?_
        refine lv_iload hx hb dL_acts_1112 (lv_at hl 3 rfl) ?_
        refine lv_iload hx hb dL_acts_1114 (lv_at hl 2 rfl) ?_
        refine kX7_set hF (cwV 2 hts gL_acts_X7_set rfl rfl rfl hdX7_set ⟨Nat.le_of_ble_eq_true rfl, Nat.le_of_ble_eq_true rfl⟩) hC hY hJ hOk (hZs.at_ hS hn0) hn0 hS (fun _ h => h) hl.1 (Nat.le_of_ble_eq_true rfl) dL_acts_1116 ⟨Nat.zero_le _, Nat.zero_le _⟩ (fun H locs hY _ _ hS => ?_)
        have hI : InvO ((zX7_set Ω (zL_low y2 5) (zL_low (y2 >>> (3 &&& 31)) 11)).2) := (pub_set hI (zL_low y2 5) (zL_low (y2 >>> (3 &&& 31)) 11)).2.1
        have hOk := hI.1
        refine lv_iload hx hb dL_acts_1119 (lv_at hl 0 rfl) ?_
        refine lv_if_eq (tgt := 1128) hx hb dL_acts_1121 (by decide) (fun c_6 => absurd c_6 (by decide)) (fun _ => ?_)
        refine lv_iconst (v := (-1)) hx hb dL_acts_1124 (by decide) ?_
        refine lv_goto (tgt := 1130) hx hb dL_acts_1125 (by decide) ?_
        refine lv_icmp_ne (tgt := 1137) hx hb dL_acts_1130 (by decide) (fun c_7 => ?_) (fun c_7 => ?_)
        · refine lv_iconst (v := 0) hx hb dL_acts_1137 (by decide) ?_
          have e9 : (zA_set Ω y2 k i who v) = ((0 : Int32), (zX7_set Ω (zL_low y2 5) (zL_low (y2 >>> (3 &&& 31)) 11)).2) := by unfold zA_set; rw [if_neg c_1, if_neg c_2, if_pos c_5, if_neg c_7]
          have hz := rd3 (act_set hI0 hk hi hw hv y2) e9
          exact W.zret (v := 0) hx hb hr (by decide) (fun t ht hW => ⟨⟨0, (zX7_set Ω (zL_low y2 5) (zL_low (y2 >>> (3 &&& 31)) 11)).2, rfl, hz, by dsimp only; rw [ht]; exact hY⟩, hS.F ht⟩) hS.2.2 dL_acts_1138
        · refine lv_iconst (v := 1) hx hb dL_acts_1133 (by decide) ?_
          refine lv_goto (tgt := 1138) hx hb dL_acts_1134 (by decide) ?_
          have e9 : (zA_set Ω y2 k i who v) = ((1 : Int32), (zX7_set Ω (zL_low y2 5) (zL_low (y2 >>> (3 &&& 31)) 11)).2) := by unfold zA_set; rw [if_neg c_1, if_neg c_2, if_pos c_5, if_pos c_7]
          have hz := rd3 (act_set hI0 hk hi hw hv y2) e9
          exact W.zret (v := 1) hx hb hr (by decide) (fun t ht hW => ⟨⟨1, (zX7_set Ω (zL_low y2 5) (zL_low (y2 >>> (3 &&& 31)) 11)).2, rfl, hz, by dsimp only; rw [ht]; exact hY⟩, hS.F ht⟩) hS.2.2 dL_acts_1138
      · refine lv_iload hx hb dL_acts_1085 (lv_at hl 1 rfl) ?_
        refine lv_bipush (v := 10) hx hb dL_acts_1087 (by decide) ?_
        refine lv_icmp_ne (tgt := 1108) hx hb dL_acts_1089 (by decide) (fun c_8 => ?_) (fun c_8 => ?_)
        · refine lv_iconst (v := 0) hx hb dL_acts_1108 (by decide) ?_
          refine lv_istore (lv' := [(15, .int 0), (14, .int ((zX7_count Ω (13 + (zL_low y2 5))).1)), (13, .int (zL_low (y2 >>> (3 &&& 31)) 11)), (12, .int (zL_low y2 5)), (11, .int v), (10, .int who), (9, .int i), (8, .int k), (7, .int (zX3_total (Ω 0) 3)), (6, .int (zX3_total (Ω 0) 2)), (5, .int (zX3_total (Ω 0) 1)), (4, .int (zX3_total (Ω 0) 0)), (3, .int how), (2, .int y2), (1, .int x2), (0, .ref (ob 0))]) hx hb dL_acts_1109 hl (by decide) rfl (fun ls hl => ?_)
          refine lv_aload_n hx hb dL_acts_1111 rfl (lv_at hl 15 rfl) ?_
          refine lv_iload hx hb dL_acts_1112 (lv_at hl 3 rfl) ?_
          refine lv_iload hx hb dL_acts_1114 (lv_at hl 2 rfl) ?_
          refine kX7_set hF (cwV 2 hts gL_acts_X7_set rfl rfl rfl hdX7_set ⟨Nat.le_of_ble_eq_true rfl, Nat.le_of_ble_eq_true rfl⟩) hC hY hJ hOk (hZs.at_ hS hn0) hn0 hS (fun _ h => h) hl.1 (Nat.le_of_ble_eq_true rfl) dL_acts_1116 ⟨Nat.zero_le _, Nat.zero_le _⟩ (fun H locs hY _ _ hS => ?_)
          have hI : InvO ((zX7_set Ω (zL_low y2 5) (zL_low (y2 >>> (3 &&& 31)) 11)).2) := (pub_set hI (zL_low y2 5) (zL_low (y2 >>> (3 &&& 31)) 11)).2.1
          have hOk := hI.1
          refine lv_iload hx hb dL_acts_1119 (lv_at hl 0 rfl) ?_
          refine lv_if_eq (tgt := 1128) hx hb dL_acts_1121 (by decide) (fun _ => ?_) (fun c_9 => absurd (by decide) c_9)
          refine lv_iload hx hb dL_acts_1128 (lv_at hl 1 rfl) ?_
          refine lv_icmp_ne (tgt := 1137) hx hb dL_acts_1130 (by decide) (fun c_10 => ?_) (fun c_10 => ?_)
          · refine lv_iconst (v := 0) hx hb dL_acts_1137 (by decide) ?_
            have e9 : (zA_set Ω y2 k i who v) = ((0 : Int32), (zX7_set Ω (zL_low y2 5) (zL_low (y2 >>> (3 &&& 31)) 11)).2) := by unfold zA_set; rw [if_neg c_1, if_neg c_2, if_neg c_5, if_neg c_8, if_neg c_10]
            have hz := rd3 (act_set hI0 hk hi hw hv y2) e9
            exact W.zret (v := 0) hx hb hr (by decide) (fun t ht hW => ⟨⟨0, (zX7_set Ω (zL_low y2 5) (zL_low (y2 >>> (3 &&& 31)) 11)).2, rfl, hz, by dsimp only; rw [ht]; exact hY⟩, hS.F ht⟩) hS.2.2 dL_acts_1138
          · refine lv_iconst (v := 1) hx hb dL_acts_1133 (by decide) ?_
            refine lv_goto (tgt := 1138) hx hb dL_acts_1134 (by decide) ?_
            have e9 : (zA_set Ω y2 k i who v) = ((1 : Int32), (zX7_set Ω (zL_low y2 5) (zL_low (y2 >>> (3 &&& 31)) 11)).2) := by unfold zA_set; rw [if_neg c_1, if_neg c_2, if_neg c_5, if_neg c_8, if_pos c_10]
            have hz := rd3 (act_set hI0 hk hi hw hv y2) e9
            exact W.zret (v := 1) hx hb hr (by decide) (fun t ht hW => ⟨⟨1, (zX7_set Ω (zL_low y2 5) (zL_low (y2 >>> (3 &&& 31)) 11)).2, rfl, hz, by dsimp only; rw [ht]; exact hY⟩, hS.F ht⟩) hS.2.2 dL_acts_1138
        · refine lv_iload hx hb dL_acts_1092 (lv_at hl 2 rfl) ?_
          refine lv_iconst (v := 1) hx hb dL_acts_1094 (by decide) ?_
          refine lv_icmp_eq (tgt := 1104) hx hb dL_acts_1095 (by decide) (fun c_11 => ?_) (fun c_11 => ?_)
          · refine lv_iconst (v := 1) hx hb dL_acts_1104 (by decide) ?_
            refine lv_goto (tgt := 1109) hx hb dL_acts_1105 (by decide) ?_
            refine lv_istore (lv' := [(15, .int 1), (14, .int ((zX7_count Ω (13 + (zL_low y2 5))).1)), (13, .int (zL_low (y2 >>> (3 &&& 31)) 11)), (12, .int (zL_low y2 5)), (11, .int v), (10, .int who), (9, .int i), (8, .int k), (7, .int (zX3_total (Ω 0) 3)), (6, .int (zX3_total (Ω 0) 2)), (5, .int (zX3_total (Ω 0) 1)), (4, .int (zX3_total (Ω 0) 0)), (3, .int how), (2, .int y2), (1, .int x2), (0, .ref (ob 0))]) hx hb dL_acts_1109 hl (by decide) rfl (fun ls hl => ?_)
            refine lv_aload_n hx hb dL_acts_1111 rfl (lv_at hl 15 rfl) ?_
            refine lv_iload hx hb dL_acts_1112 (lv_at hl 3 rfl) ?_
            refine lv_iload hx hb dL_acts_1114 (lv_at hl 2 rfl) ?_
            refine kX7_set hF (cwV 2 hts gL_acts_X7_set rfl rfl rfl hdX7_set ⟨Nat.le_of_ble_eq_true rfl, Nat.le_of_ble_eq_true rfl⟩) hC hY hJ hOk (hZs.at_ hS hn0) hn0 hS (fun _ h => h) hl.1 (Nat.le_of_ble_eq_true rfl) dL_acts_1116 ⟨Nat.zero_le _, Nat.zero_le _⟩ (fun H locs hY _ _ hS => ?_)
            have hI : InvO ((zX7_set Ω (zL_low y2 5) (zL_low (y2 >>> (3 &&& 31)) 11)).2) := (pub_set hI (zL_low y2 5) (zL_low (y2 >>> (3 &&& 31)) 11)).2.1
            have hOk := hI.1
            refine lv_iload hx hb dL_acts_1119 (lv_at hl 0 rfl) ?_
            refine lv_if_eq (tgt := 1128) hx hb dL_acts_1121 (by decide) (fun c_12 => absurd c_12 (by decide)) (fun _ => ?_)
            refine lv_iconst (v := (-1)) hx hb dL_acts_1124 (by decide) ?_
            refine lv_goto (tgt := 1130) hx hb dL_acts_1125 (by decide) ?_
            refine lv_icmp_ne (tgt := 1137) hx hb dL_acts_1130 (by decide) (fun c_13 => ?_) (fun c_13 => ?_)
            · refine lv_iconst (v := 0) hx hb dL_acts_1137 (by decide) ?_
              have e9 : (zA_set Ω y2 k i who v) = ((0 : Int32), (zX7_set Ω (zL_low y2 5) (zL_low (y2 >>> (3 &&& 31)) 11)).2) := by unfold zA_set; rw [if_neg c_1, if_neg c_2, if_neg c_5, if_pos c_8, if_pos c_11, if_neg c_13]
              have hz := rd3 (act_set hI0 hk hi hw hv y2) e9
              exact W.zret (v := 0) hx hb hr (by decide) (fun t ht hW => ⟨⟨0, (zX7_set Ω (zL_low y2 5) (zL_low (y2 >>> (3 &&& 31)) 11)).2, rfl, hz, by dsimp only; rw [ht]; exact hY⟩, hS.F ht⟩) hS.2.2 dL_acts_1138
            · refine lv_iconst (v := 1) hx hb dL_acts_1133 (by decide) ?_
              refine lv_goto (tgt := 1138) hx hb dL_acts_1134 (by decide) ?_
              have e9 : (zA_set Ω y2 k i who v) = ((1 : Int32), (zX7_set Ω (zL_low y2 5) (zL_low (y2 >>> (3 &&& 31)) 11)).2) := by unfold zA_set; rw [if_neg c_1, if_neg c_2, if_neg c_5, if_pos c_8, if_pos c_11, if_pos c_13]
              have hz := rd3 (act_set hI0 hk hi hw hv y2) e9
              exact W.zret (v := 1) hx hb hr (by decide) (fun t ht hW => ⟨⟨1, (zX7_set Ω (zL_low y2 5) (zL_low (y2 >>> (3 &&& 31)) 11)).2, rfl, hz, by dsimp only; rw [ht]; exact hY⟩, hS.F ht⟩) hS.2.2 dL_acts_1138
          · refine lv_iload hx hb dL_acts_1098 (lv_at hl 2 rfl) ?_
            refine lv_iconst (v := 3) hx hb dL_acts_1100 (by decide) ?_
            refine lv_icmp_ne (tgt := 1108) hx hb dL_acts_1101 (by decide) (fun c_14 => ?_) (fun c_14 => ?_)
            · refine lv_iconst (v := 0) hx hb dL_acts_1108 (by decide) ?_
              refine lv_istore (lv' := [(15, .int 0), (14, .int ((zX7_count Ω (13 + (zL_low y2 5))).1)), (13, .int (zL_low (y2 >>> (3 &&& 31)) 11)), (12, .int (zL_low y2 5)), (11, .int v), (10, .int who), (9, .int i), (8, .int k), (7, .int (zX3_total (Ω 0) 3)), (6, .int (zX3_total (Ω 0) 2)), (5, .int (zX3_total (Ω 0) 1)), (4, .int (zX3_total (Ω 0) 0)), (3, .int how), (2, .int y2), (1, .int x2), (0, .ref (ob 0))]) hx hb dL_acts_1109 hl (by decide) rfl (fun ls hl => ?_)
              refine lv_aload_n hx hb dL_acts_1111 rfl (lv_at hl 15 rfl) ?_
              refine lv_iload hx hb dL_acts_1112 (lv_at hl 3 rfl) ?_
              refine lv_iload hx hb dL_acts_1114 (lv_at hl 2 rfl) ?_
              refine kX7_set hF (cwV 2 hts gL_acts_X7_set rfl rfl rfl hdX7_set ⟨Nat.le_of_ble_eq_true rfl, Nat.le_of_ble_eq_true rfl⟩) hC hY hJ hOk (hZs.at_ hS hn0) hn0 hS (fun _ h => h) hl.1 (Nat.le_of_ble_eq_true rfl) dL_acts_1116 ⟨Nat.zero_le _, Nat.zero_le _⟩ (fun H locs hY _ _ hS => ?_)
              have hI : InvO ((zX7_set Ω (zL_low y2 5) (zL_low (y2 >>> (3 &&& 31)) 11)).2) := (pub_set hI (zL_low y2 5) (zL_low (y2 >>> (3 &&& 31)) 11)).2.1
              have hOk := hI.1
              refine lv_iload hx hb dL_acts_1119 (lv_at hl 0 rfl) ?_
              refine lv_if_eq (tgt := 1128) hx hb dL_acts_1121 (by decide) (fun _ => ?_) (fun c_15 => absurd (by decide) c_15)
              refine lv_iload hx hb dL_acts_1128 (lv_at hl 1 rfl) ?_
              refine lv_icmp_ne (tgt := 1137) hx hb dL_acts_1130 (by decide) (fun c_16 => ?_) (fun c_16 => ?_)
              · refine lv_iconst (v := 0) hx hb dL_acts_1137 (by decide) ?_
                have e9 : (zA_set Ω y2 k i who v) = ((0 : Int32), (zX7_set Ω (zL_low y2 5) (zL_low (y2 >>> (3 &&& 31)) 11)).2) := by unfold zA_set; rw [if_neg c_1, if_neg c_2, if_neg c_5, if_pos c_8, if_neg c_11, if_neg c_14, if_neg c_16]
                have hz := rd3 (act_set hI0 hk hi hw hv y2) e9
                exact W.zret (v := 0) hx hb hr (by decide) (fun t ht hW => ⟨⟨0, (zX7_set Ω (zL_low y2 5) (zL_low (y2 >>> (3 &&& 31)) 11)).2, rfl, hz, by dsimp only; rw [ht]; exact hY⟩, hS.F ht⟩) hS.2.2 dL_acts_1138
              · refine lv_iconst (v := 1) hx hb dL_acts_1133 (by decide) ?_
                refine lv_goto (tgt := 1138) hx hb dL_acts_1134 (by decide) ?_
                have e9 : (zA_set Ω y2 k i who v) = ((1 : Int32), (zX7_set Ω (zL_low y2 5) (zL_low (y2 >>> (3 &&& 31)) 11)).2) := by unfold zA_set; rw [if_neg c_1, if_neg c_2, if_neg c_5, if_pos c_8, if_neg c_11, if_neg c_14, if_pos c_16]
                have hz := rd3 (act_set hI0 hk hi hw hv y2) e9
                exact W.zret (v := 1) hx hb hr (by decide) (fun t ht hW => ⟨⟨1, (zX7_set Ω (zL_low y2 5) (zL_low (y2 >>> (3 &&& 31)) 11)).2, rfl, hz, by dsimp only; rw [ht]; exact hY⟩, hS.F ht⟩) hS.2.2 dL_acts_1138
            · refine lv_iconst (v := 1) hx hb dL_acts_1104 (by decide) ?_
              refine lv_goto (tgt := 1109) hx hb dL_acts_1105 (by decide) ?_
              refine lv_istore (lv' := [(15, .int 1), (14, .int ((zX7_count Ω (13 + (zL_low y2 5))).1)), (13, .int (zL_low (y2 >>> (3 &&& 31)) 11)), (12, .int (zL_low y2 5)), (11, .int v), (10, .int who), (9, .int i), (8, .int k), (7, .int (zX3_total (Ω 0) 3)), (6, .int (zX3_total (Ω 0) 2)), (5, .int (zX3_total (Ω 0) 1)), (4, .int (zX3_total (Ω 0) 0)), (3, .int how), (2, .int y2), (1, .int x2), (0, .ref (ob 0))]) hx hb dL_acts_1109 hl (by decide) rfl (fun ls hl => ?_)
              refine lv_aload_n hx hb dL_acts_1111 rfl (lv_at hl 15 rfl) ?_
              refine lv_iload hx hb dL_acts_1112 (lv_at hl 3 rfl) ?_
              refine lv_iload hx hb dL_acts_1114 (lv_at hl 2 rfl) ?_
              refine kX7_set hF (cwV 2 hts gL_acts_X7_set rfl rfl rfl hdX7_set ⟨Nat.le_of_ble_eq_true rfl, Nat.le_of_ble_eq_true rfl⟩) hC hY hJ hOk (hZs.at_ hS hn0) hn0 hS (fun _ h => h) hl.1 (Nat.le_of_ble_eq_true rfl) dL_acts_1116 ⟨Nat.zero_le _, Nat.zero_le _⟩ (fun H locs hY _ _ hS => ?_)
              have hI : InvO ((zX7_set Ω (zL_low y2 5) (zL_low (y2 >>> (3 &&& 31)) 11)).2) := (pub_set hI (zL_low y2 5) (zL_low (y2 >>> (3 &&& 31)) 11)).2.1
              have hOk := hI.1
              refine lv_iload hx hb dL_acts_1119 (lv_at hl 0 rfl) ?_
              refine lv_if_eq (tgt := 1128) hx hb dL_acts_1121 (by decide) (fun c_17 => absurd c_17 (by decide)) (fun _ => ?_)
              refine lv_iconst (v := (-1)) hx hb dL_acts_1124 (by decide) ?_
              refine lv_goto (tgt := 1130) hx hb dL_acts_1125 (by decide) ?_
              refine lv_icmp_ne (tgt := 1137) hx hb dL_acts_1130 (by decide) (fun c_18 => ?_) (fun c_18 => ?_)
              · refine lv_iconst (v := 0) hx hb dL_acts_1137 (by decide) ?_
                have e9 : (zA_set Ω y2 k i who v) = ((0 : Int32), (zX7_set Ω (zL_low y2 5) (zL_low (y2 >>> (3 &&& 31)) 11)).2) := by unfold zA_set; rw [if_neg c_1, if_neg c_2, if_neg c_5, if_pos c_8, if_neg c_11, if_pos c_14, if_neg c_18]
                have hz := rd3 (act_set hI0 hk hi hw hv y2) e9
                exact W.zret (v := 0) hx hb hr (by decide) (fun t ht hW => ⟨⟨0, (zX7_set Ω (zL_low y2 5) (zL_low (y2 >>> (3 &&& 31)) 11)).2, rfl, hz, by dsimp only; rw [ht]; exact hY⟩, hS.F ht⟩) hS.2.2 dL_acts_1138
              · refine lv_iconst (v := 1) hx hb dL_acts_1133 (by decide) ?_
                refine lv_goto (tgt := 1138) hx hb dL_acts_1134 (by decide) ?_
                have e9 : (zA_set Ω y2 k i who v) = ((1 : Int32), (zX7_set Ω (zL_low y2 5) (zL_low (y2 >>> (3 &&& 31)) 11)).2) := by unfold zA_set; rw [if_neg c_1, if_neg c_2, if_neg c_5, if_pos c_8, if_neg c_11, if_pos c_14, if_pos c_18]
                have hz := rd3 (act_set hI0 hk hi hw hv y2) e9
                exact W.zret (v := 1) hx hb hr (by decide) (fun t ht hW => ⟨⟨1, (zX7_set Ω (zL_low y2 5) (zL_low (y2 >>> (3 &&& 31)) 11)).2, rfl, hz, by dsimp only; rw [ht]; exact hY⟩, hS.F ht⟩) hS.2.2 dL_acts_1138
  · refine lv_iconst (v := 0) hx hb dL_acts_1059 (by decide) ?_
    refine lv_goto (tgt := 1072) hx hb dL_acts_1060 (by decide) ?_
    refine lv_istore (lv' := [(14, .int 0), (13, .int (zL_low (y2 >>> (3 &&& 31)) 11)), (12, .int (zL_low y2 5)), (11, .int v), (10, .int who), (9, .int i), (8, .int k), (7, .int (zX3_total (Ω 0) 3)), (6, .int (zX3_total (Ω 0) 2)), (5, .int (zX3_total (Ω 0) 1)), (4, .int (zX3_total (Ω 0) 0)), (3, .int how), (2, .int y2), (1, .int x2), (0, .ref (ob 0))]) hx hb dL_acts_1072 hl (by decide) rfl (fun ls hl => ?_)
    refine lv_iload hx hb dL_acts_1074 (lv_at hl 2 rfl) ?_
    refine lv_iconst (v := 4) hx hb dL_acts_1076 (by decide) ?_
    refine lv_icmp_eq (tgt := 1104) hx hb dL_acts_1077 (by decide) (fun c_19 => ?_) (fun c_19 => ?_)
    · refine lv_iconst (v := 1) hx hb dL_acts_1104 (by decide) ?_
      refine lv_goto (tgt := 1109) hx hb dL_acts_1105 (by decide) ?_
      refine lv_istore (lv' := [(15, .int 1), (14, .int 0), (13, .int (zL_low (y2 >>> (3 &&& 31)) 11)), (12, .int (zL_low y2 5)), (11, .int v), (10, .int who), (9, .int i), (8, .int k), (7, .int (zX3_total (Ω 0) 3)), (6, .int (zX3_total (Ω 0) 2)), (5, .int (zX3_total (Ω 0) 1)), (4, .int (zX3_total (Ω 0) 0)), (3, .int how), (2, .int y2), (1, .int x2), (0, .ref (ob 0))]) hx hb dL_acts_1109 hl (by decide) rfl (fun ls hl => ?_)
      refine lv_aload_n hx hb dL_acts_1111 rfl (lv_at hl 15 rfl) ?_
      refine lv_iload hx hb dL_acts_1112 (lv_at hl 3 rfl) ?_
      refine lv_iload hx hb dL_acts_1114 (lv_at hl 2 rfl) ?_
      refine kX7_set hF (cwV 2 hts gL_acts_X7_set rfl rfl rfl hdX7_set ⟨Nat.le_of_ble_eq_true rfl, Nat.le_of_ble_eq_true rfl⟩) hC hY hJ hOk (hZs.at_ hS hn0) hn0 hS (fun _ h => h) hl.1 (Nat.le_of_ble_eq_true rfl) dL_acts_1116 ⟨Nat.zero_le _, Nat.zero_le _⟩ (fun H locs hY _ _ hS => ?_)
      have hI : InvO ((zX7_set Ω (zL_low y2 5) (zL_low (y2 >>> (3 &&& 31)) 11)).2) := (pub_set hI (zL_low y2 5) (zL_low (y2 >>> (3 &&& 31)) 11)).2.1
      have hOk := hI.1
      refine lv_iload hx hb dL_acts_1119 (lv_at hl 0 rfl) ?_
      refine lv_if_eq (tgt := 1128) hx hb dL_acts_1121 (by decide) (fun c_20 => absurd c_20 (by decide)) (fun _ => ?_)
      refine lv_iconst (v := (-1)) hx hb dL_acts_1124 (by decide) ?_
      refine lv_goto (tgt := 1130) hx hb dL_acts_1125 (by decide) ?_
      refine lv_icmp_ne (tgt := 1137) hx hb dL_acts_1130 (by decide) (fun c_21 => ?_) (fun c_21 => ?_)
      · refine lv_iconst (v := 0) hx hb dL_acts_1137 (by decide) ?_
        have e9 : (zA_set Ω y2 k i who v) = ((0 : Int32), (zX7_set Ω (zL_low y2 5) (zL_low (y2 >>> (3 &&& 31)) 11)).2) := by unfold zA_set; rw [if_pos c_1, if_pos c_19, if_neg c_21]
        have hz := rd3 (act_set hI0 hk hi hw hv y2) e9
        exact W.zret (v := 0) hx hb hr (by decide) (fun t ht hW => ⟨⟨0, (zX7_set Ω (zL_low y2 5) (zL_low (y2 >>> (3 &&& 31)) 11)).2, rfl, hz, by dsimp only; rw [ht]; exact hY⟩, hS.F ht⟩) hS.2.2 dL_acts_1138
      · refine lv_iconst (v := 1) hx hb dL_acts_1133 (by decide) ?_
        refine lv_goto (tgt := 1138) hx hb dL_acts_1134 (by decide) ?_
        have e9 : (zA_set Ω y2 k i who v) = ((1 : Int32), (zX7_set Ω (zL_low y2 5) (zL_low (y2 >>> (3 &&& 31)) 11)).2) := by unfold zA_set; rw [if_pos c_1, if_pos c_19, if_pos c_21]
        have hz := rd3 (act_set hI0 hk hi hw hv y2) e9
        exact W.zret (v := 1) hx hb hr (by decide) (fun t ht hW => ⟨⟨1, (zX7_set Ω (zL_low y2 5) (zL_low (y2 >>> (3 &&& 31)) 11)).2, rfl, hz, by dsimp only; rw [ht]; exact hY⟩, hS.F ht⟩) hS.2.2 dL_acts_1138
    · refine lv_iload hx hb dL_acts_1080 (lv_at hl 1 rfl) ?_
      refine lv_if_eq (tgt := 1104) hx hb dL_acts_1082 (by decide) (fun c_22 => ?_) (fun c_22 => ?_)
      · refine lv_iconst (v := 1) hx hb dL_acts_1104 (by decide) ?_
        refine lv_goto (tgt := 1109) hx hb dL_acts_1105 (by decide) ?_
        refine lv_istore (lv' := [(15, .int 1), (14, .int 0), (13, .int (zL_low (y2 >>> (3 &&& 31)) 11)), (12, .int (zL_low y2 5)), (11, .int v), (10, .int who), (9, .int i), (8, .int k), (7, .int (zX3_total (Ω 0) 3)), (6, .int (zX3_total (Ω 0) 2)), (5, .int (zX3_total (Ω 0) 1)), (4, .int (zX3_total (Ω 0) 0)), (3, .int how), (2, .int y2), (1, .int x2), (0, .ref (ob 0))]) hx hb dL_acts_1109 hl (by decide) rfl (fun ls hl => ?_)
        refine lv_aload_n hx hb dL_acts_1111 rfl (lv_at hl 15 rfl) ?_
        refine lv_iload hx hb dL_acts_1112 (lv_at hl 3 rfl) ?_
        refine lv_iload hx hb dL_acts_1114 (lv_at hl 2 rfl) ?_
        refine kX7_set hF (cwV 2 hts gL_acts_X7_set rfl rfl rfl hdX7_set ⟨Nat.le_of_ble_eq_true rfl, Nat.le_of_ble_eq_true rfl⟩) hC hY hJ hOk (hZs.at_ hS hn0) hn0 hS (fun _ h => h) hl.1 (Nat.le_of_ble_eq_true rfl) dL_acts_1116 ⟨Nat.zero_le _, Nat.zero_le _⟩ (fun H locs hY _ _ hS => ?_)
        have hI : InvO ((zX7_set Ω (zL_low y2 5) (zL_low (y2 >>> (3 &&& 31)) 11)).2) := (pub_set hI (zL_low y2 5) (zL_low (y2 >>> (3 &&& 31)) 11)).2.1
        have hOk := hI.1
        refine lv_iload hx hb dL_acts_1119 (lv_at hl 0 rfl) ?_
        refine lv_if_eq (tgt := 1128) hx hb dL_acts_1121 (by decide) (fun c_23 => absurd c_23 (by decide)) (fun _ => ?_)
        refine lv_iconst (v := (-1)) hx hb dL_acts_1124 (by decide) ?_
        refine lv_goto (tgt := 1130) hx hb dL_acts_1125 (by decide) ?_
        refine lv_icmp_ne (tgt := 1137) hx hb dL_acts_1130 (by decide) (fun c_24 => ?_) (fun c_24 => ?_)
        · refine lv_iconst (v := 0) hx hb dL_acts_1137 (by decide) ?_
          have e9 : (zA_set Ω y2 k i who v) = ((0 : Int32), (zX7_set Ω (zL_low y2 5) (zL_low (y2 >>> (3 &&& 31)) 11)).2) := by unfold zA_set; rw [if_pos c_1, if_neg c_19, if_pos c_22, if_neg c_24]
          have hz := rd3 (act_set hI0 hk hi hw hv y2) e9
          exact W.zret (v := 0) hx hb hr (by decide) (fun t ht hW => ⟨⟨0, (zX7_set Ω (zL_low y2 5) (zL_low (y2 >>> (3 &&& 31)) 11)).2, rfl, hz, by dsimp only; rw [ht]; exact hY⟩, hS.F ht⟩) hS.2.2 dL_acts_1138
        · refine lv_iconst (v := 1) hx hb dL_acts_1133 (by decide) ?_
          refine lv_goto (tgt := 1138) hx hb dL_acts_1134 (by decide) ?_
          have e9 : (zA_set Ω y2 k i who v) = ((1 : Int32), (zX7_set Ω (zL_low y2 5) (zL_low (y2 >>> (3 &&& 31)) 11)).2) := by unfold zA_set; rw [if_pos c_1, if_neg c_19, if_pos c_22, if_pos c_24]
          have hz := rd3 (act_set hI0 hk hi hw hv y2) e9
          exact W.zret (v := 1) hx hb hr (by decide) (fun t ht hW => ⟨⟨1, (zX7_set Ω (zL_low y2 5) (zL_low (y2 >>> (3 &&& 31)) 11)).2, rfl, hz, by dsimp only; rw [ht]; exact hY⟩, hS.F ht⟩) hS.2.2 dL_acts_1138
      · refine lv_iload hx hb dL_acts_1085 (lv_at hl 1 rfl) ?_
        refine lv_bipush (v := 10) hx hb dL_acts_1087 (by decide) ?_
        refine lv_icmp_ne (tgt := 1108) hx hb dL_acts_1089 (by decide) (fun c_25 => ?_) (fun c_25 => ?_)
        · refine lv_iconst (v := 0) hx hb dL_acts_1108 (by decide) ?_
          refine lv_istore (lv' := [(15, .int 0), (14, .int 0), (13, .int (zL_low (y2 >>> (3 &&& 31)) 11)), (12, .int (zL_low y2 5)), (11, .int v), (10, .int who), (9, .int i), (8, .int k), (7, .int (zX3_total (Ω 0) 3)), (6, .int (zX3_total (Ω 0) 2)), (5, .int (zX3_total (Ω 0) 1)), (4, .int (zX3_total (Ω 0) 0)), (3, .int how), (2, .int y2), (1, .int x2), (0, .ref (ob 0))]) hx hb dL_acts_1109 hl (by decide) rfl (fun ls hl => ?_)
          refine lv_aload_n hx hb dL_acts_1111 rfl (lv_at hl 15 rfl) ?_
          refine lv_iload hx hb dL_acts_1112 (lv_at hl 3 rfl) ?_
          refine lv_iload hx hb dL_acts_1114 (lv_at hl 2 rfl) ?_
          refine kX7_set hF (cwV 2 hts gL_acts_X7_set rfl rfl rfl hdX7_set ⟨Nat.le_of_ble_eq_true rfl, Nat.le_of_ble_eq_true rfl⟩) hC hY hJ hOk (hZs.at_ hS hn0) hn0 hS (fun _ h => h) hl.1 (Nat.le_of_ble_eq_true rfl) dL_acts_1116 ⟨Nat.zero_le _, Nat.zero_le _⟩ (fun H locs hY _ _ hS => ?_)
          have hI : InvO ((zX7_set Ω (zL_low y2 5) (zL_low (y2 >>> (3 &&& 31)) 11)).2) := (pub_set hI (zL_low y2 5) (zL_low (y2 >>> (3 &&& 31)) 11)).2.1
          have hOk := hI.1
          refine lv_iload hx hb dL_acts_1119 (lv_at hl 0 rfl) ?_
          refine lv_if_eq (tgt := 1128) hx hb dL_acts_1121 (by decide) (fun _ => ?_) (fun c_26 => absurd (by decide) c_26)
          refine lv_iload hx hb dL_acts_1128 (lv_at hl 1 rfl) ?_
          refine lv_icmp_ne (tgt := 1137) hx hb dL_acts_1130 (by decide) (fun c_27 => ?_) (fun c_27 => ?_)
          · refine lv_iconst (v := 0) hx hb dL_acts_1137 (by decide) ?_
            have e9 : (zA_set Ω y2 k i who v) = ((0 : Int32), (zX7_set Ω (zL_low y2 5) (zL_low (y2 >>> (3 &&& 31)) 11)).2) := by unfold zA_set; rw [if_pos c_1, if_neg c_19, if_neg c_22, if_neg c_25, if_neg c_27]
            have hz := rd3 (act_set hI0 hk hi hw hv y2) e9
            exact W.zret (v := 0) hx hb hr (by decide) (fun t ht hW => ⟨⟨0, (zX7_set Ω (zL_low y2 5) (zL_low (y2 >>> (3 &&& 31)) 11)).2, rfl, hz, by dsimp only; rw [ht]; exact hY⟩, hS.F ht⟩) hS.2.2 dL_acts_1138
          · refine lv_iconst (v := 1) hx hb dL_acts_1133 (by decide) ?_
            refine lv_goto (tgt := 1138) hx hb dL_acts_1134 (by decide) ?_
            have e9 : (zA_set Ω y2 k i who v) = ((1 : Int32), (zX7_set Ω (zL_low y2 5) (zL_low (y2 >>> (3 &&& 31)) 11)).2) := by unfold zA_set; rw [if_pos c_1, if_neg c_19, if_neg c_22, if_neg c_25, if_pos c_27]
            have hz := rd3 (act_set hI0 hk hi hw hv y2) e9
            exact W.zret (v := 1) hx hb hr (by decide) (fun t ht hW => ⟨⟨1, (zX7_set Ω (zL_low y2 5) (zL_low (y2 >>> (3 &&& 31)) 11)).2, rfl, hz, by dsimp only; rw [ht]; exact hY⟩, hS.F ht⟩) hS.2.2 dL_acts_1138
        · refine lv_iload hx hb dL_acts_1092 (lv_at hl 2 rfl) ?_
          refine lv_iconst (v := 1) hx hb dL_acts_1094 (by decide) ?_
          refine lv_icmp_eq (tgt := 1104) hx hb dL_acts_1095 (by decide) (fun c_28 => ?_) (fun c_28 => ?_)
          · refine lv_iconst (v := 1) hx hb dL_acts_1104 (by decide) ?_
            refine lv_goto (tgt := 1109) hx hb dL_acts_1105 (by decide) ?_
            refine lv_istore (lv' := [(15, .int 1), (14, .int 0), (13, .int (zL_low (y2 >>> (3 &&& 31)) 11)), (12, .int (zL_low y2 5)), (11, .int v), (10, .int who), (9, .int i), (8, .int k), (7, .int (zX3_total (Ω 0) 3)), (6, .int (zX3_total (Ω 0) 2)), (5, .int (zX3_total (Ω 0) 1)), (4, .int (zX3_total (Ω 0) 0)), (3, .int how), (2, .int y2), (1, .int x2), (0, .ref (ob 0))]) hx hb dL_acts_1109 hl (by decide) rfl (fun ls hl => ?_)
            refine lv_aload_n hx hb dL_acts_1111 rfl (lv_at hl 15 rfl) ?_
            refine lv_iload hx hb dL_acts_1112 (lv_at hl 3 rfl) ?_
            refine lv_iload hx hb dL_acts_1114 (lv_at hl 2 rfl) ?_
            refine kX7_set hF (cwV 2 hts gL_acts_X7_set rfl rfl rfl hdX7_set ⟨Nat.le_of_ble_eq_true rfl, Nat.le_of_ble_eq_true rfl⟩) hC hY hJ hOk (hZs.at_ hS hn0) hn0 hS (fun _ h => h) hl.1 (Nat.le_of_ble_eq_true rfl) dL_acts_1116 ⟨Nat.zero_le _, Nat.zero_le _⟩ (fun H locs hY _ _ hS => ?_)
            have hI : InvO ((zX7_set Ω (zL_low y2 5) (zL_low (y2 >>> (3 &&& 31)) 11)).2) := (pub_set hI (zL_low y2 5) (zL_low (y2 >>> (3 &&& 31)) 11)).2.1
            have hOk := hI.1
            refine lv_iload hx hb dL_acts_1119 (lv_at hl 0 rfl) ?_
            refine lv_if_eq (tgt := 1128) hx hb dL_acts_1121 (by decide) (fun c_29 => absurd c_29 (by decide)) (fun _ => ?_)
            refine lv_iconst (v := (-1)) hx hb dL_acts_1124 (by decide) ?_
            refine lv_goto (tgt := 1130) hx hb dL_acts_1125 (by decide) ?_
            refine lv_icmp_ne (tgt := 1137) hx hb dL_acts_1130 (by decide) (fun c_30 => ?_) (fun c_30 => ?_)
            · refine lv_iconst (v := 0) hx hb dL_acts_1137 (by decide) ?_
              have e9 : (zA_set Ω y2 k i who v) = ((0 : Int32), (zX7_set Ω (zL_low y2 5) (zL_low (y2 >>> (3 &&& 31)) 11)).2) := by unfold zA_set; rw [if_pos c_1, if_neg c_19, if_neg c_22, if_pos c_25, if_pos c_28, if_neg c_30]
              have hz := rd3 (act_set hI0 hk hi hw hv y2) e9
              exact W.zret (v := 0) hx hb hr (by decide) (fun t ht hW => ⟨⟨0, (zX7_set Ω (zL_low y2 5) (zL_low (y2 >>> (3 &&& 31)) 11)).2, rfl, hz, by dsimp only; rw [ht]; exact hY⟩, hS.F ht⟩) hS.2.2 dL_acts_1138
            · refine lv_iconst (v := 1) hx hb dL_acts_1133 (by decide) ?_
              refine lv_goto (tgt := 1138) hx hb dL_acts_1134 (by decide) ?_
              have e9 : (zA_set Ω y2 k i who v) = ((1 : Int32), (zX7_set Ω (zL_low y2 5) (zL_low (y2 >>> (3 &&& 31)) 11)).2) := by unfold zA_set; rw [if_pos c_1, if_neg c_19, if_neg c_22, if_pos c_25, if_pos c_28, if_pos c_30]
              have hz := rd3 (act_set hI0 hk hi hw hv y2) e9
              exact W.zret (v := 1) hx hb hr (by decide) (fun t ht hW => ⟨⟨1, (zX7_set Ω (zL_low y2 5) (zL_low (y2 >>> (3 &&& 31)) 11)).2, rfl, hz, by dsimp only; rw [ht]; exact hY⟩, hS.F ht⟩) hS.2.2 dL_acts_1138
          · refine lv_iload hx hb dL_acts_1098 (lv_at hl 2 rfl) ?_
            refine lv_iconst (v := 3) hx hb dL_acts_1100 (by decide) ?_
            refine lv_icmp_ne (tgt := 1108) hx hb dL_acts_1101 (by decide) (fun c_31 => ?_) (fun c_31 => ?_)
            · refine lv_iconst (v := 0) hx hb dL_acts_1108 (by decide) ?_
              refine lv_istore (lv' := [(15, .int 0), (14, .int 0), (13, .int (zL_low (y2 >>> (3 &&& 31)) 11)), (12, .int (zL_low y2 5)), (11, .int v), (10, .int who), (9, .int i), (8, .int k), (7, .int (zX3_total (Ω 0) 3)), (6, .int (zX3_total (Ω 0) 2)), (5, .int (zX3_total (Ω 0) 1)), (4, .int (zX3_total (Ω 0) 0)), (3, .int how), (2, .int y2), (1, .int x2), (0, .ref (ob 0))]) hx hb dL_acts_1109 hl (by decide) rfl (fun ls hl => ?_)
              refine lv_aload_n hx hb dL_acts_1111 rfl (lv_at hl 15 rfl) ?_
              refine lv_iload hx hb dL_acts_1112 (lv_at hl 3 rfl) ?_
              refine lv_iload hx hb dL_acts_1114 (lv_at hl 2 rfl) ?_
              refine kX7_set hF (cwV 2 hts gL_acts_X7_set rfl rfl rfl hdX7_set ⟨Nat.le_of_ble_eq_true rfl, Nat.le_of_ble_eq_true rfl⟩) hC hY hJ hOk (hZs.at_ hS hn0) hn0 hS (fun _ h => h) hl.1 (Nat.le_of_ble_eq_true rfl) dL_acts_1116 ⟨Nat.zero_le _, Nat.zero_le _⟩ (fun H locs hY _ _ hS => ?_)
              have hI : InvO ((zX7_set Ω (zL_low y2 5) (zL_low (y2 >>> (3 &&& 31)) 11)).2) := (pub_set hI (zL_low y2 5) (zL_low (y2 >>> (3 &&& 31)) 11)).2.1
              have hOk := hI.1
              refine lv_iload hx hb dL_acts_1119 (lv_at hl 0 rfl) ?_
              refine lv_if_eq (tgt := 1128) hx hb dL_acts_1121 (by decide) (fun _ => ?_) (fun c_32 => absurd (by decide) c_32)
              refine lv_iload hx hb dL_acts_1128 (lv_at hl 1 rfl) ?_
              refine lv_icmp_ne (tgt := 1137) hx hb dL_acts_1130 (by decide) (fun c_33 => ?_) (fun c_33 => ?_)
              · refine lv_iconst (v := 0) hx hb dL_acts_1137 (by decide) ?_
                have e9 : (zA_set Ω y2 k i who v) = ((0 : Int32), (zX7_set Ω (zL_low y2 5) (zL_low (y2 >>> (3 &&& 31)) 11)).2) := by unfold zA_set; rw [if_pos c_1, if_neg c_19, if_neg c_22, if_pos c_25, if_neg c_28, if_neg c_31, if_neg c_33]
                have hz := rd3 (act_set hI0 hk hi hw hv y2) e9
                exact W.zret (v := 0) hx hb hr (by decide) (fun t ht hW => ⟨⟨0, (zX7_set Ω (zL_low y2 5) (zL_low (y2 >>> (3 &&& 31)) 11)).2, rfl, hz, by dsimp only; rw [ht]; exact hY⟩, hS.F ht⟩) hS.2.2 dL_acts_1138
              · refine lv_iconst (v := 1) hx hb dL_acts_1133 (by decide) ?_
                refine lv_goto (tgt := 1138) hx hb dL_acts_1134 (by decide) ?_
                have e9 : (zA_set Ω y2 k i who v) = ((1 : Int32), (zX7_set Ω (zL_low y2 5) (zL_low (y2 >>> (3 &&& 31)) 11)).2) := by unfold zA_set; rw [if_pos c_1, if_neg c_19, if_neg c_22, if_pos c_25, if_neg c_28, if_neg c_31, if_pos c_33]
                have hz := rd3 (act_set hI0 hk hi hw hv y2) e9
                exact W.zret (v := 1) hx hb hr (by decide) (fun t ht hW => ⟨⟨1, (zX7_set Ω (zL_low y2 5) (zL_low (y2 >>> (3 &&& 31)) 11)).2, rfl, hz, by dsimp only; rw [ht]; exact hY⟩, hS.F ht⟩) hS.2.2 dL_acts_1138
            · refine lv_iconst (v := 1) hx hb dL_acts_1104 (by decide) ?_
              refine lv_goto (tgt := 1109) hx hb dL_acts_1105 (by decide) ?_
              refine lv_istore (lv' := [(15, .int 1), (14, .int 0), (13, .int (zL_low (y2 >>> (3 &&& 31)) 11)), (12, .int (zL_low y2 5)), (11, .int v), (10, .int who), (9, .int i), (8, .int k), (7, .int (zX3_total (Ω 0) 3)), (6, .int (zX3_total (Ω 0) 2)), (5, .int (zX3_total (Ω 0) 1)), (4, .int (zX3_total (Ω 0) 0)), (3, .int how), (2, .int y2), (1, .int x2), (0, .ref (ob 0))]) hx hb dL_acts_1109 hl (by decide) rfl (fun ls hl => ?_)
              refine lv_aload_n hx hb dL_acts_1111 rfl (lv_at hl 15 rfl) ?_
              refine lv_iload hx hb dL_acts_1112 (lv_at hl 3 rfl) ?_
              refine lv_iload hx hb dL_acts_1114 (lv_at hl 2 rfl) ?_
              refine kX7_set hF (cwV 2 hts gL_acts_X7_set rfl rfl rfl hdX7_set ⟨Nat.le_of_ble_eq_true rfl, Nat.le_of_ble_eq_true rfl⟩) hC hY hJ hOk (hZs.at_ hS hn0) hn0 hS (fun _ h => h) hl.1 (Nat.le_of_ble_eq_true rfl) dL_acts_1116 ⟨Nat.zero_le _, Nat.zero_le _⟩ (fun H locs hY _ _ hS => ?_)
              have hI : InvO ((zX7_set Ω (zL_low y2 5) (zL_low (y2 >>> (3 &&& 31)) 11)).2) := (pub_set hI (zL_low y2 5) (zL_low (y2 >>> (3 &&& 31)) 11)).2.1
              have hOk := hI.1
              refine lv_iload hx hb dL_acts_1119 (lv_at hl 0 rfl) ?_
              refine lv_if_eq (tgt := 1128) hx hb dL_acts_1121 (by decide) (fun c_34 => absurd c_34 (by decide)) (fun _ => ?_)
              refine lv_iconst (v := (-1)) hx hb dL_acts_1124 (by decide) ?_
              refine lv_goto (tgt := 1130) hx hb dL_acts_1125 (by decide) ?_
              refine lv_icmp_ne (tgt := 1137) hx hb dL_acts_1130 (by decide) (fun c_35 => ?_) (fun c_35 => ?_)
              · refine lv_iconst (v := 0) hx hb dL_acts_1137 (by decide) ?_
                have e9 : (zA_set Ω y2 k i who v) = ((0 : Int32), (zX7_set Ω (zL_low y2 5) (zL_low (y2 >>> (3 &&& 31)) 11)).2) := by unfold zA_set; rw [if_pos c_1, if_neg c_19, if_neg c_22, if_pos c_25, if_neg c_28, if_pos c_31, if_neg c_35]
                have hz := rd3 (act_set hI0 hk hi hw hv y2) e9
                exact W.zret (v := 0) hx hb hr (by decide) (fun t ht hW => ⟨⟨0, (zX7_set Ω (zL_low y2 5) (zL_low (y2 >>> (3 &&& 31)) 11)).2, rfl, hz, by dsimp only; rw [ht]; exact hY⟩, hS.F ht⟩) hS.2.2 dL_acts_1138
              · refine lv_iconst (v := 1) hx hb dL_acts_1133 (by decide) ?_
                refine lv_goto (tgt := 1138) hx hb dL_acts_1134 (by decide) ?_
                have e9 : (zA_set Ω y2 k i who v) = ((1 : Int32), (zX7_set Ω (zL_low y2 5) (zL_low (y2 >>> (3 &&& 31)) 11)).2) := by unfold zA_set; rw [if_pos c_1, if_neg c_19, if_neg c_22, if_pos c_25, if_neg c_28, if_pos c_31, if_pos c_35]
                have hz := rd3 (act_set hI0 hk hi hw hv y2) e9
                exact W.zret (v := 1) hx hb hr (by decide) (fun t ht hW => ⟨⟨1, (zX7_set Ω (zL_low y2 5) (zL_low (y2 >>> (3 &&& 31)) 11)).2, rfl, hz, by dsimp only; rw [ht]; exact hY⟩, hS.F ht⟩) hS.2.2 dL_acts_1138
set_option maxHeartbeats 4000000 in
set_option maxRecDepth 100000 in
theorem ba_pass {p : Program} {l : Launch} {e : Env} {s : State} {m : MethodId} {args : Array Value} {below : List Frame} {meth : Method} {c : Code} {D : va_G} {y : Y3} {n0 tM tF : Nat} {ob : Nat → Nat} {AD : Nat → Nat → Nat} {Ω : Og} {y2 x2 how k i who v : Int32} (hx : p.tables.exec = Jvm.exec) (hb : c.code = cL_acts) (hml : c.maxLocals = 16) (hown : s.vm.findClass RL = some m.cls) (hts : ∀ w ∈ wsL_acts, w.before args s = true) (hr : meth.sig.returnType = some .boolean) (hlocks : meth.locks = false) (hC : CK D y s) (hJ : sysJ ob AD) (hI : InvO Ω) (hZs : STM n0 tM tF s s.heap) (hn0 : ∀ q, sysA ob AD q → n0 ≤ q) (hk : KB Ω 0 k) (hi : KB Ω 1 i) (hw : KB Ω 2 who) (hv : KB Ω 3 v) {H : Heap} {locs : List Loc} (hY : SysH D y ob AD Ω H) (hS : va_S (sysA ob AD) s.heap H locs) (ls : Array Slot) (hl : lv_has ls 16 [(11, .int v), (10, .int who), (9, .int i), (8, .int k), (7, .int (zX3_total (Ω 0) 3)), (6, .int (zX3_total (Ω 0) 2)), (5, .int (zX3_total (Ω 0) 1)), (4, .int (zX3_total (Ω 0) 0)), (3, .int how), (2, .int y2), (1, .int x2), (0, .ref (ob 0))]) : W p l e (headSpec wsL_acts ({ frames := 9, cells := 0, slots := 0, locals := 207 } : Room)).room s m args below meth c H locs 0 0 (MQ below (va_Qi (fun (r : Int32) (u : Og) => (r = 1 ∧ InvO u ∧ HSt Ω u)) (fun u t => SysH D y ob AD u t.heap) (sysA ob AD)) args s 0 0 (sysA ob AD)) (F0 m 1145 ls []) := by
  have hF := (⟨hx, hb, hml, hown, hts⟩ : CallFix p m c cL_acts 16 s args wsL_acts RL)
  have hI0 := hI
  have hOk := hI.1
  refine lv_iload_n hx hb dL_acts_1145 rfl (lv_at hl 9 rfl) ?_
  refine lv_iconst (v := 4) hx hb dL_acts_1146 (by decide) ?_
  refine kL_low (x1 := y2) (x2 := 4) hF (va_cwS 2 hts gL_acts_L_low rfl rfl rfl hdL_low ⟨Nat.le_of_ble_eq_true rfl, Nat.le_of_ble_eq_true rfl⟩) hC (by decide) hl.1 (Nat.le_of_ble_eq_true rfl) dL_acts_1147 ⟨Nat.zero_le _, Nat.zero_le _⟩ ?_
  refine lv_if_ne (tgt := 1164) hx hb dL_acts_1150 (by decide) (fun c_1 => ?_) (fun c_1 => ?_)
  · refine lv_iconst (v := 1) hx hb dL_acts_1164 (by decide) ?_
    refine lv_iload_n hx hb dL_acts_1165 rfl (lv_at hl 9 rfl) ?_
    refine lv_iconst (v := 2) hx hb dL_acts_1166 (by decide) ?_
    refine lv_ishr hx hb dL_acts_1167 ?_
    refine lv_iconst (v := 5) hx hb dL_acts_1168 (by decide) ?_
    refine kL_low (x1 := (y2 >>> (2 &&& 31))) (x2 := 5) hF (va_cwS 2 hts gL_acts_L_low rfl rfl rfl hdL_low ⟨Nat.le_of_ble_eq_true rfl, Nat.le_of_ble_eq_true rfl⟩) hC (by decide) hl.1 (Nat.le_of_ble_eq_true rfl) dL_acts_1169 ⟨Nat.zero_le _, Nat.zero_le _⟩ ?_
    refine lv_iadd hx hb dL_acts_1172 ?_
    refine lv_istore (lv' := [(12, .int ((1 : Int32) + (zL_low (y2 >>> (2 &&& 31)) 5))), (11, .int v), (10, .int who), (9, .int i), (8, .int k), (7, .int (zX3_total (Ω 0) 3)), (6, .int (zX3_total (Ω 0) 2)), (5, .int (zX3_total (Ω 0) 1)), (4, .int (zX3_total (Ω 0) 0)), (3, .int how), (2, .int y2), (1, .int x2), (0, .ref (ob 0))]) hx hb dL_acts_1173 hl (by decide) rfl (fun ls hl => ?_)
    refine lv_aload_n hx hb dL_acts_1175 rfl (lv_at hl 12 rfl) ?_
    refine lv_iconst (v := 4) hx hb dL_acts_1176 (by decide) ?_
    refine rX7_countT hF (cwV 1 hts gL_acts_X7_count rfl rfl rfl hdX7_count ⟨Nat.le_of_ble_eq_true rfl, Nat.le_of_ble_eq_true rfl⟩) hC hY hJ hOk ⟨by decide, by decide⟩ hS (fun _ h => h) hl.1 (Nat.le_of_ble_eq_true rfl) dL_acts_1177 ⟨Nat.zero_le _, Nat.zero_le _⟩ (fun H locs hY _ _ hS => ?_)
    refine lv_istore (lv' := [(13, .int (zX3_total (Ω 0) 4)), (12, .int ((1 : Int32) + (zL_low (y2 >>> (2 &&& 31)) 5))), (11, .int v), (10, .int who), (9, .int i), (8, .int k), (7, .int (zX3_total (Ω 0) 3)), (6, .int (zX3_total (Ω 0) 2)), (5, .int (zX3_total (Ω 0) 1)), (4, .int (zX3_total (Ω 0) 0)), (3, .int how), (2, .int y2), (1, .int x2), (0, .ref (ob 0))]) hx hb dL_acts_1180 hl (by decide) rfl (fun ls hl => ?_)
    refine lv_aload_n hx hb dL_acts_1182 rfl (lv_at hl 13 rfl) ?_
    refine lv_bipush (v := 9) hx hb dL_acts_1183 (by decide) ?_
    refine rX7_countT hF (cwV 1 hts gL_acts_X7_count rfl rfl rfl hdX7_count ⟨Nat.le_of_ble_eq_true rfl, Nat.le_of_ble_eq_true rfl⟩) hC hY hJ hOk ⟨by decide, by decide⟩ hS (fun _ h => h) hl.1 (Nat.le_of_ble_eq_true rfl) dL_acts_1185 ⟨Nat.zero_le _, Nat.zero_le _⟩ (fun H locs hY _ _ hS => ?_)
    refine lv_istore (lv' := [(14, .int (zX3_total (Ω 0) 9)), (13, .int (zX3_total (Ω 0) 4)), (12, .int ((1 : Int32) + (zL_low (y2 >>> (2 &&& 31)) 5))), (11, .int v), (10, .int who), (9, .int i), (8, .int k), (7, .int (zX3_total (Ω 0) 3)), (6, .int (zX3_total (Ω 0) 2)), (5, .int (zX3_total (Ω 0) 1)), (4, .int (zX3_total (Ω 0) 0)), (3, .int how), (2, .int y2), (1, .int x2), (0, .ref (ob 0))]) hx hb dL_acts_1188 hl (by decide) rfl (fun ls hl => ?_)
    refine lv_aload_n hx hb dL_acts_1190 rfl (lv_at hl 14 rfl) ?_
    refine lv_iload hx hb dL_acts_1191 (lv_at hl 2 rfl) ?_
    refine kX7_pass hF (cwV 1 hts gL_acts_X7_pass rfl rfl rfl hdX7_pass ⟨Nat.le_of_ble_eq_true rfl, Nat.le_of_ble_eq_true rfl⟩) hC hY hJ hOk hS (fun _ h => h) hl.1 (Nat.le_of_ble_eq_true rfl) dL_acts_1193 ⟨Nat.zero_le _, Nat.zero_le _⟩ (fun H locs hY _ _ hS => ?_)
    have hI : InvO ((zX7_pass Ω ((1 : Int32) + (zL_low (y2 >>> (2 &&& 31)) 5))).2) := (pub_pass hI ((1 : Int32) + (zL_low (y2 >>> (2 &&& 31)) 5))).2.1
    have hOk := hI.1
    refine lv_istore (lv' := [(15, .int ((zX7_pass Ω ((1 : Int32) + (zL_low (y2 >>> (2 &&& 31)) 5))).1)), (14, .int (zX3_total (Ω 0) 9)), (13, .int (zX3_total (Ω 0) 4)), (12, .int ((1 : Int32) + (zL_low (y2 >>> (2 &&& 31)) 5))), (11, .int v), (10, .int who), (9, .int i), (8, .int k), (7, .int (zX3_total (Ω 0) 3)), (6, .int (zX3_total (Ω 0) 2)), (5, .int (zX3_total (Ω 0) 1)), (4, .int (zX3_total (Ω 0) 0)), (3, .int how), (2, .int y2), (1, .int x2), (0, .ref (ob 0))]) hx hb dL_acts_1196 hl (by decide) rfl (fun ls hl => ?_)
    refine lv_iload hx hb dL_acts_1198 (lv_at hl 3 rfl) ?_
    refine lv_if_eq (tgt := 1210) hx hb dL_acts_1200 (by decide) (fun c_2 => ?_) (fun c_2 => ?_)
    · refine lv_iload hx hb dL_acts_1210 (lv_at hl 0 rfl) ?_
      refine lv_iconst (v := (-1)) hx hb dL_acts_1212 (by decide) ?_
      refine lv_icmp_ne (tgt := 1220) hx hb dL_acts_1213 (by decide) (fun c_3 => ?_) (fun c_3 => ?_)
      · refine lv_iconst (v := 0) hx hb dL_acts_1220 (by decide) ?_
        refine lv_goto (tgt := 1282) hx hb dL_acts_1221 (by decide) ?_
        have e9 : (zA_pass Ω y2 k i who v) = ((0 : Int32), (zX7_pass Ω ((1 : Int32) + (zL_low (y2 >>> (2 &&& 31)) 5))).2) := by unfold zA_pass; rw [if_neg c_1, if_pos c_2, if_neg c_3]
        have hz := rd3 (act_pass hI0 hk hi hw hv y2) e9
        exact W.zret (v := 0) hx hb hr (by decide) (fun t ht hW => ⟨⟨0, (zX7_pass Ω ((1 : Int32) + (zL_low (y2 >>> (2 &&& 31)) 5))).2, rfl, hz, by dsimp only; rw [ht]; exact hY⟩, hS.F ht⟩) hS.2.2 dL_acts_1282
      · refine lv_iconst (v := 1) hx hb dL_acts_1216 (by decide) ?_
        refine lv_goto (tgt := 1282) hx hb dL_acts_1217 (by decide) ?_
        have e9 : (zA_pass Ω y2 k i who v) = ((1 : Int32), (zX7_pass Ω ((1 : Int32) + (zL_low (y2 >>> (2 &&& 31)) 5))).2) := by unfold zA_pass; rw [if_neg c_1, if_pos c_2, if_pos c_3]
        have hz := rd3 (act_pass hI0 hk hi hw hv y2) e9
        exact W.zret (v := 1) hx hb hr (by decide) (fun t ht hW => ⟨⟨1, (zX7_pass Ω ((1 : Int32) + (zL_low (y2 >>> (2 &&& 31)) 5))).2, rfl, hz, by dsimp only; rw [ht]; exact hY⟩, hS.F ht⟩) hS.2.2 dL_acts_1282
    · refine lv_iload hx hb dL_acts_1203 (lv_at hl 3 rfl) ?_
      refine lv_bipush (v := 100) hx hb dL_acts_1205 (by decide) ?_
      refine lv_icmp_ne (tgt := 1224) hx hb dL_acts_1207 (by decide) (fun c_4 => ?_) (fun c_4 => ?_)
      · refine lv_iload hx hb dL_acts_1224 (lv_at hl 0 rfl) ?_
        refine lv_bipush (v := (-3)) hx hb dL_acts_1226 (by decide) ?_
        refine lv_icmp_ne (tgt := 1250) hx hb dL_acts_1228 (by decide) (fun c_5 => ?_) (fun c_5 => ?_)
        · refine lv_iload hx hb dL_acts_1250 (lv_at hl 0 rfl) ?_
          refine lv_aload_n hx hb dL_acts_1252 rfl (lv_at hl 15 rfl) ?_
          refine lv_bipush (v := 9) hx hb dL_acts_1253 (by decide) ?_
          refine rX7_countT hF (cwV 1 hts gL_acts_X7_count rfl rfl rfl hdX7_count ⟨Nat.le_of_ble_eq_true rfl, Nat.le_of_ble_eq_true rfl⟩) hC hY hJ hOk ⟨by decide, by decide⟩ hS (fun _ h => h) hl.1 (Nat.le_of_ble_eq_true rfl) dL_acts_1255 ⟨Nat.zero_le _, Nat.zero_le _⟩ (fun H locs hY _ _ hS => ?_)
          refine lv_iload hx hb dL_acts_1258 (lv_at hl 1 rfl) ?_
          refine lv_isub hx hb dL_acts_1260 ?_
          refine lv_icmp_ne (tgt := 1281) hx hb dL_acts_1261 (by decide) (fun c_6 => ?_) (fun c_6 => ?_)
          · refine lv_iconst (v := 0) hx hb dL_acts_1281 (by decide) ?_
            have e9 : (zA_pass Ω y2 k i who v) = ((0 : Int32), (zX7_pass Ω ((1 : Int32) + (zL_low (y2 >>> (2 &&& 31)) 5))).2) := by unfold zA_pass; rw [if_neg c_1, if_neg c_2, if_neg c_4, if_neg c_5, if_neg c_6]
            have hz := rd3 (act_pass hI0 hk hi hw hv y2) e9
            exact W.zret (v := 0) hx hb hr (by decide) (fun t ht hW => ⟨⟨0, (zX7_pass Ω ((1 : Int32) + (zL_low (y2 >>> (2 &&& 31)) 5))).2, rfl, hz, by dsimp only; rw [ht]; exact hY⟩, hS.F ht⟩) hS.2.2 dL_acts_1282
          · refine lv_aload_n hx hb dL_acts_1264 rfl (lv_at hl 15 rfl) ?_
            refine lv_iconst (v := 4) hx hb dL_acts_1265 (by decide) ?_
            refine rX7_countT hF (cwV 1 hts gL_acts_X7_count rfl rfl rfl hdX7_count ⟨Nat.le_of_ble_eq_true rfl, Nat.le_of_ble_eq_true rfl⟩) hC hY hJ hOk ⟨by decide, by decide⟩ hS (fun _ h => h) hl.1 (Nat.le_of_ble_eq_true rfl) dL_acts_1266 ⟨Nat.zero_le _, Nat.zero_le _⟩ (fun H locs hY _ _ hS => ?_)
            refine lv_iload hx hb dL_acts_1269 (lv_at hl 2 rfl) ?_
            refine lv_iload hx hb dL_acts_1271 (lv_at hl 3 rfl) ?_
            refine lv_iadd hx hb dL_acts_1273 ?_
            refine lv_icmp_ne (tgt := 1281) hx hb dL_acts_1274 (by decide) (fun c_7 => ?_) (fun c_7 => ?_)
            · refine lv_iconst (v := 0) hx hb dL_acts_1281 (by decide) ?_
              have e9 : (zA_pass Ω y2 k i who v) = ((0 : Int32), (zX7_pass Ω ((1 : Int32) + (zL_low (y2 >>> (2 &&& 31)) 5))).2) := by unfold zA_pass; rw [if_neg c_1, if_neg c_2, if_neg c_4, if_neg c_5, if_pos c_6, if_neg c_7]
              have hz := rd3 (act_pass hI0 hk hi hw hv y2) e9
              exact W.zret (v := 0) hx hb hr (by decide) (fun t ht hW => ⟨⟨0, (zX7_pass Ω ((1 : Int32) + (zL_low (y2 >>> (2 &&& 31)) 5))).2, rfl, hz, by dsimp only; rw [ht]; exact hY⟩, hS.F ht⟩) hS.2.2 dL_acts_1282
            · refine lv_iconst (v := 1) hx hb dL_acts_1277 (by decide) ?_
              refine lv_goto (tgt := 1282) hx hb dL_acts_1278 (by decide) ?_
              have e9 : (zA_pass Ω y2 k i who v) = ((1 : Int32), (zX7_pass Ω ((1 : Int32) + (zL_low (y2 >>> (2 &&& 31)) 5))).2) := by unfold zA_pass; rw [if_neg c_1, if_neg c_2, if_neg c_4, if_neg c_5, if_pos c_6, if_pos c_7]
              have hz := rd3 (act_pass hI0 hk hi hw hv y2) e9
              exact W.zret (v := 1) hx hb hr (by decide) (fun t ht hW => ⟨⟨1, (zX7_pass Ω ((1 : Int32) + (zL_low (y2 >>> (2 &&& 31)) 5))).2, rfl, hz, by dsimp only; rw [ht]; exact hY⟩, hS.F ht⟩) hS.2.2 dL_acts_1282
        · refine lv_iload hx hb dL_acts_1231 (lv_at hl 2 rfl) ?_
          refine lv_iload hx hb dL_acts_1233 (lv_at hl 3 rfl) ?_
          refine lv_iadd hx hb dL_acts_1235 ?_
          refine lv_sipush (v := 5000) hx hb dL_acts_1236 (by decide) ?_
          refine lv_icmp_le (tgt := 1246) hx hb dL_acts_1239 (by decide) (fun c_8 => ?_) (fun c_8 => ?_)
          · refine lv_iconst (v := 0) hx hb dL_acts_1246 (by decide) ?_
            refine lv_goto (tgt := 1282) hx hb dL_acts_1247 (by decide) ?_
            have e9 : (zA_pass Ω y2 k i who v) = ((0 : Int32), (zX7_pass Ω ((1 : Int32) + (zL_low (y2 >>> (2 &&& 31)) 5))).2) := by unfold zA_pass; rw [if_neg c_1, if_neg c_2, if_neg c_4, if_pos c_5, if_pos c_8]
            have hz := rd3 (act_pass hI0 hk hi hw hv y2) e9
            exact W.zret (v := 0) hx hb hr (by decide) (fun t ht hW => ⟨⟨0, (zX7_pass Ω ((1 : Int32) + (zL_low (y2 >>> (2 &&& 31)) 5))).2, rfl, hz, by dsimp only; rw [ht]; exact hY⟩, hS.F ht⟩) hS.2.2 dL_acts_1282
          · refine lv_iconst (v := 1) hx hb dL_acts_1242 (by decide) ?_
            refine lv_goto (tgt := 1282) hx hb dL_acts_1243 (by decide) ?_
            have e9 : (zA_pass Ω y2 k i who v) = ((1 : Int32), (zX7_pass Ω ((1 : Int32) + (zL_low (y2 >>> (2 &&& 31)) 5))).2) := by unfold zA_pass; rw [if_neg c_1, if_neg c_2, if_neg c_4, if_pos c_5, if_neg c_8]
            have hz := rd3 (act_pass hI0 hk hi hw hv y2) e9
            exact W.zret (v := 1) hx hb hr (by decide) (fun t ht hW => ⟨⟨1, (zX7_pass Ω ((1 : Int32) + (zL_low (y2 >>> (2 &&& 31)) 5))).2, rfl, hz, by dsimp only; rw [ht]; exact hY⟩, hS.F ht⟩) hS.2.2 dL_acts_1282
      · refine lv_iload hx hb dL_acts_1210 (lv_at hl 0 rfl) ?_
        refine lv_iconst (v := (-1)) hx hb dL_acts_1212 (by decide) ?_
        refine lv_icmp_ne (tgt := 1220) hx hb dL_acts_1213 (by decide) (fun c_9 => ?_) (fun c_9 => ?_)
        · refine lv_iconst (v := 0) hx hb dL_acts_1220 (by decide) ?_
          refine lv_goto (tgt := 1282) hx hb dL_acts_1221 (by decide) ?_
          have e9 : (zA_pass Ω y2 k i who v) = ((0 : Int32), (zX7_pass Ω ((1 : Int32) + (zL_low (y2 >>> (2 &&& 31)) 5))).2) := by unfold zA_pass; rw [if_neg c_1, if_neg c_2, if_pos c_4, if_neg c_9]
          have hz := rd3 (act_pass hI0 hk hi hw hv y2) e9
          exact W.zret (v := 0) hx hb hr (by decide) (fun t ht hW => ⟨⟨0, (zX7_pass Ω ((1 : Int32) + (zL_low (y2 >>> (2 &&& 31)) 5))).2, rfl, hz, by dsimp only; rw [ht]; exact hY⟩, hS.F ht⟩) hS.2.2 dL_acts_1282
        · refine lv_iconst (v := 1) hx hb dL_acts_1216 (by decide) ?_
          refine lv_goto (tgt := 1282) hx hb dL_acts_1217 (by decide) ?_
          have e9 : (zA_pass Ω y2 k i who v) = ((1 : Int32), (zX7_pass Ω ((1 : Int32) + (zL_low (y2 >>> (2 &&& 31)) 5))).2) := by unfold zA_pass; rw [if_neg c_1, if_neg c_2, if_pos c_4, if_pos c_9]
          have hz := rd3 (act_pass hI0 hk hi hw hv y2) e9
          exact W.zret (v := 1) hx hb hr (by decide) (fun t ht hW => ⟨⟨1, (zX7_pass Ω ((1 : Int32) + (zL_low (y2 >>> (2 &&& 31)) 5))).2, rfl, hz, by dsimp only; rw [ht]; exact hY⟩, hS.F ht⟩) hS.2.2 dL_acts_1282
  · refine lv_iload_n hx hb dL_acts_1153 rfl (lv_at hl 9 rfl) ?_
    refine lv_iconst (v := 2) hx hb dL_acts_1154 (by decide) ?_
    refine lv_ishr hx hb dL_acts_1155 ?_
    refine lv_bipush (v := 101) hx hb dL_acts_1156 (by decide) ?_
    refine kL_low (x1 := (y2 >>> (2 &&& 31))) (x2 := 101) hF (va_cwS 2 hts gL_acts_L_low rfl rfl rfl hdL_low ⟨Nat.le_of_ble_eq_true rfl, Nat.le_of_ble_eq_true rfl⟩) hC (by decide) hl.1 (Nat.le_of_ble_eq_true rfl) dL_acts_1158 ⟨Nat.zero_le _, Nat.zero_le _⟩ ?_
    refine lv_goto (tgt := 1173) hx hb dL_acts_1161 (by decide) ?_
    refine lv_istore (lv' := [(12, .int (zL_low (y2 >>> (2 &&& 31)) 101)), (11, .int v), (10, .int who), (9, .int i), (8, .int k), (7, .int (zX3_total (Ω 0) 3)), (6, .int (zX3_total (Ω 0) 2)), (5, .int (zX3_total (Ω 0) 1)), (4, .int (zX3_total (Ω 0) 0)), (3, .int how), (2, .int y2), (1, .int x2), (0, .ref (ob 0))]) hx hb dL_acts_1173 hl (by decide) rfl (fun ls hl => ?_)
    refine lv_aload_n hx hb dL_acts_1175 rfl (lv_at hl 12 rfl) ?_
    refine lv_iconst (v := 4) hx hb dL_acts_1176 (by decide) ?_
    refine rX7_countT hF (cwV 1 hts gL_acts_X7_count rfl rfl rfl hdX7_count ⟨Nat.le_of_ble_eq_true rfl, Nat.le_of_ble_eq_true rfl⟩) hC hY hJ hOk ⟨by decide, by decide⟩ hS (fun _ h => h) hl.1 (Nat.le_of_ble_eq_true rfl) dL_acts_1177 ⟨Nat.zero_le _, Nat.zero_le _⟩ (fun H locs hY _ _ hS => ?_)
    refine lv_istore (lv' := [(13, .int (zX3_total (Ω 0) 4)), (12, .int (zL_low (y2 >>> (2 &&& 31)) 101)), (11, .int v), (10, .int who), (9, .int i), (8, .int k), (7, .int (zX3_total (Ω 0) 3)), (6, .int (zX3_total (Ω 0) 2)), (5, .int (zX3_total (Ω 0) 1)), (4, .int (zX3_total (Ω 0) 0)), (3, .int how), (2, .int y2), (1, .int x2), (0, .ref (ob 0))]) hx hb dL_acts_1180 hl (by decide) rfl (fun ls hl => ?_)
    refine lv_aload_n hx hb dL_acts_1182 rfl (lv_at hl 13 rfl) ?_
    refine lv_bipush (v := 9) hx hb dL_acts_1183 (by decide) ?_
    refine rX7_countT hF (cwV 1 hts gL_acts_X7_count rfl rfl rfl hdX7_count ⟨Nat.le_of_ble_eq_true rfl, Nat.le_of_ble_eq_true rfl⟩) hC hY hJ hOk ⟨by decide, by decide⟩ hS (fun _ h => h) hl.1 (Nat.le_of_ble_eq_true rfl) dL_acts_1185 ⟨Nat.zero_le _, Nat.zero_le _⟩ (fun H locs hY _ _ hS => ?_)
    refine lv_istore (lv' := [(14, .int (zX3_total (Ω 0) 9)), (13, .int (zX3_total (Ω 0) 4)), (12, .int (zL_low (y2 >>> (2 &&& 31)) 101)), (11, .int v), (10, .int who), (9, .int i), (8, .int k), (7, .int (zX3_total (Ω 0) 3)), (6, .int (zX3_total (Ω 0) 2)), (5, .int (zX3_total (Ω 0) 1)), (4, .int (zX3_total (Ω 0) 0)), (3, .int how), (2, .int y2), (1, .int x2), (0, .ref (ob 0))]) hx hb dL_acts_1188 hl (by decide) rfl (fun ls hl => ?_)
    refine lv_aload_n hx hb dL_acts_1190 rfl (lv_at hl 14 rfl) ?_
    refine lv_iload hx hb dL_acts_1191 (lv_at hl 2 rfl) ?_
    refine kX7_pass hF (cwV 1 hts gL_acts_X7_pass rfl rfl rfl hdX7_pass ⟨Nat.le_of_ble_eq_true rfl, Nat.le_of_ble_eq_true rfl⟩) hC hY hJ hOk hS (fun _ h => h) hl.1 (Nat.le_of_ble_eq_true rfl) dL_acts_1193 ⟨Nat.zero_le _, Nat.zero_le _⟩ (fun H locs hY _ _ hS => ?_)
    have hI : InvO ((zX7_pass Ω (zL_low (y2 >>> (2 &&& 31)) 101)).2) := (pub_pass hI (zL_low (y2 >>> (2 &&& 31)) 101)).2.1
    have hOk := hI.1
    refine lv_istore (lv' := [(15, .int ((zX7_pass Ω (zL_low (y2 >>> (2 &&& 31)) 101)).1)), (14, .int (zX3_total (Ω 0) 9)), (13, .int (zX3_total (Ω 0) 4)), (12, .int (zL_low (y2 >>> (2 &&& 31)) 101)), (11, .int v), (10, .int who), (9, .int i), (8, .int k), (7, .int (zX3_total (Ω 0) 3)), (6, .int (zX3_total (Ω 0) 2)), (5, .int (zX3_total (Ω 0) 1)), (4, .int (zX3_total (Ω 0) 0)), (3, .int how), (2, .int y2), (1, .int x2), (0, .ref (ob 0))]) hx hb dL_acts_1196 hl (by decide) rfl (fun ls hl => ?_)
    refine lv_iload hx hb dL_acts_1198 (lv_at hl 3 rfl) ?_
    refine lv_if_eq (tgt := 1210) hx hb dL_acts_1200 (by decide) (fun c_10 => ?_) (fun c_10 => ?_)
    · refine lv_iload hx hb dL_acts_1210 (lv_at hl 0 rfl) ?_
      refine lv_iconst (v := (-1)) hx hb dL_acts_1212 (by decide) ?_
      refine lv_icmp_ne (tgt := 1220) hx hb dL_acts_1213 (by decide) (fun c_11 => ?_) (fun c_11 => ?_)
      · refine lv_iconst (v := 0) hx hb dL_acts_1220 (by decide) ?_
        refine lv_goto (tgt := 1282) hx hb dL_acts_1221 (by decide) ?_
        have e9 : (zA_pass Ω y2 k i who v) = ((0 : Int32), (zX7_pass Ω (zL_low (y2 >>> (2 &&& 31)) 101)).2) := by unfold zA_pass; rw [if_pos c_1, if_pos c_10, if_neg c_11]
        have hz := rd3 (act_pass hI0 hk hi hw hv y2) e9
        exact W.zret (v := 0) hx hb hr (by decide) (fun t ht hW => ⟨⟨0, (zX7_pass Ω (zL_low (y2 >>> (2 &&& 31)) 101)).2, rfl, hz, by dsimp only; rw [ht]; exact hY⟩, hS.F ht⟩) hS.2.2 dL_acts_1282
      · refine lv_iconst (v := 1) hx hb dL_acts_1216 (by decide) ?_
        refine lv_goto (tgt := 1282) hx hb dL_acts_1217 (by decide) ?_
        have e9 : (zA_pass Ω y2 k i who v) = ((1 : Int32), (zX7_pass Ω (zL_low (y2 >>> (2 &&& 31)) 101)).2) := by unfold zA_pass; rw [if_pos c_1, if_pos c_10, if_pos c_11]
        have hz := rd3 (act_pass hI0 hk hi hw hv y2) e9
        exact W.zret (v := 1) hx hb hr (by decide) (fun t ht hW => ⟨⟨1, (zX7_pass Ω (zL_low (y2 >>> (2 &&& 31)) 101)).2, rfl, hz, by dsimp only; rw [ht]; exact hY⟩, hS.F ht⟩) hS.2.2 dL_acts_1282
    · refine lv_iload hx hb dL_acts_1203 (lv_at hl 3 rfl) ?_
      refine lv_bipush (v := 100) hx hb dL_acts_1205 (by decide) ?_
      refine lv_icmp_ne (tgt := 1224) hx hb dL_acts_1207 (by decide) (fun c_12 => ?_) (fun c_12 => ?_)
      · refine lv_iload hx hb dL_acts_1224 (lv_at hl 0 rfl) ?_
        refine lv_bipush (v := (-3)) hx hb dL_acts_1226 (by decide) ?_
        refine lv_icmp_ne (tgt := 1250) hx hb dL_acts_1228 (by decide) (fun c_13 => ?_) (fun c_13 => ?_)
        · refine lv_iload hx hb dL_acts_1250 (lv_at hl 0 rfl) ?_
          refine lv_aload_n hx hb dL_acts_1252 rfl (lv_at hl 15 rfl) ?_
          refine lv_bipush (v := 9) hx hb dL_acts_1253 (by decide) ?_
          refine rX7_countT hF (cwV 1 hts gL_acts_X7_count rfl rfl rfl hdX7_count ⟨Nat.le_of_ble_eq_true rfl, Nat.le_of_ble_eq_true rfl⟩) hC hY hJ hOk ⟨by decide, by decide⟩ hS (fun _ h => h) hl.1 (Nat.le_of_ble_eq_true rfl) dL_acts_1255 ⟨Nat.zero_le _, Nat.zero_le _⟩ (fun H locs hY _ _ hS => ?_)
          refine lv_iload hx hb dL_acts_1258 (lv_at hl 1 rfl) ?_
          refine lv_isub hx hb dL_acts_1260 ?_
          refine lv_icmp_ne (tgt := 1281) hx hb dL_acts_1261 (by decide) (fun c_14 => ?_) (fun c_14 => ?_)
          · refine lv_iconst (v := 0) hx hb dL_acts_1281 (by decide) ?_
            have e9 : (zA_pass Ω y2 k i who v) = ((0 : Int32), (zX7_pass Ω (zL_low (y2 >>> (2 &&& 31)) 101)).2) := by unfold zA_pass; rw [if_pos c_1, if_neg c_10, if_neg c_12, if_neg c_13, if_neg c_14]
            have hz := rd3 (act_pass hI0 hk hi hw hv y2) e9
            exact W.zret (v := 0) hx hb hr (by decide) (fun t ht hW => ⟨⟨0, (zX7_pass Ω (zL_low (y2 >>> (2 &&& 31)) 101)).2, rfl, hz, by dsimp only; rw [ht]; exact hY⟩, hS.F ht⟩) hS.2.2 dL_acts_1282
          · refine lv_aload_n hx hb dL_acts_1264 rfl (lv_at hl 15 rfl) ?_
            refine lv_iconst (v := 4) hx hb dL_acts_1265 (by decide) ?_
            refine rX7_countT hF (cwV 1 hts gL_acts_X7_count rfl rfl rfl hdX7_count ⟨Nat.le_of_ble_eq_true rfl, Nat.le_of_ble_eq_true rfl⟩) hC hY hJ hOk ⟨by decide, by decide⟩ hS (fun _ h => h) hl.1 (Nat.le_of_ble_eq_true rfl) dL_acts_1266 ⟨Nat.zero_le _, Nat.zero_le _⟩ (fun H locs hY _ _ hS => ?_)
            refine lv_iload hx hb dL_acts_1269 (lv_at hl 2 rfl) ?_
            refine lv_iload hx hb dL_acts_1271 (lv_at hl 3 rfl) ?_
            refine lv_iadd hx hb dL_acts_1273 ?_
            refine lv_icmp_ne (tgt := 1281) hx hb dL_acts_1274 (by decide) (fun c_15 => ?_) (fun c_15 => ?_)
            · refine lv_iconst (v := 0) hx hb dL_acts_1281 (by decide) ?_
              have e9 : (zA_pass Ω y2 k i who v) = ((0 : Int32), (zX7_pass Ω (zL_low (y2 >>> (2 &&& 31)) 101)).2) := by unfold zA_pass; rw [if_pos c_1, if_neg c_10, if_neg c_12, if_neg c_13, if_pos c_14, if_neg c_15]
              have hz := rd3 (act_pass hI0 hk hi hw hv y2) e9
              exact W.zret (v := 0) hx hb hr (by decide) (fun t ht hW => ⟨⟨0, (zX7_pass Ω (zL_low (y2 >>> (2 &&& 31)) 101)).2, rfl, hz, by dsimp only; rw [ht]; exact hY⟩, hS.F ht⟩) hS.2.2 dL_acts_1282
            · refine lv_iconst (v := 1) hx hb dL_acts_1277 (by decide) ?_
              refine lv_goto (tgt := 1282) hx hb dL_acts_1278 (by decide) ?_
              have e9 : (zA_pass Ω y2 k i who v) = ((1 : Int32), (zX7_pass Ω (zL_low (y2 >>> (2 &&& 31)) 101)).2) := by unfold zA_pass; rw [if_pos c_1, if_neg c_10, if_neg c_12, if_neg c_13, if_pos c_14, if_pos c_15]
              have hz := rd3 (act_pass hI0 hk hi hw hv y2) e9
              exact W.zret (v := 1) hx hb hr (by decide) (fun t ht hW => ⟨⟨1, (zX7_pass Ω (zL_low (y2 >>> (2 &&& 31)) 101)).2, rfl, hz, by dsimp only; rw [ht]; exact hY⟩, hS.F ht⟩) hS.2.2 dL_acts_1282
        · refine lv_iload hx hb dL_acts_1231 (lv_at hl 2 rfl) ?_
          refine lv_iload hx hb dL_acts_1233 (lv_at hl 3 rfl) ?_
          refine lv_iadd hx hb dL_acts_1235 ?_
          refine lv_sipush (v := 5000) hx hb dL_acts_1236 (by decide) ?_
          refine lv_icmp_le (tgt := 1246) hx hb dL_acts_1239 (by decide) (fun c_16 => ?_) (fun c_16 => ?_)
          · refine lv_iconst (v := 0) hx hb dL_acts_1246 (by decide) ?_
            refine lv_goto (tgt := 1282) hx hb dL_acts_1247 (by decide) ?_
            have e9 : (zA_pass Ω y2 k i who v) = ((0 : Int32), (zX7_pass Ω (zL_low (y2 >>> (2 &&& 31)) 101)).2) := by unfold zA_pass; rw [if_pos c_1, if_neg c_10, if_neg c_12, if_pos c_13, if_pos c_16]
            have hz := rd3 (act_pass hI0 hk hi hw hv y2) e9
            exact W.zret (v := 0) hx hb hr (by decide) (fun t ht hW => ⟨⟨0, (zX7_pass Ω (zL_low (y2 >>> (2 &&& 31)) 101)).2, rfl, hz, by dsimp only; rw [ht]; exact hY⟩, hS.F ht⟩) hS.2.2 dL_acts_1282
          · refine lv_iconst (v := 1) hx hb dL_acts_1242 (by decide) ?_
            refine lv_goto (tgt := 1282) hx hb dL_acts_1243 (by decide) ?_
            have e9 : (zA_pass Ω y2 k i who v) = ((1 : Int32), (zX7_pass Ω (zL_low (y2 >>> (2 &&& 31)) 101)).2) := by unfold zA_pass; rw [if_pos c_1, if_neg c_10, if_neg c_12, if_pos c_13, if_neg c_16]
            have hz := rd3 (act_pass hI0 hk hi hw hv y2) e9
            exact W.zret (v := 1) hx hb hr (by decide) (fun t ht hW => ⟨⟨1, (zX7_pass Ω (zL_low (y2 >>> (2 &&& 31)) 101)).2, rfl, hz, by dsimp only; rw [ht]; exact hY⟩, hS.F ht⟩) hS.2.2 dL_acts_1282
      · refine lv_iload hx hb dL_acts_1210 (lv_at hl 0 rfl) ?_
        refine lv_iconst (v := (-1)) hx hb dL_acts_1212 (by decide) ?_
        refine lv_icmp_ne (tgt := 1220) hx hb dL_acts_1213 (by decide) (fun c_17 => ?_) (fun c_17 => ?_)
        · refine lv_iconst (v := 0) hx hb dL_acts_1220 (by decide) ?_
          refine lv_goto (tgt := 1282) hx hb dL_acts_1221 (by decide) ?_
          have e9 : (zA_pass Ω y2 k i who v) = ((0 : Int32), (zX7_pass Ω (zL_low (y2 >>> (2 &&& 31)) 101)).2) := by unfold zA_pass; rw [if_pos c_1, if_neg c_10, if_pos c_12, if_neg c_17]
          have hz := rd3 (act_pass hI0 hk hi hw hv y2) e9
          exact W.zret (v := 0) hx hb hr (by decide) (fun t ht hW => ⟨⟨0, (zX7_pass Ω (zL_low (y2 >>> (2 &&& 31)) 101)).2, rfl, hz, by dsimp only; rw [ht]; exact hY⟩, hS.F ht⟩) hS.2.2 dL_acts_1282
        · refine lv_iconst (v := 1) hx hb dL_acts_1216 (by decide) ?_
          refine lv_goto (tgt := 1282) hx hb dL_acts_1217 (by decide) ?_
          have e9 : (zA_pass Ω y2 k i who v) = ((1 : Int32), (zX7_pass Ω (zL_low (y2 >>> (2 &&& 31)) 101)).2) := by unfold zA_pass; rw [if_pos c_1, if_neg c_10, if_pos c_12, if_pos c_17]
          have hz := rd3 (act_pass hI0 hk hi hw hv y2) e9
          exact W.zret (v := 1) hx hb hr (by decide) (fun t ht hW => ⟨⟨1, (zX7_pass Ω (zL_low (y2 >>> (2 &&& 31)) 101)).2, rfl, hz, by dsimp only; rw [ht]; exact hY⟩, hS.F ht⟩) hS.2.2 dL_acts_1282
