/-! THE LAW'S LOOP -/
theorem lot_1 (j : Nat) : (1 + (2 * (nI j))) = nI (1 + 2 * j) := by
  rw [← nI_add, ← pk_mul]
  rfl
theorem lot_2 (j : Nat) : (2 + (2 * (nI j))) = nI (2 + 2 * j) := by
  rw [← nI_add, ← pk_mul]
  rfl
theorem cmp_self (x : Int64) : lg_cmp x x = 0 := by simp [lg_cmp]
theorem cnt_11 {Ω : Og} (hI : InvO Ω) : (zX7_count Ω 11).1 = nI (hZn Ω) := hI.1.2.2.2.2
theorem ne_suc {a : Nat} (h : a < 100) : ¬ nI a = nI a + 1 := fun z => by
  rw [nI_1] at z
  have := nI_inj (by omega) (by omega) z
  omega
theorem sam_z {Ω u : Og} (h : Sam Ω u) : hZn u = hZn Ω := congrArg (fun f : Nat → Int32 => (f 1).toNatClampNeg) h.2.1
theorem und_0 {Ω : Og} (hI : InvO Ω) (h : nI (hZn Ω) = 0) : (zX7_undo Ω).1 = -2 := by
  have h5 := hI.1.2.2.1
  have e : hZn Ω = 0 := nI_inj (b := 0) (by omega) (by decide) h
  rw [(pub_undo hI).2.2.1, if_pos e]
theorem und_s {Ω : Og} (hI : InvO Ω) (h : ¬ nI (hZn Ω) = 0) : (zX7_undo Ω).1 = nI (hZn Ω) - 1 := by
  have h5 := hI.1.2.2.1
  have e : ¬ hZn Ω = 0 := fun z => h (by rw [z]; rfl)
  rw [(pub_undo hI).2.2.1, if_neg e]
  obtain ⟨k, hk⟩ : ∃ k, hZn Ω = k + 1 := ⟨hZn Ω - 1, by omega⟩
  rw [hk, nI_pred]
  rfl
theorem und_k {Ω u : Og} (hI : InvO u) (hz : hZn u = hZn Ω + 1) (hs : u ((hO u + (hZn u - 1)) % 4 + 2) = Ω 0) : (zX7_undo u).1 = nI (hZn Ω) ∧ (zX7_undo u).2 0 = Ω 0 := by
  obtain ⟨-, -, e1, e2⟩ := pub_undo hI
  rw [e1, e2, if_neg (by omega), if_neg (by omega), hs]
  exact ⟨congrArg nI (by omega), rfl⟩
set_option maxHeartbeats 4000000 in
set_option maxRecDepth 100000 in
theorem law_loop {p : Program} {l : Launch} {e : Env} {s : State} {m : MethodId} {below : List Frame} {meth : Method} {c : Code} {b L : Nat} {xs : Nat → Int32} (hL : L ≤ 260) (C0 : lw_At p s m meth c b L xs) {D : va_G} {y : Y3} {ob : Nat → Nat} {AD : Nat → Nat → Nat} {tM tF : Nat} {x0 : Int32} (hC : CK D y s) (hJ : sysJ ob AD) (hA7 : ∀ q, sysA ob AD q → s.heap.size ≤ q) (hZs : STM s.heap.size tM tF s s.heap) :
    ∀ (n j : Nat), j + n = 34 → ∀ (Ω : Og) (H : Heap) (locs : List Loc), InvO Ω → SysH D y ob AD Ω H → va_S (fun q : Nat => s.heap.size ≤ q) s.heap H locs → ∀ ls : Array Slot, lv_has ls 12 [(4, .int (nI j)), (3, .int 1), (2, .int x0), (1, .ref (ob 0)), (0, .ref b)] → W p l e room_1 s m #[Value.ref b] below meth c H locs 79 3938 (lw_Z below #[Value.ref b] s) (F0 m 113 ls []) := by
  obtain ⟨hx, hb, hr, hml, hown, hts0, hX, hbl, hlocks, hgv⟩ := C0
  have hb : c.code = cL_law := hb
  have hown : s.vm.findClass RL = some m.cls := hown
  have hts := law_hts hts0
  have hF := (⟨hx, hb, hml, hown, hts⟩ : CallFix p m c cL_law 12 s _ wsL_law RL)
  have hbA : ¬ (fun q : Nat => s.heap.size ≤ q) b := Nat.not_le.mpr hbl
  intro n
  induction n with
  | zero =>
    intro j hj Ω H locs hI hY hS ls hl
    obtain rfl : j = 34 := by omega
    have hOk := hI.1
    refine lv_iload hx hb dL_law_113 (lv_at hl 0 rfl) ?_
    refine lv_bipush (v := 34) hx hb dL_law_115 (by decide) ?_
    refine lv_icmp_ge (tgt := 354) hx hb dL_law_117 (by decide) (fun _ => ?_) (fun c_1 => absurd (by decide) c_1)
    refine lv_iload_n hx hb dL_law_354 rfl (lv_at hl 1 rfl) ?_
    refine va_forget (fun q hq => hS.2.2 q hq) ?_
    refine W.widen (k := 600000) (n := 7302250) (Nat.le_of_ble_eq_true rfl) (Nat.le_of_ble_eq_true rfl) ?_
    refine W.base ?_
    exact lw_ret (Drawn.sameBut.refl s.drawn lw_cs) hx hb hr hlocks dL_law_355
  | succ n ih =>
    intro j hj Ω H locs hI hY hS ls hl
    have hOk := hI.1
    have k300 : ∀ (Ω3 : Og) (H : Heap) (locs : List Loc) (ls : Array Slot), InvO Ω3 → SysH D y ob AD Ω3 H → va_S (fun q : Nat => s.heap.size ≤ q) s.heap H locs → lv_has ls 12 [(4, .int (nI j)), (3, .int 1), (2, .int x0), (1, .ref (ob 0)), (0, .ref b)] → W p l e room_1 s m #[Value.ref b] below meth c H locs 79 3938 (lw_Z below #[Value.ref b] s) (F0 m 300 ls []) := by
      intro Ω3 H locs ls hI hY hS hl
      have hOk := hI.1
      have hI3 := hI
      refine lv_iload_n hx hb dL_law_300 rfl (lv_at hl 1 rfl) ?_
      refine lv_if_eq (tgt := 348) hx hb dL_law_301 (by decide) (fun c_2 => absurd c_2 (by decide)) (fun _ => ?_)
      refine lv_iload hx hb dL_law_304 (lv_at hl 0 rfl) ?_
      refine lv_bipush (v := 6) hx hb dL_law_306 (by decide) ?_
      refine lv_irem hx hb dL_law_308 (by decide) ?_
      refine lv_iconst (v := 5) hx hb dL_law_309 (by decide) ?_
      refine lv_icmp_ne (tgt := 348) hx hb dL_law_310 (by decide) (fun c_3 => ?_) (fun c_3 => ?_)
      · refine lv_iinc (v := (nI (j + 1))) (lv' := [(4, .int (nI (j + 1))), (3, .int 1), (2, .int x0), (1, .ref (ob 0)), (0, .ref b)]) hx hb dL_law_348 hl (k := 0) rfl (by rw [nI_succ]; rfl) (by decide) rfl (fun ls hl => ?_)
        refine lv_goto (tgt := 113) hx hb dL_law_351 (by decide) ?_
        exact ih (j + 1) (by omega) Ω3 H locs hI hY hS ls (lv_sub hl [0, 1, 2, 3, 4] rfl)
      · refine lv_aload_n hx hb dL_law_313 rfl (lv_at hl 3 rfl) ?_
        refine lv_bipush (v := 11) hx hb dL_law_314 (by decide) ?_
        refine rX7_count hF (cwV 1 hts gL_law_X7_count rfl rfl rfl hdX7_count ⟨Nat.le_of_ble_eq_true rfl, Nat.le_of_ble_eq_true rfl⟩) hC hY hJ hOk hS hA7 hl.1 (Nat.le_of_ble_eq_true rfl) dL_law_316 ⟨Nat.le_of_ble_eq_true rfl, Nat.le_of_ble_eq_true rfl⟩ (fun H locs hY _ _ hS => ?_)
        rw [cnt_11 hI]
        refine lv_istore (lv' := [(11, .int (nI (hZn Ω3))), (4, .int (nI j)), (3, .int 1), (2, .int x0), (1, .ref (ob 0)), (0, .ref b)]) hx hb dL_law_319 hl (by decide) rfl (fun ls hl => ?_)
        refine lv_aload_n hx hb dL_law_321 rfl (lv_at hl 4 rfl) ?_
        refine kX7_undo hF (cwV 0 hts gL_law_X7_undo rfl rfl rfl hdX7_undo ⟨Nat.le_of_ble_eq_true rfl, Nat.le_of_ble_eq_true rfl⟩) hC hY hJ hOk hS hA7 hl.1 (Nat.le_of_ble_eq_true rfl) dL_law_322 ⟨Nat.le_of_ble_eq_true rfl, Nat.le_of_ble_eq_true rfl⟩ (fun H locs hY _ _ hS => ?_)
        have hI : InvO ((zX7_undo Ω3).2) := (pub_undo hI).1
        have hOk := hI.1
        refine lv_iload hx hb dL_law_325 (lv_at hl 0 rfl) ?_
        refine lv_if_ne (tgt := 335) hx hb dL_law_327 (by decide) (fun c_4 => ?_) (fun c_4 => ?_)
        · refine lv_iload hx hb dL_law_335 (lv_at hl 0 rfl) ?_
          refine lv_iconst (v := 1) hx hb dL_law_337 (by decide) ?_
          refine lv_isub hx hb dL_law_338 ?_
          refine lv_icmp_ne (tgt := 346) hx hb dL_law_339 (by decide) (fun c_5 => absurd c_5 (fun z => z (und_s hI3 c_4))) (fun _ => ?_)
          refine lv_iconst (v := 1) hx hb dL_law_342 (by decide) ?_
          refine lv_goto (tgt := 347) hx hb dL_law_343 (by decide) ?_
          refine lv_istore_n (lv' := [(3, .int 1), (11, .int (nI (hZn Ω3))), (4, .int (nI j)), (2, .int x0), (1, .ref (ob 0)), (0, .ref b)]) hx hb dL_law_347 rfl hl (by decide) rfl (fun ls hl => ?_)
          refine lv_iinc (v := (nI (j + 1))) (lv' := [(4, .int (nI (j + 1))), (3, .int 1), (11, .int (nI (hZn Ω3))), (2, .int x0), (1, .ref (ob 0)), (0, .ref b)]) hx hb dL_law_348 hl (k := 2) rfl (by rw [nI_succ]; rfl) (by decide) rfl (fun ls hl => ?_)
          refine lv_goto (tgt := 113) hx hb dL_law_351 (by decide) ?_
          exact ih (j + 1) (by omega) (zX7_undo Ω3).2 H locs hI hY hS ls (lv_sub hl [0, 1, 3, 4, 5] rfl)
        · refine lv_bipush (v := (-2)) hx hb dL_law_330 (by decide) ?_
          refine lv_goto (tgt := 339) hx hb dL_law_332 (by decide) ?_
          refine lv_icmp_ne (tgt := 346) hx hb dL_law_339 (by decide) (fun c_6 => absurd c_6 (fun z => z (und_0 hI3 c_4))) (fun _ => ?_)
          refine lv_iconst (v := 1) hx hb dL_law_342 (by decide) ?_
          refine lv_goto (tgt := 347) hx hb dL_law_343 (by decide) ?_
          refine lv_istore_n (lv' := [(3, .int 1), (11, .int (nI (hZn Ω3))), (4, .int (nI j)), (2, .int x0), (1, .ref (ob 0)), (0, .ref b)]) hx hb dL_law_347 rfl hl (by decide) rfl (fun ls hl => ?_)
          refine lv_iinc (v := (nI (j + 1))) (lv' := [(4, .int (nI (j + 1))), (3, .int 1), (11, .int (nI (hZn Ω3))), (2, .int x0), (1, .ref (ob 0)), (0, .ref b)]) hx hb dL_law_348 hl (k := 2) rfl (by rw [nI_succ]; rfl) (by decide) rfl (fun ls hl => ?_)
          refine lv_goto (tgt := 113) hx hb dL_law_351 (by decide) ?_
          exact ih (j + 1) (by omega) (zX7_undo Ω3).2 H locs hI hY hS ls (lv_sub hl [0, 1, 3, 4, 5] rfl)
    have h5 := hI.1.2.2.1
    refine lv_iload hx hb dL_law_113 (lv_at hl 0 rfl) ?_
    refine lv_bipush (v := 34) hx hb dL_law_115 (by decide) ?_
    refine lv_icmp_ge (tgt := 354) hx hb dL_law_117 (by decide) (fun c_7 => absurd c_7 (nI_ge (a := j) (b := 34) (by omega) (by decide))) (fun _ => ?_)
    refine lv_iload_n hx hb dL_law_120 rfl (lv_at hl 1 rfl) ?_
    refine lv_if_eq (tgt := 354) hx hb dL_law_121 (by decide) (fun c_8 => absurd c_8 (by decide)) (fun _ => ?_)
    refine lv_aload_n hx hb dL_law_124 rfl (lv_at hl 4 rfl) ?_
    refine lv_iconst (v := 1) hx hb dL_law_125 (by decide) ?_
    refine lv_iconst (v := 2) hx hb dL_law_126 (by decide) ?_
    refine lv_iload hx hb dL_law_127 (lv_at hl 0 rfl) ?_
    refine lv_imul hx hb dL_law_129 ?_
    refine lv_iadd hx hb dL_law_130 ?_
    rw [lot_1 j]
    refine kL_lot (b := b) (L := L) (xs := xs) (k := 1 + 2 * j) hF (va_cwS 2 hts gL_law_L_lot rfl rfl rfl hdL_lot ⟨Nat.le_of_ble_eq_true rfl, Nat.le_of_ble_eq_true rfl⟩) hC (hX.kept (hS.2.1 b hbl hbA)) ⟨by omega, hL⟩ hl.1 (Nat.le_of_ble_eq_true rfl) dL_law_131 ⟨Nat.le_of_ble_eq_true rfl, Nat.le_of_ble_eq_true rfl⟩ ?_
    generalize zL_lot L xs (1 + 2 * j) = x_9
    refine lv_istore (lv' := [(5, .int x_9), (4, .int (nI j)), (3, .int 1), (2, .int x0), (1, .ref (ob 0)), (0, .ref b)]) hx hb dL_law_134 hl (by decide) rfl (fun ls hl => ?_)
    refine lv_aload_n hx hb dL_law_136 rfl (lv_at hl 5 rfl) ?_
    refine lv_iconst (v := 2) hx hb dL_law_137 (by decide) ?_
    refine lv_iconst (v := 2) hx hb dL_law_138 (by decide) ?_
    refine lv_iload hx hb dL_law_139 (lv_at hl 1 rfl) ?_
    refine lv_imul hx hb dL_law_141 ?_
    refine lv_iadd hx hb dL_law_142 ?_
    rw [lot_2 j]
    refine kL_lot (b := b) (L := L) (xs := xs) (k := 2 + 2 * j) hF (va_cwS 2 hts gL_law_L_lot rfl rfl rfl hdL_lot ⟨Nat.le_of_ble_eq_true rfl, Nat.le_of_ble_eq_true rfl⟩) hC (hX.kept (hS.2.1 b hbl hbA)) ⟨by omega, hL⟩ hl.1 (Nat.le_of_ble_eq_true rfl) dL_law_143 ⟨Nat.le_of_ble_eq_true rfl, Nat.le_of_ble_eq_true rfl⟩ ?_
    generalize zL_lot L xs (2 + 2 * j) = x_10
    refine lv_istore (lv' := [(6, .int x_10), (5, .int x_9), (4, .int (nI j)), (3, .int 1), (2, .int x0), (1, .ref (ob 0)), (0, .ref b)]) hx hb dL_law_146 hl (by decide) rfl (fun ls hl => ?_)
    refine lv_aload_n hx hb dL_law_148 rfl (lv_at hl 5 rfl) ?_
    refine kL_digest hF (va_cwS 1 hts gL_law_L_digest rfl rfl rfl hdL_digest ⟨Nat.le_of_ble_eq_true rfl, Nat.le_of_ble_eq_true rfl⟩) hC hY hJ hOk hS hA7 hl.1 (Nat.le_of_ble_eq_true rfl) dL_law_149 ⟨Nat.le_of_ble_eq_true rfl, Nat.le_of_ble_eq_true rfl⟩ (fun r9 u9 H locs hq hY hS => ?_)
    obtain ⟨hr9, hu9⟩ := hq
    rw [hu9] at hY
    rw [hr9]
    clear hr9 hu9
    refine lv_lstore (lv' := [(7, .long (zdg (Ω 0))), (6, .int x_10), (5, .int x_9), (4, .int (nI j)), (3, .int 1), (2, .int x0), (1, .ref (ob 0)), (0, .ref b)]) hx hb dL_law_152 hl (by decide) rfl (fun ls hl => ?_)
    refine lv_aload_n hx hb dL_law_154 rfl (lv_at hl 6 rfl) ?_
    refine lv_bipush (v := 11) hx hb dL_law_155 (by decide) ?_
    refine rX7_count hF (cwV 1 hts gL_law_X7_count rfl rfl rfl hdX7_count ⟨Nat.le_of_ble_eq_true rfl, Nat.le_of_ble_eq_true rfl⟩) hC hY hJ hOk hS hA7 hl.1 (Nat.le_of_ble_eq_true rfl) dL_law_157 ⟨Nat.le_of_ble_eq_true rfl, Nat.le_of_ble_eq_true rfl⟩ (fun H locs hY _ _ hS => ?_)
    rw [cnt_11 hI]
    refine lv_istore (lv' := [(9, .int (nI (hZn Ω))), (7, .long (zdg (Ω 0))), (6, .int x_10), (5, .int x_9), (4, .int (nI j)), (3, .int 1), (2, .int x0), (1, .ref (ob 0)), (0, .ref b)]) hx hb dL_law_160 hl (by decide) rfl (fun ls hl => ?_)
    refine lv_aload_n hx hb dL_law_162 rfl (lv_at hl 7 rfl) ?_
    have k179 : ∀ r : Int32, W p l e room_1 s m #[Value.ref b] below meth c H locs 79 3938 (lw_Z below #[Value.ref b] s) (F0 m 179 ls [.int r, .ref (ob 0)]) := by
      intro r
      refine lv_iload hx hb dL_law_179 (lv_at hl 2 rfl) ?_
      refine kL_acts (n0 := s.heap.size) (tM := tM) (tF := tF) (x2 := r) (y2 := x_10) hF (va_cwS 3 hts gL_law_L_acts rfl rfl rfl hdL_acts ⟨Nat.le_of_ble_eq_true rfl, Nat.le_of_ble_eq_true rfl⟩) hC hY hJ hI (hZs.at_ hS (fun _ h => h)) hA7 hS hA7 hl.1 (Nat.le_of_ble_eq_true rfl) dL_law_181 ⟨Nat.le_of_ble_eq_true rfl, Nat.le_of_ble_eq_true rfl⟩ (fun r1 u H locs hq hY hS => ?_)
      obtain ⟨rfl, hI2, hP⟩ := hq
      have hI := hI2
      have hOk := hI.1
      refine lv_if_eq (tgt := 198) hx hb dL_law_184 (by decide) (fun c_11 => absurd c_11 (by decide)) (fun _ => ?_)
      refine lv_aload_n hx hb dL_law_187 rfl (lv_at hl 7 rfl) ?_
      refine kL_holds hF (va_cwS 1 hts gL_law_L_holds rfl rfl rfl hdL_holds ⟨Nat.le_of_ble_eq_true rfl, Nat.le_of_ble_eq_true rfl⟩) hC hY hJ hOk (holds_ok (hI.2.1 0 (by decide) (by decide))).2 (holds_ok (hI.2.1 0 (by decide) (by decide))).1 hS hA7 hl.1 (Nat.le_of_ble_eq_true rfl) dL_law_188 ⟨Nat.le_of_ble_eq_true rfl, Nat.le_of_ble_eq_true rfl⟩ (fun r9 u9 H locs hq hY hS => ?_)
      obtain ⟨hr9, hu9⟩ := hq
      rw [hu9] at hY
      rw [hr9]
      clear hr9 hu9
      refine lv_if_eq (tgt := 198) hx hb dL_law_191 (by decide) (fun c_12 => absurd c_12 (by decide)) (fun _ => ?_)
      refine lv_iconst (v := 1) hx hb dL_law_194 (by decide) ?_
      refine lv_goto (tgt := 199) hx hb dL_law_195 (by decide) ?_
      refine lv_istore_n (lv' := [(3, .int 1), (9, .int (nI (hZn Ω))), (7, .long (zdg (Ω 0))), (6, .int x_10), (5, .int x_9), (4, .int (nI j)), (2, .int x0), (1, .ref (ob 0)), (0, .ref b)]) hx hb dL_law_199 rfl hl (by decide) rfl (fun ls hl => ?_)
      refine lv_aload_n hx hb dL_law_200 rfl (lv_at hl 7 rfl) ?_
      refine lv_bipush (v := 11) hx hb dL_law_201 (by decide) ?_
      refine rX7_count hF (cwV 1 hts gL_law_X7_count rfl rfl rfl hdX7_count ⟨Nat.le_of_ble_eq_true rfl, Nat.le_of_ble_eq_true rfl⟩) hC hY hJ hOk hS hA7 hl.1 (Nat.le_of_ble_eq_true rfl) dL_law_203 ⟨Nat.le_of_ble_eq_true rfl, Nat.le_of_ble_eq_true rfl⟩ (fun H locs hY _ _ hS => ?_)
      rw [cnt_11 hI]
      refine lv_istore (lv' := [(10, .int (nI (hZn u))), (3, .int 1), (9, .int (nI (hZn Ω))), (7, .long (zdg (Ω 0))), (6, .int x_10), (5, .int x_9), (4, .int (nI j)), (2, .int x0), (1, .ref (ob 0)), (0, .ref b)]) hx hb dL_law_206 hl (by decide) rfl (fun ls hl => ?_)
      rcases hP with hs | ⟨hz, hsl⟩
      · have ez : hZn u = hZn Ω := sam_z hs
        rw [ez] at hl
        refine lv_iload_n hx hb dL_law_208 rfl (lv_at hl 1 rfl) ?_
        refine lv_if_eq (tgt := 248) hx hb dL_law_209 (by decide) (fun c_13 => absurd c_13 (by decide)) (fun _ => ?_)
        refine lv_iload hx hb dL_law_212 (lv_at hl 0 rfl) ?_
        refine lv_iload hx hb dL_law_214 (lv_at hl 2 rfl) ?_
        refine lv_icmp_ne (tgt := 235) hx hb dL_law_216 (by decide) (fun c_14 => absurd c_14 (fun z => z rfl)) (fun _ => ?_)
        refine lv_iload hx hb dL_law_219 (lv_at hl 2 rfl) ?_
        refine lv_iconst (v := 4) hx hb dL_law_221 (by decide) ?_
        refine lv_icmp_eq (tgt := 244) hx hb dL_law_222 (by decide) (fun c_15 => ?_) (fun c_15 => ?_)
        · refine lv_iconst (v := 1) hx hb dL_law_244 (by decide) ?_
          refine lv_goto (tgt := 249) hx hb dL_law_245 (by decide) ?_
          refine lv_istore_n (lv' := [(3, .int 1), (10, .int (nI (hZn Ω))), (9, .int (nI (hZn Ω))), (7, .long (zdg (Ω 0))), (6, .int x_10), (5, .int x_9), (4, .int (nI j)), (2, .int x0), (1, .ref (ob 0)), (0, .ref b)]) hx hb dL_law_249 rfl hl (by decide) rfl (fun ls hl => ?_)
          refine lv_iload_n hx hb dL_law_250 rfl (lv_at hl 0 rfl) ?_
          refine lv_if_eq (tgt := 300) hx hb dL_law_251 (by decide) (fun c_16 => absurd c_16 (by decide)) (fun _ => ?_)
          refine lv_iload hx hb dL_law_254 (lv_at hl 1 rfl) ?_
          refine lv_iload hx hb dL_law_256 (lv_at hl 2 rfl) ?_
          refine lv_iconst (v := 1) hx hb dL_law_258 (by decide) ?_
          refine lv_iadd hx hb dL_law_259 ?_
          refine lv_icmp_ne (tgt := 300) hx hb dL_law_260 (by decide) (fun _ => ?_) (fun c_17 => absurd c_17 (ne_suc (by omega)))
          exact k300 u H locs ls hI hY hS (lv_sub hl [6, 0, 7, 8, 9] rfl)
        · refine lv_aload_n hx hb dL_law_225 rfl (lv_at hl 8 rfl) ?_
          refine kL_digest hF (va_cwS 1 hts gL_law_L_digest rfl rfl rfl hdL_digest ⟨Nat.le_of_ble_eq_true rfl, Nat.le_of_ble_eq_true rfl⟩) hC hY hJ hOk hS hA7 hl.1 (Nat.le_of_ble_eq_true rfl) dL_law_226 ⟨Nat.le_of_ble_eq_true rfl, Nat.le_of_ble_eq_true rfl⟩ (fun r9 u9 H locs hq hY hS => ?_)
          obtain ⟨hr9, hu9⟩ := hq
          rw [hu9] at hY
          rw [hr9]
          clear hr9 hu9
          rw [hs.1]
          refine lv_lload hx hb dL_law_229 (lv_at hl 3 rfl) ?_
          refine W.lcmp hx hb dL_law_231 ?_
          rw [cmp_self]
          refine lv_if_eq (tgt := 244) hx hb dL_law_232 (by decide) (fun _ => ?_) (fun c_18 => absurd (by decide) c_18)
          refine lv_iconst (v := 1) hx hb dL_law_244 (by decide) ?_
          refine lv_goto (tgt := 249) hx hb dL_law_245 (by decide) ?_
          refine lv_istore_n (lv' := [(3, .int 1), (10, .int (nI (hZn Ω))), (9, .int (nI (hZn Ω))), (7, .long (zdg (Ω 0))), (6, .int x_10), (5, .int x_9), (4, .int (nI j)), (2, .int x0), (1, .ref (ob 0)), (0, .ref b)]) hx hb dL_law_249 rfl hl (by decide) rfl (fun ls hl => ?_)
          refine lv_iload_n hx hb dL_law_250 rfl (lv_at hl 0 rfl) ?_
          refine lv_if_eq (tgt := 300) hx hb dL_law_251 (by decide) (fun c_19 => absurd c_19 (by decide)) (fun _ => ?_)
          refine lv_iload hx hb dL_law_254 (lv_at hl 1 rfl) ?_
          refine lv_iload hx hb dL_law_256 (lv_at hl 2 rfl) ?_
          refine lv_iconst (v := 1) hx hb dL_law_258 (by decide) ?_
          refine lv_iadd hx hb dL_law_259 ?_
          refine lv_icmp_ne (tgt := 300) hx hb dL_law_260 (by decide) (fun _ => ?_) (fun c_20 => absurd c_20 (ne_suc (by omega)))
          exact k300 u H locs ls hI hY hS (lv_sub hl [6, 0, 7, 8, 9] rfl)
      · by_cases hz4 : hZn Ω < 4
        · rw [if_pos hz4] at hz
          rw [hz] at hl
          obtain ⟨uk1, uk2⟩ := und_k hI2 hz hsl
          refine lv_iload_n hx hb dL_law_208 rfl (lv_at hl 1 rfl) ?_
          refine lv_if_eq (tgt := 248) hx hb dL_law_209 (by decide) (fun c_21 => absurd c_21 (by decide)) (fun _ => ?_)
          refine lv_iload hx hb dL_law_212 (lv_at hl 0 rfl) ?_
          refine lv_iload hx hb dL_law_214 (lv_at hl 2 rfl) ?_
          refine lv_icmp_ne (tgt := 235) hx hb dL_law_216 (by decide) (fun _ => ?_) (fun c_22 => absurd c_22 (fun z => absurd (nI_inj (by omega) (by omega) z) (by omega)))
          refine lv_iload hx hb dL_law_235 (lv_at hl 0 rfl) ?_
          refine lv_iload hx hb dL_law_237 (lv_at hl 2 rfl) ?_
          refine lv_iconst (v := 1) hx hb dL_law_239 (by decide) ?_
          refine lv_iadd hx hb dL_law_240 ?_
          refine lv_icmp_ne (tgt := 248) hx hb dL_law_241 (by decide) (fun c_23 => absurd c_23 (fun z => z (nI_succ _))) (fun _ => ?_)
          refine lv_iconst (v := 1) hx hb dL_law_244 (by decide) ?_
          refine lv_goto (tgt := 249) hx hb dL_law_245 (by decide) ?_
          refine lv_istore_n (lv' := [(3, .int 1), (10, .int (nI (hZn Ω + 1))), (9, .int (nI (hZn Ω))), (7, .long (zdg (Ω 0))), (6, .int x_10), (5, .int x_9), (4, .int (nI j)), (2, .int x0), (1, .ref (ob 0)), (0, .ref b)]) hx hb dL_law_249 rfl hl (by decide) rfl (fun ls hl => ?_)
          refine lv_iload_n hx hb dL_law_250 rfl (lv_at hl 0 rfl) ?_
          refine lv_if_eq (tgt := 300) hx hb dL_law_251 (by decide) (fun c_24 => absurd c_24 (by decide)) (fun _ => ?_)
          refine lv_iload hx hb dL_law_254 (lv_at hl 1 rfl) ?_
          refine lv_iload hx hb dL_law_256 (lv_at hl 2 rfl) ?_
          refine lv_iconst (v := 1) hx hb dL_law_258 (by decide) ?_
          refine lv_iadd hx hb dL_law_259 ?_
          refine lv_icmp_ne (tgt := 300) hx hb dL_law_260 (by decide) (fun c_25 => absurd c_25 (fun z => z (nI_succ _))) (fun _ => ?_)
          refine lv_iload hx hb dL_law_263 (lv_at hl 4 rfl) ?_
          refine lv_bipush (v := 8) hx hb dL_law_265 (by decide) ?_
          refine lv_ishr hx hb dL_law_267 ?_
          refine lv_iconst (v := 3) hx hb dL_law_268 (by decide) ?_
          refine kL_low (x1 := (x_10 >>> (8 &&& 31))) (x2 := 3) hF (va_cwS 2 hts gL_law_L_low rfl rfl rfl hdL_low ⟨Nat.le_of_ble_eq_true rfl, Nat.le_of_ble_eq_true rfl⟩) hC (by decide) hl.1 (Nat.le_of_ble_eq_true rfl) dL_law_269 ⟨Nat.le_of_ble_eq_true rfl, Nat.le_of_ble_eq_true rfl⟩ ?_
          refine lv_if_ne (tgt := 300) hx hb dL_law_272 (by decide) (fun c_26 => ?_) (fun c_26 => ?_)
          · exact k300 u H locs ls hI hY hS (lv_sub hl [6, 0, 7, 8, 9] rfl)
          · refine lv_aload_n hx hb dL_law_275 rfl (lv_at hl 8 rfl) ?_
            refine kX7_undo hF (cwV 0 hts gL_law_X7_undo rfl rfl rfl hdX7_undo ⟨Nat.le_of_ble_eq_true rfl, Nat.le_of_ble_eq_true rfl⟩) hC hY hJ hOk hS hA7 hl.1 (Nat.le_of_ble_eq_true rfl) dL_law_276 ⟨Nat.le_of_ble_eq_true rfl, Nat.le_of_ble_eq_true rfl⟩ (fun H locs hY _ _ hS => ?_)
            have hI : InvO ((zX7_undo u).2) := (pub_undo hI).1
            have hOk := hI.1
            refine lv_iload hx hb dL_law_279 (lv_at hl 2 rfl) ?_
            refine lv_icmp_ne (tgt := 298) hx hb dL_law_281 (by decide) (fun c_27 => absurd c_27 (fun z => z uk1)) (fun _ => ?_)
            refine lv_aload_n hx hb dL_law_284 rfl (lv_at hl 8 rfl) ?_
            refine kL_digest hF (va_cwS 1 hts gL_law_L_digest rfl rfl rfl hdL_digest ⟨Nat.le_of_ble_eq_true rfl, Nat.le_of_ble_eq_true rfl⟩) hC hY hJ hOk hS hA7 hl.1 (Nat.le_of_ble_eq_true rfl) dL_law_285 ⟨Nat.le_of_ble_eq_true rfl, Nat.le_of_ble_eq_true rfl⟩ (fun r9 u9 H locs hq hY hS => ?_)
            obtain ⟨hr9, hu9⟩ := hq
            rw [hu9] at hY
            rw [hr9]
            clear hr9 hu9
            rw [uk2]
            refine lv_lload hx hb dL_law_288 (lv_at hl 3 rfl) ?_
            refine W.lcmp hx hb dL_law_290 ?_
            rw [cmp_self]
            refine lv_if_ne (tgt := 298) hx hb dL_law_291 (by decide) (fun c_28 => absurd c_28 (fun z => z rfl)) (fun _ => ?_)
            refine lv_iconst (v := 1) hx hb dL_law_294 (by decide) ?_
            refine lv_goto (tgt := 299) hx hb dL_law_295 (by decide) ?_
            refine lv_istore_n (lv' := [(3, .int 1), (10, .int (nI (hZn Ω + 1))), (9, .int (nI (hZn Ω))), (7, .long (zdg (Ω 0))), (6, .int x_10), (5, .int x_9), (4, .int (nI j)), (2, .int x0), (1, .ref (ob 0)), (0, .ref b)]) hx hb dL_law_299 rfl hl (by decide) rfl (fun ls hl => ?_)
            exact k300 (zX7_undo u).2 H locs ls hI hY hS (lv_sub hl [6, 0, 7, 8, 9] rfl)
        · rw [if_neg hz4] at hz
          have e4 : hZn Ω = 4 := by omega
          rw [hz, e4] at hl
          refine lv_iload_n hx hb dL_law_208 rfl (lv_at hl 1 rfl) ?_
          refine lv_if_eq (tgt := 248) hx hb dL_law_209 (by decide) (fun c_29 => absurd c_29 (by decide)) (fun _ => ?_)
          refine lv_iload hx hb dL_law_212 (lv_at hl 0 rfl) ?_
          refine lv_iload hx hb dL_law_214 (lv_at hl 2 rfl) ?_
          refine lv_icmp_ne (tgt := 235) hx hb dL_law_216 (by decide) (fun c_30 => absurd c_30 (fun z => z rfl)) (fun _ => ?_)
          refine lv_iload hx hb dL_law_219 (lv_at hl 2 rfl) ?_
          refine lv_iconst (v := 4) hx hb dL_law_221 (by decide) ?_
          refine lv_icmp_eq (tgt := 244) hx hb dL_law_222 (by decide) (fun _ => ?_) (fun c_31 => absurd rfl c_31)
          refine lv_iconst (v := 1) hx hb dL_law_244 (by decide) ?_
          refine lv_goto (tgt := 249) hx hb dL_law_245 (by decide) ?_
          refine lv_istore_n (lv' := [(3, .int 1), (10, .int (nI 4)), (9, .int (nI 4)), (7, .long (zdg (Ω 0))), (6, .int x_10), (5, .int x_9), (4, .int (nI j)), (2, .int x0), (1, .ref (ob 0)), (0, .ref b)]) hx hb dL_law_249 rfl hl (by decide) rfl (fun ls hl => ?_)
          refine lv_iload_n hx hb dL_law_250 rfl (lv_at hl 0 rfl) ?_
          refine lv_if_eq (tgt := 300) hx hb dL_law_251 (by decide) (fun c_32 => absurd c_32 (by decide)) (fun _ => ?_)
          refine lv_iload hx hb dL_law_254 (lv_at hl 1 rfl) ?_
          refine lv_iload hx hb dL_law_256 (lv_at hl 2 rfl) ?_
          refine lv_iconst (v := 1) hx hb dL_law_258 (by decide) ?_
          refine lv_iadd hx hb dL_law_259 ?_
          refine lv_icmp_ne (tgt := 300) hx hb dL_law_260 (by decide) (fun _ => ?_) (fun c_33 => absurd c_33 (by decide))
          exact k300 u H locs ls hI hY hS (lv_sub hl [6, 0, 7, 8, 9] rfl)
    refine lv_iload hx hb dL_law_163 (lv_at hl 4 rfl) ?_
    refine lv_iconst (v := 4) hx hb dL_law_165 (by decide) ?_
    refine lv_icmp_ge (tgt := 177) hx hb dL_law_166 (by decide) (fun c_34 => ?_) (fun c_34 => ?_)
    · refine lv_iload hx hb dL_law_177 (lv_at hl 3 rfl) ?_
      exact k179 _
    · refine lv_iload hx hb dL_law_169 (lv_at hl 3 rfl) ?_
      refine lv_bipush (v := (-16)) hx hb dL_law_171 (by decide) ?_
      refine lv_iand hx hb dL_law_173 ?_
      refine lv_goto (tgt := 179) hx hb dL_law_174 (by decide) ?_
      exact k179 _
