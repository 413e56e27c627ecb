/-! THE LAW: one call on both sides, a case each -/
theorem Sys.kp {D : va_G} {y : Y3} {ob : Nat → Nat} {AD : Nat → Nat → Nat} {Ω : Og} {H H1 : Heap} (h : SysH D y ob AD Ω H) (hq : ∀ q : Nat, sysA ob AD q → q < H.size → H1[q]? = H[q]?) : SysH D y ob AD Ω H1 := by
  obtain ⟨a1, a2, a3, a4, a5, a6, a7⟩ := h
  have no : ∀ j, j < 8 → ob j < H.size → H1[ob j]? = H[ob j]? := fun j hj hl => hq _ (sysA_ob hj) hl
  exact ⟨va1_kept a1 (no 0 (by decide) (va1_lt a1)), qo_kept a2 (no 1 (by decide) (qo_lt a2)), qo_kept a3 (no 2 (by decide) (qo_lt a3)), hi_kept a4 (no 3 (by decide) (hi_lt a4).1) (no 4 (by decide) (hi_lt a4).2), tx_kept a5 (fun q z => by
    rcases z with rfl | rfl
    · exact no 5 (by decide) (tx_lt a5).1
    · exact no 6 (by decide) (tx_lt a5).2), va1_kept a6 (no 7 (by decide) (va1_lt a6)), fun k hk => st_kept (a7 k hk) (fun i hi => hq _ (sysA_st hk _ ⟨i, hi, rfl⟩) (st_lt (a7 k hk) hi))⟩
theorem big_r {Ω : Og} {μ : Sg} (H : Big Ω μ) : rg (μ 4 0) 5 := by
  have k := H.1
  rw [H.2.2.2.1, k.2.2.2.2]
  have := k.2.2.1
  exact rg_of (n := 5) (by omega) (by decide)
/-- between two rounds of the law's loop -/
def LwI (D : va_G) (y : Y3) (ob : Nat → Nat) (AD : Nat → Nat → Nat) (mo : Nat → Nat) (tM tF : Nat) (s : State) (Ω : Og) (μ : Sg) (H : Heap) (locs : List Loc) : Prop := CK D y s ∧ SysH D y ob AD Ω H ∧ sysJ ob AD ∧ MoH D y mo μ H ∧ moI mo ∧ Big Ω μ ∧ (∀ q, moA mo q → ¬ sysA ob AD q) ∧ (∀ q, sysA ob AD q → s.heap.size ≤ q) ∧ (∀ q, moA mo q → s.heap.size ≤ q) ∧ va_S (fun q => s.heap.size ≤ q) s.heap H locs ∧ STM s.heap.size tM tF s s.heap
theorem ld_in {j L q : Nat} (hj : j + 3 < L) (hq : q ≤ 3) (hL : L ≤ 2048) : vp_in (nI j + nI q) L := by
  rw [nI_add]
  exact vp_in_nI (by omega) (by omega)
set_option maxHeartbeats 4000000 in
set_option maxRecDepth 100000 in
theorem lc_locker {p : Program} {l : Launch} {e : Env} {s : State} {m : MethodId} {below : List Frame} {meth : Method} {c : Code} {b L : Nat} {xs : Nat → Int32} (hL : L ≤ 2048) (C0 : lw_At p s m meth c b L xs) {D : va_G} {y : Y3} {ob : Nat → Nat} {AD : Nat → Nat → Nat} {mo : Nat → Nat} {tM tF : Nat} {Ω : Og} {μ : Sg} {H : Heap} {locs : List Loc} {j : Nat} (hj : j + 3 < L) (hI : LwI D y ob AD mo tM tF s Ω μ H locs) {ls : Array Slot} (hl : lv_has ls 4 [(0, .ref b), (1, .ref (ob 0)), (2, .ref (mo 0)), (3, .int (nI j))])
    (k : ∀ (Ω2 : Og) (μ2 : Sg) (H2 : Heap) (locs2 : List Loc), LwI D y ob AD mo tM tF s Ω2 μ2 H2 locs2 → W p l e room_1 s m #[Value.ref b] below meth c H2 locs2 79 3938 (lw_Z below #[Value.ref b] s) (F0 m 823 ls [])) : W p l e room_1 s m #[Value.ref b] below meth c H locs 79 3938 (lw_Z below #[Value.ref b] s) (F0 m 148 ls []) := by
  obtain ⟨hx, hb, hr, hml, hown, hts0, hX, hbl, hlocks, hgv⟩ := C0
  have hb : c.code = cL_law := hb
  have hown : s.vm.findClass RL = some m.cls := hown
  have hts := law_hts hts0
  obtain ⟨hC, hY, hJ, hM, hi, hB, hap, hA7, hA8, hS, hZ⟩ := hI
  have hbA : ¬ (fun q : Nat => s.heap.size ≤ q) b := Nat.not_le.mpr hbl
  have hF := (⟨hx, hb, hml, hown, hts⟩ : CallFix p m c cL_law 4 s _ wsL_law RL)
  refine lv_aload_n hx hb dL_law_148 rfl (lv_at hl 1 rfl) ?_
  refine lv_aload_n hx hb dL_law_149 rfl (lv_at hl 0 rfl) ?_
  refine lv_iload_n hx hb dL_law_150 rfl (lv_at hl 3 rfl) ?_
  refine lv_iconst (v := 1) hx hb dL_law_151 (by decide) ?_
  refine lv_iadd hx hb dL_law_152 ?_
  refine va_sld hx hb hX hbl hbA hS (ld_in (q := 1) hj (by decide) hL) dL_law_153 ?_
  refine lv_aload_n hx hb dL_law_154 rfl (lv_at hl 0 rfl) ?_
  refine lv_iload_n hx hb dL_law_155 rfl (lv_at hl 3 rfl) ?_
  refine lv_iconst (v := 2) hx hb dL_law_156 (by decide) ?_
  refine lv_iadd hx hb dL_law_157 ?_
  refine va_sld hx hb hX hbl hbA hS (ld_in (q := 2) hj (by decide) hL) dL_law_158 ?_
  refine kX7_locker hF (cwV 2 hts gL_law_X7_locker rfl rfl rfl hdX7_locker ⟨Nat.le_of_ble_eq_true rfl, Nat.le_of_ble_eq_true rfl⟩) hC hY hJ hB.1 hS hA7 hl.1 (Nat.le_of_ble_eq_true rfl) dL_law_159 ⟨Nat.le_of_ble_eq_true rfl, Nat.le_of_ble_eq_true rfl⟩ (fun H1 locs1 hY1 hz1 hk1 hS => ?_)
  have hM := mo_kept hM (fun i hi9 => hk1 _ (mo_lt hM hi9) (hap _ ⟨i, hi9, rfl⟩))
  refine lv_aload_n hx hb dL_law_162 rfl (lv_at hl 2 rfl) ?_
  refine lv_aload_n hx hb dL_law_163 rfl (lv_at hl 0 rfl) ?_
  refine lv_iload_n hx hb dL_law_164 rfl (lv_at hl 3 rfl) ?_
  refine lv_iconst (v := 1) hx hb dL_law_165 (by decide) ?_
  refine lv_iadd hx hb dL_law_166 ?_
  refine va_sld hx hb hX hbl hbA hS (ld_in (q := 1) hj (by decide) hL) dL_law_167 ?_
  refine lv_aload_n hx hb dL_law_168 rfl (lv_at hl 0 rfl) ?_
  refine lv_iload_n hx hb dL_law_169 rfl (lv_at hl 3 rfl) ?_
  refine lv_iconst (v := 2) hx hb dL_law_170 (by decide) ?_
  refine lv_iadd hx hb dL_law_171 ?_
  refine va_sld hx hb hX hbl hbA hS (ld_in (q := 2) hj (by decide) hL) dL_law_172 ?_
  refine kX8_locker hF (cwV 2 hts gL_law_X8_locker rfl rfl rfl hdX8_locker ⟨Nat.le_of_ble_eq_true rfl, Nat.le_of_ble_eq_true rfl⟩) hC hM hi hB.I (big_r hB) hS hA8 hl.1 (Nat.le_of_ble_eq_true rfl) dL_law_173 ⟨Nat.le_of_ble_eq_true rfl, Nat.le_of_ble_eq_true rfl⟩ (fun H2 locs2 hM2 hz2 hk2 hS => ?_)
  have hY2 := Sys.kp (H1 := H2) hY1 (fun q hq hlt => hk2 q hlt (fun z => hap q z hq))
  have heq := (pub_locker hB (xs (nI j + 1).toNatClampNeg) (xs (nI j + 2).toNatClampNeg)).1
  refine lv_icmp_eq (tgt := 823) hx hb dL_law_176 (by decide) (fun _ => ?_) (fun z => absurd heq z)
  exact k (zX7_locker Ω (xs (nI j + 1).toNatClampNeg) (xs (nI j + 2).toNatClampNeg)).2 (zX8_locker μ (xs (nI j + 1).toNatClampNeg) (xs (nI j + 2).toNatClampNeg)).2 H2 locs2 ⟨hC, hY2, hJ, hM2, hi, (pub_locker hB (xs (nI j + 1).toNatClampNeg) (xs (nI j + 2).toNatClampNeg)).2, hap, hA7, hA8, hS, hZ⟩
set_option maxHeartbeats 4000000 in
set_option maxRecDepth 100000 in
theorem lc_meal {p : Program} {l : Launch} {e : Env} {s : State} {m : MethodId} {below : List Frame} {meth : Method} {c : Code} {b L : Nat} {xs : Nat → Int32} (hL : L ≤ 2048) (C0 : lw_At p s m meth c b L xs) {D : va_G} {y : Y3} {ob : Nat → Nat} {AD : Nat → Nat → Nat} {mo : Nat → Nat} {tM tF : Nat} {Ω : Og} {μ : Sg} {H : Heap} {locs : List Loc} {j : Nat} (hj : j + 3 < L) (hI : LwI D y ob AD mo tM tF s Ω μ H locs) {ls : Array Slot} (hl : lv_has ls 4 [(0, .ref b), (1, .ref (ob 0)), (2, .ref (mo 0)), (3, .int (nI j))])
    (k : ∀ (Ω2 : Og) (μ2 : Sg) (H2 : Heap) (locs2 : List Loc), LwI D y ob AD mo tM tF s Ω2 μ2 H2 locs2 → W p l e room_1 s m #[Value.ref b] below meth c H2 locs2 79 3938 (lw_Z below #[Value.ref b] s) (F0 m 823 ls [])) : W p l e room_1 s m #[Value.ref b] below meth c H locs 79 3938 (lw_Z below #[Value.ref b] s) (F0 m 181 ls []) := by
  obtain ⟨hx, hb, hr, hml, hown, hts0, hX, hbl, hlocks, hgv⟩ := C0
  have hb : c.code = cL_law := hb
  have hown : s.vm.findClass RL = some m.cls := hown
  have hts := law_hts hts0
  obtain ⟨hC, hY, hJ, hM, hi, hB, hap, hA7, hA8, hS, hZ⟩ := hI
  have hbA : ¬ (fun q : Nat => s.heap.size ≤ q) b := Nat.not_le.mpr hbl
  have hF := (⟨hx, hb, hml, hown, hts⟩ : CallFix p m c cL_law 4 s _ wsL_law RL)
  refine lv_aload_n hx hb dL_law_181 rfl (lv_at hl 1 rfl) ?_
  refine lv_aload_n hx hb dL_law_182 rfl (lv_at hl 0 rfl) ?_
  refine lv_iload_n hx hb dL_law_183 rfl (lv_at hl 3 rfl) ?_
  refine lv_iconst (v := 1) hx hb dL_law_184 (by decide) ?_
  refine lv_iadd hx hb dL_law_185 ?_
  refine va_sld hx hb hX hbl hbA hS (ld_in (q := 1) hj (by decide) hL) dL_law_186 ?_
  refine lv_aload_n hx hb dL_law_187 rfl (lv_at hl 0 rfl) ?_
  refine lv_iload_n hx hb dL_law_188 rfl (lv_at hl 3 rfl) ?_
  refine lv_iconst (v := 2) hx hb dL_law_189 (by decide) ?_
  refine lv_iadd hx hb dL_law_190 ?_
  refine va_sld hx hb hX hbl hbA hS (ld_in (q := 2) hj (by decide) hL) dL_law_191 ?_
  refine lv_aload_n hx hb dL_law_192 rfl (lv_at hl 0 rfl) ?_
  refine lv_iload_n hx hb dL_law_193 rfl (lv_at hl 3 rfl) ?_
  refine lv_iconst (v := 3) hx hb dL_law_194 (by decide) ?_
  refine lv_iadd hx hb dL_law_195 ?_
  refine va_sld hx hb hX hbl hbA hS (ld_in (q := 3) hj (by decide) hL) dL_law_196 ?_
  refine kX7_meal hF (cwV 3 hts gL_law_X7_meal rfl rfl rfl hdX7_meal ⟨Nat.le_of_ble_eq_true rfl, Nat.le_of_ble_eq_true rfl⟩) hC hY hJ hB.1 hS hA7 hl.1 (Nat.le_of_ble_eq_true rfl) dL_law_197 ⟨Nat.le_of_ble_eq_true rfl, Nat.le_of_ble_eq_true rfl⟩ (fun H1 locs1 hY1 hz1 hk1 hS => ?_)
  have hM := mo_kept hM (fun i hi9 => hk1 _ (mo_lt hM hi9) (hap _ ⟨i, hi9, rfl⟩))
  refine lv_aload_n hx hb dL_law_200 rfl (lv_at hl 2 rfl) ?_
  refine lv_aload_n hx hb dL_law_201 rfl (lv_at hl 0 rfl) ?_
  refine lv_iload_n hx hb dL_law_202 rfl (lv_at hl 3 rfl) ?_
  refine lv_iconst (v := 1) hx hb dL_law_203 (by decide) ?_
  refine lv_iadd hx hb dL_law_204 ?_
  refine va_sld hx hb hX hbl hbA hS (ld_in (q := 1) hj (by decide) hL) dL_law_205 ?_
  refine lv_aload_n hx hb dL_law_206 rfl (lv_at hl 0 rfl) ?_
  refine lv_iload_n hx hb dL_law_207 rfl (lv_at hl 3 rfl) ?_
  refine lv_iconst (v := 2) hx hb dL_law_208 (by decide) ?_
  refine lv_iadd hx hb dL_law_209 ?_
  refine va_sld hx hb hX hbl hbA hS (ld_in (q := 2) hj (by decide) hL) dL_law_210 ?_
  refine lv_aload_n hx hb dL_law_211 rfl (lv_at hl 0 rfl) ?_
  refine lv_iload_n hx hb dL_law_212 rfl (lv_at hl 3 rfl) ?_
  refine lv_iconst (v := 3) hx hb dL_law_213 (by decide) ?_
  refine lv_iadd hx hb dL_law_214 ?_
  refine va_sld hx hb hX hbl hbA hS (ld_in (q := 3) hj (by decide) hL) dL_law_215 ?_
  refine kX8_meal hF (cwV 3 hts gL_law_X8_meal rfl rfl rfl hdX8_meal ⟨Nat.le_of_ble_eq_true rfl, Nat.le_of_ble_eq_true rfl⟩) hC hM hi hB.I (big_r hB) hS hA8 hl.1 (Nat.le_of_ble_eq_true rfl) dL_law_216 ⟨Nat.le_of_ble_eq_true rfl, Nat.le_of_ble_eq_true rfl⟩ (fun H2 locs2 hM2 hz2 hk2 hS => ?_)
  have hY2 := Sys.kp (H1 := H2) hY1 (fun q hq hlt => hk2 q hlt (fun z => hap q z hq))
  have heq := (pub_meal hB (xs (nI j + 1).toNatClampNeg) (xs (nI j + 2).toNatClampNeg) (xs (nI j + 3).toNatClampNeg)).1
  refine lv_icmp_eq (tgt := 823) hx hb dL_law_219 (by decide) (fun _ => ?_) (fun z => absurd heq z)
  exact k (zX7_meal Ω (xs (nI j + 1).toNatClampNeg) (xs (nI j + 2).toNatClampNeg) (xs (nI j + 3).toNatClampNeg)).2 (zX8_meal μ (xs (nI j + 1).toNatClampNeg) (xs (nI j + 2).toNatClampNeg) (xs (nI j + 3).toNatClampNeg)).2 H2 locs2 ⟨hC, hY2, hJ, hM2, hi, (pub_meal hB (xs (nI j + 1).toNatClampNeg) (xs (nI j + 2).toNatClampNeg) (xs (nI j + 3).toNatClampNeg)).2, hap, hA7, hA8, hS, hZ⟩
set_option maxHeartbeats 4000000 in
set_option maxRecDepth 100000 in
theorem lc_person {p : Program} {l : Launch} {e : Env} {s : State} {m : MethodId} {below : List Frame} {meth : Method} {c : Code} {b L : Nat} {xs : Nat → Int32} (hL : L ≤ 2048) (C0 : lw_At p s m meth c b L xs) {D : va_G} {y : Y3} {ob : Nat → Nat} {AD : Nat → Nat → Nat} {mo : Nat → Nat} {tM tF : Nat} {Ω : Og} {μ : Sg} {H : Heap} {locs : List Loc} {j : Nat} (hj : j + 3 < L) (hI : LwI D y ob AD mo tM tF s Ω μ H locs) {ls : Array Slot} (hl : lv_has ls 4 [(0, .ref b), (1, .ref (ob 0)), (2, .ref (mo 0)), (3, .int (nI j))])
    (k : ∀ (Ω2 : Og) (μ2 : Sg) (H2 : Heap) (locs2 : List Loc), LwI D y ob AD mo tM tF s Ω2 μ2 H2 locs2 → W p l e room_1 s m #[Value.ref b] below meth c H2 locs2 79 3938 (lw_Z below #[Value.ref b] s) (F0 m 823 ls [])) : W p l e room_1 s m #[Value.ref b] below meth c H locs 79 3938 (lw_Z below #[Value.ref b] s) (F0 m 224 ls []) := by
  obtain ⟨hx, hb, hr, hml, hown, hts0, hX, hbl, hlocks, hgv⟩ := C0
  have hb : c.code = cL_law := hb
  have hown : s.vm.findClass RL = some m.cls := hown
  have hts := law_hts hts0
  obtain ⟨hC, hY, hJ, hM, hi, hB, hap, hA7, hA8, hS, hZ⟩ := hI
  have hbA : ¬ (fun q : Nat => s.heap.size ≤ q) b := Nat.not_le.mpr hbl
  have hF := (⟨hx, hb, hml, hown, hts⟩ : CallFix p m c cL_law 4 s _ wsL_law RL)
  refine lv_aload_n hx hb dL_law_224 rfl (lv_at hl 1 rfl) ?_
  refine lv_aload_n hx hb dL_law_225 rfl (lv_at hl 0 rfl) ?_
  refine lv_iload_n hx hb dL_law_226 rfl (lv_at hl 3 rfl) ?_
  refine lv_iconst (v := 1) hx hb dL_law_227 (by decide) ?_
  refine lv_iadd hx hb dL_law_228 ?_
  refine va_sld hx hb hX hbl hbA hS (ld_in (q := 1) hj (by decide) hL) dL_law_229 ?_
  refine kX7_person hF (cwV 1 hts gL_law_X7_person rfl rfl rfl hdX7_person ⟨Nat.le_of_ble_eq_true rfl, Nat.le_of_ble_eq_true rfl⟩) hC hY hJ hB.1 hS hA7 hl.1 (Nat.le_of_ble_eq_true rfl) dL_law_230 ⟨Nat.le_of_ble_eq_true rfl, Nat.le_of_ble_eq_true rfl⟩ (fun H1 locs1 hY1 hz1 hk1 hS => ?_)
  have hM := mo_kept hM (fun i hi9 => hk1 _ (mo_lt hM hi9) (hap _ ⟨i, hi9, rfl⟩))
  refine lv_aload_n hx hb dL_law_233 rfl (lv_at hl 2 rfl) ?_
  refine lv_aload_n hx hb dL_law_234 rfl (lv_at hl 0 rfl) ?_
  refine lv_iload_n hx hb dL_law_235 rfl (lv_at hl 3 rfl) ?_
  refine lv_iconst (v := 1) hx hb dL_law_236 (by decide) ?_
  refine lv_iadd hx hb dL_law_237 ?_
  refine va_sld hx hb hX hbl hbA hS (ld_in (q := 1) hj (by decide) hL) dL_law_238 ?_
  refine kX8_person hF (cwV 1 hts gL_law_X8_person rfl rfl rfl hdX8_person ⟨Nat.le_of_ble_eq_true rfl, Nat.le_of_ble_eq_true rfl⟩) hC hM hi hB.I (big_r hB) hS hA8 hl.1 (Nat.le_of_ble_eq_true rfl) dL_law_239 ⟨Nat.le_of_ble_eq_true rfl, Nat.le_of_ble_eq_true rfl⟩ (fun H2 locs2 hM2 hz2 hk2 hS => ?_)
  have hY2 := Sys.kp (H1 := H2) hY1 (fun q hq hlt => hk2 q hlt (fun z => hap q z hq))
  have heq := (pub_person hB (xs (nI j + 1).toNatClampNeg)).1
  refine lv_icmp_eq (tgt := 823) hx hb dL_law_242 (by decide) (fun _ => ?_) (fun z => absurd heq z)
  exact k (zX7_person Ω (xs (nI j + 1).toNatClampNeg)).2 (zX8_person μ (xs (nI j + 1).toNatClampNeg)).2 H2 locs2 ⟨hC, hY2, hJ, hM2, hi, (pub_person hB (xs (nI j + 1).toNatClampNeg)).2, hap, hA7, hA8, hS, hZ⟩
set_option maxHeartbeats 4000000 in
set_option maxRecDepth 100000 in
theorem lc_volunteer {p : Program} {l : Launch} {e : Env} {s : State} {m : MethodId} {below : List Frame} {meth : Method} {c : Code} {b L : Nat} {xs : Nat → Int32} (hL : L ≤ 2048) (C0 : lw_At p s m meth c b L xs) {D : va_G} {y : Y3} {ob : Nat → Nat} {AD : Nat → Nat → Nat} {mo : Nat → Nat} {tM tF : Nat} {Ω : Og} {μ : Sg} {H : Heap} {locs : List Loc} {j : Nat} (hj : j + 3 < L) (hI : LwI D y ob AD mo tM tF s Ω μ H locs) {ls : Array Slot} (hl : lv_has ls 4 [(0, .ref b), (1, .ref (ob 0)), (2, .ref (mo 0)), (3, .int (nI j))])
    (k : ∀ (Ω2 : Og) (μ2 : Sg) (H2 : Heap) (locs2 : List Loc), LwI D y ob AD mo tM tF s Ω2 μ2 H2 locs2 → W p l e room_1 s m #[Value.ref b] below meth c H2 locs2 79 3938 (lw_Z below #[Value.ref b] s) (F0 m 823 ls [])) : W p l e room_1 s m #[Value.ref b] below meth c H locs 79 3938 (lw_Z below #[Value.ref b] s) (F0 m 247 ls []) := by
  obtain ⟨hx, hb, hr, hml, hown, hts0, hX, hbl, hlocks, hgv⟩ := C0
  have hb : c.code = cL_law := hb
  have hown : s.vm.findClass RL = some m.cls := hown
  have hts := law_hts hts0
  obtain ⟨hC, hY, hJ, hM, hi, hB, hap, hA7, hA8, hS, hZ⟩ := hI
  have hbA : ¬ (fun q : Nat => s.heap.size ≤ q) b := Nat.not_le.mpr hbl
  have hF := (⟨hx, hb, hml, hown, hts⟩ : CallFix p m c cL_law 4 s _ wsL_law RL)
  refine lv_aload_n hx hb dL_law_247 rfl (lv_at hl 1 rfl) ?_
  refine lv_aload_n hx hb dL_law_248 rfl (lv_at hl 0 rfl) ?_
  refine lv_iload_n hx hb dL_law_249 rfl (lv_at hl 3 rfl) ?_
  refine lv_iconst (v := 1) hx hb dL_law_250 (by decide) ?_
  refine lv_iadd hx hb dL_law_251 ?_
  refine va_sld hx hb hX hbl hbA hS (ld_in (q := 1) hj (by decide) hL) dL_law_252 ?_
  refine lv_aload_n hx hb dL_law_253 rfl (lv_at hl 0 rfl) ?_
  refine lv_iload_n hx hb dL_law_254 rfl (lv_at hl 3 rfl) ?_
  refine lv_iconst (v := 2) hx hb dL_law_255 (by decide) ?_
  refine lv_iadd hx hb dL_law_256 ?_
  refine va_sld hx hb hX hbl hbA hS (ld_in (q := 2) hj (by decide) hL) dL_law_257 ?_
  refine kX7_volunteer hF (cwV 2 hts gL_law_X7_volunteer rfl rfl rfl hdX7_volunteer ⟨Nat.le_of_ble_eq_true rfl, Nat.le_of_ble_eq_true rfl⟩) hC hY hJ hB.1 hS hA7 hl.1 (Nat.le_of_ble_eq_true rfl) dL_law_258 ⟨Nat.le_of_ble_eq_true rfl, Nat.le_of_ble_eq_true rfl⟩ (fun H1 locs1 hY1 hz1 hk1 hS => ?_)
  have hM := mo_kept hM (fun i hi9 => hk1 _ (mo_lt hM hi9) (hap _ ⟨i, hi9, rfl⟩))
  refine lv_aload_n hx hb dL_law_261 rfl (lv_at hl 2 rfl) ?_
  refine lv_aload_n hx hb dL_law_262 rfl (lv_at hl 0 rfl) ?_
  refine lv_iload_n hx hb dL_law_263 rfl (lv_at hl 3 rfl) ?_
  refine lv_iconst (v := 1) hx hb dL_law_264 (by decide) ?_
  refine lv_iadd hx hb dL_law_265 ?_
  refine va_sld hx hb hX hbl hbA hS (ld_in (q := 1) hj (by decide) hL) dL_law_266 ?_
  refine lv_aload_n hx hb dL_law_267 rfl (lv_at hl 0 rfl) ?_
  refine lv_iload_n hx hb dL_law_268 rfl (lv_at hl 3 rfl) ?_
  refine lv_iconst (v := 2) hx hb dL_law_269 (by decide) ?_
  refine lv_iadd hx hb dL_law_270 ?_
  refine va_sld hx hb hX hbl hbA hS (ld_in (q := 2) hj (by decide) hL) dL_law_271 ?_
  refine kX8_volunteer hF (cwV 2 hts gL_law_X8_volunteer rfl rfl rfl hdX8_volunteer ⟨Nat.le_of_ble_eq_true rfl, Nat.le_of_ble_eq_true rfl⟩) hC hM hi hB.I (big_r hB) hS hA8 hl.1 (Nat.le_of_ble_eq_true rfl) dL_law_272 ⟨Nat.le_of_ble_eq_true rfl, Nat.le_of_ble_eq_true rfl⟩ (fun H2 locs2 hM2 hz2 hk2 hS => ?_)
  have hY2 := Sys.kp (H1 := H2) hY1 (fun q hq hlt => hk2 q hlt (fun z => hap q z hq))
  have heq := (pub_volunteer hB (xs (nI j + 1).toNatClampNeg) (xs (nI j + 2).toNatClampNeg)).1
  refine lv_icmp_eq (tgt := 823) hx hb dL_law_275 (by decide) (fun _ => ?_) (fun z => absurd heq z)
  exact k (zX7_volunteer Ω (xs (nI j + 1).toNatClampNeg) (xs (nI j + 2).toNatClampNeg)).2 (zX8_volunteer μ (xs (nI j + 1).toNatClampNeg) (xs (nI j + 2).toNatClampNeg)).2 H2 locs2 ⟨hC, hY2, hJ, hM2, hi, (pub_volunteer hB (xs (nI j + 1).toNatClampNeg) (xs (nI j + 2).toNatClampNeg)).2, hap, hA7, hA8, hS, hZ⟩
set_option maxHeartbeats 4000000 in
set_option maxRecDepth 100000 in
theorem lc_reserve {p : Program} {l : Launch} {e : Env} {s : State} {m : MethodId} {below : List Frame} {meth : Method} {c : Code} {b L : Nat} {xs : Nat → Int32} (hL : L ≤ 2048) (C0 : lw_At p s m meth c b L xs) {D : va_G} {y : Y3} {ob : Nat → Nat} {AD : Nat → Nat → Nat} {mo : Nat → Nat} {tM tF : Nat} {Ω : Og} {μ : Sg} {H : Heap} {locs : List Loc} {j : Nat} (hj : j + 3 < L) (hI : LwI D y ob AD mo tM tF s Ω μ H locs) {ls : Array Slot} (hl : lv_has ls 4 [(0, .ref b), (1, .ref (ob 0)), (2, .ref (mo 0)), (3, .int (nI j))])
    (k : ∀ (Ω2 : Og) (μ2 : Sg) (H2 : Heap) (locs2 : List Loc), LwI D y ob AD mo tM tF s Ω2 μ2 H2 locs2 → W p l e room_1 s m #[Value.ref b] below meth c H2 locs2 79 3938 (lw_Z below #[Value.ref b] s) (F0 m 823 ls [])) : W p l e room_1 s m #[Value.ref b] below meth c H locs 79 3938 (lw_Z below #[Value.ref b] s) (F0 m 280 ls []) := by
  obtain ⟨hx, hb, hr, hml, hown, hts0, hX, hbl, hlocks, hgv⟩ := C0
  have hb : c.code = cL_law := hb
  have hown : s.vm.findClass RL = some m.cls := hown
  have hts := law_hts hts0
  obtain ⟨hC, hY, hJ, hM, hi, hB, hap, hA7, hA8, hS, hZ⟩ := hI
  have hbA : ¬ (fun q : Nat => s.heap.size ≤ q) b := Nat.not_le.mpr hbl
  have hF := (⟨hx, hb, hml, hown, hts⟩ : CallFix p m c cL_law 4 s _ wsL_law RL)
  refine lv_aload_n hx hb dL_law_280 rfl (lv_at hl 1 rfl) ?_
  refine lv_aload_n hx hb dL_law_281 rfl (lv_at hl 0 rfl) ?_
  refine lv_iload_n hx hb dL_law_282 rfl (lv_at hl 3 rfl) ?_
  refine lv_iconst (v := 1) hx hb dL_law_283 (by decide) ?_
  refine lv_iadd hx hb dL_law_284 ?_
  refine va_sld hx hb hX hbl hbA hS (ld_in (q := 1) hj (by decide) hL) dL_law_285 ?_
  refine lv_aload_n hx hb dL_law_286 rfl (lv_at hl 0 rfl) ?_
  refine lv_iload_n hx hb dL_law_287 rfl (lv_at hl 3 rfl) ?_
  refine lv_iconst (v := 2) hx hb dL_law_288 (by decide) ?_
  refine lv_iadd hx hb dL_law_289 ?_
  refine va_sld hx hb hX hbl hbA hS (ld_in (q := 2) hj (by decide) hL) dL_law_290 ?_
  refine kX7_reserve hF (cwV 2 hts gL_law_X7_reserve rfl rfl rfl hdX7_reserve ⟨Nat.le_of_ble_eq_true rfl, Nat.le_of_ble_eq_true rfl⟩) hC hY hJ hB.1 hS hA7 hl.1 (Nat.le_of_ble_eq_true rfl) dL_law_291 ⟨Nat.le_of_ble_eq_true rfl, Nat.le_of_ble_eq_true rfl⟩ (fun H1 locs1 hY1 hz1 hk1 hS => ?_)
  have hM := mo_kept hM (fun i hi9 => hk1 _ (mo_lt hM hi9) (hap _ ⟨i, hi9, rfl⟩))
  refine lv_aload_n hx hb dL_law_294 rfl (lv_at hl 2 rfl) ?_
  refine lv_aload_n hx hb dL_law_295 rfl (lv_at hl 0 rfl) ?_
  refine lv_iload_n hx hb dL_law_296 rfl (lv_at hl 3 rfl) ?_
  refine lv_iconst (v := 1) hx hb dL_law_297 (by decide) ?_
  refine lv_iadd hx hb dL_law_298 ?_
  refine va_sld hx hb hX hbl hbA hS (ld_in (q := 1) hj (by decide) hL) dL_law_299 ?_
  refine lv_aload_n hx hb dL_law_300 rfl (lv_at hl 0 rfl) ?_
  refine lv_iload_n hx hb dL_law_301 rfl (lv_at hl 3 rfl) ?_
  refine lv_iconst (v := 2) hx hb dL_law_302 (by decide) ?_
  refine lv_iadd hx hb dL_law_303 ?_
  refine va_sld hx hb hX hbl hbA hS (ld_in (q := 2) hj (by decide) hL) dL_law_304 ?_
  refine kX8_reserve hF (cwV 2 hts gL_law_X8_reserve rfl rfl rfl hdX8_reserve ⟨Nat.le_of_ble_eq_true rfl, Nat.le_of_ble_eq_true rfl⟩) hC hM hi hB.I (big_r hB) hS hA8 hl.1 (Nat.le_of_ble_eq_true rfl) dL_law_305 ⟨Nat.le_of_ble_eq_true rfl, Nat.le_of_ble_eq_true rfl⟩ (fun H2 locs2 hM2 hz2 hk2 hS => ?_)
  have hY2 := Sys.kp (H1 := H2) hY1 (fun q hq hlt => hk2 q hlt (fun z => hap q z hq))
  have heq := (pub_reserve hB (xs (nI j + 1).toNatClampNeg) (xs (nI j + 2).toNatClampNeg)).1
  refine lv_icmp_eq (tgt := 823) hx hb dL_law_308 (by decide) (fun _ => ?_) (fun z => absurd heq z)
  exact k (zX7_reserve Ω (xs (nI j + 1).toNatClampNeg) (xs (nI j + 2).toNatClampNeg)).2 (zX8_reserve μ (xs (nI j + 1).toNatClampNeg) (xs (nI j + 2).toNatClampNeg)).2 H2 locs2 ⟨hC, hY2, hJ, hM2, hi, (pub_reserve hB (xs (nI j + 1).toNatClampNeg) (xs (nI j + 2).toNatClampNeg)).2, hap, hA7, hA8, hS, hZ⟩
set_option maxHeartbeats 4000000 in
set_option maxRecDepth 100000 in
theorem lc_fetch {p : Program} {l : Launch} {e : Env} {s : State} {m : MethodId} {below : List Frame} {meth : Method} {c : Code} {b L : Nat} {xs : Nat → Int32} (hL : L ≤ 2048) (C0 : lw_At p s m meth c b L xs) {D : va_G} {y : Y3} {ob : Nat → Nat} {AD : Nat → Nat → Nat} {mo : Nat → Nat} {tM tF : Nat} {Ω : Og} {μ : Sg} {H : Heap} {locs : List Loc} {j : Nat} (hj : j + 3 < L) (hI : LwI D y ob AD mo tM tF s Ω μ H locs) {ls : Array Slot} (hl : lv_has ls 4 [(0, .ref b), (1, .ref (ob 0)), (2, .ref (mo 0)), (3, .int (nI j))])
    (k : ∀ (Ω2 : Og) (μ2 : Sg) (H2 : Heap) (locs2 : List Loc), LwI D y ob AD mo tM tF s Ω2 μ2 H2 locs2 → W p l e room_1 s m #[Value.ref b] below meth c H2 locs2 79 3938 (lw_Z below #[Value.ref b] s) (F0 m 823 ls [])) : W p l e room_1 s m #[Value.ref b] below meth c H locs 79 3938 (lw_Z below #[Value.ref b] s) (F0 m 313 ls []) := by
  obtain ⟨hx, hb, hr, hml, hown, hts0, hX, hbl, hlocks, hgv⟩ := C0
  have hb : c.code = cL_law := hb
  have hown : s.vm.findClass RL = some m.cls := hown
  have hts := law_hts hts0
  obtain ⟨hC, hY, hJ, hM, hi, hB, hap, hA7, hA8, hS, hZ⟩ := hI
  have hbA : ¬ (fun q : Nat => s.heap.size ≤ q) b := Nat.not_le.mpr hbl
  have hF := (⟨hx, hb, hml, hown, hts⟩ : CallFix p m c cL_law 4 s _ wsL_law RL)
  refine lv_aload_n hx hb dL_law_313 rfl (lv_at hl 1 rfl) ?_
  refine lv_aload_n hx hb dL_law_314 rfl (lv_at hl 0 rfl) ?_
  refine lv_iload_n hx hb dL_law_315 rfl (lv_at hl 3 rfl) ?_
  refine lv_iconst (v := 1) hx hb dL_law_316 (by decide) ?_
  refine lv_iadd hx hb dL_law_317 ?_
  refine va_sld hx hb hX hbl hbA hS (ld_in (q := 1) hj (by decide) hL) dL_law_318 ?_
  refine lv_aload_n hx hb dL_law_319 rfl (lv_at hl 0 rfl) ?_
  refine lv_iload_n hx hb dL_law_320 rfl (lv_at hl 3 rfl) ?_
  refine lv_iconst (v := 2) hx hb dL_law_321 (by decide) ?_
  refine lv_iadd hx hb dL_law_322 ?_
  refine va_sld hx hb hX hbl hbA hS (ld_in (q := 2) hj (by decide) hL) dL_law_323 ?_
  refine lv_aload_n hx hb dL_law_324 rfl (lv_at hl 0 rfl) ?_
  refine lv_iload_n hx hb dL_law_325 rfl (lv_at hl 3 rfl) ?_
  refine lv_iconst (v := 3) hx hb dL_law_326 (by decide) ?_
  refine lv_iadd hx hb dL_law_327 ?_
  refine va_sld hx hb hX hbl hbA hS (ld_in (q := 3) hj (by decide) hL) dL_law_328 ?_
  refine kX7_fetch hF (cwV 3 hts gL_law_X7_fetch rfl rfl rfl hdX7_fetch ⟨Nat.le_of_ble_eq_true rfl, Nat.le_of_ble_eq_true rfl⟩) hC hY hJ hB.1 hS hA7 hl.1 (Nat.le_of_ble_eq_true rfl) dL_law_329 ⟨Nat.le_of_ble_eq_true rfl, Nat.le_of_ble_eq_true rfl⟩ (fun H1 locs1 hY1 hz1 hk1 hS => ?_)
  have hM := mo_kept hM (fun i hi9 => hk1 _ (mo_lt hM hi9) (hap _ ⟨i, hi9, rfl⟩))
  refine lv_aload_n hx hb dL_law_332 rfl (lv_at hl 2 rfl) ?_
  refine lv_aload_n hx hb dL_law_333 rfl (lv_at hl 0 rfl) ?_
  refine lv_iload_n hx hb dL_law_334 rfl (lv_at hl 3 rfl) ?_
  refine lv_iconst (v := 1) hx hb dL_law_335 (by decide) ?_
  refine lv_iadd hx hb dL_law_336 ?_
  refine va_sld hx hb hX hbl hbA hS (ld_in (q := 1) hj (by decide) hL) dL_law_337 ?_
  refine lv_aload_n hx hb dL_law_338 rfl (lv_at hl 0 rfl) ?_
  refine lv_iload_n hx hb dL_law_339 rfl (lv_at hl 3 rfl) ?_
  refine lv_iconst (v := 2) hx hb dL_law_340 (by decide) ?_
  refine lv_iadd hx hb dL_law_341 ?_
  refine va_sld hx hb hX hbl hbA hS (ld_in (q := 2) hj (by decide) hL) dL_law_342 ?_
  refine lv_aload_n hx hb dL_law_343 rfl (lv_at hl 0 rfl) ?_
  refine lv_iload_n hx hb dL_law_344 rfl (lv_at hl 3 rfl) ?_
  refine lv_iconst (v := 3) hx hb dL_law_345 (by decide) ?_
  refine lv_iadd hx hb dL_law_346 ?_
  refine va_sld hx hb hX hbl hbA hS (ld_in (q := 3) hj (by decide) hL) dL_law_347 ?_
  refine kX8_fetch hF (cwV 3 hts gL_law_X8_fetch rfl rfl rfl hdX8_fetch ⟨Nat.le_of_ble_eq_true rfl, Nat.le_of_ble_eq_true rfl⟩) hC hM hi hB.I (big_r hB) hS hA8 hl.1 (Nat.le_of_ble_eq_true rfl) dL_law_348 ⟨Nat.le_of_ble_eq_true rfl, Nat.le_of_ble_eq_true rfl⟩ (fun H2 locs2 hM2 hz2 hk2 hS => ?_)
  have hY2 := Sys.kp (H1 := H2) hY1 (fun q hq hlt => hk2 q hlt (fun z => hap q z hq))
  have heq := (pub_fetch hB (xs (nI j + 1).toNatClampNeg) (xs (nI j + 2).toNatClampNeg) (xs (nI j + 3).toNatClampNeg)).1
  refine lv_icmp_eq (tgt := 823) hx hb dL_law_351 (by decide) (fun _ => ?_) (fun z => absurd heq z)
  exact k (zX7_fetch Ω (xs (nI j + 1).toNatClampNeg) (xs (nI j + 2).toNatClampNeg) (xs (nI j + 3).toNatClampNeg)).2 (zX8_fetch μ (xs (nI j + 1).toNatClampNeg) (xs (nI j + 2).toNatClampNeg) (xs (nI j + 3).toNatClampNeg)).2 H2 locs2 ⟨hC, hY2, hJ, hM2, hi, (pub_fetch hB (xs (nI j + 1).toNatClampNeg) (xs (nI j + 2).toNatClampNeg) (xs (nI j + 3).toNatClampNeg)).2, hap, hA7, hA8, hS, hZ⟩
set_option maxHeartbeats 4000000 in
set_option maxRecDepth 100000 in
theorem lc_take {p : Program} {l : Launch} {e : Env} {s : State} {m : MethodId} {below : List Frame} {meth : Method} {c : Code} {b L : Nat} {xs : Nat → Int32} (hL : L ≤ 2048) (C0 : lw_At p s m meth c b L xs) {D : va_G} {y : Y3} {ob : Nat → Nat} {AD : Nat → Nat → Nat} {mo : Nat → Nat} {tM tF : Nat} {Ω : Og} {μ : Sg} {H : Heap} {locs : List Loc} {j : Nat} (hj : j + 3 < L) (hI : LwI D y ob AD mo tM tF s Ω μ H locs) {ls : Array Slot} (hl : lv_has ls 4 [(0, .ref b), (1, .ref (ob 0)), (2, .ref (mo 0)), (3, .int (nI j))])
    (k : ∀ (Ω2 : Og) (μ2 : Sg) (H2 : Heap) (locs2 : List Loc), LwI D y ob AD mo tM tF s Ω2 μ2 H2 locs2 → W p l e room_1 s m #[Value.ref b] below meth c H2 locs2 79 3938 (lw_Z below #[Value.ref b] s) (F0 m 823 ls [])) : W p l e room_1 s m #[Value.ref b] below meth c H locs 79 3938 (lw_Z below #[Value.ref b] s) (F0 m 356 ls []) := by
  obtain ⟨hx, hb, hr, hml, hown, hts0, hX, hbl, hlocks, hgv⟩ := C0
  have hb : c.code = cL_law := hb
  have hown : s.vm.findClass RL = some m.cls := hown
  have hts := law_hts hts0
  obtain ⟨hC, hY, hJ, hM, hi, hB, hap, hA7, hA8, hS, hZ⟩ := hI
  have hbA : ¬ (fun q : Nat => s.heap.size ≤ q) b := Nat.not_le.mpr hbl
  have hF := (⟨hx, hb, hml, hown, hts⟩ : CallFix p m c cL_law 4 s _ wsL_law RL)
  refine lv_aload_n hx hb dL_law_356 rfl (lv_at hl 1 rfl) ?_
  refine lv_aload_n hx hb dL_law_357 rfl (lv_at hl 0 rfl) ?_
  refine lv_iload_n hx hb dL_law_358 rfl (lv_at hl 3 rfl) ?_
  refine lv_iconst (v := 1) hx hb dL_law_359 (by decide) ?_
  refine lv_iadd hx hb dL_law_360 ?_
  refine va_sld hx hb hX hbl hbA hS (ld_in (q := 1) hj (by decide) hL) dL_law_361 ?_
  refine lv_aload_n hx hb dL_law_362 rfl (lv_at hl 0 rfl) ?_
  refine lv_iload_n hx hb dL_law_363 rfl (lv_at hl 3 rfl) ?_
  refine lv_iconst (v := 2) hx hb dL_law_364 (by decide) ?_
  refine lv_iadd hx hb dL_law_365 ?_
  refine va_sld hx hb hX hbl hbA hS (ld_in (q := 2) hj (by decide) hL) dL_law_366 ?_
  refine kX7_take hF (cwV 2 hts gL_law_X7_take rfl rfl rfl hdX7_take ⟨Nat.le_of_ble_eq_true rfl, Nat.le_of_ble_eq_true rfl⟩) hC hY hJ hB.1 hS hA7 hl.1 (Nat.le_of_ble_eq_true rfl) dL_law_367 ⟨Nat.le_of_ble_eq_true rfl, Nat.le_of_ble_eq_true rfl⟩ (fun H1 locs1 hY1 hz1 hk1 hS => ?_)
  have hM := mo_kept hM (fun i hi9 => hk1 _ (mo_lt hM hi9) (hap _ ⟨i, hi9, rfl⟩))
  refine lv_aload_n hx hb dL_law_370 rfl (lv_at hl 2 rfl) ?_
  refine lv_aload_n hx hb dL_law_371 rfl (lv_at hl 0 rfl) ?_
  refine lv_iload_n hx hb dL_law_372 rfl (lv_at hl 3 rfl) ?_
  refine lv_iconst (v := 1) hx hb dL_law_373 (by decide) ?_
  refine lv_iadd hx hb dL_law_374 ?_
  refine va_sld hx hb hX hbl hbA hS (ld_in (q := 1) hj (by decide) hL) dL_law_375 ?_
  refine lv_aload_n hx hb dL_law_376 rfl (lv_at hl 0 rfl) ?_
  refine lv_iload_n hx hb dL_law_377 rfl (lv_at hl 3 rfl) ?_
  refine lv_iconst (v := 2) hx hb dL_law_378 (by decide) ?_
  refine lv_iadd hx hb dL_law_379 ?_
  refine va_sld hx hb hX hbl hbA hS (ld_in (q := 2) hj (by decide) hL) dL_law_380 ?_
  refine kX8_take hF (cwV 2 hts gL_law_X8_take rfl rfl rfl hdX8_take ⟨Nat.le_of_ble_eq_true rfl, Nat.le_of_ble_eq_true rfl⟩) hC hM hi hB.I (big_r hB) hS hA8 hl.1 (Nat.le_of_ble_eq_true rfl) dL_law_381 ⟨Nat.le_of_ble_eq_true rfl, Nat.le_of_ble_eq_true rfl⟩ (fun H2 locs2 hM2 hz2 hk2 hS => ?_)
  have hY2 := Sys.kp (H1 := H2) hY1 (fun q hq hlt => hk2 q hlt (fun z => hap q z hq))
  have heq := (pub_take hB (xs (nI j + 1).toNatClampNeg) (xs (nI j + 2).toNatClampNeg)).1
  refine lv_icmp_eq (tgt := 823) hx hb dL_law_384 (by decide) (fun _ => ?_) (fun z => absurd heq z)
  exact k (zX7_take Ω (xs (nI j + 1).toNatClampNeg) (xs (nI j + 2).toNatClampNeg)).2 (zX8_take μ (xs (nI j + 1).toNatClampNeg) (xs (nI j + 2).toNatClampNeg)).2 H2 locs2 ⟨hC, hY2, hJ, hM2, hi, (pub_take hB (xs (nI j + 1).toNatClampNeg) (xs (nI j + 2).toNatClampNeg)).2, hap, hA7, hA8, hS, hZ⟩
set_option maxHeartbeats 4000000 in
set_option maxRecDepth 100000 in
theorem lc_go {p : Program} {l : Launch} {e : Env} {s : State} {m : MethodId} {below : List Frame} {meth : Method} {c : Code} {b L : Nat} {xs : Nat → Int32} (hL : L ≤ 2048) (C0 : lw_At p s m meth c b L xs) {D : va_G} {y : Y3} {ob : Nat → Nat} {AD : Nat → Nat → Nat} {mo : Nat → Nat} {tM tF : Nat} {Ω : Og} {μ : Sg} {H : Heap} {locs : List Loc} {j : Nat} (hj : j + 3 < L) (hI : LwI D y ob AD mo tM tF s Ω μ H locs) {ls : Array Slot} (hl : lv_has ls 4 [(0, .ref b), (1, .ref (ob 0)), (2, .ref (mo 0)), (3, .int (nI j))])
    (k : ∀ (Ω2 : Og) (μ2 : Sg) (H2 : Heap) (locs2 : List Loc), LwI D y ob AD mo tM tF s Ω2 μ2 H2 locs2 → W p l e room_1 s m #[Value.ref b] below meth c H2 locs2 79 3938 (lw_Z below #[Value.ref b] s) (F0 m 823 ls [])) : W p l e room_1 s m #[Value.ref b] below meth c H locs 79 3938 (lw_Z below #[Value.ref b] s) (F0 m 389 ls []) := by
  obtain ⟨hx, hb, hr, hml, hown, hts0, hX, hbl, hlocks, hgv⟩ := C0
  have hb : c.code = cL_law := hb
  have hown : s.vm.findClass RL = some m.cls := hown
  have hts := law_hts hts0
  obtain ⟨hC, hY, hJ, hM, hi, hB, hap, hA7, hA8, hS, hZ⟩ := hI
  have hbA : ¬ (fun q : Nat => s.heap.size ≤ q) b := Nat.not_le.mpr hbl
  have hF := (⟨hx, hb, hml, hown, hts⟩ : CallFix p m c cL_law 4 s _ wsL_law RL)
  refine lv_aload_n hx hb dL_law_389 rfl (lv_at hl 1 rfl) ?_
  refine lv_aload_n hx hb dL_law_390 rfl (lv_at hl 0 rfl) ?_
  refine lv_iload_n hx hb dL_law_391 rfl (lv_at hl 3 rfl) ?_
  refine lv_iconst (v := 1) hx hb dL_law_392 (by decide) ?_
  refine lv_iadd hx hb dL_law_393 ?_
  refine va_sld hx hb hX hbl hbA hS (ld_in (q := 1) hj (by decide) hL) dL_law_394 ?_
  refine lv_aload_n hx hb dL_law_395 rfl (lv_at hl 0 rfl) ?_
  refine lv_iload_n hx hb dL_law_396 rfl (lv_at hl 3 rfl) ?_
  refine lv_iconst (v := 2) hx hb dL_law_397 (by decide) ?_
  refine lv_iadd hx hb dL_law_398 ?_
  refine va_sld hx hb hX hbl hbA hS (ld_in (q := 2) hj (by decide) hL) dL_law_399 ?_
  refine kX7_go hF (cwV 2 hts gL_law_X7_go rfl rfl rfl hdX7_go ⟨Nat.le_of_ble_eq_true rfl, Nat.le_of_ble_eq_true rfl⟩) hC hY hJ hB.1 hS hA7 hl.1 (Nat.le_of_ble_eq_true rfl) dL_law_400 ⟨Nat.le_of_ble_eq_true rfl, Nat.le_of_ble_eq_true rfl⟩ (fun H1 locs1 hY1 hz1 hk1 hS => ?_)
  have hM := mo_kept hM (fun i hi9 => hk1 _ (mo_lt hM hi9) (hap _ ⟨i, hi9, rfl⟩))
  refine lv_aload_n hx hb dL_law_403 rfl (lv_at hl 2 rfl) ?_
  refine lv_aload_n hx hb dL_law_404 rfl (lv_at hl 0 rfl) ?_
  refine lv_iload_n hx hb dL_law_405 rfl (lv_at hl 3 rfl) ?_
  refine lv_iconst (v := 1) hx hb dL_law_406 (by decide) ?_
  refine lv_iadd hx hb dL_law_407 ?_
  refine va_sld hx hb hX hbl hbA hS (ld_in (q := 1) hj (by decide) hL) dL_law_408 ?_
  refine lv_aload_n hx hb dL_law_409 rfl (lv_at hl 0 rfl) ?_
  refine lv_iload_n hx hb dL_law_410 rfl (lv_at hl 3 rfl) ?_
  refine lv_iconst (v := 2) hx hb dL_law_411 (by decide) ?_
  refine lv_iadd hx hb dL_law_412 ?_
  refine va_sld hx hb hX hbl hbA hS (ld_in (q := 2) hj (by decide) hL) dL_law_413 ?_
  refine kX8_go hF (cwV 2 hts gL_law_X8_go rfl rfl rfl hdX8_go ⟨Nat.le_of_ble_eq_true rfl, Nat.le_of_ble_eq_true rfl⟩) hC hM hi hB.I (big_r hB) hS hA8 hl.1 (Nat.le_of_ble_eq_true rfl) dL_law_414 ⟨Nat.le_of_ble_eq_true rfl, Nat.le_of_ble_eq_true rfl⟩ (fun H2 locs2 hM2 hz2 hk2 hS => ?_)
  have hY2 := Sys.kp (H1 := H2) hY1 (fun q hq hlt => hk2 q hlt (fun z => hap q z hq))
  have heq := (pub_go hB (xs (nI j + 1).toNatClampNeg) (xs (nI j + 2).toNatClampNeg)).1
  refine lv_icmp_eq (tgt := 823) hx hb dL_law_417 (by decide) (fun _ => ?_) (fun z => absurd heq z)
  exact k (zX7_go Ω (xs (nI j + 1).toNatClampNeg) (xs (nI j + 2).toNatClampNeg)).2 (zX8_go μ (xs (nI j + 1).toNatClampNeg) (xs (nI j + 2).toNatClampNeg)).2 H2 locs2 ⟨hC, hY2, hJ, hM2, hi, (pub_go hB (xs (nI j + 1).toNatClampNeg) (xs (nI j + 2).toNatClampNeg)).2, hap, hA7, hA8, hS, hZ⟩
set_option maxHeartbeats 4000000 in
set_option maxRecDepth 100000 in
theorem lc_put {p : Program} {l : Launch} {e : Env} {s : State} {m : MethodId} {below : List Frame} {meth : Method} {c : Code} {b L : Nat} {xs : Nat → Int32} (hL : L ≤ 2048) (C0 : lw_At p s m meth c b L xs) {D : va_G} {y : Y3} {ob : Nat → Nat} {AD : Nat → Nat → Nat} {mo : Nat → Nat} {tM tF : Nat} {Ω : Og} {μ : Sg} {H : Heap} {locs : List Loc} {j : Nat} (hj : j + 3 < L) (hI : LwI D y ob AD mo tM tF s Ω μ H locs) {ls : Array Slot} (hl : lv_has ls 4 [(0, .ref b), (1, .ref (ob 0)), (2, .ref (mo 0)), (3, .int (nI j))])
    (k : ∀ (Ω2 : Og) (μ2 : Sg) (H2 : Heap) (locs2 : List Loc), LwI D y ob AD mo tM tF s Ω2 μ2 H2 locs2 → W p l e room_1 s m #[Value.ref b] below meth c H2 locs2 79 3938 (lw_Z below #[Value.ref b] s) (F0 m 823 ls [])) : W p l e room_1 s m #[Value.ref b] below meth c H locs 79 3938 (lw_Z below #[Value.ref b] s) (F0 m 422 ls []) := by
  obtain ⟨hx, hb, hr, hml, hown, hts0, hX, hbl, hlocks, hgv⟩ := C0
  have hb : c.code = cL_law := hb
  have hown : s.vm.findClass RL = some m.cls := hown
  have hts := law_hts hts0
  obtain ⟨hC, hY, hJ, hM, hi, hB, hap, hA7, hA8, hS, hZ⟩ := hI
  have hbA : ¬ (fun q : Nat => s.heap.size ≤ q) b := Nat.not_le.mpr hbl
  have hF := (⟨hx, hb, hml, hown, hts⟩ : CallFix p m c cL_law 4 s _ wsL_law RL)
  refine lv_aload_n hx hb dL_law_422 rfl (lv_at hl 1 rfl) ?_
  refine lv_aload_n hx hb dL_law_423 rfl (lv_at hl 0 rfl) ?_
  refine lv_iload_n hx hb dL_law_424 rfl (lv_at hl 3 rfl) ?_
  refine lv_iconst (v := 1) hx hb dL_law_425 (by decide) ?_
  refine lv_iadd hx hb dL_law_426 ?_
  refine va_sld hx hb hX hbl hbA hS (ld_in (q := 1) hj (by decide) hL) dL_law_427 ?_
  refine kX7_put hF (cwV 1 hts gL_law_X7_put rfl rfl rfl hdX7_put ⟨Nat.le_of_ble_eq_true rfl, Nat.le_of_ble_eq_true rfl⟩) hC hY hJ hB.1 hS hA7 hl.1 (Nat.le_of_ble_eq_true rfl) dL_law_428 ⟨Nat.le_of_ble_eq_true rfl, Nat.le_of_ble_eq_true rfl⟩ (fun H1 locs1 hY1 hz1 hk1 hS => ?_)
  have hM := mo_kept hM (fun i hi9 => hk1 _ (mo_lt hM hi9) (hap _ ⟨i, hi9, rfl⟩))
  refine lv_aload_n hx hb dL_law_431 rfl (lv_at hl 2 rfl) ?_
  refine lv_aload_n hx hb dL_law_432 rfl (lv_at hl 0 rfl) ?_
  refine lv_iload_n hx hb dL_law_433 rfl (lv_at hl 3 rfl) ?_
  refine lv_iconst (v := 1) hx hb dL_law_434 (by decide) ?_
  refine lv_iadd hx hb dL_law_435 ?_
  refine va_sld hx hb hX hbl hbA hS (ld_in (q := 1) hj (by decide) hL) dL_law_436 ?_
  refine kX8_put hF (cwV 1 hts gL_law_X8_put rfl rfl rfl hdX8_put ⟨Nat.le_of_ble_eq_true rfl, Nat.le_of_ble_eq_true rfl⟩) hC hM hi hB.I (big_r hB) hS hA8 hl.1 (Nat.le_of_ble_eq_true rfl) dL_law_437 ⟨Nat.le_of_ble_eq_true rfl, Nat.le_of_ble_eq_true rfl⟩ (fun H2 locs2 hM2 hz2 hk2 hS => ?_)
  have hY2 := Sys.kp (H1 := H2) hY1 (fun q hq hlt => hk2 q hlt (fun z => hap q z hq))
  have heq := (pub_put hB (xs (nI j + 1).toNatClampNeg)).1
  refine lv_icmp_eq (tgt := 823) hx hb dL_law_440 (by decide) (fun _ => ?_) (fun z => absurd heq z)
  exact k (zX7_put Ω (xs (nI j + 1).toNatClampNeg)).2 (zX8_put μ (xs (nI j + 1).toNatClampNeg)).2 H2 locs2 ⟨hC, hY2, hJ, hM2, hi, (pub_put hB (xs (nI j + 1).toNatClampNeg)).2, hap, hA7, hA8, hS, hZ⟩
set_option maxHeartbeats 4000000 in
set_option maxRecDepth 100000 in
theorem lc_pass {p : Program} {l : Launch} {e : Env} {s : State} {m : MethodId} {below : List Frame} {meth : Method} {c : Code} {b L : Nat} {xs : Nat → Int32} (hL : L ≤ 2048) (C0 : lw_At p s m meth c b L xs) {D : va_G} {y : Y3} {ob : Nat → Nat} {AD : Nat → Nat → Nat} {mo : Nat → Nat} {tM tF : Nat} {Ω : Og} {μ : Sg} {H : Heap} {locs : List Loc} {j : Nat} (hj : j + 3 < L) (hI : LwI D y ob AD mo tM tF s Ω μ H locs) {ls : Array Slot} (hl : lv_has ls 4 [(0, .ref b), (1, .ref (ob 0)), (2, .ref (mo 0)), (3, .int (nI j))])
    (k : ∀ (Ω2 : Og) (μ2 : Sg) (H2 : Heap) (locs2 : List Loc), LwI D y ob AD mo tM tF s Ω2 μ2 H2 locs2 → W p l e room_1 s m #[Value.ref b] below meth c H2 locs2 79 3938 (lw_Z below #[Value.ref b] s) (F0 m 823 ls [])) : W p l e room_1 s m #[Value.ref b] below meth c H locs 79 3938 (lw_Z below #[Value.ref b] s) (F0 m 445 ls []) := by
  obtain ⟨hx, hb, hr, hml, hown, hts0, hX, hbl, hlocks, hgv⟩ := C0
  have hb : c.code = cL_law := hb
  have hown : s.vm.findClass RL = some m.cls := hown
  have hts := law_hts hts0
  obtain ⟨hC, hY, hJ, hM, hi, hB, hap, hA7, hA8, hS, hZ⟩ := hI
  have hbA : ¬ (fun q : Nat => s.heap.size ≤ q) b := Nat.not_le.mpr hbl
  have hF := (⟨hx, hb, hml, hown, hts⟩ : CallFix p m c cL_law 4 s _ wsL_law RL)
  refine lv_aload_n hx hb dL_law_445 rfl (lv_at hl 1 rfl) ?_
  refine lv_aload_n hx hb dL_law_446 rfl (lv_at hl 0 rfl) ?_
  refine lv_iload_n hx hb dL_law_447 rfl (lv_at hl 3 rfl) ?_
  refine lv_iconst (v := 1) hx hb dL_law_448 (by decide) ?_
  refine lv_iadd hx hb dL_law_449 ?_
  refine va_sld hx hb hX hbl hbA hS (ld_in (q := 1) hj (by decide) hL) dL_law_450 ?_
  refine kX7_pass hF (cwV 1 hts gL_law_X7_pass rfl rfl rfl hdX7_pass ⟨Nat.le_of_ble_eq_true rfl, Nat.le_of_ble_eq_true rfl⟩) hC hY hJ hB.1 hS hA7 hl.1 (Nat.le_of_ble_eq_true rfl) dL_law_451 ⟨Nat.le_of_ble_eq_true rfl, Nat.le_of_ble_eq_true rfl⟩ (fun H1 locs1 hY1 hz1 hk1 hS => ?_)
  have hM := mo_kept hM (fun i hi9 => hk1 _ (mo_lt hM hi9) (hap _ ⟨i, hi9, rfl⟩))
  refine lv_aload_n hx hb dL_law_454 rfl (lv_at hl 2 rfl) ?_
  refine lv_aload_n hx hb dL_law_455 rfl (lv_at hl 0 rfl) ?_
  refine lv_iload_n hx hb dL_law_456 rfl (lv_at hl 3 rfl) ?_
  refine lv_iconst (v := 1) hx hb dL_law_457 (by decide) ?_
  refine lv_iadd hx hb dL_law_458 ?_
  refine va_sld hx hb hX hbl hbA hS (ld_in (q := 1) hj (by decide) hL) dL_law_459 ?_
  refine kX8_pass hF (cwV 1 hts gL_law_X8_pass rfl rfl rfl hdX8_pass ⟨Nat.le_of_ble_eq_true rfl, Nat.le_of_ble_eq_true rfl⟩) hC hM hi hB.I (big_r hB) hS hA8 hl.1 (Nat.le_of_ble_eq_true rfl) dL_law_460 ⟨Nat.le_of_ble_eq_true rfl, Nat.le_of_ble_eq_true rfl⟩ (fun H2 locs2 hM2 hz2 hk2 hS => ?_)
  have hY2 := Sys.kp (H1 := H2) hY1 (fun q hq hlt => hk2 q hlt (fun z => hap q z hq))
  have heq := (pub_pass hB (xs (nI j + 1).toNatClampNeg)).1
  refine lv_icmp_eq (tgt := 823) hx hb dL_law_463 (by decide) (fun _ => ?_) (fun z => absurd heq z)
  exact k (zX7_pass Ω (xs (nI j + 1).toNatClampNeg)).2 (zX8_pass μ (xs (nI j + 1).toNatClampNeg)).2 H2 locs2 ⟨hC, hY2, hJ, hM2, hi, (pub_pass hB (xs (nI j + 1).toNatClampNeg)).2, hap, hA7, hA8, hS, hZ⟩
set_option maxHeartbeats 4000000 in
set_option maxRecDepth 100000 in
theorem lc_set {p : Program} {l : Launch} {e : Env} {s : State} {m : MethodId} {below : List Frame} {meth : Method} {c : Code} {b L : Nat} {xs : Nat → Int32} (hL : L ≤ 2048) (C0 : lw_At p s m meth c b L xs) {D : va_G} {y : Y3} {ob : Nat → Nat} {AD : Nat → Nat → Nat} {mo : Nat → Nat} {tM tF : Nat} {Ω : Og} {μ : Sg} {H : Heap} {locs : List Loc} {j : Nat} (hj : j + 3 < L) (hI : LwI D y ob AD mo tM tF s Ω μ H locs) {ls : Array Slot} (hl : lv_has ls 4 [(0, .ref b), (1, .ref (ob 0)), (2, .ref (mo 0)), (3, .int (nI j))])
    (k : ∀ (Ω2 : Og) (μ2 : Sg) (H2 : Heap) (locs2 : List Loc), LwI D y ob AD mo tM tF s Ω2 μ2 H2 locs2 → W p l e room_1 s m #[Value.ref b] below meth c H2 locs2 79 3938 (lw_Z below #[Value.ref b] s) (F0 m 823 ls [])) : W p l e room_1 s m #[Value.ref b] below meth c H locs 79 3938 (lw_Z below #[Value.ref b] s) (F0 m 468 ls []) := by
  obtain ⟨hx, hb, hr, hml, hown, hts0, hX, hbl, hlocks, hgv⟩ := C0
  have hb : c.code = cL_law := hb
  have hown : s.vm.findClass RL = some m.cls := hown
  have hts := law_hts hts0
  obtain ⟨hC, hY, hJ, hM, hi, hB, hap, hA7, hA8, hS, hZ⟩ := hI
  have hbA : ¬ (fun q : Nat => s.heap.size ≤ q) b := Nat.not_le.mpr hbl
  have hF := (⟨hx, hb, hml, hown, hts⟩ : CallFix p m c cL_law 4 s _ wsL_law RL)
  refine lv_aload_n hx hb dL_law_468 rfl (lv_at hl 1 rfl) ?_
  refine lv_aload_n hx hb dL_law_469 rfl (lv_at hl 0 rfl) ?_
  refine lv_iload_n hx hb dL_law_470 rfl (lv_at hl 3 rfl) ?_
  refine lv_iconst (v := 1) hx hb dL_law_471 (by decide) ?_
  refine lv_iadd hx hb dL_law_472 ?_
  refine va_sld hx hb hX hbl hbA hS (ld_in (q := 1) hj (by decide) hL) dL_law_473 ?_
  refine lv_aload_n hx hb dL_law_474 rfl (lv_at hl 0 rfl) ?_
  refine lv_iload_n hx hb dL_law_475 rfl (lv_at hl 3 rfl) ?_
  refine lv_iconst (v := 2) hx hb dL_law_476 (by decide) ?_
  refine lv_iadd hx hb dL_law_477 ?_
  refine va_sld hx hb hX hbl hbA hS (ld_in (q := 2) hj (by decide) hL) dL_law_478 ?_
  refine kX7_set hF (cwV 2 hts gL_law_X7_set rfl rfl rfl hdX7_set ⟨Nat.le_of_ble_eq_true rfl, Nat.le_of_ble_eq_true rfl⟩) hC hY hJ hB.1 (hZ.at_ hS (fun _ h => h)) hA7 hS hA7 hl.1 (Nat.le_of_ble_eq_true rfl) dL_law_479 ⟨Nat.le_of_ble_eq_true rfl, Nat.le_of_ble_eq_true rfl⟩ (fun H1 locs1 hY1 hz1 hk1 hS => ?_)
  have hM := mo_kept hM (fun i hi9 => hk1 _ (mo_lt hM hi9) (hap _ ⟨i, hi9, rfl⟩))
  refine lv_aload_n hx hb dL_law_482 rfl (lv_at hl 2 rfl) ?_
  refine lv_aload_n hx hb dL_law_483 rfl (lv_at hl 0 rfl) ?_
  refine lv_iload_n hx hb dL_law_484 rfl (lv_at hl 3 rfl) ?_
  refine lv_iconst (v := 1) hx hb dL_law_485 (by decide) ?_
  refine lv_iadd hx hb dL_law_486 ?_
  refine va_sld hx hb hX hbl hbA hS (ld_in (q := 1) hj (by decide) hL) dL_law_487 ?_
  refine lv_aload_n hx hb dL_law_488 rfl (lv_at hl 0 rfl) ?_
  refine lv_iload_n hx hb dL_law_489 rfl (lv_at hl 3 rfl) ?_
  refine lv_iconst (v := 2) hx hb dL_law_490 (by decide) ?_
  refine lv_iadd hx hb dL_law_491 ?_
  refine va_sld hx hb hX hbl hbA hS (ld_in (q := 2) hj (by decide) hL) dL_law_492 ?_
  refine kX8_set hF (cwV 2 hts gL_law_X8_set rfl rfl rfl hdX8_set ⟨Nat.le_of_ble_eq_true rfl, Nat.le_of_ble_eq_true rfl⟩) hC hM hi hB.I (big_r hB) hS hA8 hl.1 (Nat.le_of_ble_eq_true rfl) dL_law_493 ⟨Nat.le_of_ble_eq_true rfl, Nat.le_of_ble_eq_true rfl⟩ (fun H2 locs2 hM2 hz2 hk2 hS => ?_)
  have hY2 := Sys.kp (H1 := H2) hY1 (fun q hq hlt => hk2 q hlt (fun z => hap q z hq))
  have heq := (pub_set hB (xs (nI j + 1).toNatClampNeg) (xs (nI j + 2).toNatClampNeg)).1
  refine lv_icmp_eq (tgt := 823) hx hb dL_law_496 (by decide) (fun _ => ?_) (fun z => absurd heq z)
  exact k (zX7_set Ω (xs (nI j + 1).toNatClampNeg) (xs (nI j + 2).toNatClampNeg)).2 (zX8_set μ (xs (nI j + 1).toNatClampNeg) (xs (nI j + 2).toNatClampNeg)).2 H2 locs2 ⟨hC, hY2, hJ, hM2, hi, (pub_set hB (xs (nI j + 1).toNatClampNeg) (xs (nI j + 2).toNatClampNeg)).2, hap, hA7, hA8, hS, hZ⟩
set_option maxHeartbeats 4000000 in
set_option maxRecDepth 100000 in
theorem lc_mealOf {p : Program} {l : Launch} {e : Env} {s : State} {m : MethodId} {below : List Frame} {meth : Method} {c : Code} {b L : Nat} {xs : Nat → Int32} (hL : L ≤ 2048) (C0 : lw_At p s m meth c b L xs) {D : va_G} {y : Y3} {ob : Nat → Nat} {AD : Nat → Nat → Nat} {mo : Nat → Nat} {tM tF : Nat} {Ω : Og} {μ : Sg} {H : Heap} {locs : List Loc} {j : Nat} (hj : j + 3 < L) (hI : LwI D y ob AD mo tM tF s Ω μ H locs) {ls : Array Slot} (hl : lv_has ls 4 [(0, .ref b), (1, .ref (ob 0)), (2, .ref (mo 0)), (3, .int (nI j))])
    (k : ∀ (Ω2 : Og) (μ2 : Sg) (H2 : Heap) (locs2 : List Loc), LwI D y ob AD mo tM tF s Ω2 μ2 H2 locs2 → W p l e room_1 s m #[Value.ref b] below meth c H2 locs2 79 3938 (lw_Z below #[Value.ref b] s) (F0 m 823 ls [])) : W p l e room_1 s m #[Value.ref b] below meth c H locs 79 3938 (lw_Z below #[Value.ref b] s) (F0 m 501 ls []) := by
  obtain ⟨hx, hb, hr, hml, hown, hts0, hX, hbl, hlocks, hgv⟩ := C0
  have hb : c.code = cL_law := hb
  have hown : s.vm.findClass RL = some m.cls := hown
  have hts := law_hts hts0
  obtain ⟨hC, hY, hJ, hM, hi, hB, hap, hA7, hA8, hS, hZ⟩ := hI
  have hbA : ¬ (fun q : Nat => s.heap.size ≤ q) b := Nat.not_le.mpr hbl
  have hF := (⟨hx, hb, hml, hown, hts⟩ : CallFix p m c cL_law 4 s _ wsL_law RL)
  refine lv_aload_n hx hb dL_law_501 rfl (lv_at hl 1 rfl) ?_
  refine lv_aload_n hx hb dL_law_502 rfl (lv_at hl 0 rfl) ?_
  refine lv_iload_n hx hb dL_law_503 rfl (lv_at hl 3 rfl) ?_
  refine lv_iconst (v := 1) hx hb dL_law_504 (by decide) ?_
  refine lv_iadd hx hb dL_law_505 ?_
  refine va_sld hx hb hX hbl hbA hS (ld_in (q := 1) hj (by decide) hL) dL_law_506 ?_
  refine lv_aload_n hx hb dL_law_507 rfl (lv_at hl 0 rfl) ?_
  refine lv_iload_n hx hb dL_law_508 rfl (lv_at hl 3 rfl) ?_
  refine lv_iconst (v := 2) hx hb dL_law_509 (by decide) ?_
  refine lv_iadd hx hb dL_law_510 ?_
  refine va_sld hx hb hX hbl hbA hS (ld_in (q := 2) hj (by decide) hL) dL_law_511 ?_
  refine kX7_mealOf hF (cwV 2 hts gL_law_X7_mealOf rfl rfl rfl hdX7_mealOf ⟨Nat.le_of_ble_eq_true rfl, Nat.le_of_ble_eq_true rfl⟩) hC hY hJ hB.1 hS hA7 hl.1 (Nat.le_of_ble_eq_true rfl) dL_law_512 ⟨Nat.le_of_ble_eq_true rfl, Nat.le_of_ble_eq_true rfl⟩ (fun H1 locs1 hY1 hz1 hk1 hS => ?_)
  have hM := mo_kept hM (fun i hi9 => hk1 _ (mo_lt hM hi9) (hap _ ⟨i, hi9, rfl⟩))
  refine lv_aload_n hx hb dL_law_515 rfl (lv_at hl 2 rfl) ?_
  refine lv_aload_n hx hb dL_law_516 rfl (lv_at hl 0 rfl) ?_
  refine lv_iload_n hx hb dL_law_517 rfl (lv_at hl 3 rfl) ?_
  refine lv_iconst (v := 1) hx hb dL_law_518 (by decide) ?_
  refine lv_iadd hx hb dL_law_519 ?_
  refine va_sld hx hb hX hbl hbA hS (ld_in (q := 1) hj (by decide) hL) dL_law_520 ?_
  refine lv_aload_n hx hb dL_law_521 rfl (lv_at hl 0 rfl) ?_
  refine lv_iload_n hx hb dL_law_522 rfl (lv_at hl 3 rfl) ?_
  refine lv_iconst (v := 2) hx hb dL_law_523 (by decide) ?_
  refine lv_iadd hx hb dL_law_524 ?_
  refine va_sld hx hb hX hbl hbA hS (ld_in (q := 2) hj (by decide) hL) dL_law_525 ?_
  refine kX8_mealOf hF (cwV 2 hts gL_law_X8_mealOf rfl rfl rfl hdX8_mealOf ⟨Nat.le_of_ble_eq_true rfl, Nat.le_of_ble_eq_true rfl⟩) hC hM hB.I hl.1 (Nat.le_of_ble_eq_true rfl) dL_law_526 ⟨Nat.le_of_ble_eq_true rfl, Nat.le_of_ble_eq_true rfl⟩ ?_
  have heq := q_meal hB.2.1 (xs (nI j + 1).toNatClampNeg) (xs (nI j + 2).toNatClampNeg)
  refine lv_icmp_eq (tgt := 823) hx hb dL_law_529 (by decide) (fun _ => ?_) (fun z => absurd heq z)
  exact k (zX7_mealOf Ω (xs (nI j + 1).toNatClampNeg) (xs (nI j + 2).toNatClampNeg)).2 μ H1 locs1 ⟨hC, hY1, hJ, hM, hi, hB, hap, hA7, hA8, hS, hZ⟩
set_option maxHeartbeats 4000000 in
set_option maxRecDepth 100000 in
theorem lc_lockerOf {p : Program} {l : Launch} {e : Env} {s : State} {m : MethodId} {below : List Frame} {meth : Method} {c : Code} {b L : Nat} {xs : Nat → Int32} (hL : L ≤ 2048) (C0 : lw_At p s m meth c b L xs) {D : va_G} {y : Y3} {ob : Nat → Nat} {AD : Nat → Nat → Nat} {mo : Nat → Nat} {tM tF : Nat} {Ω : Og} {μ : Sg} {H : Heap} {locs : List Loc} {j : Nat} (hj : j + 3 < L) (hI : LwI D y ob AD mo tM tF s Ω μ H locs) {ls : Array Slot} (hl : lv_has ls 4 [(0, .ref b), (1, .ref (ob 0)), (2, .ref (mo 0)), (3, .int (nI j))])
    (k : ∀ (Ω2 : Og) (μ2 : Sg) (H2 : Heap) (locs2 : List Loc), LwI D y ob AD mo tM tF s Ω2 μ2 H2 locs2 → W p l e room_1 s m #[Value.ref b] below meth c H2 locs2 79 3938 (lw_Z below #[Value.ref b] s) (F0 m 823 ls [])) : W p l e room_1 s m #[Value.ref b] below meth c H locs 79 3938 (lw_Z below #[Value.ref b] s) (F0 m 534 ls []) := by
  obtain ⟨hx, hb, hr, hml, hown, hts0, hX, hbl, hlocks, hgv⟩ := C0
  have hb : c.code = cL_law := hb
  have hown : s.vm.findClass RL = some m.cls := hown
  have hts := law_hts hts0
  obtain ⟨hC, hY, hJ, hM, hi, hB, hap, hA7, hA8, hS, hZ⟩ := hI
  have hbA : ¬ (fun q : Nat => s.heap.size ≤ q) b := Nat.not_le.mpr hbl
  have hF := (⟨hx, hb, hml, hown, hts⟩ : CallFix p m c cL_law 4 s _ wsL_law RL)
  refine lv_aload_n hx hb dL_law_534 rfl (lv_at hl 1 rfl) ?_
  refine lv_aload_n hx hb dL_law_535 rfl (lv_at hl 0 rfl) ?_
  refine lv_iload_n hx hb dL_law_536 rfl (lv_at hl 3 rfl) ?_
  refine lv_iconst (v := 1) hx hb dL_law_537 (by decide) ?_
  refine lv_iadd hx hb dL_law_538 ?_
  refine va_sld hx hb hX hbl hbA hS (ld_in (q := 1) hj (by decide) hL) dL_law_539 ?_
  refine lv_aload_n hx hb dL_law_540 rfl (lv_at hl 0 rfl) ?_
  refine lv_iload_n hx hb dL_law_541 rfl (lv_at hl 3 rfl) ?_
  refine lv_iconst (v := 2) hx hb dL_law_542 (by decide) ?_
  refine lv_iadd hx hb dL_law_543 ?_
  refine va_sld hx hb hX hbl hbA hS (ld_in (q := 2) hj (by decide) hL) dL_law_544 ?_
  refine kX7_lockerOf hF (cwV 2 hts gL_law_X7_lockerOf rfl rfl rfl hdX7_lockerOf ⟨Nat.le_of_ble_eq_true rfl, Nat.le_of_ble_eq_true rfl⟩) hC hY hJ hB.1 hS hA7 hl.1 (Nat.le_of_ble_eq_true rfl) dL_law_545 ⟨Nat.le_of_ble_eq_true rfl, Nat.le_of_ble_eq_true rfl⟩ (fun H1 locs1 hY1 hz1 hk1 hS => ?_)
  have hM := mo_kept hM (fun i hi9 => hk1 _ (mo_lt hM hi9) (hap _ ⟨i, hi9, rfl⟩))
  refine lv_aload_n hx hb dL_law_548 rfl (lv_at hl 2 rfl) ?_
  refine lv_aload_n hx hb dL_law_549 rfl (lv_at hl 0 rfl) ?_
  refine lv_iload_n hx hb dL_law_550 rfl (lv_at hl 3 rfl) ?_
  refine lv_iconst (v := 1) hx hb dL_law_551 (by decide) ?_
  refine lv_iadd hx hb dL_law_552 ?_
  refine va_sld hx hb hX hbl hbA hS (ld_in (q := 1) hj (by decide) hL) dL_law_553 ?_
  refine lv_aload_n hx hb dL_law_554 rfl (lv_at hl 0 rfl) ?_
  refine lv_iload_n hx hb dL_law_555 rfl (lv_at hl 3 rfl) ?_
  refine lv_iconst (v := 2) hx hb dL_law_556 (by decide) ?_
  refine lv_iadd hx hb dL_law_557 ?_
  refine va_sld hx hb hX hbl hbA hS (ld_in (q := 2) hj (by decide) hL) dL_law_558 ?_
  refine kX8_lockerOf hF (cwV 2 hts gL_law_X8_lockerOf rfl rfl rfl hdX8_lockerOf ⟨Nat.le_of_ble_eq_true rfl, Nat.le_of_ble_eq_true rfl⟩) hC hM hB.I hl.1 (Nat.le_of_ble_eq_true rfl) dL_law_559 ⟨Nat.le_of_ble_eq_true rfl, Nat.le_of_ble_eq_true rfl⟩ ?_
  have heq := q_locker hB.2.1 (xs (nI j + 1).toNatClampNeg) (xs (nI j + 2).toNatClampNeg)
  refine lv_icmp_eq (tgt := 823) hx hb dL_law_562 (by decide) (fun _ => ?_) (fun z => absurd heq z)
  exact k (zX7_lockerOf Ω (xs (nI j + 1).toNatClampNeg) (xs (nI j + 2).toNatClampNeg)).2 μ H1 locs1 ⟨hC, hY1, hJ, hM, hi, hB, hap, hA7, hA8, hS, hZ⟩
set_option maxHeartbeats 4000000 in
set_option maxRecDepth 100000 in
theorem lc_personOf {p : Program} {l : Launch} {e : Env} {s : State} {m : MethodId} {below : List Frame} {meth : Method} {c : Code} {b L : Nat} {xs : Nat → Int32} (hL : L ≤ 2048) (C0 : lw_At p s m meth c b L xs) {D : va_G} {y : Y3} {ob : Nat → Nat} {AD : Nat → Nat → Nat} {mo : Nat → Nat} {tM tF : Nat} {Ω : Og} {μ : Sg} {H : Heap} {locs : List Loc} {j : Nat} (hj : j + 3 < L) (hI : LwI D y ob AD mo tM tF s Ω μ H locs) {ls : Array Slot} (hl : lv_has ls 4 [(0, .ref b), (1, .ref (ob 0)), (2, .ref (mo 0)), (3, .int (nI j))])
    (k : ∀ (Ω2 : Og) (μ2 : Sg) (H2 : Heap) (locs2 : List Loc), LwI D y ob AD mo tM tF s Ω2 μ2 H2 locs2 → W p l e room_1 s m #[Value.ref b] below meth c H2 locs2 79 3938 (lw_Z below #[Value.ref b] s) (F0 m 823 ls [])) : W p l e room_1 s m #[Value.ref b] below meth c H locs 79 3938 (lw_Z below #[Value.ref b] s) (F0 m 567 ls []) := by
  obtain ⟨hx, hb, hr, hml, hown, hts0, hX, hbl, hlocks, hgv⟩ := C0
  have hb : c.code = cL_law := hb
  have hown : s.vm.findClass RL = some m.cls := hown
  have hts := law_hts hts0
  obtain ⟨hC, hY, hJ, hM, hi, hB, hap, hA7, hA8, hS, hZ⟩ := hI
  have hbA : ¬ (fun q : Nat => s.heap.size ≤ q) b := Nat.not_le.mpr hbl
  have hF := (⟨hx, hb, hml, hown, hts⟩ : CallFix p m c cL_law 4 s _ wsL_law RL)
  refine lv_aload_n hx hb dL_law_567 rfl (lv_at hl 1 rfl) ?_
  refine lv_aload_n hx hb dL_law_568 rfl (lv_at hl 0 rfl) ?_
  refine lv_iload_n hx hb dL_law_569 rfl (lv_at hl 3 rfl) ?_
  refine lv_iconst (v := 1) hx hb dL_law_570 (by decide) ?_
  refine lv_iadd hx hb dL_law_571 ?_
  refine va_sld hx hb hX hbl hbA hS (ld_in (q := 1) hj (by decide) hL) dL_law_572 ?_
  refine lv_aload_n hx hb dL_law_573 rfl (lv_at hl 0 rfl) ?_
  refine lv_iload_n hx hb dL_law_574 rfl (lv_at hl 3 rfl) ?_
  refine lv_iconst (v := 2) hx hb dL_law_575 (by decide) ?_
  refine lv_iadd hx hb dL_law_576 ?_
  refine va_sld hx hb hX hbl hbA hS (ld_in (q := 2) hj (by decide) hL) dL_law_577 ?_
  refine kX7_personOf hF (cwV 2 hts gL_law_X7_personOf rfl rfl rfl hdX7_personOf ⟨Nat.le_of_ble_eq_true rfl, Nat.le_of_ble_eq_true rfl⟩) hC hY hJ hB.1 hS hA7 hl.1 (Nat.le_of_ble_eq_true rfl) dL_law_578 ⟨Nat.le_of_ble_eq_true rfl, Nat.le_of_ble_eq_true rfl⟩ (fun H1 locs1 hY1 hz1 hk1 hS => ?_)
  have hM := mo_kept hM (fun i hi9 => hk1 _ (mo_lt hM hi9) (hap _ ⟨i, hi9, rfl⟩))
  refine lv_aload_n hx hb dL_law_581 rfl (lv_at hl 2 rfl) ?_
  refine lv_aload_n hx hb dL_law_582 rfl (lv_at hl 0 rfl) ?_
  refine lv_iload_n hx hb dL_law_583 rfl (lv_at hl 3 rfl) ?_
  refine lv_iconst (v := 1) hx hb dL_law_584 (by decide) ?_
  refine lv_iadd hx hb dL_law_585 ?_
  refine va_sld hx hb hX hbl hbA hS (ld_in (q := 1) hj (by decide) hL) dL_law_586 ?_
  refine lv_aload_n hx hb dL_law_587 rfl (lv_at hl 0 rfl) ?_
  refine lv_iload_n hx hb dL_law_588 rfl (lv_at hl 3 rfl) ?_
  refine lv_iconst (v := 2) hx hb dL_law_589 (by decide) ?_
  refine lv_iadd hx hb dL_law_590 ?_
  refine va_sld hx hb hX hbl hbA hS (ld_in (q := 2) hj (by decide) hL) dL_law_591 ?_
  refine kX8_personOf hF (cwV 2 hts gL_law_X8_personOf rfl rfl rfl hdX8_personOf ⟨Nat.le_of_ble_eq_true rfl, Nat.le_of_ble_eq_true rfl⟩) hC hM hB.I hl.1 (Nat.le_of_ble_eq_true rfl) dL_law_592 ⟨Nat.le_of_ble_eq_true rfl, Nat.le_of_ble_eq_true rfl⟩ ?_
  have heq := q_person hB.2.1 (by decide) (xs (nI j + 1).toNatClampNeg) (xs (nI j + 2).toNatClampNeg)
  refine lv_icmp_eq (tgt := 823) hx hb dL_law_595 (by decide) (fun _ => ?_) (fun z => absurd heq z)
  exact k (zX7_personOf Ω (xs (nI j + 1).toNatClampNeg) (xs (nI j + 2).toNatClampNeg)).2 μ H1 locs1 ⟨hC, hY1, hJ, hM, hi, hB, hap, hA7, hA8, hS, hZ⟩
set_option maxHeartbeats 4000000 in
set_option maxRecDepth 100000 in
theorem lc_volunteerOf {p : Program} {l : Launch} {e : Env} {s : State} {m : MethodId} {below : List Frame} {meth : Method} {c : Code} {b L : Nat} {xs : Nat → Int32} (hL : L ≤ 2048) (C0 : lw_At p s m meth c b L xs) {D : va_G} {y : Y3} {ob : Nat → Nat} {AD : Nat → Nat → Nat} {mo : Nat → Nat} {tM tF : Nat} {Ω : Og} {μ : Sg} {H : Heap} {locs : List Loc} {j : Nat} (hj : j + 3 < L) (hI : LwI D y ob AD mo tM tF s Ω μ H locs) {ls : Array Slot} (hl : lv_has ls 4 [(0, .ref b), (1, .ref (ob 0)), (2, .ref (mo 0)), (3, .int (nI j))])
    (k : ∀ (Ω2 : Og) (μ2 : Sg) (H2 : Heap) (locs2 : List Loc), LwI D y ob AD mo tM tF s Ω2 μ2 H2 locs2 → W p l e room_1 s m #[Value.ref b] below meth c H2 locs2 79 3938 (lw_Z below #[Value.ref b] s) (F0 m 823 ls [])) : W p l e room_1 s m #[Value.ref b] below meth c H locs 79 3938 (lw_Z below #[Value.ref b] s) (F0 m 600 ls []) := by
  obtain ⟨hx, hb, hr, hml, hown, hts0, hX, hbl, hlocks, hgv⟩ := C0
  have hb : c.code = cL_law := hb
  have hown : s.vm.findClass RL = some m.cls := hown
  have hts := law_hts hts0
  obtain ⟨hC, hY, hJ, hM, hi, hB, hap, hA7, hA8, hS, hZ⟩ := hI
  have hbA : ¬ (fun q : Nat => s.heap.size ≤ q) b := Nat.not_le.mpr hbl
  have hF := (⟨hx, hb, hml, hown, hts⟩ : CallFix p m c cL_law 4 s _ wsL_law RL)
  refine lv_aload_n hx hb dL_law_600 rfl (lv_at hl 1 rfl) ?_
  refine lv_aload_n hx hb dL_law_601 rfl (lv_at hl 0 rfl) ?_
  refine lv_iload_n hx hb dL_law_602 rfl (lv_at hl 3 rfl) ?_
  refine lv_iconst (v := 1) hx hb dL_law_603 (by decide) ?_
  refine lv_iadd hx hb dL_law_604 ?_
  refine va_sld hx hb hX hbl hbA hS (ld_in (q := 1) hj (by decide) hL) dL_law_605 ?_
  refine lv_aload_n hx hb dL_law_606 rfl (lv_at hl 0 rfl) ?_
  refine lv_iload_n hx hb dL_law_607 rfl (lv_at hl 3 rfl) ?_
  refine lv_iconst (v := 2) hx hb dL_law_608 (by decide) ?_
  refine lv_iadd hx hb dL_law_609 ?_
  refine va_sld hx hb hX hbl hbA hS (ld_in (q := 2) hj (by decide) hL) dL_law_610 ?_
  refine kX7_volunteerOf hF (cwV 2 hts gL_law_X7_volunteerOf rfl rfl rfl hdX7_volunteerOf ⟨Nat.le_of_ble_eq_true rfl, Nat.le_of_ble_eq_true rfl⟩) hC hY hJ hB.1 hS hA7 hl.1 (Nat.le_of_ble_eq_true rfl) dL_law_611 ⟨Nat.le_of_ble_eq_true rfl, Nat.le_of_ble_eq_true rfl⟩ (fun H1 locs1 hY1 hz1 hk1 hS => ?_)
  have hM := mo_kept hM (fun i hi9 => hk1 _ (mo_lt hM hi9) (hap _ ⟨i, hi9, rfl⟩))
  refine lv_aload_n hx hb dL_law_614 rfl (lv_at hl 2 rfl) ?_
  refine lv_aload_n hx hb dL_law_615 rfl (lv_at hl 0 rfl) ?_
  refine lv_iload_n hx hb dL_law_616 rfl (lv_at hl 3 rfl) ?_
  refine lv_iconst (v := 1) hx hb dL_law_617 (by decide) ?_
  refine lv_iadd hx hb dL_law_618 ?_
  refine va_sld hx hb hX hbl hbA hS (ld_in (q := 1) hj (by decide) hL) dL_law_619 ?_
  refine lv_aload_n hx hb dL_law_620 rfl (lv_at hl 0 rfl) ?_
  refine lv_iload_n hx hb dL_law_621 rfl (lv_at hl 3 rfl) ?_
  refine lv_iconst (v := 2) hx hb dL_law_622 (by decide) ?_
  refine lv_iadd hx hb dL_law_623 ?_
  refine va_sld hx hb hX hbl hbA hS (ld_in (q := 2) hj (by decide) hL) dL_law_624 ?_
  refine kX8_volunteerOf hF (cwV 2 hts gL_law_X8_volunteerOf rfl rfl rfl hdX8_volunteerOf ⟨Nat.le_of_ble_eq_true rfl, Nat.le_of_ble_eq_true rfl⟩) hC hM hB.I hl.1 (Nat.le_of_ble_eq_true rfl) dL_law_625 ⟨Nat.le_of_ble_eq_true rfl, Nat.le_of_ble_eq_true rfl⟩ ?_
  have heq := q_vol hB.2.1 (by decide) (xs (nI j + 1).toNatClampNeg) (xs (nI j + 2).toNatClampNeg)
  refine lv_icmp_eq (tgt := 823) hx hb dL_law_628 (by decide) (fun _ => ?_) (fun z => absurd heq z)
  exact k (zX7_volunteerOf Ω (xs (nI j + 1).toNatClampNeg) (xs (nI j + 2).toNatClampNeg)).2 μ H1 locs1 ⟨hC, hY1, hJ, hM, hi, hB, hap, hA7, hA8, hS, hZ⟩
set_option maxHeartbeats 4000000 in
set_option maxRecDepth 100000 in
theorem lc_count {p : Program} {l : Launch} {e : Env} {s : State} {m : MethodId} {below : List Frame} {meth : Method} {c : Code} {b L : Nat} {xs : Nat → Int32} (hL : L ≤ 2048) (C0 : lw_At p s m meth c b L xs) {D : va_G} {y : Y3} {ob : Nat → Nat} {AD : Nat → Nat → Nat} {mo : Nat → Nat} {tM tF : Nat} {Ω : Og} {μ : Sg} {H : Heap} {locs : List Loc} {j : Nat} (hj : j + 3 < L) (hI : LwI D y ob AD mo tM tF s Ω μ H locs) {ls : Array Slot} (hl : lv_has ls 4 [(0, .ref b), (1, .ref (ob 0)), (2, .ref (mo 0)), (3, .int (nI j))])
    (k : ∀ (Ω2 : Og) (μ2 : Sg) (H2 : Heap) (locs2 : List Loc), LwI D y ob AD mo tM tF s Ω2 μ2 H2 locs2 → W p l e room_1 s m #[Value.ref b] below meth c H2 locs2 79 3938 (lw_Z below #[Value.ref b] s) (F0 m 823 ls [])) : W p l e room_1 s m #[Value.ref b] below meth c H locs 79 3938 (lw_Z below #[Value.ref b] s) (F0 m 633 ls []) := by
  obtain ⟨hx, hb, hr, hml, hown, hts0, hX, hbl, hlocks, hgv⟩ := C0
  have hb : c.code = cL_law := hb
  have hown : s.vm.findClass RL = some m.cls := hown
  have hts := law_hts hts0
  obtain ⟨hC, hY, hJ, hM, hi, hB, hap, hA7, hA8, hS, hZ⟩ := hI
  have hbA : ¬ (fun q : Nat => s.heap.size ≤ q) b := Nat.not_le.mpr hbl
  have hF := (⟨hx, hb, hml, hown, hts⟩ : CallFix p m c cL_law 4 s _ wsL_law RL)
  refine lv_aload_n hx hb dL_law_633 rfl (lv_at hl 1 rfl) ?_
  refine lv_aload_n hx hb dL_law_634 rfl (lv_at hl 0 rfl) ?_
  refine lv_iload_n hx hb dL_law_635 rfl (lv_at hl 3 rfl) ?_
  refine lv_iconst (v := 1) hx hb dL_law_636 (by decide) ?_
  refine lv_iadd hx hb dL_law_637 ?_
  refine va_sld hx hb hX hbl hbA hS (ld_in (q := 1) hj (by decide) hL) dL_law_638 ?_
  refine kX7_count hF (cwV 1 hts gL_law_X7_count rfl rfl rfl hdX7_count ⟨Nat.le_of_ble_eq_true rfl, Nat.le_of_ble_eq_true rfl⟩) hC hY hJ hB.1 hS hA7 hl.1 (Nat.le_of_ble_eq_true rfl) dL_law_639 ⟨Nat.le_of_ble_eq_true rfl, Nat.le_of_ble_eq_true rfl⟩ (fun H1 locs1 hY1 hz1 hk1 hS => ?_)
  have hM := mo_kept hM (fun i hi9 => hk1 _ (mo_lt hM hi9) (hap _ ⟨i, hi9, rfl⟩))
  refine lv_aload_n hx hb dL_law_642 rfl (lv_at hl 2 rfl) ?_
  refine lv_aload_n hx hb dL_law_643 rfl (lv_at hl 0 rfl) ?_
  refine lv_iload_n hx hb dL_law_644 rfl (lv_at hl 3 rfl) ?_
  refine lv_iconst (v := 1) hx hb dL_law_645 (by decide) ?_
  refine lv_iadd hx hb dL_law_646 ?_
  refine va_sld hx hb hX hbl hbA hS (ld_in (q := 1) hj (by decide) hL) dL_law_647 ?_
  refine kX8_count hF (cwV 1 hts gL_law_X8_count rfl rfl rfl hdX8_count ⟨Nat.le_of_ble_eq_true rfl, Nat.le_of_ble_eq_true rfl⟩) hC hM hB.I hl.1 (Nat.le_of_ble_eq_true rfl) dL_law_648 ⟨Nat.le_of_ble_eq_true rfl, Nat.le_of_ble_eq_true rfl⟩ ?_
  have heq := (pub_count hB (xs (nI j + 1).toNatClampNeg)).1
  refine lv_icmp_eq (tgt := 823) hx hb dL_law_651 (by decide) (fun _ => ?_) (fun z => absurd heq z)
  exact k (zX7_count Ω (xs (nI j + 1).toNatClampNeg)).2 μ H1 locs1 ⟨hC, hY1, hJ, hM, hi, (by rw [(pub_count hB (xs (nI j + 1).toNatClampNeg)).2]; exact hB), hap, hA7, hA8, hS, hZ⟩
set_option maxHeartbeats 4000000 in
set_option maxRecDepth 100000 in
theorem lc_advice {p : Program} {l : Launch} {e : Env} {s : State} {m : MethodId} {below : List Frame} {meth : Method} {c : Code} {b L : Nat} {xs : Nat → Int32} (hL : L ≤ 2048) (C0 : lw_At p s m meth c b L xs) {D : va_G} {y : Y3} {ob : Nat → Nat} {AD : Nat → Nat → Nat} {mo : Nat → Nat} {tM tF : Nat} {Ω : Og} {μ : Sg} {H : Heap} {locs : List Loc} {j : Nat} (hj : j + 3 < L) (hI : LwI D y ob AD mo tM tF s Ω μ H locs) {ls : Array Slot} (hl : lv_has ls 4 [(0, .ref b), (1, .ref (ob 0)), (2, .ref (mo 0)), (3, .int (nI j))])
    (k : ∀ (Ω2 : Og) (μ2 : Sg) (H2 : Heap) (locs2 : List Loc), LwI D y ob AD mo tM tF s Ω2 μ2 H2 locs2 → W p l e room_1 s m #[Value.ref b] below meth c H2 locs2 79 3938 (lw_Z below #[Value.ref b] s) (F0 m 823 ls [])) : W p l e room_1 s m #[Value.ref b] below meth c H locs 79 3938 (lw_Z below #[Value.ref b] s) (F0 m 656 ls []) := by
  obtain ⟨hx, hb, hr, hml, hown, hts0, hX, hbl, hlocks, hgv⟩ := C0
  have hb : c.code = cL_law := hb
  have hown : s.vm.findClass RL = some m.cls := hown
  have hts := law_hts hts0
  obtain ⟨hC, hY, hJ, hM, hi, hB, hap, hA7, hA8, hS, hZ⟩ := hI
  have hbA : ¬ (fun q : Nat => s.heap.size ≤ q) b := Nat.not_le.mpr hbl
  have hF := (⟨hx, hb, hml, hown, hts⟩ : CallFix p m c cL_law 4 s _ wsL_law RL)
  refine lv_aload_n hx hb dL_law_656 rfl (lv_at hl 1 rfl) ?_
  refine lv_aload_n hx hb dL_law_657 rfl (lv_at hl 0 rfl) ?_
  refine lv_iload_n hx hb dL_law_658 rfl (lv_at hl 3 rfl) ?_
  refine lv_iconst (v := 1) hx hb dL_law_659 (by decide) ?_
  refine lv_iadd hx hb dL_law_660 ?_
  refine va_sld hx hb hX hbl hbA hS (ld_in (q := 1) hj (by decide) hL) dL_law_661 ?_
  refine kX7_advice hF (cwV 1 hts gL_law_X7_advice rfl rfl rfl hdX7_advice ⟨Nat.le_of_ble_eq_true rfl, Nat.le_of_ble_eq_true rfl⟩) hC hY hJ hB.1 hS hA7 hl.1 (Nat.le_of_ble_eq_true rfl) dL_law_662 ⟨Nat.le_of_ble_eq_true rfl, Nat.le_of_ble_eq_true rfl⟩ (fun H1 locs1 hY1 hz1 hk1 hS => ?_)
  have hM := mo_kept hM (fun i hi9 => hk1 _ (mo_lt hM hi9) (hap _ ⟨i, hi9, rfl⟩))
  refine lv_aload_n hx hb dL_law_665 rfl (lv_at hl 2 rfl) ?_
  refine lv_aload_n hx hb dL_law_666 rfl (lv_at hl 0 rfl) ?_
  refine lv_iload_n hx hb dL_law_667 rfl (lv_at hl 3 rfl) ?_
  refine lv_iconst (v := 1) hx hb dL_law_668 (by decide) ?_
  refine lv_iadd hx hb dL_law_669 ?_
  refine va_sld hx hb hX hbl hbA hS (ld_in (q := 1) hj (by decide) hL) dL_law_670 ?_
  refine kX8_advice hF (cwV 1 hts gL_law_X8_advice rfl rfl rfl hdX8_advice ⟨Nat.le_of_ble_eq_true rfl, Nat.le_of_ble_eq_true rfl⟩) hC hM hB.I hl.1 (Nat.le_of_ble_eq_true rfl) dL_law_671 ⟨Nat.le_of_ble_eq_true rfl, Nat.le_of_ble_eq_true rfl⟩ ?_
  have heq := q_advice hB.2.1 (xs (nI j + 1).toNatClampNeg)
  refine lv_icmp_eq (tgt := 823) hx hb dL_law_674 (by decide) (fun _ => ?_) (fun z => absurd heq z)
  exact k (zX7_advice Ω (xs (nI j + 1).toNatClampNeg)).2 μ H1 locs1 ⟨hC, hY1, hJ, hM, hi, hB, hap, hA7, hA8, hS, hZ⟩
set_option maxHeartbeats 4000000 in
set_option maxRecDepth 100000 in
theorem lc_wouldSpoil {p : Program} {l : Launch} {e : Env} {s : State} {m : MethodId} {below : List Frame} {meth : Method} {c : Code} {b L : Nat} {xs : Nat → Int32} (hL : L ≤ 2048) (C0 : lw_At p s m meth c b L xs) {D : va_G} {y : Y3} {ob : Nat → Nat} {AD : Nat → Nat → Nat} {mo : Nat → Nat} {tM tF : Nat} {Ω : Og} {μ : Sg} {H : Heap} {locs : List Loc} {j : Nat} (hj : j + 3 < L) (hI : LwI D y ob AD mo tM tF s Ω μ H locs) {ls : Array Slot} (hl : lv_has ls 4 [(0, .ref b), (1, .ref (ob 0)), (2, .ref (mo 0)), (3, .int (nI j))])
    (k : ∀ (Ω2 : Og) (μ2 : Sg) (H2 : Heap) (locs2 : List Loc), LwI D y ob AD mo tM tF s Ω2 μ2 H2 locs2 → W p l e room_1 s m #[Value.ref b] below meth c H2 locs2 79 3938 (lw_Z below #[Value.ref b] s) (F0 m 823 ls [])) : W p l e room_1 s m #[Value.ref b] below meth c H locs 79 3938 (lw_Z below #[Value.ref b] s) (F0 m 679 ls []) := by
  obtain ⟨hx, hb, hr, hml, hown, hts0, hX, hbl, hlocks, hgv⟩ := C0
  have hb : c.code = cL_law := hb
  have hown : s.vm.findClass RL = some m.cls := hown
  have hts := law_hts hts0
  obtain ⟨hC, hY, hJ, hM, hi, hB, hap, hA7, hA8, hS, hZ⟩ := hI
  have hbA : ¬ (fun q : Nat => s.heap.size ≤ q) b := Nat.not_le.mpr hbl
  have hF := (⟨hx, hb, hml, hown, hts⟩ : CallFix p m c cL_law 4 s _ wsL_law RL)
  refine lv_aload_n hx hb dL_law_679 rfl (lv_at hl 1 rfl) ?_
  refine lv_aload_n hx hb dL_law_680 rfl (lv_at hl 0 rfl) ?_
  refine lv_iload_n hx hb dL_law_681 rfl (lv_at hl 3 rfl) ?_
  refine lv_iconst (v := 1) hx hb dL_law_682 (by decide) ?_
  refine lv_iadd hx hb dL_law_683 ?_
  refine va_sld hx hb hX hbl hbA hS (ld_in (q := 1) hj (by decide) hL) dL_law_684 ?_
  refine kX7_wouldSpoil hF (cwV 1 hts gL_law_X7_wouldSpoil rfl rfl rfl hdX7_wouldSpoil ⟨Nat.le_of_ble_eq_true rfl, Nat.le_of_ble_eq_true rfl⟩) hC hY hJ hB.1 hS hA7 hl.1 (Nat.le_of_ble_eq_true rfl) dL_law_685 ⟨Nat.le_of_ble_eq_true rfl, Nat.le_of_ble_eq_true rfl⟩ (fun H1 locs1 hY1 hz1 hk1 hS => ?_)
  have hM := mo_kept hM (fun i hi9 => hk1 _ (mo_lt hM hi9) (hap _ ⟨i, hi9, rfl⟩))
  refine lv_aload_n hx hb dL_law_688 rfl (lv_at hl 2 rfl) ?_
  refine lv_aload_n hx hb dL_law_689 rfl (lv_at hl 0 rfl) ?_
  refine lv_iload_n hx hb dL_law_690 rfl (lv_at hl 3 rfl) ?_
  refine lv_iconst (v := 1) hx hb dL_law_691 (by decide) ?_
  refine lv_iadd hx hb dL_law_692 ?_
  refine va_sld hx hb hX hbl hbA hS (ld_in (q := 1) hj (by decide) hL) dL_law_693 ?_
  refine kX8_wouldSpoil hF (cwV 1 hts gL_law_X8_wouldSpoil rfl rfl rfl hdX8_wouldSpoil ⟨Nat.le_of_ble_eq_true rfl, Nat.le_of_ble_eq_true rfl⟩) hC hM hi hB.I hS hA8 hl.1 (Nat.le_of_ble_eq_true rfl) dL_law_694 ⟨Nat.le_of_ble_eq_true rfl, Nat.le_of_ble_eq_true rfl⟩ (fun H2 locs2 hM2 hz2 hk2 hS => ?_)
  have hY2 := Sys.kp (H1 := H2) hY1 (fun q hq hlt => hk2 q hlt (fun z => hap q z hq))
  have heq := (pub_wouldSpoil hB (xs (nI j + 1).toNatClampNeg)).1
  refine lv_icmp_eq (tgt := 823) hx hb dL_law_697 (by decide) (fun _ => ?_) (fun z => absurd heq z)
  exact k (zX7_wouldSpoil Ω (xs (nI j + 1).toNatClampNeg)).2 (zX8_wouldSpoil μ (xs (nI j + 1).toNatClampNeg)).2 H2 locs2 ⟨hC, hY2, hJ, hM2, hi, (pub_wouldSpoil hB (xs (nI j + 1).toNatClampNeg)).2, hap, hA7, hA8, hS, hZ⟩
set_option maxHeartbeats 4000000 in
set_option maxRecDepth 100000 in
theorem lc_move {p : Program} {l : Launch} {e : Env} {s : State} {m : MethodId} {below : List Frame} {meth : Method} {c : Code} {b L : Nat} {xs : Nat → Int32} (hL : L ≤ 2048) (C0 : lw_At p s m meth c b L xs) {D : va_G} {y : Y3} {ob : Nat → Nat} {AD : Nat → Nat → Nat} {mo : Nat → Nat} {tM tF : Nat} {Ω : Og} {μ : Sg} {H : Heap} {locs : List Loc} {j : Nat} (hj : j + 3 < L) (hI : LwI D y ob AD mo tM tF s Ω μ H locs) {ls : Array Slot} (hl : lv_has ls 4 [(0, .ref b), (1, .ref (ob 0)), (2, .ref (mo 0)), (3, .int (nI j))])
    (k : ∀ (Ω2 : Og) (μ2 : Sg) (H2 : Heap) (locs2 : List Loc), LwI D y ob AD mo tM tF s Ω2 μ2 H2 locs2 → W p l e room_1 s m #[Value.ref b] below meth c H2 locs2 79 3938 (lw_Z below #[Value.ref b] s) (F0 m 823 ls [])) : W p l e room_1 s m #[Value.ref b] below meth c H locs 79 3938 (lw_Z below #[Value.ref b] s) (F0 m 702 ls []) := by
  obtain ⟨hx, hb, hr, hml, hown, hts0, hX, hbl, hlocks, hgv⟩ := C0
  have hb : c.code = cL_law := hb
  have hown : s.vm.findClass RL = some m.cls := hown
  have hts := law_hts hts0
  obtain ⟨hC, hY, hJ, hM, hi, hB, hap, hA7, hA8, hS, hZ⟩ := hI
  have hbA : ¬ (fun q : Nat => s.heap.size ≤ q) b := Nat.not_le.mpr hbl
  have hF := (⟨hx, hb, hml, hown, hts⟩ : CallFix p m c cL_law 4 s _ wsL_law RL)
  refine lv_aload_n hx hb dL_law_702 rfl (lv_at hl 1 rfl) ?_
  refine lv_aload_n hx hb dL_law_703 rfl (lv_at hl 0 rfl) ?_
  refine lv_iload_n hx hb dL_law_704 rfl (lv_at hl 3 rfl) ?_
  refine lv_iconst (v := 1) hx hb dL_law_705 (by decide) ?_
  refine lv_iadd hx hb dL_law_706 ?_
  refine va_sld hx hb hX hbl hbA hS (ld_in (q := 1) hj (by decide) hL) dL_law_707 ?_
  refine kX7_move hF (cwV 1 hts gL_law_X7_move rfl rfl rfl hdX7_move ⟨Nat.le_of_ble_eq_true rfl, Nat.le_of_ble_eq_true rfl⟩) hC hY hJ hB.1 hS hA7 hl.1 (Nat.le_of_ble_eq_true rfl) dL_law_708 ⟨Nat.le_of_ble_eq_true rfl, Nat.le_of_ble_eq_true rfl⟩ (fun H1 locs1 hY1 hz1 hk1 hS => ?_)
  have hM := mo_kept hM (fun i hi9 => hk1 _ (mo_lt hM hi9) (hap _ ⟨i, hi9, rfl⟩))
  refine lv_aload_n hx hb dL_law_711 rfl (lv_at hl 2 rfl) ?_
  refine lv_aload_n hx hb dL_law_712 rfl (lv_at hl 0 rfl) ?_
  refine lv_iload_n hx hb dL_law_713 rfl (lv_at hl 3 rfl) ?_
  refine lv_iconst (v := 1) hx hb dL_law_714 (by decide) ?_
  refine lv_iadd hx hb dL_law_715 ?_
  refine va_sld hx hb hX hbl hbA hS (ld_in (q := 1) hj (by decide) hL) dL_law_716 ?_
  refine kX8_move hF (cwV 1 hts gL_law_X8_move rfl rfl rfl hdX8_move ⟨Nat.le_of_ble_eq_true rfl, Nat.le_of_ble_eq_true rfl⟩) hC hM hB.I hl.1 (Nat.le_of_ble_eq_true rfl) dL_law_717 ⟨Nat.le_of_ble_eq_true rfl, Nat.le_of_ble_eq_true rfl⟩ ?_
  have heq := q_move hB.2.1 (xs (nI j + 1).toNatClampNeg)
  refine lv_icmp_eq (tgt := 823) hx hb dL_law_720 (by decide) (fun _ => ?_) (fun z => absurd heq z)
  exact k (zX7_move Ω (xs (nI j + 1).toNatClampNeg)).2 μ H1 locs1 ⟨hC, hY1, hJ, hM, hi, hB, hap, hA7, hA8, hS, hZ⟩
set_option maxHeartbeats 4000000 in
set_option maxRecDepth 100000 in
theorem lc_shareBits {p : Program} {l : Launch} {e : Env} {s : State} {m : MethodId} {below : List Frame} {meth : Method} {c : Code} {b L : Nat} {xs : Nat → Int32} (hL : L ≤ 2048) (C0 : lw_At p s m meth c b L xs) {D : va_G} {y : Y3} {ob : Nat → Nat} {AD : Nat → Nat → Nat} {mo : Nat → Nat} {tM tF : Nat} {Ω : Og} {μ : Sg} {H : Heap} {locs : List Loc} {j : Nat} (hj : j + 3 < L) (hI : LwI D y ob AD mo tM tF s Ω μ H locs) {ls : Array Slot} (hl : lv_has ls 4 [(0, .ref b), (1, .ref (ob 0)), (2, .ref (mo 0)), (3, .int (nI j))])
    (k : ∀ (Ω2 : Og) (μ2 : Sg) (H2 : Heap) (locs2 : List Loc), LwI D y ob AD mo tM tF s Ω2 μ2 H2 locs2 → W p l e room_1 s m #[Value.ref b] below meth c H2 locs2 79 3938 (lw_Z below #[Value.ref b] s) (F0 m 823 ls [])) : W p l e room_1 s m #[Value.ref b] below meth c H locs 79 3938 (lw_Z below #[Value.ref b] s) (F0 m 725 ls []) := by
  obtain ⟨hx, hb, hr, hml, hown, hts0, hX, hbl, hlocks, hgv⟩ := C0
  have hb : c.code = cL_law := hb
  have hown : s.vm.findClass RL = some m.cls := hown
  have hts := law_hts hts0
  obtain ⟨hC, hY, hJ, hM, hi, hB, hap, hA7, hA8, hS, hZ⟩ := hI
  have hbA : ¬ (fun q : Nat => s.heap.size ≤ q) b := Nat.not_le.mpr hbl
  have hF := (⟨hx, hb, hml, hown, hts⟩ : CallFix p m c cL_law 4 s _ wsL_law RL)
  refine lv_aload_n hx hb dL_law_725 rfl (lv_at hl 1 rfl) ?_
  refine kX7_shareBits hF (cwV 0 hts gL_law_X7_shareBits rfl rfl rfl hdX7_shareBits ⟨Nat.le_of_ble_eq_true rfl, Nat.le_of_ble_eq_true rfl⟩) hC hY hJ hB.1 (pub_shareBits hB).2.1 hS hA7 hl.1 (Nat.le_of_ble_eq_true rfl) dL_law_726 ⟨Nat.le_of_ble_eq_true rfl, Nat.le_of_ble_eq_true rfl⟩ (fun H1 locs1 hY1 hz1 hk1 hS => ?_)
  have hM := mo_kept hM (fun i hi9 => hk1 _ (mo_lt hM hi9) (hap _ ⟨i, hi9, rfl⟩))
  refine lv_aload_n hx hb dL_law_729 rfl (lv_at hl 2 rfl) ?_
  refine kX8_shareBits hF (cwV 0 hts gL_law_X8_shareBits rfl rfl rfl hdX8_shareBits ⟨Nat.le_of_ble_eq_true rfl, Nat.le_of_ble_eq_true rfl⟩) hC hM (pub_shareBits hB).2.2 hl.1 (Nat.le_of_ble_eq_true rfl) dL_law_730 ⟨Nat.le_of_ble_eq_true rfl, Nat.le_of_ble_eq_true rfl⟩ ?_
  have heq := (pub_shareBits hB).1
  refine lv_icmp_eq (tgt := 823) hx hb dL_law_733 (by decide) (fun _ => ?_) (fun z => absurd heq z)
  exact k (zX7_shareBits Ω ).2 μ H1 locs1 ⟨hC, hY1, hJ, hM, hi, hB, hap, hA7, hA8, hS, hZ⟩
set_option maxHeartbeats 4000000 in
set_option maxRecDepth 100000 in
theorem lc_undo {p : Program} {l : Launch} {e : Env} {s : State} {m : MethodId} {below : List Frame} {meth : Method} {c : Code} {b L : Nat} {xs : Nat → Int32} (hL : L ≤ 2048) (C0 : lw_At p s m meth c b L xs) {D : va_G} {y : Y3} {ob : Nat → Nat} {AD : Nat → Nat → Nat} {mo : Nat → Nat} {tM tF : Nat} {Ω : Og} {μ : Sg} {H : Heap} {locs : List Loc} {j : Nat} (hj : j + 3 < L) (hI : LwI D y ob AD mo tM tF s Ω μ H locs) {ls : Array Slot} (hl : lv_has ls 4 [(0, .ref b), (1, .ref (ob 0)), (2, .ref (mo 0)), (3, .int (nI j))])
    (k : ∀ (Ω2 : Og) (μ2 : Sg) (H2 : Heap) (locs2 : List Loc), LwI D y ob AD mo tM tF s Ω2 μ2 H2 locs2 → W p l e room_1 s m #[Value.ref b] below meth c H2 locs2 79 3938 (lw_Z below #[Value.ref b] s) (F0 m 823 ls [])) : W p l e room_1 s m #[Value.ref b] below meth c H locs 79 3938 (lw_Z below #[Value.ref b] s) (F0 m 738 ls []) := by
  obtain ⟨hx, hb, hr, hml, hown, hts0, hX, hbl, hlocks, hgv⟩ := C0
  have hb : c.code = cL_law := hb
  have hown : s.vm.findClass RL = some m.cls := hown
  have hts := law_hts hts0
  obtain ⟨hC, hY, hJ, hM, hi, hB, hap, hA7, hA8, hS, hZ⟩ := hI
  have hbA : ¬ (fun q : Nat => s.heap.size ≤ q) b := Nat.not_le.mpr hbl
  have hF := (⟨hx, hb, hml, hown, hts⟩ : CallFix p m c cL_law 4 s _ wsL_law RL)
  refine lv_aload_n hx hb dL_law_738 rfl (lv_at hl 1 rfl) ?_
  refine kX7_undo hF (cwV 0 hts gL_law_X7_undo rfl rfl rfl hdX7_undo ⟨Nat.le_of_ble_eq_true rfl, Nat.le_of_ble_eq_true rfl⟩) hC hY hJ hB.1 hS hA7 hl.1 (Nat.le_of_ble_eq_true rfl) dL_law_739 ⟨Nat.le_of_ble_eq_true rfl, Nat.le_of_ble_eq_true rfl⟩ (fun H1 locs1 hY1 hz1 hk1 hS => ?_)
  have hM := mo_kept hM (fun i hi9 => hk1 _ (mo_lt hM hi9) (hap _ ⟨i, hi9, rfl⟩))
  refine lv_aload_n hx hb dL_law_742 rfl (lv_at hl 2 rfl) ?_
  refine kX8_undo hF (cwV 0 hts gL_law_X8_undo rfl rfl rfl hdX8_undo ⟨Nat.le_of_ble_eq_true rfl, Nat.le_of_ble_eq_true rfl⟩) hC hM hi (big_r hB) hS hA8 hl.1 (Nat.le_of_ble_eq_true rfl) dL_law_743 ⟨Nat.le_of_ble_eq_true rfl, Nat.le_of_ble_eq_true rfl⟩ (fun H2 locs2 hM2 hz2 hk2 hS => ?_)
  have hY2 := Sys.kp (H1 := H2) hY1 (fun q hq hlt => hk2 q hlt (fun z => hap q z hq))
  have heq := (pub_undo hB ).1
  refine lv_icmp_eq (tgt := 823) hx hb dL_law_746 (by decide) (fun _ => ?_) (fun z => absurd heq z)
  exact k (zX7_undo Ω ).2 (zX8_undo μ ).2 H2 locs2 ⟨hC, hY2, hJ, hM2, hi, (pub_undo hB ).2, hap, hA7, hA8, hS, hZ⟩
set_option maxHeartbeats 4000000 in
set_option maxRecDepth 100000 in
theorem lc_type {p : Program} {l : Launch} {e : Env} {s : State} {m : MethodId} {below : List Frame} {meth : Method} {c : Code} {b L : Nat} {xs : Nat → Int32} (hL : L ≤ 2048) (C0 : lw_At p s m meth c b L xs) {D : va_G} {y : Y3} {ob : Nat → Nat} {AD : Nat → Nat → Nat} {mo : Nat → Nat} {tM tF : Nat} {Ω : Og} {μ : Sg} {H : Heap} {locs : List Loc} {j : Nat} (hj : j + 3 < L) (hI : LwI D y ob AD mo tM tF s Ω μ H locs) {ls : Array Slot} (hl : lv_has ls 4 [(0, .ref b), (1, .ref (ob 0)), (2, .ref (mo 0)), (3, .int (nI j))])
    (k : ∀ (Ω2 : Og) (μ2 : Sg) (H2 : Heap) (locs2 : List Loc), LwI D y ob AD mo tM tF s Ω2 μ2 H2 locs2 → W p l e room_1 s m #[Value.ref b] below meth c H2 locs2 79 3938 (lw_Z below #[Value.ref b] s) (F0 m 823 ls [])) : W p l e room_1 s m #[Value.ref b] below meth c H locs 79 3938 (lw_Z below #[Value.ref b] s) (F0 m 751 ls []) := by
  obtain ⟨hx, hb, hr, hml, hown, hts0, hX, hbl, hlocks, hgv⟩ := C0
  have hb : c.code = cL_law := hb
  have hown : s.vm.findClass RL = some m.cls := hown
  have hts := law_hts hts0
  obtain ⟨hC, hY, hJ, hM, hi, hB, hap, hA7, hA8, hS, hZ⟩ := hI
  have hbA : ¬ (fun q : Nat => s.heap.size ≤ q) b := Nat.not_le.mpr hbl
  have hF := (⟨hx, hb, hml, hown, hts⟩ : CallFix p m c cL_law 4 s _ wsL_law RL)
  refine lv_aload_n hx hb dL_law_751 rfl (lv_at hl 1 rfl) ?_
  refine lv_aload_n hx hb dL_law_752 rfl (lv_at hl 0 rfl) ?_
  refine lv_iload_n hx hb dL_law_753 rfl (lv_at hl 3 rfl) ?_
  refine lv_iconst (v := 1) hx hb dL_law_754 (by decide) ?_
  refine lv_iadd hx hb dL_law_755 ?_
  refine va_sld hx hb hX hbl hbA hS (ld_in (q := 1) hj (by decide) hL) dL_law_756 ?_
  refine kX7_type hF (cwV 1 hts gL_law_X7_type rfl rfl rfl hdX7_type ⟨Nat.le_of_ble_eq_true rfl, Nat.le_of_ble_eq_true rfl⟩) hC hY hJ hB.1 hS hA7 hl.1 (Nat.le_of_ble_eq_true rfl) dL_law_757 ⟨Nat.le_of_ble_eq_true rfl, Nat.le_of_ble_eq_true rfl⟩ (fun H1 locs1 hY1 hz1 hk1 hS => ?_)
  have hM := mo_kept hM (fun i hi9 => hk1 _ (mo_lt hM hi9) (hap _ ⟨i, hi9, rfl⟩))
  refine lv_aload_n hx hb dL_law_760 rfl (lv_at hl 2 rfl) ?_
  refine lv_aload_n hx hb dL_law_761 rfl (lv_at hl 0 rfl) ?_
  refine lv_iload_n hx hb dL_law_762 rfl (lv_at hl 3 rfl) ?_
  refine lv_iconst (v := 1) hx hb dL_law_763 (by decide) ?_
  refine lv_iadd hx hb dL_law_764 ?_
  refine va_sld hx hb hX hbl hbA hS (ld_in (q := 1) hj (by decide) hL) dL_law_765 ?_
  refine kX8_type hF (cwV 1 hts gL_law_X8_type rfl rfl rfl hdX8_type ⟨Nat.le_of_ble_eq_true rfl, Nat.le_of_ble_eq_true rfl⟩) hC hM hi hB.2.2.1 hS hA8 hl.1 (Nat.le_of_ble_eq_true rfl) dL_law_766 ⟨Nat.le_of_ble_eq_true rfl, Nat.le_of_ble_eq_true rfl⟩ (fun H2 locs2 hM2 hz2 hk2 hS => ?_)
  have hY2 := Sys.kp (H1 := H2) hY1 (fun q hq hlt => hk2 q hlt (fun z => hap q z hq))
  have heq := (pub_type hB (xs (nI j + 1).toNatClampNeg)).1
  refine lv_icmp_eq (tgt := 823) hx hb dL_law_769 (by decide) (fun _ => ?_) (fun z => absurd heq z)
  exact k (zX7_type Ω (xs (nI j + 1).toNatClampNeg)).2 (zX8_type μ (xs (nI j + 1).toNatClampNeg)).2 H2 locs2 ⟨hC, hY2, hJ, hM2, hi, (pub_type hB (xs (nI j + 1).toNatClampNeg)).2, hap, hA7, hA8, hS, hZ⟩
set_option maxHeartbeats 4000000 in
set_option maxRecDepth 100000 in
theorem lc_clearText {p : Program} {l : Launch} {e : Env} {s : State} {m : MethodId} {below : List Frame} {meth : Method} {c : Code} {b L : Nat} {xs : Nat → Int32} (hL : L ≤ 2048) (C0 : lw_At p s m meth c b L xs) {D : va_G} {y : Y3} {ob : Nat → Nat} {AD : Nat → Nat → Nat} {mo : Nat → Nat} {tM tF : Nat} {Ω : Og} {μ : Sg} {H : Heap} {locs : List Loc} {j : Nat} (hj : j + 3 < L) (hI : LwI D y ob AD mo tM tF s Ω μ H locs) {ls : Array Slot} (hl : lv_has ls 4 [(0, .ref b), (1, .ref (ob 0)), (2, .ref (mo 0)), (3, .int (nI j))])
    (k : ∀ (Ω2 : Og) (μ2 : Sg) (H2 : Heap) (locs2 : List Loc), LwI D y ob AD mo tM tF s Ω2 μ2 H2 locs2 → W p l e room_1 s m #[Value.ref b] below meth c H2 locs2 79 3938 (lw_Z below #[Value.ref b] s) (F0 m 823 ls [])) : W p l e room_1 s m #[Value.ref b] below meth c H locs 79 3938 (lw_Z below #[Value.ref b] s) (F0 m 774 ls []) := by
  obtain ⟨hx, hb, hr, hml, hown, hts0, hX, hbl, hlocks, hgv⟩ := C0
  have hb : c.code = cL_law := hb
  have hown : s.vm.findClass RL = some m.cls := hown
  have hts := law_hts hts0
  obtain ⟨hC, hY, hJ, hM, hi, hB, hap, hA7, hA8, hS, hZ⟩ := hI
  have hbA : ¬ (fun q : Nat => s.heap.size ≤ q) b := Nat.not_le.mpr hbl
  have hF := (⟨hx, hb, hml, hown, hts⟩ : CallFix p m c cL_law 4 s _ wsL_law RL)
  refine lv_aload_n hx hb dL_law_774 rfl (lv_at hl 1 rfl) ?_
  refine kX7_clearText hF (cwV 0 hts gL_law_X7_clearText rfl rfl rfl hdX7_clearText ⟨Nat.le_of_ble_eq_true rfl, Nat.le_of_ble_eq_true rfl⟩) hC hY hJ hB.1 hS hA7 hl.1 (Nat.le_of_ble_eq_true rfl) dL_law_775 ⟨Nat.le_of_ble_eq_true rfl, Nat.le_of_ble_eq_true rfl⟩ (fun H1 locs1 hY1 hz1 hk1 hS => ?_)
  have hM := mo_kept hM (fun i hi9 => hk1 _ (mo_lt hM hi9) (hap _ ⟨i, hi9, rfl⟩))
  refine lv_aload_n hx hb dL_law_778 rfl (lv_at hl 2 rfl) ?_
  refine kX8_clearText hF (cwV 0 hts gL_law_X8_clearText rfl rfl rfl hdX8_clearText ⟨Nat.le_of_ble_eq_true rfl, Nat.le_of_ble_eq_true rfl⟩) hC hM hi hS hA8 hl.1 (Nat.le_of_ble_eq_true rfl) dL_law_779 ⟨Nat.le_of_ble_eq_true rfl, Nat.le_of_ble_eq_true rfl⟩ (fun H2 locs2 hM2 hz2 hk2 hS => ?_)
  have hY2 := Sys.kp (H1 := H2) hY1 (fun q hq hlt => hk2 q hlt (fun z => hap q z hq))
  have heq := (pub_clearText hB ).1
  refine lv_icmp_eq (tgt := 823) hx hb dL_law_782 (by decide) (fun _ => ?_) (fun z => absurd heq z)
  exact k (zX7_clearText Ω ).2 (zX8_clearText μ ).2 H2 locs2 ⟨hC, hY2, hJ, hM2, hi, (pub_clearText hB ).2, hap, hA7, hA8, hS, hZ⟩
set_option maxHeartbeats 4000000 in
set_option maxRecDepth 100000 in
theorem lc_fault {p : Program} {l : Launch} {e : Env} {s : State} {m : MethodId} {below : List Frame} {meth : Method} {c : Code} {b L : Nat} {xs : Nat → Int32} (hL : L ≤ 2048) (C0 : lw_At p s m meth c b L xs) {D : va_G} {y : Y3} {ob : Nat → Nat} {AD : Nat → Nat → Nat} {mo : Nat → Nat} {tM tF : Nat} {Ω : Og} {μ : Sg} {H : Heap} {locs : List Loc} {j : Nat} (hj : j + 3 < L) (hI : LwI D y ob AD mo tM tF s Ω μ H locs) {ls : Array Slot} (hl : lv_has ls 4 [(0, .ref b), (1, .ref (ob 0)), (2, .ref (mo 0)), (3, .int (nI j))])
    (k : ∀ (Ω2 : Og) (μ2 : Sg) (H2 : Heap) (locs2 : List Loc), LwI D y ob AD mo tM tF s Ω2 μ2 H2 locs2 → W p l e room_1 s m #[Value.ref b] below meth c H2 locs2 79 3938 (lw_Z below #[Value.ref b] s) (F0 m 823 ls [])) : W p l e room_1 s m #[Value.ref b] below meth c H locs 79 3938 (lw_Z below #[Value.ref b] s) (F0 m 787 ls []) := by
  obtain ⟨hx, hb, hr, hml, hown, hts0, hX, hbl, hlocks, hgv⟩ := C0
  have hb : c.code = cL_law := hb
  have hown : s.vm.findClass RL = some m.cls := hown
  have hts := law_hts hts0
  obtain ⟨hC, hY, hJ, hM, hi, hB, hap, hA7, hA8, hS, hZ⟩ := hI
  have hbA : ¬ (fun q : Nat => s.heap.size ≤ q) b := Nat.not_le.mpr hbl
  have hF := (⟨hx, hb, hml, hown, hts⟩ : CallFix p m c cL_law 4 s _ wsL_law RL)
  refine lv_aload_n hx hb dL_law_787 rfl (lv_at hl 1 rfl) ?_
  refine lv_aload_n hx hb dL_law_788 rfl (lv_at hl 0 rfl) ?_
  refine lv_iload_n hx hb dL_law_789 rfl (lv_at hl 3 rfl) ?_
  refine lv_iconst (v := 1) hx hb dL_law_790 (by decide) ?_
  refine lv_iadd hx hb dL_law_791 ?_
  refine va_sld hx hb hX hbl hbA hS (ld_in (q := 1) hj (by decide) hL) dL_law_792 ?_
  refine kX7_fault hF (cwV 1 hts gL_law_X7_fault rfl rfl rfl hdX7_fault ⟨Nat.le_of_ble_eq_true rfl, Nat.le_of_ble_eq_true rfl⟩) hC hY hJ hB.1 hS hA7 hl.1 (Nat.le_of_ble_eq_true rfl) dL_law_793 ⟨Nat.le_of_ble_eq_true rfl, Nat.le_of_ble_eq_true rfl⟩ (fun H1 locs1 hY1 hz1 hk1 hS => ?_)
  have hM := mo_kept hM (fun i hi9 => hk1 _ (mo_lt hM hi9) (hap _ ⟨i, hi9, rfl⟩))
  refine lv_aload_n hx hb dL_law_796 rfl (lv_at hl 2 rfl) ?_
  refine lv_aload_n hx hb dL_law_797 rfl (lv_at hl 0 rfl) ?_
  refine lv_iload_n hx hb dL_law_798 rfl (lv_at hl 3 rfl) ?_
  refine lv_iconst (v := 1) hx hb dL_law_799 (by decide) ?_
  refine lv_iadd hx hb dL_law_800 ?_
  refine va_sld hx hb hX hbl hbA hS (ld_in (q := 1) hj (by decide) hL) dL_law_801 ?_
  refine kX8_fault hF (cwV 1 hts gL_law_X8_fault rfl rfl rfl hdX8_fault ⟨Nat.le_of_ble_eq_true rfl, Nat.le_of_ble_eq_true rfl⟩) hC hM hi hB.I hB.2.2.1 hS hA8 hl.1 (Nat.le_of_ble_eq_true rfl) dL_law_802 ⟨Nat.le_of_ble_eq_true rfl, Nat.le_of_ble_eq_true rfl⟩ (fun H2 locs2 hM2 hz2 hk2 hS => ?_)
  have hY2 := Sys.kp (H1 := H2) hY1 (fun q hq hlt => hk2 q hlt (fun z => hap q z hq))
  have heq := (pub_fault hB (xs (nI j + 1).toNatClampNeg)).1
  refine lv_icmp_eq (tgt := 823) hx hb dL_law_805 (by decide) (fun _ => ?_) (fun z => absurd heq z)
  exact k (zX7_fault Ω (xs (nI j + 1).toNatClampNeg)).2 (zX8_fault μ (xs (nI j + 1).toNatClampNeg)).2 H2 locs2 ⟨hC, hY2, hJ, hM2, hi, (pub_fault hB (xs (nI j + 1).toNatClampNeg)).2, hap, hA7, hA8, hS, hZ⟩
set_option maxHeartbeats 4000000 in
set_option maxRecDepth 100000 in
theorem lc_play {p : Program} {l : Launch} {e : Env} {s : State} {m : MethodId} {below : List Frame} {meth : Method} {c : Code} {b L : Nat} {xs : Nat → Int32} (hL : L ≤ 2048) (C0 : lw_At p s m meth c b L xs) {D : va_G} {y : Y3} {ob : Nat → Nat} {AD : Nat → Nat → Nat} {mo : Nat → Nat} {tM tF : Nat} {Ω : Og} {μ : Sg} {H : Heap} {locs : List Loc} {j : Nat} (hj : j + 3 < L) (hI : LwI D y ob AD mo tM tF s Ω μ H locs) {ls : Array Slot} (hl : lv_has ls 4 [(0, .ref b), (1, .ref (ob 0)), (2, .ref (mo 0)), (3, .int (nI j))])
    (k : ∀ (Ω2 : Og) (μ2 : Sg) (H2 : Heap) (locs2 : List Loc), LwI D y ob AD mo tM tF s Ω2 μ2 H2 locs2 → W p l e room_1 s m #[Value.ref b] below meth c H2 locs2 79 3938 (lw_Z below #[Value.ref b] s) (F0 m 823 ls [])) : W p l e room_1 s m #[Value.ref b] below meth c H locs 79 3938 (lw_Z below #[Value.ref b] s) (F0 m 810 ls []) := by
  obtain ⟨hx, hb, hr, hml, hown, hts0, hX, hbl, hlocks, hgv⟩ := C0
  have hb : c.code = cL_law := hb
  have hown : s.vm.findClass RL = some m.cls := hown
  have hts := law_hts hts0
  obtain ⟨hC, hY, hJ, hM, hi, hB, hap, hA7, hA8, hS, hZ⟩ := hI
  have hbA : ¬ (fun q : Nat => s.heap.size ≤ q) b := Nat.not_le.mpr hbl
  have hF := (⟨hx, hb, hml, hown, hts⟩ : CallFix p m c cL_law 4 s _ wsL_law RL)
  refine lv_aload_n hx hb dL_law_810 rfl (lv_at hl 1 rfl) ?_
  refine kX7_play hF (cwV 0 hts gL_law_X7_play rfl rfl rfl hdX7_play ⟨Nat.le_of_ble_eq_true rfl, Nat.le_of_ble_eq_true rfl⟩) hC hY hJ hB.1 hS hA7 hl.1 (Nat.le_of_ble_eq_true rfl) dL_law_811 ⟨Nat.le_of_ble_eq_true rfl, Nat.le_of_ble_eq_true rfl⟩ (fun H1 locs1 hY1 hz1 hk1 hS => ?_)
  have hM := mo_kept hM (fun i hi9 => hk1 _ (mo_lt hM hi9) (hap _ ⟨i, hi9, rfl⟩))
  refine lv_aload_n hx hb dL_law_814 rfl (lv_at hl 2 rfl) ?_
  refine kX8_play hF (cwV 0 hts gL_law_X8_play rfl rfl rfl hdX8_play ⟨Nat.le_of_ble_eq_true rfl, Nat.le_of_ble_eq_true rfl⟩) hC hM hi hB.I (big_r hB) hB.2.2.1 hS hA8 hl.1 (Nat.le_of_ble_eq_true rfl) dL_law_815 ⟨Nat.le_of_ble_eq_true rfl, Nat.le_of_ble_eq_true rfl⟩ (fun H2 locs2 hM2 hz2 hk2 hS => ?_)
  have hY2 := Sys.kp (H1 := H2) hY1 (fun q hq hlt => hk2 q hlt (fun z => hap q z hq))
  have heq := (pub_play hB ).1
  refine lv_icmp_eq (tgt := 823) hx hb dL_law_818 (by decide) (fun _ => ?_) (fun z => absurd heq z)
  exact k (zX7_play Ω ).2 (zX8_play μ ).2 H2 locs2 ⟨hC, hY2, hJ, hM2, hi, (pub_play hB ).2, hap, hA7, hA8, hS, hZ⟩
