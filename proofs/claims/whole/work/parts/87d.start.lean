/-! THE LAW'S START -/
set_option maxHeartbeats 8000000 in
set_option maxRecDepth 100000 in
theorem whole_start {p : Program} {e : Env} {s : State} {m : MethodId} {below : List Frame} {meth : Method} {c : Code} (l : Launch) (hflags : l.flags = flags0) {b L : Nat} {xs : Nat → Int32} (hL : L ≤ 2048) (C0 : lw_At p s m meth c b L xs) : W p l e room_1 s m #[Value.ref b] below meth c s.heap [] 0 0 (lw_Z below #[Value.ref b] s) (entryFrame m ([Value.ref b] : List Value).toArray 4) := by
  obtain ⟨hx, hb, hr, hml, hown, hts0, hX, hbl, hlocks, hgv⟩ := id C0
  have hb : c.code = cL_law := hb
  have hown : s.vm.findClass RL = some m.cls := hown
  have hts := law_hts hts0
  have hF := (⟨hx, hb, hml, hown, hts⟩ : CallFix p m c cL_law 4 s _ wsL_law RL)
  obtain ⟨D, y, hC⟩ := ck_of hts0
  obtain ⟨tM, tF, hZ⟩ := stm_of hts0 hgv
  have hAO := ao_of hts0
  have hA : ∀ q : Nat, s.heap.size ≤ q → (fun q : Nat => s.heap.size ≤ q) q := fun _ h => h
  have hS : va_S (fun q : Nat => s.heap.size ≤ q) s.heap s.heap [] := va_S.rf
  have hP : va_P D vwCl [] s.heap := fun k q h => by simp at h
  have hD : va_D (fun q : Nat => s.heap.size ≤ q) [] := ⟨fun i j p q h => by simp at h, fun k q h => by simp at h⟩
  have hl := lv_entry ([.ref b]) (n := 4) (Nat.le_of_ble_eq_true rfl)
  rw [lg_entry_eq]
  generalize (lg_sl ([.ref b]) ++ List.replicate (4 - (lg_sl ([.ref b])).length) Slot.unset).toArray = ls at hl ⊢
  have hl : lv_has ls 4 [(0, .ref b)] := hl
  refine va_new (ci := 7) (fs := [.null, .null, .null, .null, .null, .null, .null]) (C := RX7) (T := TX7) (N := 7) hx hb hts0 liX7 tyX7 tyX7_ok hown (hts0 (.classLink RL 7 RX7) (List.mem_of_getElem? (i := 77) (by decide +kernel))) (hts0 (.instantiable RX7 7) (List.mem_of_getElem? (i := 78) (by decide +kernel))) (hts0 (.initialized RX7) (List.mem_of_getElem? (i := 65) (by decide +kernel))) hC.1 hP hD hS hA rfl (fun j hj => by rcases (show j = 0 ∨ j = 1 ∨ j = 2 ∨ j = 3 ∨ j = 4 ∨ j = 5 ∨ j = 6 by omega) with rfl | rfl | rfl | rfl | rfl | rfl | rfl <;> rfl) (Nat.le_of_ble_eq_true rfl) (Nat.le_of_ble_eq_true rfl) dL_law_0 (fun q0 H hP hD hS => ?_)
  have hP : va_P D vwCl [(q0, .inr (7, [.null, .null, .null, .null, .null, .null, .null]))] H := hP
  have hD : va_D (fun q : Nat => s.heap.size ≤ q) [(q0, .inr (7, [.null, .null, .null, .null, .null, .null, .null]))] := hD
  refine lv_dup hx hb dL_law_3 rfl ?_
  have hPc := hP.sub (ws' := [(q0, .inr (7, [.null, .null, .null, .null, .null, .null, .null]))]) [0] rfl
  have hDc := hD.sub (ws' := [(q0, .inr (7, [.null, .null, .null, .null, .null, .null, .null]))]) [0] (by decide) rfl
  have hFc := va_free (wc := [(q0, .inr (7, [.null, .null, .null, .null, .null, .null, .null]))]) hD hS hA [0] rfl
  have hZ9 := hZ.at_ hS (fun _ h => h)
  refine va_callv (va_runI (As := []) (rest := [.ref q0]) hF (mX7_init l D y q0 s.heap.size tM tF H.size) (cwI 0 hts gL_law_X7_init rfl rfl rfl (hts0 (.initialized RX7) (List.mem_of_getElem? (i := 65) (by decide +kernel))) (hts0 (.methodLink RL 9 yX7_init) (List.mem_of_getElem? (i := 79) (by decide +kernel))) (hts0 (.instanceMethod yX7_init) (List.mem_of_getElem? (i := 80) (by decide +kernel))) rfl (by decide +kernel) ⟨Nat.le_of_ble_eq_true rfl, Nat.le_of_ble_eq_true rfl⟩) ⟨fun a U g mk q => by obtain ⟨q0, q1, q2, q3, q9, q4, q5, q6⟩ := q; exact ⟨q0, q1.call g mk a, q2, q3, q9, q4.call g mk a, va_AO.moved (u := U) (U := U.calling g mk a) (Vm.Alike.refl U.vm) q5, q6⟩, fun U hU hW => ⟨rfl, hC.warm hW, by rw [hU], by rw [hU]; exact hPc, hDc.weaken (fun _ _ _ _ => trivial), by rw [hU]; exact hZ9.warm hW, va_AO.moved hW.alike hAO, ⟨hD.2 0 _ rfl, hS.1⟩⟩⟩ rfl rfl hl.1 rfl (lv_room (Nat.le_of_ble_eq_true rfl)) dL_law_4 ⟨Nat.le_of_ble_eq_true rfl, Nat.le_of_ble_eq_true rfl⟩) hS (fun q _ h => hFc q h) hFc (fun u t H1 locs ht hvm hu9 hB hz1 hk1 hS => ?_)
  obtain ⟨hP1, hD1⟩ := hB
  rw [ht] at hP1
  obtain ⟨hP2, hD2⟩ := va_join (wr := []) (w1 := bigW y u.1 u.2) hP hD [0] [] rfl rfl (by decide) (by decide) hk1 hFc hP1 hD1
  clear hP hD hPc hDc hFc hk1 hP1 hD1 hZ9 hz1
  generalize H1 = H at hP2 hS ⊢
  obtain ⟨ob, AD⟩ := u
  have hu9 : ob 0 = q0 := hu9
  subst hu9
  have hP : va_P D vwCl (bigW y ob AD) H := hP2
  have hD : va_D (fun q : Nat => s.heap.size ≤ q) (bigW y ob AD) := hD2
  refine lv_astore_n (lv' := [(1, .ref (ob 0)), (0, .ref b)]) hx hb dL_law_7 rfl hl (by decide) rfl (fun ls hl => ?_)
  refine va_new (ci := 8) (fs := [.null, .null, .null, .int 0, .null, .int 0, .int 0, .int 0, .int 0, .int 0]) (C := RX8) (T := TX8) (N := 10) hx hb hts0 liX8 tyX8 tyX8_ok hown (hts0 (.classLink RL 10 RX8) (List.mem_of_getElem? (i := 706) (by decide +kernel))) (hts0 (.instantiable RX8 10) (List.mem_of_getElem? (i := 707) (by decide +kernel))) (hts0 (.initialized RX8) (List.mem_of_getElem? (i := 74) (by decide +kernel))) hC.1 hP hD hS hA rfl (fun j hj => by rcases (show j = 0 ∨ j = 1 ∨ j = 2 ∨ j = 3 ∨ j = 4 ∨ j = 5 ∨ j = 6 ∨ j = 7 ∨ j = 8 ∨ j = 9 by omega) with rfl | rfl | rfl | rfl | rfl | rfl | rfl | rfl | rfl | rfl <;> rfl) (Nat.le_of_ble_eq_true rfl) (Nat.le_of_ble_eq_true rfl) dL_law_8 (fun q1 H hP hD hS => ?_)
  have hP : va_P D vwCl (bigW y ob AD ++ [(q1, .inr (8, [.null, .null, .null, .int 0, .null, .int 0, .int 0, .int 0, .int 0, .int 0]))]) H := hP
  have hD : va_D (fun q : Nat => s.heap.size ≤ q) (bigW y ob AD ++ [(q1, .inr (8, [.null, .null, .null, .int 0, .null, .int 0, .int 0, .int 0, .int 0, .int 0]))]) := hD
  refine lv_dup hx hb dL_law_11 rfl ?_
  have hPc := hP.sub (ws' := [(q1, .inr (8, [.null, .null, .null, .int 0, .null, .int 0, .int 0, .int 0, .int 0, .int 0]))]) [74] rfl
  have hDc := hD.sub (ws' := [(q1, .inr (8, [.null, .null, .null, .int 0, .null, .int 0, .int 0, .int 0, .int 0, .int 0]))]) [74] (by decide) rfl
  have hFc := va_free (wc := [(q1, .inr (8, [.null, .null, .null, .int 0, .null, .int 0, .int 0, .int 0, .int 0, .int 0]))]) hD hS hA [74] rfl
  refine va_callv (va_runI (As := []) (rest := [.ref q1]) hF (mX8_init l D y q1 H.size) (cwI 0 hts gL_law_X8_init rfl rfl rfl (hts0 (.initialized RX8) (List.mem_of_getElem? (i := 74) (by decide +kernel))) (hts0 (.methodLink RL 12 yX8_init) (List.mem_of_getElem? (i := 708) (by decide +kernel))) (hts0 (.instanceMethod yX8_init) (List.mem_of_getElem? (i := 709) (by decide +kernel))) rfl (by decide +kernel) ⟨Nat.le_of_ble_eq_true rfl, Nat.le_of_ble_eq_true rfl⟩) ⟨fun a U g mk q => by obtain ⟨q0, q1, q2, q3, q9⟩ := q; exact ⟨q0, q1.call g mk a, q2, q3, q9⟩, fun U hU hW => ⟨rfl, hC.warm hW, by rw [hU], by rw [hU]; exact hPc, hDc.weaken (fun _ _ _ _ => trivial)⟩⟩ rfl rfl hl.1 rfl (lv_room (Nat.le_of_ble_eq_true rfl)) dL_law_12 ⟨Nat.le_of_ble_eq_true rfl, Nat.le_of_ble_eq_true rfl⟩) hS (fun q _ h => hFc q h) hFc (fun mo t H1 locs ht hvm hu9 hB hz1 hk1 hS => ?_)
  obtain ⟨hP1, hD1⟩ := hB
  rw [ht] at hP1
  obtain ⟨hP2, hD2⟩ := va_join (wr := bigW y ob AD) (w1 := moW y.1 mo mu00) hP hD [74] (List.range 74) rfl rfl (by decide +kernel) (by decide +kernel) hk1 hFc hP1 hD1
  clear hP hD hPc hDc hFc hk1 hP1 hD1 hz1
  generalize H1 = H at hP2 hS ⊢
  have hu9 : mo 0 = q1 := hu9
  subst hu9
  have hP : va_P D vwCl (allW y ob AD mo) H := hP2
  have hD : va_D (fun q : Nat => s.heap.size ≤ q) (allW y ob AD mo) := hD2
  refine lv_astore_n (lv' := [(2, .ref (mo 0)), (1, .ref (ob 0)), (0, .ref b)]) hx hb dL_law_15 rfl hl (by decide) rfl (fun ls hl => ?_)
  refine lv_iconst (v := 0) hx hb dL_law_16 (by decide) ?_
  refine lv_istore_n (lv' := [(3, .int 0), (2, .ref (mo 0)), (1, .ref (ob 0)), (0, .ref b)]) hx hb dL_law_17 rfl hl (by decide) rfl (fun ls hl => ?_)
  refine W.widen (k := 79) (n := 3938) (Nat.le_of_ble_eq_true rfl) (Nat.le_of_ble_eq_true rfl) ?_
  have hl : lv_has ls 4 [(0, .ref b), (1, .ref (ob 0)), (2, .ref (mo 0)), (3, .int (nI 0))] := by rw [nI_0]; exact lv_sub hl [3, 2, 1, 0] rfl
  obtain ⟨hY, hM⟩ := all_sys hP
  obtain ⟨hJ, hi, hap, hA7, hA8⟩ := all_apart hD
  exact law_loop hL C0 (L + 1) 0 (Nat.zero_le L) (by omega) og00 mu00 _ _ ⟨hC, hY, hJ, hM, hi, big00, hap, hA7, hA8, hS, hZ⟩ ls hl
