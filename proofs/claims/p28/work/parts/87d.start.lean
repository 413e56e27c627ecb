/-! THE LAW'S START -/
theorem invn_0 : InvN sg00 0 0 0 0 0 (24 * 0) (fun _ => 0) := inv_n0
theorem arg_8 (x : Int32) : ∃ c : Nat, 1 ≤ c ∧ c ≤ 8 ∧ ((1 : Int32) + (zL_low x 8)) = nI c := by
  obtain ⟨k, h1, h2⟩ := low_n x (d := 8) (by decide) (by decide)
  have h2 : zL_low x 8 = nI k := h2
  refine ⟨1 + k, by omega, by omega, ?_⟩
  rw [h2, ← nI_add]
  rfl
theorem arg_7 (z : Int32) : ∃ j : Nat, j ≤ 31 ∧ (z &&& 7) = nI j := by
  refine ⟨(z &&& 7).toBitVec.toNat, ?_, ?_⟩
  · rw [Int32.toBitVec_and, BitVec.toNat_and]
    exact Nat.le_trans Nat.and_le_right (by decide)
  · refine bt_ext (fun k hk => ?_)
    rw [bt_nI (BitVec.isLt _)]
    rfl
section
variable {Ω : Og} {nl nm np nv t B : Nat} {W : Nat → Nat}
theorem un_go (hI : InvO Ω) (h : InvN (Ω 0) nl nm np nv t B W) (hz : hZn Ω = 0) : (zX7_undo Ω).1 = -2 ∧ InvO (zX7_undo Ω).2 ∧ InvN ((zX7_undo Ω).2 0) nl nm np nv t B W := by
  obtain ⟨a, -, b, c⟩ := pub_undo hI
  rw [if_pos hz] at b c
  exact ⟨b, a, by rw [c]; exact h⟩
theorem lk_go {x1 x2 : Int32} (hI : InvO Ω) (h : InvN (Ω 0) nl nm np nv t B W) (hn : nl < 5) (h1 : ∃ c : Nat, 1 ≤ c ∧ c ≤ 8 ∧ x1 = nI c) (h2 : ∃ b : Nat, b ≤ 1 ∧ x2 = nI b) : (zX7_locker Ω x1 x2).1 = nI nl ∧ InvO (zX7_locker Ω x1 x2).2 ∧ InvN ((zX7_locker Ω x1 x2).2 0) (nl + 1) nm np nv t B W := by
  obtain ⟨c, c1, c2, rfl⟩ := h1
  obtain ⟨b, b1, rfl⟩ := h2
  obtain ⟨p1, p2, p3, p4, p5⟩ := pub_locker hI (nI c) (nI b)
  have w1 : zX7_isWithin (nI c) 1 8 = 1 := (wi_f (a := 1) (b := 8) (by omega) (by decide) (by decide)).trans (if_pos (by omega))
  have w2 : zX7_isWithin (nI b) 0 1 = 1 := (wi_f (a := 0) (b := 1) (by omega) (by decide) (by decide)).trans (if_pos (by omega))
  rcases op_locker h (nI c) (nI b) with ⟨e, -⟩ | ⟨-, -, e, -⟩ | ⟨-, -, -, e, k⟩
  · rw [w1, w2] at e; exact absurd e (by decide)
  · omega
  · exact ⟨p1.trans e, p2, by rw [p5 (by rw [e]; exact nI_pos (by omega))]; exact k⟩
theorem pe_go {x1 : Int32} (hI : InvO Ω) (h : InvN (Ω 0) nl nm np nv t B W) (hn : np < 8) (h1 : ∃ c : Nat, c ≤ 31 ∧ x1 = nI c) : (zX7_person Ω x1).1 = nI np ∧ InvO (zX7_person Ω x1).2 ∧ InvN ((zX7_person Ω x1).2 0) nl nm (np + 1) nv t B W := by
  obtain ⟨c, c1, rfl⟩ := h1
  obtain ⟨p1, p2, p3, p4, p5⟩ := pub_person hI (nI c)
  have w1 : zX7_isWithin (nI c) 0 31 = 1 := (wi_f (a := 0) (b := 31) (by omega) (by decide) (by decide)).trans (if_pos (by omega))
  rcases op_person h (nI c) with ⟨e, -⟩ | ⟨-, e, -⟩ | ⟨-, -, e, k⟩
  · rw [w1] at e; exact absurd e (by decide)
  · omega
  · exact ⟨p1.trans e, p2, by rw [p5 (by rw [e]; exact nI_pos (by omega))]; exact k⟩
theorem vo_go {x1 x2 : Int32} (hI : InvO Ω) (h : InvN (Ω 0) nl nm np nv t B W) (hn : nv < 3) (h1 : ∃ c : Nat, c < nl ∧ x1 = nI c) (h2 : ∃ b : Nat, 1 ≤ b ∧ b ≤ 4 ∧ x2 = nI b) : (zX7_volunteer Ω x1 x2).1 = nI nv ∧ InvO (zX7_volunteer Ω x1 x2).2 ∧ InvN ((zX7_volunteer Ω x1 x2).2 0) nl nm np (nv + 1) t B W := by
  obtain ⟨c, c1, rfl⟩ := h1
  obtain ⟨b, b1, b2, rfl⟩ := h2
  obtain ⟨p1, p2, p3, p4, p5⟩ := pub_volunteer hI (nI c) (nI b)
  have hl := h.1.2.2.2.2.2.1
  have w1 : zX5_has (Ω 0 5 0) (nI c) = 1 := by rw [h.1.1, has_f (by omega) (by omega), if_pos c1]
  have w2 : zX7_isWithin (nI b) 1 4 = 1 := (wi_f (a := 1) (b := 4) (by omega) (by decide) (by decide)).trans (if_pos (by omega))
  rcases op_volunteer h (nI c) (nI b) with ⟨e, -⟩ | ⟨-, -, e, -⟩ | ⟨-, -, -, e, k⟩
  · rw [w1, w2] at e; exact absurd e (by decide)
  · omega
  · exact ⟨p1.trans e, p2, by rw [p5 (by rw [e]; exact nI_pos (by omega))]; exact k⟩
end
set_option maxHeartbeats 8000000 in
set_option maxRecDepth 100000 in
theorem whole_start {p : Program} {e : Env} {s : State} {m : MethodId} {below : List Frame} {meth : Method} {c : Code} (l : Launch) (hflags : l.flags = flags0) {b L : Nat} {xs : Nat → Int32} (hL : L ≤ 260) (C0 : lw_At p s m meth c b L xs) : W p l e room_1 s m #[Value.ref b] below meth c s.heap [] 0 0 (lw_Z below #[Value.ref b] s) (entryFrame m ([Value.ref b] : List Value).toArray 12) := by
  obtain ⟨hx, hb, hr, hml, hown, hts0, hX, hbl, hlocks, hgv⟩ := id C0
  have hb : c.code = cL_law := hb
  have hown : s.vm.findClass RL = some m.cls := hown
  have hts := law_hts hts0
  have hF := (⟨hx, hb, hml, hown, hts⟩ : CallFix p m c cL_law 12 s _ wsL_law RL)
  obtain ⟨D, y, hC⟩ := ck_of hts0
  obtain ⟨tM, tF, hZ⟩ := stm_of hts0 hgv
  have hAO := ao_of hts0
  have hA : ∀ q : Nat, s.heap.size ≤ q → (fun q : Nat => s.heap.size ≤ q) q := fun _ h => h
  have hS : va_S (fun q : Nat => s.heap.size ≤ q) s.heap s.heap [] := va_S.rf
  have hP : va_P D vwCl [] s.heap := fun k q h => by simp at h
  have hD : va_D (fun q : Nat => s.heap.size ≤ q) [] := ⟨fun i j p q h => by simp at h, fun k q h => by simp at h⟩
  have hl := lv_entry ([.ref b]) (n := 12) (Nat.le_of_ble_eq_true rfl)
  rw [lg_entry_eq]
  generalize (lg_sl ([.ref b]) ++ List.replicate (12 - (lg_sl ([.ref b])).length) Slot.unset).toArray = ls at hl ⊢
  have hl : lv_has ls 12 [(0, .ref b)] := hl
  refine va_new (ci := 7) (fs := [.null, .null, .null, .null, .null, .null, .null]) (C := RX7) (T := TX7) (N := 7) hx hb hts0 liX7 tyX7 tyX7_ok hown (hts0 (.classLink RL 14 RX7) (List.mem_of_getElem? (i := 26) (by decide +kernel))) (hts0 (.instantiable RX7 7) (List.mem_of_getElem? (i := 27) (by decide +kernel))) (hts0 (.initialized RX7) (List.mem_of_getElem? (i := 16) (by decide +kernel))) hC.1 hP hD hS hA rfl (fun j hj => by rcases (show j = 0 ∨ j = 1 ∨ j = 2 ∨ j = 3 ∨ j = 4 ∨ j = 5 ∨ j = 6 by omega) with rfl | rfl | rfl | rfl | rfl | rfl | rfl <;> rfl) (Nat.le_of_ble_eq_true rfl) (Nat.le_of_ble_eq_true rfl) dL_law_0 (fun q0 H hP hD hS => ?_)
  have hP : va_P D vwCl [(q0, .inr (7, [.null, .null, .null, .null, .null, .null, .null]))] H := hP
  have hD : va_D (fun q : Nat => s.heap.size ≤ q) [(q0, .inr (7, [.null, .null, .null, .null, .null, .null, .null]))] := hD
  refine lv_dup hx hb dL_law_3 rfl ?_
  have hPc := hP.sub (ws' := [(q0, .inr (7, [.null, .null, .null, .null, .null, .null, .null]))]) [0] rfl
  have hDc := hD.sub (ws' := [(q0, .inr (7, [.null, .null, .null, .null, .null, .null, .null]))]) [0] (by decide) rfl
  have hFc := va_free (wc := [(q0, .inr (7, [.null, .null, .null, .null, .null, .null, .null]))]) hD hS hA [0] rfl
  have hZ9 := hZ.at_ hS (fun _ h => h)
  refine va_callv (va_runI (As := []) (rest := [.ref q0]) hF (mX7_init l D y q0 s.heap.size tM tF H.size) (cwI 0 hts gL_law_X7_init rfl rfl rfl (hts0 (.initialized RX7) (List.mem_of_getElem? (i := 16) (by decide +kernel))) (hts0 (.methodLink RL 98 yX7_init) (List.mem_of_getElem? (i := 28) (by decide +kernel))) (hts0 (.instanceMethod yX7_init) (List.mem_of_getElem? (i := 29) (by decide +kernel))) rfl (by decide +kernel) ⟨Nat.le_of_ble_eq_true rfl, Nat.le_of_ble_eq_true rfl⟩) ⟨fun a U g mk q => by obtain ⟨q0, q1, q2, q3, q9, q4, q5, q6⟩ := q; exact ⟨q0, q1.call g mk a, q2, q3, q9, q4.call g mk a, va_AO.moved (u := U) (U := U.calling g mk a) (Vm.Alike.refl U.vm) q5, q6⟩, fun U hU hW => ⟨rfl, hC.warm hW, by rw [hU], by rw [hU]; exact hPc, hDc.weaken (fun _ _ _ _ => trivial), by rw [hU]; exact hZ9.warm hW, va_AO.moved hW.alike hAO, ⟨hD.2 0 _ rfl, hS.1⟩⟩⟩ rfl rfl hl.1 rfl (lv_room (Nat.le_of_ble_eq_true rfl)) dL_law_4 ⟨Nat.le_of_ble_eq_true rfl, Nat.le_of_ble_eq_true rfl⟩) hS (fun q _ h => hFc q h) hFc (fun u t H1 locs ht hvm hu9 hB hz1 hk1 hS => ?_)
  obtain ⟨hP1, hD1⟩ := hB
  rw [ht] at hP1
  obtain ⟨hP2, hD2⟩ := va_join (wr := []) (w1 := bigW y u.1 u.2) hP hD [0] [] rfl rfl (by decide) (by decide) hk1 hFc hP1 hD1
  clear hP hD hPc hDc hFc hk1 hP1 hD1 hZ9 hz1
  generalize H1 = H at hP2 hS ⊢
  obtain ⟨ob, AD⟩ := u
  have hu9 : ob 0 = q0 := hu9
  subst hu9
  have hP : va_P D vwCl (bigW y ob AD) H := hP2
  have hD : va_D (fun q : Nat => s.heap.size ≤ q) (bigW y ob AD) := hD2
  refine lv_astore_n (lv' := [(1, .ref (ob 0)), (0, .ref b)]) hx hb dL_law_7 rfl hl (by decide) rfl (fun ls hl => ?_)
  obtain hY := all_sys hP
  obtain ⟨hJ, hA7⟩ := all_apart hD
  refine W.widen (k := 79) (n := 3938) (Nat.le_of_ble_eq_true rfl) (Nat.le_of_ble_eq_true rfl) ?_
  have hbA : ¬ (fun q : Nat => s.heap.size ≤ q) b := Nat.not_le.mpr hbl
  have hI := inv00
  have hOk := hI.1
  generalize hΩ : og00 = Ω at hY hI hOk
  have hN : InvN (Ω 0) 0 0 0 0 0 (24 * 0) (fun _ => 0) := by rw [← hΩ]; exact invn_0
  have hz : hZn Ω = 0 := by rw [← hΩ]; rfl
  clear hΩ
  refine lv_aload_n hx hb dL_law_8 rfl (lv_at hl 1 rfl) ?_
  refine lv_iconst (v := 0) hx hb dL_law_9 (by decide) ?_
  refine kL_lot (b := b) (L := L) (xs := xs) (k := 0) hF (va_cwS 2 hts gL_law_L_lot rfl rfl rfl hdL_lot ⟨Nat.le_of_ble_eq_true rfl, Nat.le_of_ble_eq_true rfl⟩) hC (hX.kept (hS.2.1 b hbl hbA)) ⟨by omega, hL⟩ hl.1 (Nat.le_of_ble_eq_true rfl) dL_law_10 ⟨Nat.le_of_ble_eq_true rfl, Nat.le_of_ble_eq_true rfl⟩ ?_
  generalize zL_lot L xs (0) = x_1
  refine lv_istore_n (lv' := [(2, .int x_1), (1, .ref (ob 0)), (0, .ref b)]) hx hb dL_law_13 rfl hl (by decide) rfl (fun ls hl => ?_)
  refine lv_aload_n hx hb dL_law_14 rfl (lv_at hl 1 rfl) ?_
  refine kL_holds hF (va_cwS 1 hts gL_law_L_holds rfl rfl rfl hdL_holds ⟨Nat.le_of_ble_eq_true rfl, Nat.le_of_ble_eq_true rfl⟩) hC hY hJ hOk (holds_ok (hI.2.1 0 (by decide) (by decide))).2 (holds_ok (hI.2.1 0 (by decide) (by decide))).1 hS hA7 hl.1 (Nat.le_of_ble_eq_true rfl) dL_law_15 ⟨Nat.le_of_ble_eq_true rfl, Nat.le_of_ble_eq_true rfl⟩ (fun r9 u9 H locs hq hY hS => ?_)
  obtain ⟨hr9, hu9⟩ := hq
  rw [hu9] at hY
  rw [hr9]
  clear hr9 hu9
  refine lv_if_eq (tgt := 108) hx hb dL_law_18 (by decide) (fun c_2 => absurd c_2 (by decide)) (fun _ => ?_)
  refine lv_aload_n hx hb dL_law_21 rfl (lv_at hl 1 rfl) ?_
  refine kX7_undo hF (cwV 0 hts gL_law_X7_undo rfl rfl rfl hdX7_undo ⟨Nat.le_of_ble_eq_true rfl, Nat.le_of_ble_eq_true rfl⟩) hC hY hJ hOk hS hA7 hl.1 (Nat.le_of_ble_eq_true rfl) dL_law_22 ⟨Nat.le_of_ble_eq_true rfl, Nat.le_of_ble_eq_true rfl⟩ (fun H locs hY _ _ hS => ?_)
  obtain ⟨eA, hI, hN⟩ := un_go hI hN hz
  rw [eA]
  generalize (zX7_undo Ω).2 = Ω_3 at hY hI hN
  clear eA
  have hOk := hI.1
  refine lv_bipush (v := (-2)) hx hb dL_law_25 (by decide) ?_
  refine lv_icmp_ne (tgt := 108) hx hb dL_law_27 (by decide) (fun c_4 => absurd c_4 (fun z => z rfl)) (fun _ => ?_)
  refine lv_aload_n hx hb dL_law_30 rfl (lv_at hl 1 rfl) ?_
  refine lv_iconst (v := 1) hx hb dL_law_31 (by decide) ?_
  refine lv_iload_n hx hb dL_law_32 rfl (lv_at hl 0 rfl) ?_
  refine lv_bipush (v := 8) hx hb dL_law_33 (by decide) ?_
  refine kL_low (x1 := x_1) (x2 := 8) hF (va_cwS 2 hts gL_law_L_low rfl rfl rfl hdL_low ⟨Nat.le_of_ble_eq_true rfl, Nat.le_of_ble_eq_true rfl⟩) hC (by decide) hl.1 (Nat.le_of_ble_eq_true rfl) dL_law_35 ⟨Nat.le_of_ble_eq_true rfl, Nat.le_of_ble_eq_true rfl⟩ ?_
  refine lv_iadd hx hb dL_law_38 ?_
  refine lv_iconst (v := 0) hx hb dL_law_39 (by decide) ?_
  refine kX7_locker hF (cwV 2 hts gL_law_X7_locker rfl rfl rfl hdX7_locker ⟨Nat.le_of_ble_eq_true rfl, Nat.le_of_ble_eq_true rfl⟩) hC hY hJ hOk hS hA7 hl.1 (Nat.le_of_ble_eq_true rfl) dL_law_40 ⟨Nat.le_of_ble_eq_true rfl, Nat.le_of_ble_eq_true rfl⟩ (fun H locs hY _ _ hS => ?_)
  obtain ⟨eA, hI, hN⟩ := lk_go (x1 := ((1 : Int32) + (zL_low x_1 8))) (x2 := 0) hI hN (by decide) (arg_8 x_1) ⟨0, by decide, rfl⟩
  rw [eA]
  generalize (zX7_locker Ω_3 ((1 : Int32) + (zL_low x_1 8)) 0).2 = Ω_5 at hY hI hN
  clear eA
  have hOk := hI.1
  refine lv_if_ne (tgt := 108) hx hb dL_law_43 (by decide) (fun c_6 => absurd c_6 (fun z => z rfl)) (fun _ => ?_)
  refine lv_aload_n hx hb dL_law_46 rfl (lv_at hl 1 rfl) ?_
  refine lv_iconst (v := 1) hx hb dL_law_47 (by decide) ?_
  refine lv_iload_n hx hb dL_law_48 rfl (lv_at hl 0 rfl) ?_
  refine lv_iconst (v := 3) hx hb dL_law_49 (by decide) ?_
  refine lv_ishr hx hb dL_law_50 ?_
  refine lv_bipush (v := 8) hx hb dL_law_51 (by decide) ?_
  refine kL_low (x1 := (x_1 >>> (3 &&& 31))) (x2 := 8) hF (va_cwS 2 hts gL_law_L_low rfl rfl rfl hdL_low ⟨Nat.le_of_ble_eq_true rfl, Nat.le_of_ble_eq_true rfl⟩) hC (by decide) hl.1 (Nat.le_of_ble_eq_true rfl) dL_law_53 ⟨Nat.le_of_ble_eq_true rfl, Nat.le_of_ble_eq_true rfl⟩ ?_
  refine lv_iadd hx hb dL_law_56 ?_
  refine lv_iconst (v := 1) hx hb dL_law_57 (by decide) ?_
  refine kX7_locker hF (cwV 2 hts gL_law_X7_locker rfl rfl rfl hdX7_locker ⟨Nat.le_of_ble_eq_true rfl, Nat.le_of_ble_eq_true rfl⟩) hC hY hJ hOk hS hA7 hl.1 (Nat.le_of_ble_eq_true rfl) dL_law_58 ⟨Nat.le_of_ble_eq_true rfl, Nat.le_of_ble_eq_true rfl⟩ (fun H locs hY _ _ hS => ?_)
  obtain ⟨eA, hI, hN⟩ := lk_go (x1 := ((1 : Int32) + (zL_low (x_1 >>> (3 &&& 31)) 8))) (x2 := 1) hI hN (by decide) (arg_8 (x_1 >>> (3 &&& 31))) ⟨1, by decide, rfl⟩
  rw [eA]
  generalize (zX7_locker Ω_5 ((1 : Int32) + (zL_low (x_1 >>> (3 &&& 31)) 8)) 1).2 = Ω_7 at hY hI hN
  clear eA
  have hOk := hI.1
  refine lv_iconst (v := 1) hx hb dL_law_61 (by decide) ?_
  refine lv_icmp_ne (tgt := 108) hx hb dL_law_62 (by decide) (fun c_8 => absurd c_8 (fun z => z rfl)) (fun _ => ?_)
  refine lv_aload_n hx hb dL_law_65 rfl (lv_at hl 1 rfl) ?_
  refine lv_iload_n hx hb dL_law_66 rfl (lv_at hl 0 rfl) ?_
  refine lv_bipush (v := 6) hx hb dL_law_67 (by decide) ?_
  refine lv_ishr hx hb dL_law_69 ?_
  refine lv_bipush (v := 7) hx hb dL_law_70 (by decide) ?_
  refine lv_iand hx hb dL_law_72 ?_
  refine kX7_person hF (cwV 1 hts gL_law_X7_person rfl rfl rfl hdX7_person ⟨Nat.le_of_ble_eq_true rfl, Nat.le_of_ble_eq_true rfl⟩) hC hY hJ hOk hS hA7 hl.1 (Nat.le_of_ble_eq_true rfl) dL_law_73 ⟨Nat.le_of_ble_eq_true rfl, Nat.le_of_ble_eq_true rfl⟩ (fun H locs hY _ _ hS => ?_)
  obtain ⟨eA, hI, hN⟩ := pe_go (x1 := ((x_1 >>> (6 &&& 31)) &&& 7)) hI hN (by decide) (arg_7 (x_1 >>> (6 &&& 31)))
  rw [eA]
  generalize (zX7_person Ω_7 ((x_1 >>> (6 &&& 31)) &&& 7)).2 = Ω_9 at hY hI hN
  clear eA
  have hOk := hI.1
  refine lv_if_ne (tgt := 108) hx hb dL_law_76 (by decide) (fun c_10 => absurd c_10 (fun z => z rfl)) (fun _ => ?_)
  refine lv_aload_n hx hb dL_law_79 rfl (lv_at hl 1 rfl) ?_
  refine lv_iconst (v := 0) hx hb dL_law_80 (by decide) ?_
  refine kX7_person hF (cwV 1 hts gL_law_X7_person rfl rfl rfl hdX7_person ⟨Nat.le_of_ble_eq_true rfl, Nat.le_of_ble_eq_true rfl⟩) hC hY hJ hOk hS hA7 hl.1 (Nat.le_of_ble_eq_true rfl) dL_law_81 ⟨Nat.le_of_ble_eq_true rfl, Nat.le_of_ble_eq_true rfl⟩ (fun H locs hY _ _ hS => ?_)
  obtain ⟨eA, hI, hN⟩ := pe_go (x1 := 0) hI hN (by decide) (⟨0, by decide, rfl⟩)
  rw [eA]
  generalize (zX7_person Ω_9 0).2 = Ω_11 at hY hI hN
  clear eA
  have hOk := hI.1
  refine lv_iconst (v := 1) hx hb dL_law_84 (by decide) ?_
  refine lv_icmp_ne (tgt := 108) hx hb dL_law_85 (by decide) (fun c_12 => absurd c_12 (fun z => z rfl)) (fun _ => ?_)
  refine lv_aload_n hx hb dL_law_88 rfl (lv_at hl 1 rfl) ?_
  refine lv_iload_n hx hb dL_law_89 rfl (lv_at hl 0 rfl) ?_
  refine lv_bipush (v := 9) hx hb dL_law_90 (by decide) ?_
  refine lv_ishr hx hb dL_law_92 ?_
  refine lv_iconst (v := 2) hx hb dL_law_93 (by decide) ?_
  refine kL_low (x1 := (x_1 >>> (9 &&& 31))) (x2 := 2) hF (va_cwS 2 hts gL_law_L_low rfl rfl rfl hdL_low ⟨Nat.le_of_ble_eq_true rfl, Nat.le_of_ble_eq_true rfl⟩) hC (by decide) hl.1 (Nat.le_of_ble_eq_true rfl) dL_law_94 ⟨Nat.le_of_ble_eq_true rfl, Nat.le_of_ble_eq_true rfl⟩ ?_
  refine lv_iconst (v := 2) hx hb dL_law_97 (by decide) ?_
  refine kX7_volunteer hF (cwV 2 hts gL_law_X7_volunteer rfl rfl rfl hdX7_volunteer ⟨Nat.le_of_ble_eq_true rfl, Nat.le_of_ble_eq_true rfl⟩) hC hY hJ hOk hS hA7 hl.1 (Nat.le_of_ble_eq_true rfl) dL_law_98 ⟨Nat.le_of_ble_eq_true rfl, Nat.le_of_ble_eq_true rfl⟩ (fun H locs hY _ _ hS => ?_)
  obtain ⟨eA, hI, hN⟩ := vo_go (x1 := (zL_low (x_1 >>> (9 &&& 31)) 2)) (x2 := 2) hI hN (by decide) (low_n (x_1 >>> (9 &&& 31)) (d := 2) (by decide) (by decide)) ⟨2, by decide, by decide, rfl⟩
  rw [eA]
  generalize (zX7_volunteer Ω_11 (zL_low (x_1 >>> (9 &&& 31)) 2) 2).2 = Ω_13 at hY hI hN
  clear eA
  have hOk := hI.1
  refine lv_if_ne (tgt := 108) hx hb dL_law_101 (by decide) (fun c_14 => absurd c_14 (fun z => z rfl)) (fun _ => ?_)
  refine lv_iconst (v := 1) hx hb dL_law_104 (by decide) ?_
  refine lv_goto (tgt := 109) hx hb dL_law_105 (by decide) ?_
  refine lv_istore_n (lv' := [(3, .int 1), (2, .int x_1), (1, .ref (ob 0)), (0, .ref b)]) hx hb dL_law_109 rfl hl (by decide) rfl (fun ls hl => ?_)
  refine lv_iconst (v := 0) hx hb dL_law_110 (by decide) ?_
  refine lv_istore (lv' := [(4, .int 0), (3, .int 1), (2, .int x_1), (1, .ref (ob 0)), (0, .ref b)]) hx hb dL_law_111 hl (by decide) rfl (fun ls hl => ?_)
  exact law_loop hL C0 hC hJ hA7 hZ 34 0 (by omega) Ω_13 _ _ hI hY hS ls (lv_sub hl [0, 1, 2, 3, 4] rfl)
