/-! THE LAW'S LOOP -/
set_option maxHeartbeats 4000000 in
set_option maxRecDepth 100000 in
theorem law_loop {p : Program} {l : Launch} {e : Env} {s : State} {m : MethodId} {below : List Frame} {meth : Method} {c : Code} {b L : Nat} {xs : Nat → Int32} (hL : L ≤ 2048) (C0 : lw_At p s m meth c b L xs) {D : va_G} {y : Y3} {ob : Nat → Nat} {AD : Nat → Nat → Nat} {mo : Nat → Nat} {tM tF : Nat} :
    ∀ (n j : Nat), j ≤ L → L + 1 ≤ j + n → ∀ (Ω : Og) (μ : Sg) (H : Heap) (locs : List Loc), LwI D y ob AD mo tM tF s Ω μ H locs → ∀ (ls : Array Slot), lv_has ls 4 [(0, .ref b), (1, .ref (ob 0)), (2, .ref (mo 0)), (3, .int (nI j))] → W p l e room_1 s m #[Value.ref b] below meth c H locs 79 3938 (lw_Z below #[Value.ref b] s) (F0 m 18 ls []) := by
  have C9 := C0
  obtain ⟨hx, hb, hr, hml, hown, hts0, hX, hbl, hlocks, hgv⟩ := C0
  have hb : c.code = cL_law := hb
  have hbA : ¬ (fun q : Nat => s.heap.size ≤ q) b := Nat.not_le.mpr hbl
  intro n
  induction n with
  | zero =>
    intro j h1 h2
    exact absurd h2 (by omega)
  | succ n ih =>
    intro j hj hjn Ω μ H locs hI ls hl
    have hS := hI.2.2.2.2.2.2.2.2.2.1
    refine lv_iload_n hx hb dL_law_18 rfl (lv_at hl 3 rfl) ?_
    refine lv_aload_n hx hb dL_law_19 rfl (lv_at hl 0 rfl) ?_
    refine va_slen hx hb hX hbl hbA hS dL_law_20 ?_
    refine lv_iconst (v := 4) hx hb dL_law_21 (by decide) ?_
    refine lv_isub hx hb dL_law_22 ?_
    have e4 : (Int32.ofNat L - 4).toInt = (L : Int) - 4 := pk_sub_toInt (a := L) (b := 4) (by omega) (by omega)
    have ej : (nI j).toInt = (j : Int) := nI_toInt (by omega)
    refine lv_icmp_gt (tgt := 829) hx hb dL_law_23 (by decide) (fun z => ?_) (fun z => ?_)
    · refine lv_iconst (v := 1) hx hb dL_law_829 (by decide) ?_
      refine va_forget (fun q hq => hS.2.2 q hq) ?_
      refine W.widen (k := 600000) (n := 7302250) (Nat.le_of_ble_eq_true rfl) (Nat.le_of_ble_eq_true rfl) ?_
      refine W.base ?_
      exact lw_ret (Drawn.sameBut.refl s.drawn lw_cs) hx hb hr hlocks dL_law_830
    · have hj4 : j + 4 ≤ L := by
        rw [Int32.lt_iff_toInt_lt, e4, ej] at z
        omega
      refine lv_aload_n hx hb dL_law_26 rfl (lv_at hl 0 rfl) ?_
      refine lv_iload_n hx hb dL_law_27 rfl (lv_at hl 3 rfl) ?_
      refine va_sld hx hb hX hbl hbA hS (vp_in_nI (n := j) (by omega) (by omega)) dL_law_28 ?_
      refine lv_bipush (v := 31) hx hb dL_law_29 (by decide) ?_
      refine lv_iand hx hb dL_law_31 ?_
      have go : ∀ (Ω2 : Og) (μ2 : Sg) (H2 : Heap) (locs2 : List Loc), LwI D y ob AD mo tM tF s Ω2 μ2 H2 locs2 → W p l e room_1 s m #[Value.ref b] below meth c H2 locs2 79 3938 (lw_Z below #[Value.ref b] s) (F0 m 823 ls []) := by
        intro Ω2 μ2 H2 locs2 hI2
        refine lv_iinc (v := nI (j + 4)) (lv' := [(3, .int (nI (j + 4))), (0, .ref b), (1, .ref (ob 0)), (2, .ref (mo 0))]) hx hb dL_law_823 hl (k := 3) rfl (by rw [← nI_add]; rfl) (by decide) rfl (fun ls hl => ?_)
        refine lv_goto (tgt := 18) hx hb dL_law_826 (by decide) ?_
        exact ih (j + 4) (by omega) (by omega) Ω2 μ2 H2 locs2 hI2 ls (lv_sub hl [1, 2, 3, 0] rfl)
      generalize xs (nI j).toNatClampNeg &&& 31 = v
      refine (Decidable.em (v = 0)).elim (fun c0 => ?_) (fun c0 => ?_)
      · refine lv_tableIn (off := 116) (tgt := 148) hx hb dL_law_32 (by rw [c0]; decide) (by rw [c0]; decide) (by rw [c0]; decide) (by decide) ?_
        exact lc_locker hL C9 (by omega) hI hl go
      refine (Decidable.em (v = 1)).elim (fun c1 => ?_) (fun c1 => ?_)
      · refine lv_tableIn (off := 149) (tgt := 181) hx hb dL_law_32 (by rw [c1]; decide) (by rw [c1]; decide) (by rw [c1]; decide) (by decide) ?_
        exact lc_meal hL C9 (by omega) hI hl go
      refine (Decidable.em (v = 2)).elim (fun c2 => ?_) (fun c2 => ?_)
      · refine lv_tableIn (off := 192) (tgt := 224) hx hb dL_law_32 (by rw [c2]; decide) (by rw [c2]; decide) (by rw [c2]; decide) (by decide) ?_
        exact lc_person hL C9 (by omega) hI hl go
      refine (Decidable.em (v = 3)).elim (fun c3 => ?_) (fun c3 => ?_)
      · refine lv_tableIn (off := 215) (tgt := 247) hx hb dL_law_32 (by rw [c3]; decide) (by rw [c3]; decide) (by rw [c3]; decide) (by decide) ?_
        exact lc_volunteer hL C9 (by omega) hI hl go
      refine (Decidable.em (v = 4)).elim (fun c4 => ?_) (fun c4 => ?_)
      · refine lv_tableIn (off := 248) (tgt := 280) hx hb dL_law_32 (by rw [c4]; decide) (by rw [c4]; decide) (by rw [c4]; decide) (by decide) ?_
        exact lc_reserve hL C9 (by omega) hI hl go
      refine (Decidable.em (v = 5)).elim (fun c5 => ?_) (fun c5 => ?_)
      · refine lv_tableIn (off := 281) (tgt := 313) hx hb dL_law_32 (by rw [c5]; decide) (by rw [c5]; decide) (by rw [c5]; decide) (by decide) ?_
        exact lc_fetch hL C9 (by omega) hI hl go
      refine (Decidable.em (v = 6)).elim (fun c6 => ?_) (fun c6 => ?_)
      · refine lv_tableIn (off := 324) (tgt := 356) hx hb dL_law_32 (by rw [c6]; decide) (by rw [c6]; decide) (by rw [c6]; decide) (by decide) ?_
        exact lc_take hL C9 (by omega) hI hl go
      refine (Decidable.em (v = 7)).elim (fun c7 => ?_) (fun c7 => ?_)
      · refine lv_tableIn (off := 357) (tgt := 389) hx hb dL_law_32 (by rw [c7]; decide) (by rw [c7]; decide) (by rw [c7]; decide) (by decide) ?_
        exact lc_go hL C9 (by omega) hI hl go
      refine (Decidable.em (v = 8)).elim (fun c8 => ?_) (fun c8 => ?_)
      · refine lv_tableIn (off := 390) (tgt := 422) hx hb dL_law_32 (by rw [c8]; decide) (by rw [c8]; decide) (by rw [c8]; decide) (by decide) ?_
        exact lc_put hL C9 (by omega) hI hl go
      refine (Decidable.em (v = 9)).elim (fun c9 => ?_) (fun c9 => ?_)
      · refine lv_tableIn (off := 413) (tgt := 445) hx hb dL_law_32 (by rw [c9]; decide) (by rw [c9]; decide) (by rw [c9]; decide) (by decide) ?_
        exact lc_pass hL C9 (by omega) hI hl go
      refine (Decidable.em (v = 10)).elim (fun c10 => ?_) (fun c10 => ?_)
      · refine lv_tableIn (off := 436) (tgt := 468) hx hb dL_law_32 (by rw [c10]; decide) (by rw [c10]; decide) (by rw [c10]; decide) (by decide) ?_
        exact lc_set hL C9 (by omega) hI hl go
      refine (Decidable.em (v = 11)).elim (fun c11 => ?_) (fun c11 => ?_)
      · refine lv_tableIn (off := 469) (tgt := 501) hx hb dL_law_32 (by rw [c11]; decide) (by rw [c11]; decide) (by rw [c11]; decide) (by decide) ?_
        exact lc_mealOf hL C9 (by omega) hI hl go
      refine (Decidable.em (v = 12)).elim (fun c12 => ?_) (fun c12 => ?_)
      · refine lv_tableIn (off := 502) (tgt := 534) hx hb dL_law_32 (by rw [c12]; decide) (by rw [c12]; decide) (by rw [c12]; decide) (by decide) ?_
        exact lc_lockerOf hL C9 (by omega) hI hl go
      refine (Decidable.em (v = 13)).elim (fun c13 => ?_) (fun c13 => ?_)
      · refine lv_tableIn (off := 535) (tgt := 567) hx hb dL_law_32 (by rw [c13]; decide) (by rw [c13]; decide) (by rw [c13]; decide) (by decide) ?_
        exact lc_personOf hL C9 (by omega) hI hl go
      refine (Decidable.em (v = 14)).elim (fun c14 => ?_) (fun c14 => ?_)
      · refine lv_tableIn (off := 568) (tgt := 600) hx hb dL_law_32 (by rw [c14]; decide) (by rw [c14]; decide) (by rw [c14]; decide) (by decide) ?_
        exact lc_volunteerOf hL C9 (by omega) hI hl go
      refine (Decidable.em (v = 15)).elim (fun c15 => ?_) (fun c15 => ?_)
      · refine lv_tableIn (off := 601) (tgt := 633) hx hb dL_law_32 (by rw [c15]; decide) (by rw [c15]; decide) (by rw [c15]; decide) (by decide) ?_
        exact lc_count hL C9 (by omega) hI hl go
      refine (Decidable.em (v = 16)).elim (fun c16 => ?_) (fun c16 => ?_)
      · refine lv_tableIn (off := 624) (tgt := 656) hx hb dL_law_32 (by rw [c16]; decide) (by rw [c16]; decide) (by rw [c16]; decide) (by decide) ?_
        exact lc_advice hL C9 (by omega) hI hl go
      refine (Decidable.em (v = 17)).elim (fun c17 => ?_) (fun c17 => ?_)
      · refine lv_tableIn (off := 647) (tgt := 679) hx hb dL_law_32 (by rw [c17]; decide) (by rw [c17]; decide) (by rw [c17]; decide) (by decide) ?_
        exact lc_wouldSpoil hL C9 (by omega) hI hl go
      refine (Decidable.em (v = 18)).elim (fun c18 => ?_) (fun c18 => ?_)
      · refine lv_tableIn (off := 670) (tgt := 702) hx hb dL_law_32 (by rw [c18]; decide) (by rw [c18]; decide) (by rw [c18]; decide) (by decide) ?_
        exact lc_move hL C9 (by omega) hI hl go
      refine (Decidable.em (v = 19)).elim (fun c19 => ?_) (fun c19 => ?_)
      · refine lv_tableIn (off := 693) (tgt := 725) hx hb dL_law_32 (by rw [c19]; decide) (by rw [c19]; decide) (by rw [c19]; decide) (by decide) ?_
        exact lc_shareBits hL C9 (by omega) hI hl go
      refine (Decidable.em (v = 20)).elim (fun c20 => ?_) (fun c20 => ?_)
      · refine lv_tableIn (off := 706) (tgt := 738) hx hb dL_law_32 (by rw [c20]; decide) (by rw [c20]; decide) (by rw [c20]; decide) (by decide) ?_
        exact lc_undo hL C9 (by omega) hI hl go
      refine (Decidable.em (v = 21)).elim (fun c21 => ?_) (fun c21 => ?_)
      · refine lv_tableIn (off := 719) (tgt := 751) hx hb dL_law_32 (by rw [c21]; decide) (by rw [c21]; decide) (by rw [c21]; decide) (by decide) ?_
        exact lc_type hL C9 (by omega) hI hl go
      refine (Decidable.em (v = 22)).elim (fun c22 => ?_) (fun c22 => ?_)
      · refine lv_tableIn (off := 742) (tgt := 774) hx hb dL_law_32 (by rw [c22]; decide) (by rw [c22]; decide) (by rw [c22]; decide) (by decide) ?_
        exact lc_clearText hL C9 (by omega) hI hl go
      refine (Decidable.em (v = 23)).elim (fun c23 => ?_) (fun c23 => ?_)
      · refine lv_tableIn (off := 755) (tgt := 787) hx hb dL_law_32 (by rw [c23]; decide) (by rw [c23]; decide) (by rw [c23]; decide) (by decide) ?_
        exact lc_fault hL C9 (by omega) hI hl go
      refine (Decidable.em (v = 24)).elim (fun c24 => ?_) (fun c24 => ?_)
      · refine lv_tableIn (off := 778) (tgt := 810) hx hb dL_law_32 (by rw [c24]; decide) (by rw [c24]; decide) (by rw [c24]; decide) (by decide) ?_
        exact lc_play hL C9 (by omega) hI hl go
      refine lv_tableOut (tgt := 823) hx hb dL_law_32 (by have q0 := lv_neT (a := 0) c0 (by decide); have q1 := lv_neT (a := 1) c1 (by decide); have q2 := lv_neT (a := 2) c2 (by decide); have q3 := lv_neT (a := 3) c3 (by decide); have q4 := lv_neT (a := 4) c4 (by decide); have q5 := lv_neT (a := 5) c5 (by decide); have q6 := lv_neT (a := 6) c6 (by decide); have q7 := lv_neT (a := 7) c7 (by decide); have q8 := lv_neT (a := 8) c8 (by decide); have q9 := lv_neT (a := 9) c9 (by decide); have q10 := lv_neT (a := 10) c10 (by decide); have q11 := lv_neT (a := 11) c11 (by decide); have q12 := lv_neT (a := 12) c12 (by decide); have q13 := lv_neT (a := 13) c13 (by decide); have q14 := lv_neT (a := 14) c14 (by decide); have q15 := lv_neT (a := 15) c15 (by decide); have q16 := lv_neT (a := 16) c16 (by decide); have q17 := lv_neT (a := 17) c17 (by decide); have q18 := lv_neT (a := 18) c18 (by decide); have q19 := lv_neT (a := 19) c19 (by decide); have q20 := lv_neT (a := 20) c20 (by decide); have q21 := lv_neT (a := 21) c21 (by decide); have q22 := lv_neT (a := 22) c22 (by decide); have q23 := lv_neT (a := 23) c23 (by decide); have q24 := lv_neT (a := 24) c24 (by decide); omega) (by decide) ?_
      exact go Ω μ H locs hI
