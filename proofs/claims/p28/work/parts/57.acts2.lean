set_option maxHeartbeats 40000000 in
set_option maxRecDepth 100000 in
theorem mL_acts (l : Launch) (D : va_G) (y : Y3) (n0 tM tF : Nat) (ob : Nat → Nat) (AD : Nat → Nat → Nat) (Ω : Og) (x2 y2 : Int32) : Met l yL_acts wsL_acts ({ frames := 9, cells := 0, slots := 0, locals := 207 } : Room) (va_Pc [.ref (ob 0), .int x2, .int y2] (fun U => CK D y U ∧ SysH D y ob AD Ω U.heap ∧ sysJ ob AD ∧ InvO Ω ∧ STM n0 tM tF U U.heap ∧ (∀ q, sysA ob AD q → n0 ≤ q))) (va_Qi (fun (r : Int32) (u : Og) => (r = 1 ∧ InvO u ∧ HSt Ω u)) (fun u t => SysH D y ob AD u t.heap) (sysA ob AD)) 0 0 (sysA ob AD) := by
  refine Met.ofW (cc := cL_acts) (maxL := 16) (ret := (some .boolean)) (by decide) rfl ?_
  intro p e s m args below meth c s₁ B hml hv
  obtain ⟨rfl, hC, hY, hJ, hI, hZs, hn0⟩ := hv
  have hx := B.exec
  have hb := B.bytes
  have hr := B.returns
  have hts := atoms_spec (ws := wsL_acts) B.pre
  have hown : s.vm.findClass RL = some m.cls := findClass_of_methodNamed B.named
  have hlocks := B.notSynchronized
  have hF := (⟨hx, hb, hml, hown, hts⟩ : CallFix p m c cL_acts 16 s _ wsL_acts RL)
  have hS : va_S (sysA ob AD) s.heap s.heap [] := va_S.rf
  have hl := lv_entry ([.ref (ob 0), .int x2, .int y2]) (n := 16) (Nat.le_of_ble_eq_true rfl)
  rw [lg_entry_eq]
  generalize (lg_sl ([.ref (ob 0), .int x2, .int y2]) ++ List.replicate (16 - (lg_sl ([.ref (ob 0), .int x2, .int y2])).length) Slot.unset).toArray = ls at hl ⊢
  have hl : lv_has ls 16 [(0, .ref (ob 0)), (1, .int x2), (2, .int y2)] := hl
  have hOk := hI.1
  refine lv_iload_n hx hb dL_acts_0 rfl (lv_at hl 1 rfl) ?_
  refine lv_bipush (v := 16) hx hb dL_acts_1 (by decide) ?_
  refine kL_low (x1 := x2) (x2 := 16) hF (va_cwS 2 hts gL_acts_L_low rfl rfl rfl hdL_low ⟨Nat.le_of_ble_eq_true rfl, Nat.le_of_ble_eq_true rfl⟩) hC (by decide) hl.1 (Nat.le_of_ble_eq_true rfl) dL_acts_3 ⟨Nat.zero_le _, Nat.zero_le _⟩ ?_
  refine lv_istore_n (lv' := [(3, .int (zL_low x2 16)), (0, .ref (ob 0)), (1, .int x2), (2, .int y2)]) hx hb dL_acts_6 rfl hl (by decide) rfl (fun ls hl => ?_)
  refine lv_aload_n hx hb dL_acts_7 rfl (lv_at hl 1 rfl) ?_
  refine lv_iconst (v := 0) hx hb dL_acts_8 (by decide) ?_
  refine rX7_countT hF (cwV 1 hts gL_acts_X7_count rfl rfl rfl hdX7_count ⟨Nat.le_of_ble_eq_true rfl, Nat.le_of_ble_eq_true rfl⟩) hC hY hJ hOk ⟨by decide, by decide⟩ hS (fun _ h => h) hl.1 (Nat.le_of_ble_eq_true rfl) dL_acts_9 ⟨Nat.zero_le _, Nat.zero_le _⟩ (fun H locs hY _ _ hS => ?_)
  refine lv_istore (lv' := [(4, .int (zX3_total (Ω 0) 0)), (3, .int (zL_low x2 16)), (0, .ref (ob 0)), (1, .int x2), (2, .int y2)]) hx hb dL_acts_12 hl (by decide) rfl (fun ls hl => ?_)
  refine lv_aload_n hx hb dL_acts_14 rfl (lv_at hl 2 rfl) ?_
  refine lv_iconst (v := 1) hx hb dL_acts_15 (by decide) ?_
  refine rX7_countT hF (cwV 1 hts gL_acts_X7_count rfl rfl rfl hdX7_count ⟨Nat.le_of_ble_eq_true rfl, Nat.le_of_ble_eq_true rfl⟩) hC hY hJ hOk ⟨by decide, by decide⟩ hS (fun _ h => h) hl.1 (Nat.le_of_ble_eq_true rfl) dL_acts_16 ⟨Nat.zero_le _, Nat.zero_le _⟩ (fun H locs hY _ _ hS => ?_)
  refine lv_istore (lv' := [(5, .int (zX3_total (Ω 0) 1)), (4, .int (zX3_total (Ω 0) 0)), (3, .int (zL_low x2 16)), (0, .ref (ob 0)), (1, .int x2), (2, .int y2)]) hx hb dL_acts_19 hl (by decide) rfl (fun ls hl => ?_)
  refine lv_aload_n hx hb dL_acts_21 rfl (lv_at hl 3 rfl) ?_
  refine lv_iconst (v := 2) hx hb dL_acts_22 (by decide) ?_
  refine rX7_countT hF (cwV 1 hts gL_acts_X7_count rfl rfl rfl hdX7_count ⟨Nat.le_of_ble_eq_true rfl, Nat.le_of_ble_eq_true rfl⟩) hC hY hJ hOk ⟨by decide, by decide⟩ hS (fun _ h => h) hl.1 (Nat.le_of_ble_eq_true rfl) dL_acts_23 ⟨Nat.zero_le _, Nat.zero_le _⟩ (fun H locs hY _ _ hS => ?_)
  refine lv_istore (lv' := [(6, .int (zX3_total (Ω 0) 2)), (5, .int (zX3_total (Ω 0) 1)), (4, .int (zX3_total (Ω 0) 0)), (3, .int (zL_low x2 16)), (0, .ref (ob 0)), (1, .int x2), (2, .int y2)]) hx hb dL_acts_26 hl (by decide) rfl (fun ls hl => ?_)
  refine lv_aload_n hx hb dL_acts_28 rfl (lv_at hl 4 rfl) ?_
  refine lv_iconst (v := 3) hx hb dL_acts_29 (by decide) ?_
  refine rX7_countT hF (cwV 1 hts gL_acts_X7_count rfl rfl rfl hdX7_count ⟨Nat.le_of_ble_eq_true rfl, Nat.le_of_ble_eq_true rfl⟩) hC hY hJ hOk ⟨by decide, by decide⟩ hS (fun _ h => h) hl.1 (Nat.le_of_ble_eq_true rfl) dL_acts_30 ⟨Nat.zero_le _, Nat.zero_le _⟩ (fun H locs hY _ _ hS => ?_)
  refine lv_istore (lv' := [(7, .int (zX3_total (Ω 0) 3)), (6, .int (zX3_total (Ω 0) 2)), (5, .int (zX3_total (Ω 0) 1)), (4, .int (zX3_total (Ω 0) 0)), (3, .int (zL_low x2 16)), (0, .ref (ob 0)), (1, .int x2), (2, .int y2)]) hx hb dL_acts_33 hl (by decide) rfl (fun ls hl => ?_)
  refine lv_iload_n hx hb dL_acts_35 rfl (lv_at hl 6 rfl) ?_
  refine lv_iconst (v := 5) hx hb dL_acts_36 (by decide) ?_
  refine lv_ishr hx hb dL_acts_37 ?_
  refine lv_iload hx hb dL_acts_38 (lv_at hl 3 rfl) ?_
  refine lv_iconst (v := 1) hx hb dL_acts_40 (by decide) ?_
  refine lv_iadd hx hb dL_acts_41 ?_
  refine kL_low (x1 := (x2 >>> (5 &&& 31))) (x2 := ((zX3_total (Ω 0) 0) + 1)) hF (va_cwS 2 hts gL_acts_L_low rfl rfl rfl hdL_low ⟨Nat.le_of_ble_eq_true rfl, Nat.le_of_ble_eq_true rfl⟩) hC (tot_ne hI 0) hl.1 (Nat.le_of_ble_eq_true rfl) dL_acts_42 ⟨Nat.zero_le _, Nat.zero_le _⟩ ?_
  refine lv_istore (lv' := [(8, .int (zL_low (x2 >>> (5 &&& 31)) ((zX3_total (Ω 0) 0) + 1))), (7, .int (zX3_total (Ω 0) 3)), (6, .int (zX3_total (Ω 0) 2)), (5, .int (zX3_total (Ω 0) 1)), (4, .int (zX3_total (Ω 0) 0)), (3, .int (zL_low x2 16)), (0, .ref (ob 0)), (1, .int x2), (2, .int y2)]) hx hb dL_acts_45 hl (by decide) rfl (fun ls hl => ?_)
  refine lv_iload_n hx hb dL_acts_47 rfl (lv_at hl 7 rfl) ?_
  refine lv_bipush (v := 8) hx hb dL_acts_48 (by decide) ?_
  refine lv_ishr hx hb dL_acts_50 ?_
  refine lv_iload hx hb dL_acts_51 (lv_at hl 3 rfl) ?_
  refine lv_iconst (v := 1) hx hb dL_acts_53 (by decide) ?_
  refine lv_iadd hx hb dL_acts_54 ?_
  refine kL_low (x1 := (x2 >>> (8 &&& 31))) (x2 := ((zX3_total (Ω 0) 1) + 1)) hF (va_cwS 2 hts gL_acts_L_low rfl rfl rfl hdL_low ⟨Nat.le_of_ble_eq_true rfl, Nat.le_of_ble_eq_true rfl⟩) hC (tot_ne hI 1) hl.1 (Nat.le_of_ble_eq_true rfl) dL_acts_55 ⟨Nat.zero_le _, Nat.zero_le _⟩ ?_
  refine lv_istore (lv' := [(9, .int (zL_low (x2 >>> (8 &&& 31)) ((zX3_total (Ω 0) 1) + 1))), (8, .int (zL_low (x2 >>> (5 &&& 31)) ((zX3_total (Ω 0) 0) + 1))), (7, .int (zX3_total (Ω 0) 3)), (6, .int (zX3_total (Ω 0) 2)), (5, .int (zX3_total (Ω 0) 1)), (4, .int (zX3_total (Ω 0) 0)), (3, .int (zL_low x2 16)), (0, .ref (ob 0)), (1, .int x2), (2, .int y2)]) hx hb dL_acts_58 hl (by decide) rfl (fun ls hl => ?_)
  refine lv_iload_n hx hb dL_acts_60 rfl (lv_at hl 8 rfl) ?_
  refine lv_bipush (v := 13) hx hb dL_acts_61 (by decide) ?_
  refine lv_ishr hx hb dL_acts_63 ?_
  refine lv_iload hx hb dL_acts_64 (lv_at hl 3 rfl) ?_
  refine lv_iconst (v := 1) hx hb dL_acts_66 (by decide) ?_
  refine lv_iadd hx hb dL_acts_67 ?_
  refine kL_low (x1 := (x2 >>> (13 &&& 31))) (x2 := ((zX3_total (Ω 0) 2) + 1)) hF (va_cwS 2 hts gL_acts_L_low rfl rfl rfl hdL_low ⟨Nat.le_of_ble_eq_true rfl, Nat.le_of_ble_eq_true rfl⟩) hC (tot_ne hI 2) hl.1 (Nat.le_of_ble_eq_true rfl) dL_acts_68 ⟨Nat.zero_le _, Nat.zero_le _⟩ ?_
  refine lv_istore (lv' := [(10, .int (zL_low (x2 >>> (13 &&& 31)) ((zX3_total (Ω 0) 2) + 1))), (9, .int (zL_low (x2 >>> (8 &&& 31)) ((zX3_total (Ω 0) 1) + 1))), (8, .int (zL_low (x2 >>> (5 &&& 31)) ((zX3_total (Ω 0) 0) + 1))), (7, .int (zX3_total (Ω 0) 3)), (6, .int (zX3_total (Ω 0) 2)), (5, .int (zX3_total (Ω 0) 1)), (4, .int (zX3_total (Ω 0) 0)), (3, .int (zL_low x2 16)), (0, .ref (ob 0)), (1, .int x2), (2, .int y2)]) hx hb dL_acts_71 hl (by decide) rfl (fun ls hl => ?_)
  refine lv_iload_n hx hb dL_acts_73 rfl (lv_at hl 9 rfl) ?_
  refine lv_bipush (v := 17) hx hb dL_acts_74 (by decide) ?_
  refine lv_ishr hx hb dL_acts_76 ?_
  refine lv_iload hx hb dL_acts_77 (lv_at hl 3 rfl) ?_
  refine lv_iconst (v := 1) hx hb dL_acts_79 (by decide) ?_
  refine lv_iadd hx hb dL_acts_80 ?_
  refine kL_low (x1 := (x2 >>> (17 &&& 31))) (x2 := ((zX3_total (Ω 0) 3) + 1)) hF (va_cwS 2 hts gL_acts_L_low rfl rfl rfl hdL_low ⟨Nat.le_of_ble_eq_true rfl, Nat.le_of_ble_eq_true rfl⟩) hC (tot_ne hI 3) hl.1 (Nat.le_of_ble_eq_true rfl) dL_acts_81 ⟨Nat.zero_le _, Nat.zero_le _⟩ ?_
  refine lv_istore (lv' := [(11, .int (zL_low (x2 >>> (17 &&& 31)) ((zX3_total (Ω 0) 3) + 1))), (10, .int (zL_low (x2 >>> (13 &&& 31)) ((zX3_total (Ω 0) 2) + 1))), (9, .int (zL_low (x2 >>> (8 &&& 31)) ((zX3_total (Ω 0) 1) + 1))), (8, .int (zL_low (x2 >>> (5 &&& 31)) ((zX3_total (Ω 0) 0) + 1))), (7, .int (zX3_total (Ω 0) 3)), (6, .int (zX3_total (Ω 0) 2)), (5, .int (zX3_total (Ω 0) 1)), (4, .int (zX3_total (Ω 0) 0)), (3, .int (zL_low x2 16)), (0, .ref (ob 0)), (1, .int x2), (2, .int y2)]) hx hb dL_acts_84 hl (by decide) rfl (fun ls hl => ?_)
  have hk : KB Ω 0 (zL_low (x2 >>> (5 &&& 31)) ((zX3_total (Ω 0) 0) + 1)) := low_k hI 0 (by decide) _
  generalize (zL_low (x2 >>> (5 &&& 31)) ((zX3_total (Ω 0) 0) + 1)) = k at hl hk
  have hi : KB Ω 1 (zL_low (x2 >>> (8 &&& 31)) ((zX3_total (Ω 0) 1) + 1)) := low_k hI 1 (by decide) _
  generalize (zL_low (x2 >>> (8 &&& 31)) ((zX3_total (Ω 0) 1) + 1)) = i at hl hi
  have hw : KB Ω 2 (zL_low (x2 >>> (13 &&& 31)) ((zX3_total (Ω 0) 2) + 1)) := low_k hI 2 (by decide) _
  generalize (zL_low (x2 >>> (13 &&& 31)) ((zX3_total (Ω 0) 2) + 1)) = who at hl hw
  have hv : KB Ω 3 (zL_low (x2 >>> (17 &&& 31)) ((zX3_total (Ω 0) 3) + 1)) := low_k hI 3 (by decide) _
  generalize (zL_low (x2 >>> (17 &&& 31)) ((zX3_total (Ω 0) 3) + 1)) = v at hl hv
  generalize (zL_low x2 16) = how at hl
  refine lv_iload_n hx hb dL_acts_86 rfl (lv_at hl 8 rfl) ?_
  refine lv_iconst (v := 3) hx hb dL_acts_87 (by decide) ?_
  refine lv_icmp_ge (tgt := 212) hx hb dL_acts_88 (by decide) (fun c_1 => ?_) (fun c_1 => ?_)
  · refine lv_iload_n hx hb dL_acts_212 rfl (lv_at hl 8 rfl) ?_
    refine lv_iconst (v := 3) hx hb dL_acts_213 (by decide) ?_
    refine lv_icmp_ne (tgt := 276) hx hb dL_acts_214 (by decide) (fun c_2 => ?_) (fun c_2 => ?_)
    · refine lv_iload_n hx hb dL_acts_276 rfl (lv_at hl 8 rfl) ?_
      refine lv_iconst (v := 4) hx hb dL_acts_277 (by decide) ?_
      refine lv_icmp_ne (tgt := 321) hx hb dL_acts_278 (by decide) (fun c_3 => ?_) (fun c_3 => ?_)
      · refine lv_iload_n hx hb dL_acts_321 rfl (lv_at hl 8 rfl) ?_
        refine lv_iconst (v := 5) hx hb dL_acts_322 (by decide) ?_
        refine lv_icmp_ne (tgt := 386) hx hb dL_acts_323 (by decide) (fun c_4 => ?_) (fun c_4 => ?_)
        · refine lv_iload_n hx hb dL_acts_386 rfl (lv_at hl 8 rfl) ?_
          refine lv_bipush (v := 9) hx hb dL_acts_387 (by decide) ?_
          refine lv_icmp_ge (tgt := 562) hx hb dL_acts_389 (by decide) (fun c_5 => ?_) (fun c_5 => ?_)
          · refine lv_iload_n hx hb dL_acts_562 rfl (lv_at hl 8 rfl) ?_
            refine lv_bipush (v := 9) hx hb dL_acts_563 (by decide) ?_
            refine lv_icmp_ne (tgt := 696) hx hb dL_acts_565 (by decide) (fun c_6 => ?_) (fun c_6 => ?_)
            · refine lv_iload_n hx hb dL_acts_696 rfl (lv_at hl 8 rfl) ?_
              refine lv_bipush (v := 10) hx hb dL_acts_697 (by decide) ?_
              refine lv_icmp_ne (tgt := 857) hx hb dL_acts_699 (by decide) (fun c_7 => ?_) (fun c_7 => ?_)
              · refine lv_iload_n hx hb dL_acts_857 rfl (lv_at hl 8 rfl) ?_
                refine lv_bipush (v := 11) hx hb dL_acts_858 (by decide) ?_
                refine lv_icmp_ne (tgt := 971) hx hb dL_acts_860 (by decide) (fun c_8 => ?_) (fun c_8 => ?_)
                · refine lv_iload_n hx hb dL_acts_971 rfl (lv_at hl 8 rfl) ?_
                  refine lv_bipush (v := 12) hx hb dL_acts_972 (by decide) ?_
                  refine lv_icmp_ne (tgt := 1030) hx hb dL_acts_974 (by decide) (fun c_9 => ?_) (fun c_9 => ?_)
                  · refine lv_iload_n hx hb dL_acts_1030 rfl (lv_at hl 8 rfl) ?_
                    refine lv_bipush (v := 13) hx hb dL_acts_1031 (by decide) ?_
                    refine lv_icmp_ne (tgt := 1139) hx hb dL_acts_1033 (by decide) (fun c_10 => ?_) (fun c_10 => ?_)
                    · refine lv_iload_n hx hb dL_acts_1139 rfl (lv_at hl 8 rfl) ?_
                      refine lv_bipush (v := 14) hx hb dL_acts_1140 (by decide) ?_
                      refine lv_icmp_ne (tgt := 1283) hx hb dL_acts_1142 (by decide) (fun c_11 => ?_) (fun c_11 => ?_)
                      · refine lv_aload_n hx hb dL_acts_1283 rfl (lv_at hl 9 rfl) ?_
                        refine lv_iload_n hx hb dL_acts_1284 rfl (lv_at hl 11 rfl) ?_
                        refine kL_types hF (va_cwS 2 hts gL_acts_L_types rfl rfl rfl hdL_types ⟨Nat.le_of_ble_eq_true rfl, Nat.le_of_ble_eq_true rfl⟩) hC hY hJ hI hS (fun _ h => h) hl.1 (Nat.le_of_ble_eq_true rfl) dL_acts_1285 ⟨Nat.zero_le _, Nat.zero_le _⟩ (fun r1 u1 H locs hq hY hS => ?_)
                        obtain ⟨rfl, hI, hT⟩ := hq
                        have hOk := hI.1
                        refine lv_if_eq (tgt := 1302) hx hb dL_acts_1288 (by decide) (fun c_12 => absurd c_12 (by decide)) (fun _ => ?_)
                        refine lv_aload_n hx hb dL_acts_1291 rfl (lv_at hl 9 rfl) ?_
                        refine kL_reads hF (va_cwS 1 hts gL_acts_L_reads rfl rfl rfl hdL_reads ⟨Nat.le_of_ble_eq_true rfl, Nat.le_of_ble_eq_true rfl⟩) hC hY hJ hI hS (fun _ h => h) hl.1 (Nat.le_of_ble_eq_true rfl) dL_acts_1292 ⟨Nat.zero_le _, Nat.zero_le _⟩ (fun r2 u2 H locs hq hY hS => ?_)
                        obtain ⟨rfl, hI, hP⟩ := hq
                        have hOk := hI.1
                        refine lv_if_eq (tgt := 1302) hx hb dL_acts_1295 (by decide) (fun c_13 => absurd c_13 (by decide)) (fun _ => ?_)
                        refine lv_iconst (v := 1) hx hb dL_acts_1298 (by decide) ?_
                        refine lv_goto (tgt := 1303) hx hb dL_acts_1299 (by decide) ?_
                        exact W.zret (v := 1) hx hb hr (by decide) (fun t ht hW => ⟨⟨1, u2, rfl, ⟨rfl, hI, HSt.tr hT.st hP⟩, by dsimp only; rw [ht]; exact hY⟩, hS.F ht⟩) hS.2.2 dL_acts_1303
                      · exact ba_pass hx hb hml hown hts hr hlocks hC hJ hI hZs hn0 hk hi hw hv hY hS ls (lv_sub hl [0, 1, 2, 3, 4, 5, 6, 7, 8, 11, 10, 9] rfl)
                    · exact ba_set hx hb hml hown hts hr hlocks hC hJ hI hZs hn0 hk hi hw hv hY hS ls (lv_sub hl [0, 1, 2, 3, 4, 5, 6, 7, 8, 11, 10, 9] rfl)
                  · exact ba_put hx hb hml hown hts hr hlocks hC hJ hI hZs hn0 hk hi hw hv hY hS ls (lv_sub hl [0, 1, 2, 3, 4, 5, 6, 7, 8, 11, 10, 9] rfl)
                · exact ba_go hx hb hml hown hts hr hlocks hC hJ hI hZs hn0 hk hi hw hv hY hS ls (lv_sub hl [0, 1, 2, 3, 4, 5, 6, 7, 8, 11, 10, 9] rfl)
              · exact ba_take hx hb hml hown hts hr hlocks hC hJ hI hZs hn0 hk hi hw hv hY hS ls (lv_sub hl [0, 1, 2, 3, 4, 5, 6, 7, 8, 11, 10, 9] rfl)
            · exact ba_fetch hx hb hml hown hts hr hlocks hC hJ hI hZs hn0 hk hi hw hv hY hS ls (lv_sub hl [0, 1, 2, 3, 4, 5, 6, 7, 8, 11, 10, 9] rfl)
          · exact ba_reserve hx hb hml hown hts hr hlocks hC hJ hI hZs hn0 hk hi hw hv hY hS ls (lv_sub hl [0, 1, 2, 3, 4, 5, 6, 7, 8, 11, 10, 9] rfl)
        · exact ba_volunteer hx hb hml hown hts hr hlocks hC hJ hI hZs hn0 hk hi hw hv hY hS ls (lv_sub hl [0, 1, 2, 3, 4, 5, 6, 7, 8, 11, 10, 9] rfl)
      · exact ba_person hx hb hml hown hts hr hlocks hC hJ hI hZs hn0 hk hi hw hv hY hS ls (lv_sub hl [0, 1, 2, 3, 4, 5, 6, 7, 8, 11, 10, 9] rfl)
    · exact ba_locker hx hb hml hown hts hr hlocks hC hJ hI hZs hn0 hk hi hw hv hY hS ls (lv_sub hl [0, 1, 2, 3, 4, 5, 6, 7, 8, 11, 10, 9] rfl)
  · exact ba_meal hx hb hml hown hts hr hlocks hC hJ hI hZs hn0 hk hi hw hv hY hS ls (lv_sub hl [0, 1, 2, 3, 4, 5, 6, 7, 8, 11, 10, 9] rfl)
set_option maxHeartbeats 4000000 in
set_option maxRecDepth 100000 in
theorem kL_acts {p : Program} {l : Launch} {e : Env} {R : Room} {s : State} {m : MethodId} {args : Array Value} {below : List Frame} {meth : Method} {c : Code} {H : Heap} {locs : List Loc} {cells slots : Nat} {Q : State → Prop} {cc : ByteArray} {nL : Nat} {Ts : List Cond} {own : String} {index pc : Nat} {ls : Array Slot} {rest : List Value} {D : va_G} {y : Y3} {n0 tM tF : Nat} {ob : Nat → Nat} {AD : Nat → Nat → Nat} {Ω : Og} {x2 y2 : Int32} {A0 : Nat → Prop} {H0 : Heap} (hF : CallFix p m c cc nL s args Ts own) (cw : CallB R s args own index yL_acts cL_acts 16 (some .boolean) wsL_acts ({ frames := 9, cells := 0, slots := 0, locals := 207 } : Room) 0 0 3 ∧ (Cond.static yL_acts).before args s = true) (hC : CK D y s) (hY : SysH D y ob AD Ω H) (hJ : sysJ ob AD) (hI : InvO Ω) (hZs : STM n0 tM tF s H) (hn0 : (∀ q, sysA ob AD q → n0 ≤ q)) (hS : va_S A0 H0 H locs) (hA : ∀ q, (sysA ob AD) q → A0 q) (hsz : ls.size = nL) (hW : (rest.map fun v => v.category).sum ≤ 8) (hdg : decode cc pc = .ok (.invokestatic index, 3)) (hf : cells ≤ R.cells ∧ slots ≤ R.slots)
    (k : ∀ (r : Int32) (u : Og) (H1 : Heap) (locs1 : List Loc), (r = 1 ∧ InvO u ∧ HSt Ω u) → SysH D y ob AD u H1 → va_S A0 H0 H1 locs1 → W p l e R s m args below meth c H1 locs1 cells slots Q (F0 m (pc + 3) ls (.int r :: rest))) : W p l e R s m args below meth c H locs cells slots Q (F0 m pc ls (.int y2 :: .int x2 :: .ref (ob 0) :: rest)) := by
  refine va_calli (va_runS (As := [.ref (ob 0), .int x2, .int y2]) (rest := rest) hF (mL_acts l D y n0 tM tF ob AD Ω x2 y2) cw ⟨fun a U g mk q => by obtain ⟨q0, q1, q2, q3, q4, q5, q6⟩ := q; exact ⟨q0, q1.call g mk a, q2, q3, q4, q5.call g mk a, q6⟩, fun U hU hW => ⟨rfl, hC.warm hW, by rw [hU]; exact hY, hJ, hI, by rw [hU]; exact hZs.warm hW, hn0⟩⟩ rfl rfl hsz rfl (lv_room hW) hdg ⟨hf.1, hf.2⟩) hS (fun q _ h => hA q h) hA (fun r u t H1 locs1 ht hvm hp hB hz1 hk1 hS1 => ?_)
  rw [ht] at hB
  exact k r u H1 locs1 hp hB hS1
