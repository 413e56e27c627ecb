theorem dg_a {v : Nat} (hv : v ≤ 9999) : ∃ c : Nat, 32 ≤ c ∧ c ≤ 126 ∧ (48 + ((nI v) / 1000)) = nI c := by
  refine ⟨48 + v / 1000, by omega, by omega, ?_⟩
  rw [← nI_add, ← pk_div (a := v) (d := 1000) (by omega) (by decide) (by decide)]
  rfl
theorem dg_b {v : Nat} (hv : v ≤ 9999) : ∃ c : Nat, 32 ≤ c ∧ c ≤ 126 ∧ (48 + (((nI v) / 100) - ((nI v) / 100) / 10 * 10)) = nI c := by
  refine ⟨48 + v / 100 % 10, by omega, by omega, ?_⟩
  rw [← nI_add, ← pk_rem (a := v / 100) (d := 10) (by omega) (by decide) (by decide), ← pk_div (a := v) (d := 100) (by omega) (by decide) (by decide)]
  rfl
theorem dg_c {v : Nat} (hv : v ≤ 9999) : ∃ c : Nat, 32 ≤ c ∧ c ≤ 126 ∧ (48 + (((nI v) / 10) - ((nI v) / 10) / 10 * 10)) = nI c := by
  refine ⟨48 + v / 10 % 10, by omega, by omega, ?_⟩
  rw [← nI_add, ← pk_rem (a := v / 10) (d := 10) (by omega) (by decide) (by decide), ← pk_div (a := v) (d := 10) (by omega) (by decide) (by decide)]
  rfl
theorem dg_d {v : Nat} (hv : v ≤ 9999) : ∃ c : Nat, 32 ≤ c ∧ c ≤ 126 ∧ (48 + ((nI v) - (nI v) / 10 * 10)) = nI c := by
  refine ⟨48 + v % 10, by omega, by omega, ?_⟩
  rw [← nI_add, ← pk_rem (a := v) (d := 10) (by omega) (by decide) (by decide)]
  rfl
def TxO (Ω u : Og) (b : Nat) : Prop := InvO u ∧ TxS Ω u ∧ ∃ n2 : Nat, n2 ≤ b ∧ u 6 1 0 = nI n2
theorem hdL_digits : yL_digits.cls ≠ "java/lang/invoke/MethodHandle" ∧ yL_digits.cls ≠ "java/lang/invoke/VarHandle" ∧ (parseMethodDescriptor yL_digits.desc).map (fun d => d.parameters.length) = some 2 := by decide +kernel
set_option maxHeartbeats 4000000 in
set_option maxRecDepth 100000 in
theorem mL_digits (l : Launch) (D : va_G) (y : Y3) (ob : Nat → Nat) (AD : Nat → Nat → Nat) (Ω : Og) (v n : Nat) : Met l yL_digits wsL_digits ({ frames := 3, cells := 0, slots := 0, locals := 64 } : Room) (va_Pc [.ref (ob 0), .int (nI v)] (fun U => CK D y U ∧ SysH D y ob AD Ω U.heap ∧ sysJ ob AD ∧ InvO Ω ∧ Ω 6 1 0 = nI n ∧ (v ≤ 9999 ∧ n + 4 ≤ 60))) (va_Qi (fun (r : Int32) (u : Og) => r = 1 ∧ TxO Ω u (n + 4)) (fun u t => SysH D y ob AD u t.heap) (sysA ob AD)) 0 0 (sysA ob AD) := by
  refine Met.ofW (cc := cL_digits) (maxL := 3) (ret := (some .boolean)) (by decide) rfl ?_
  intro p e s m args below meth c s₁ B hml hv
  obtain ⟨rfl, hC, hY, hJ, hI, hn, hv⟩ := hv
  have hx := B.exec
  have hb := B.bytes
  have hr := B.returns
  have hts := atoms_spec (ws := wsL_digits) B.pre
  have hown : s.vm.findClass RL = some m.cls := findClass_of_methodNamed B.named
  have hlocks := B.notSynchronized
  have hF := (⟨hx, hb, hml, hown, hts⟩ : CallFix p m c cL_digits 3 s _ wsL_digits RL)
  have hS : va_S (sysA ob AD) s.heap s.heap [] := va_S.rf
  have hl := lv_entry ([.ref (ob 0), .int (nI v)]) (n := 3) (Nat.le_of_ble_eq_true rfl)
  rw [lg_entry_eq]
  generalize (lg_sl ([.ref (ob 0), .int (nI v)]) ++ List.replicate (3 - (lg_sl ([.ref (ob 0), .int (nI v)])).length) Slot.unset).toArray = ls at hl ⊢
  have hl : lv_has ls 3 [(0, .ref (ob 0)), (1, .int (nI v))] := hl
  obtain ⟨hv1, hv2⟩ := hv
  have hOk := hI.1
  have hT := TxS.rf (Ω := Ω)
  refine lv_iload_n hx hb dL_digits_0 rfl (lv_at hl 1 rfl) ?_
  refine lv_sipush (v := 1000) hx hb dL_digits_1 (by decide) ?_
  refine lv_icmp_lt (tgt := 22) hx hb dL_digits_4 (by decide) (fun c_1 => ?_) (fun c_1 => ?_)
  · refine lv_iconst (v := 1) hx hb dL_digits_22 (by decide) ?_
    refine lv_goto (tgt := 27) hx hb dL_digits_23 (by decide) ?_
    refine lv_istore_n (lv' := [(2, .int 1), (0, .ref (ob 0)), (1, .int (nI v))]) hx hb dL_digits_27 rfl hl (by decide) rfl (fun ls hl => ?_)
    refine lv_iload_n hx hb dL_digits_28 rfl (lv_at hl 0 rfl) ?_
    refine lv_if_eq (tgt := 82) hx hb dL_digits_29 (by decide) (fun c_2 => absurd c_2 (by decide)) (fun _ => ?_)
    refine lv_iload_n hx hb dL_digits_32 rfl (lv_at hl 2 rfl) ?_
    refine lv_bipush (v := 100) hx hb dL_digits_33 (by decide) ?_
    refine lv_icmp_lt (tgt := 55) hx hb dL_digits_35 (by decide) (fun c_3 => ?_) (fun c_3 => ?_)
    · refine lv_iload_n hx hb dL_digits_55 rfl (lv_at hl 2 rfl) ?_
      refine lv_bipush (v := 10) hx hb dL_digits_56 (by decide) ?_
      refine lv_icmp_lt (tgt := 78) hx hb dL_digits_58 (by decide) (fun c_4 => ?_) (fun c_4 => ?_)
      · refine lv_iconst (v := 1) hx hb dL_digits_78 (by decide) ?_
        refine lv_goto (tgt := 83) hx hb dL_digits_79 (by decide) ?_
        refine lv_istore_n (lv' := [(2, .int 1), (0, .ref (ob 0)), (1, .int (nI v))]) hx hb dL_digits_83 rfl hl (by decide) rfl (fun ls hl => ?_)
        refine lv_iload_n hx hb dL_digits_84 rfl (lv_at hl 0 rfl) ?_
        refine lv_if_eq (tgt := 106) hx hb dL_digits_85 (by decide) (fun c_5 => absurd c_5 (by decide)) (fun _ => ?_)
        refine lv_aload_n hx hb dL_digits_88 rfl (lv_at hl 1 rfl) ?_
        refine lv_bipush (v := 48) hx hb dL_digits_89 (by decide) ?_
        refine lv_iload_n hx hb dL_digits_91 rfl (lv_at hl 2 rfl) ?_
        refine lv_bipush (v := 10) hx hb dL_digits_92 (by decide) ?_
        refine lv_irem hx hb dL_digits_94 (by decide) ?_
        refine lv_iadd hx hb dL_digits_95 ?_
        refine kX7_type hF (cwV 1 hts gL_digits_X7_type rfl rfl rfl hdX7_type ⟨Nat.le_of_ble_eq_true rfl, Nat.le_of_ble_eq_true rfl⟩) hC hY hJ hOk hS (fun _ h => h) hl.1 (Nat.le_of_ble_eq_true rfl) dL_digits_96 ⟨Nat.zero_le _, Nat.zero_le _⟩ (fun H locs hY _ _ hS => ?_)
        obtain ⟨et, hI, hn, hT1⟩ := ty_ok (x := (48 + ((nI v) - (nI v) / 10 * 10))) hI hn (by omega) (dg_d hv1)
        rw [et]
        generalize (zX7_type Ω (48 + ((nI v) - (nI v) / 10 * 10))).2 = Ω_6 at hY hI hn hT1 ⊢
        have hT := hT.tr hT1
        have hOk := hI.1
        clear et hT1
        refine lv_if_le (tgt := 106) hx hb dL_digits_99 (by decide) (fun c_7 => absurd c_7 (nI_nle (by omega) (by omega))) (fun _ => ?_)
        refine lv_iconst (v := 1) hx hb dL_digits_102 (by decide) ?_
        refine lv_goto (tgt := 107) hx hb dL_digits_103 (by decide) ?_
        exact W.zret (v := 1) hx hb hr (by decide) (fun t ht hW => ⟨⟨1, Ω_6, rfl, ⟨rfl, hI, hT, n + 1, by omega, hn⟩, by dsimp only; rw [ht]; exact hY⟩, hS.F ht⟩) hS.2.2 dL_digits_107
      · refine lv_aload_n hx hb dL_digits_61 rfl (lv_at hl 1 rfl) ?_
        refine lv_bipush (v := 48) hx hb dL_digits_62 (by decide) ?_
        refine lv_iload_n hx hb dL_digits_64 rfl (lv_at hl 2 rfl) ?_
        refine lv_bipush (v := 10) hx hb dL_digits_65 (by decide) ?_
        refine lv_idiv hx hb dL_digits_67 (by decide) ?_
        refine lv_bipush (v := 10) hx hb dL_digits_68 (by decide) ?_
        refine lv_irem hx hb dL_digits_70 (by decide) ?_
        refine lv_iadd hx hb dL_digits_71 ?_
        refine kX7_type hF (cwV 1 hts gL_digits_X7_type rfl rfl rfl hdX7_type ⟨Nat.le_of_ble_eq_true rfl, Nat.le_of_ble_eq_true rfl⟩) hC hY hJ hOk hS (fun _ h => h) hl.1 (Nat.le_of_ble_eq_true rfl) dL_digits_72 ⟨Nat.zero_le _, Nat.zero_le _⟩ (fun H locs hY _ _ hS => ?_)
        obtain ⟨et, hI, hn, hT1⟩ := ty_ok (x := (48 + (((nI v) / 10) - ((nI v) / 10) / 10 * 10))) hI hn (by omega) (dg_c hv1)
        rw [et]
        generalize (zX7_type Ω (48 + (((nI v) / 10) - ((nI v) / 10) / 10 * 10))).2 = Ω_8 at hY hI hn hT1 ⊢
        have hT := hT.tr hT1
        have hOk := hI.1
        clear et hT1
        refine lv_if_le (tgt := 82) hx hb dL_digits_75 (by decide) (fun c_9 => absurd c_9 (nI_nle (by omega) (by omega))) (fun _ => ?_)
        refine lv_iconst (v := 1) hx hb dL_digits_78 (by decide) ?_
        refine lv_goto (tgt := 83) hx hb dL_digits_79 (by decide) ?_
        refine lv_istore_n (lv' := [(2, .int 1), (0, .ref (ob 0)), (1, .int (nI v))]) hx hb dL_digits_83 rfl hl (by decide) rfl (fun ls hl => ?_)
        refine lv_iload_n hx hb dL_digits_84 rfl (lv_at hl 0 rfl) ?_
        refine lv_if_eq (tgt := 106) hx hb dL_digits_85 (by decide) (fun c_10 => absurd c_10 (by decide)) (fun _ => ?_)
        refine lv_aload_n hx hb dL_digits_88 rfl (lv_at hl 1 rfl) ?_
        refine lv_bipush (v := 48) hx hb dL_digits_89 (by decide) ?_
        refine lv_iload_n hx hb dL_digits_91 rfl (lv_at hl 2 rfl) ?_
        refine lv_bipush (v := 10) hx hb dL_digits_92 (by decide) ?_
        refine lv_irem hx hb dL_digits_94 (by decide) ?_
        refine lv_iadd hx hb dL_digits_95 ?_
        refine kX7_type hF (cwV 1 hts gL_digits_X7_type rfl rfl rfl hdX7_type ⟨Nat.le_of_ble_eq_true rfl, Nat.le_of_ble_eq_true rfl⟩) hC hY hJ hOk hS (fun _ h => h) hl.1 (Nat.le_of_ble_eq_true rfl) dL_digits_96 ⟨Nat.zero_le _, Nat.zero_le _⟩ (fun H locs hY _ _ hS => ?_)
        obtain ⟨et, hI, hn, hT1⟩ := ty_ok (x := (48 + ((nI v) - (nI v) / 10 * 10))) hI hn (by omega) (dg_d hv1)
        rw [et]
        generalize (zX7_type Ω_8 (48 + ((nI v) - (nI v) / 10 * 10))).2 = Ω_11 at hY hI hn hT1 ⊢
        have hT := hT.tr hT1
        have hOk := hI.1
        clear et hT1
        refine lv_if_le (tgt := 106) hx hb dL_digits_99 (by decide) (fun c_12 => absurd c_12 (nI_nle (by omega) (by omega))) (fun _ => ?_)
        refine lv_iconst (v := 1) hx hb dL_digits_102 (by decide) ?_
        refine lv_goto (tgt := 107) hx hb dL_digits_103 (by decide) ?_
        exact W.zret (v := 1) hx hb hr (by decide) (fun t ht hW => ⟨⟨1, Ω_11, rfl, ⟨rfl, hI, hT, n + 1 + 1, by omega, hn⟩, by dsimp only; rw [ht]; exact hY⟩, hS.F ht⟩) hS.2.2 dL_digits_107
    · refine lv_aload_n hx hb dL_digits_38 rfl (lv_at hl 1 rfl) ?_
      refine lv_bipush (v := 48) hx hb dL_digits_39 (by decide) ?_
      refine lv_iload_n hx hb dL_digits_41 rfl (lv_at hl 2 rfl) ?_
      refine lv_bipush (v := 100) hx hb dL_digits_42 (by decide) ?_
      refine lv_idiv hx hb dL_digits_44 (by decide) ?_
      refine lv_bipush (v := 10) hx hb dL_digits_45 (by decide) ?_
      refine lv_irem hx hb dL_digits_47 (by decide) ?_
      refine lv_iadd hx hb dL_digits_48 ?_
      refine kX7_type hF (cwV 1 hts gL_digits_X7_type rfl rfl rfl hdX7_type ⟨Nat.le_of_ble_eq_true rfl, Nat.le_of_ble_eq_true rfl⟩) hC hY hJ hOk hS (fun _ h => h) hl.1 (Nat.le_of_ble_eq_true rfl) dL_digits_49 ⟨Nat.zero_le _, Nat.zero_le _⟩ (fun H locs hY _ _ hS => ?_)
      obtain ⟨et, hI, hn, hT1⟩ := ty_ok (x := (48 + (((nI v) / 100) - ((nI v) / 100) / 10 * 10))) hI hn (by omega) (dg_b hv1)
      rw [et]
      generalize (zX7_type Ω (48 + (((nI v) / 100) - ((nI v) / 100) / 10 * 10))).2 = Ω_13 at hY hI hn hT1 ⊢
      have hT := hT.tr hT1
      have hOk := hI.1
      clear et hT1
      refine lv_if_le (tgt := 82) hx hb dL_digits_52 (by decide) (fun c_14 => absurd c_14 (nI_nle (by omega) (by omega))) (fun _ => ?_)
      refine lv_iload_n hx hb dL_digits_55 rfl (lv_at hl 2 rfl) ?_
      refine lv_bipush (v := 10) hx hb dL_digits_56 (by decide) ?_
      refine lv_icmp_lt (tgt := 78) hx hb dL_digits_58 (by decide) (fun c_15 => ?_) (fun c_15 => ?_)
      · refine lv_iconst (v := 1) hx hb dL_digits_78 (by decide) ?_
        refine lv_goto (tgt := 83) hx hb dL_digits_79 (by decide) ?_
        refine lv_istore_n (lv' := [(2, .int 1), (0, .ref (ob 0)), (1, .int (nI v))]) hx hb dL_digits_83 rfl hl (by decide) rfl (fun ls hl => ?_)
        refine lv_iload_n hx hb dL_digits_84 rfl (lv_at hl 0 rfl) ?_
        refine lv_if_eq (tgt := 106) hx hb dL_digits_85 (by decide) (fun c_16 => absurd c_16 (by decide)) (fun _ => ?_)
        refine lv_aload_n hx hb dL_digits_88 rfl (lv_at hl 1 rfl) ?_
        refine lv_bipush (v := 48) hx hb dL_digits_89 (by decide) ?_
        refine lv_iload_n hx hb dL_digits_91 rfl (lv_at hl 2 rfl) ?_
        refine lv_bipush (v := 10) hx hb dL_digits_92 (by decide) ?_
        refine lv_irem hx hb dL_digits_94 (by decide) ?_
        refine lv_iadd hx hb dL_digits_95 ?_
        refine kX7_type hF (cwV 1 hts gL_digits_X7_type rfl rfl rfl hdX7_type ⟨Nat.le_of_ble_eq_true rfl, Nat.le_of_ble_eq_true rfl⟩) hC hY hJ hOk hS (fun _ h => h) hl.1 (Nat.le_of_ble_eq_true rfl) dL_digits_96 ⟨Nat.zero_le _, Nat.zero_le _⟩ (fun H locs hY _ _ hS => ?_)
        obtain ⟨et, hI, hn, hT1⟩ := ty_ok (x := (48 + ((nI v) - (nI v) / 10 * 10))) hI hn (by omega) (dg_d hv1)
        rw [et]
        generalize (zX7_type Ω_13 (48 + ((nI v) - (nI v) / 10 * 10))).2 = Ω_17 at hY hI hn hT1 ⊢
        have hT := hT.tr hT1
        have hOk := hI.1
        clear et hT1
        refine lv_if_le (tgt := 106) hx hb dL_digits_99 (by decide) (fun c_18 => absurd c_18 (nI_nle (by omega) (by omega))) (fun _ => ?_)
        refine lv_iconst (v := 1) hx hb dL_digits_102 (by decide) ?_
        refine lv_goto (tgt := 107) hx hb dL_digits_103 (by decide) ?_
        exact W.zret (v := 1) hx hb hr (by decide) (fun t ht hW => ⟨⟨1, Ω_17, rfl, ⟨rfl, hI, hT, n + 1 + 1, by omega, hn⟩, by dsimp only; rw [ht]; exact hY⟩, hS.F ht⟩) hS.2.2 dL_digits_107
      · refine lv_aload_n hx hb dL_digits_61 rfl (lv_at hl 1 rfl) ?_
        refine lv_bipush (v := 48) hx hb dL_digits_62 (by decide) ?_
        refine lv_iload_n hx hb dL_digits_64 rfl (lv_at hl 2 rfl) ?_
        refine lv_bipush (v := 10) hx hb dL_digits_65 (by decide) ?_
        refine lv_idiv hx hb dL_digits_67 (by decide) ?_
        refine lv_bipush (v := 10) hx hb dL_digits_68 (by decide) ?_
        refine lv_irem hx hb dL_digits_70 (by decide) ?_
        refine lv_iadd hx hb dL_digits_71 ?_
        refine kX7_type hF (cwV 1 hts gL_digits_X7_type rfl rfl rfl hdX7_type ⟨Nat.le_of_ble_eq_true rfl, Nat.le_of_ble_eq_true rfl⟩) hC hY hJ hOk hS (fun _ h => h) hl.1 (Nat.le_of_ble_eq_true rfl) dL_digits_72 ⟨Nat.zero_le _, Nat.zero_le _⟩ (fun H locs hY _ _ hS => ?_)
        obtain ⟨et, hI, hn, hT1⟩ := ty_ok (x := (48 + (((nI v) / 10) - ((nI v) / 10) / 10 * 10))) hI hn (by omega) (dg_c hv1)
        rw [et]
        generalize (zX7_type Ω_13 (48 + (((nI v) / 10) - ((nI v) / 10) / 10 * 10))).2 = Ω_19 at hY hI hn hT1 ⊢
        have hT := hT.tr hT1
        have hOk := hI.1
        clear et hT1
        refine lv_if_le (tgt := 82) hx hb dL_digits_75 (by decide) (fun c_20 => absurd c_20 (nI_nle (by omega) (by omega))) (fun _ => ?_)
        refine lv_iconst (v := 1) hx hb dL_digits_78 (by decide) ?_
        refine lv_goto (tgt := 83) hx hb dL_digits_79 (by decide) ?_
        refine lv_istore_n (lv' := [(2, .int 1), (0, .ref (ob 0)), (1, .int (nI v))]) hx hb dL_digits_83 rfl hl (by decide) rfl (fun ls hl => ?_)
        refine lv_iload_n hx hb dL_digits_84 rfl (lv_at hl 0 rfl) ?_
        refine lv_if_eq (tgt := 106) hx hb dL_digits_85 (by decide) (fun c_21 => absurd c_21 (by decide)) (fun _ => ?_)
        refine lv_aload_n hx hb dL_digits_88 rfl (lv_at hl 1 rfl) ?_
        refine lv_bipush (v := 48) hx hb dL_digits_89 (by decide) ?_
        refine lv_iload_n hx hb dL_digits_91 rfl (lv_at hl 2 rfl) ?_
        refine lv_bipush (v := 10) hx hb dL_digits_92 (by decide) ?_
        refine lv_irem hx hb dL_digits_94 (by decide) ?_
        refine lv_iadd hx hb dL_digits_95 ?_
        refine kX7_type hF (cwV 1 hts gL_digits_X7_type rfl rfl rfl hdX7_type ⟨Nat.le_of_ble_eq_true rfl, Nat.le_of_ble_eq_true rfl⟩) hC hY hJ hOk hS (fun _ h => h) hl.1 (Nat.le_of_ble_eq_true rfl) dL_digits_96 ⟨Nat.zero_le _, Nat.zero_le _⟩ (fun H locs hY _ _ hS => ?_)
        obtain ⟨et, hI, hn, hT1⟩ := ty_ok (x := (48 + ((nI v) - (nI v) / 10 * 10))) hI hn (by omega) (dg_d hv1)
        rw [et]
        generalize (zX7_type Ω_19 (48 + ((nI v) - (nI v) / 10 * 10))).2 = Ω_22 at hY hI hn hT1 ⊢
        have hT := hT.tr hT1
        have hOk := hI.1
        clear et hT1
        refine lv_if_le (tgt := 106) hx hb dL_digits_99 (by decide) (fun c_23 => absurd c_23 (nI_nle (by omega) (by omega))) (fun _ => ?_)
        refine lv_iconst (v := 1) hx hb dL_digits_102 (by decide) ?_
        refine lv_goto (tgt := 107) hx hb dL_digits_103 (by decide) ?_
        exact W.zret (v := 1) hx hb hr (by decide) (fun t ht hW => ⟨⟨1, Ω_22, rfl, ⟨rfl, hI, hT, n + 1 + 1 + 1, by omega, hn⟩, by dsimp only; rw [ht]; exact hY⟩, hS.F ht⟩) hS.2.2 dL_digits_107
  · refine lv_aload_n hx hb dL_digits_7 rfl (lv_at hl 0 rfl) ?_
    refine lv_bipush (v := 48) hx hb dL_digits_8 (by decide) ?_
    refine lv_iload_n hx hb dL_digits_10 rfl (lv_at hl 1 rfl) ?_
    refine lv_sipush (v := 1000) hx hb dL_digits_11 (by decide) ?_
    refine lv_idiv hx hb dL_digits_14 (by decide) ?_
    refine lv_iadd hx hb dL_digits_15 ?_
    refine kX7_type hF (cwV 1 hts gL_digits_X7_type rfl rfl rfl hdX7_type ⟨Nat.le_of_ble_eq_true rfl, Nat.le_of_ble_eq_true rfl⟩) hC hY hJ hOk hS (fun _ h => h) hl.1 (Nat.le_of_ble_eq_true rfl) dL_digits_16 ⟨Nat.zero_le _, Nat.zero_le _⟩ (fun H locs hY _ _ hS => ?_)
    obtain ⟨et, hI, hn, hT1⟩ := ty_ok (x := (48 + ((nI v) / 1000))) hI hn (by omega) (dg_a hv1)
    rw [et]
    generalize (zX7_type Ω (48 + ((nI v) / 1000))).2 = Ω_24 at hY hI hn hT1 ⊢
    have hT := hT.tr hT1
    have hOk := hI.1
    clear et hT1
    refine lv_if_le (tgt := 26) hx hb dL_digits_19 (by decide) (fun c_25 => absurd c_25 (nI_nle (by omega) (by omega))) (fun _ => ?_)
    refine lv_iconst (v := 1) hx hb dL_digits_22 (by decide) ?_
    refine lv_goto (tgt := 27) hx hb dL_digits_23 (by decide) ?_
    refine lv_istore_n (lv' := [(2, .int 1), (0, .ref (ob 0)), (1, .int (nI v))]) hx hb dL_digits_27 rfl hl (by decide) rfl (fun ls hl => ?_)
    refine lv_iload_n hx hb dL_digits_28 rfl (lv_at hl 0 rfl) ?_
    refine lv_if_eq (tgt := 82) hx hb dL_digits_29 (by decide) (fun c_26 => absurd c_26 (by decide)) (fun _ => ?_)
    refine lv_iload_n hx hb dL_digits_32 rfl (lv_at hl 2 rfl) ?_
    refine lv_bipush (v := 100) hx hb dL_digits_33 (by decide) ?_
    refine lv_icmp_lt (tgt := 55) hx hb dL_digits_35 (by decide) (fun c_27 => ?_) (fun c_27 => ?_)
    · refine lv_iload_n hx hb dL_digits_55 rfl (lv_at hl 2 rfl) ?_
      refine lv_bipush (v := 10) hx hb dL_digits_56 (by decide) ?_
      refine lv_icmp_lt (tgt := 78) hx hb dL_digits_58 (by decide) (fun c_28 => ?_) (fun c_28 => ?_)
      · refine lv_iconst (v := 1) hx hb dL_digits_78 (by decide) ?_
        refine lv_goto (tgt := 83) hx hb dL_digits_79 (by decide) ?_
        refine lv_istore_n (lv' := [(2, .int 1), (0, .ref (ob 0)), (1, .int (nI v))]) hx hb dL_digits_83 rfl hl (by decide) rfl (fun ls hl => ?_)
        refine lv_iload_n hx hb dL_digits_84 rfl (lv_at hl 0 rfl) ?_
        refine lv_if_eq (tgt := 106) hx hb dL_digits_85 (by decide) (fun c_29 => absurd c_29 (by decide)) (fun _ => ?_)
        refine lv_aload_n hx hb dL_digits_88 rfl (lv_at hl 1 rfl) ?_
        refine lv_bipush (v := 48) hx hb dL_digits_89 (by decide) ?_
        refine lv_iload_n hx hb dL_digits_91 rfl (lv_at hl 2 rfl) ?_
        refine lv_bipush (v := 10) hx hb dL_digits_92 (by decide) ?_
        refine lv_irem hx hb dL_digits_94 (by decide) ?_
        refine lv_iadd hx hb dL_digits_95 ?_
        refine kX7_type hF (cwV 1 hts gL_digits_X7_type rfl rfl rfl hdX7_type ⟨Nat.le_of_ble_eq_true rfl, Nat.le_of_ble_eq_true rfl⟩) hC hY hJ hOk hS (fun _ h => h) hl.1 (Nat.le_of_ble_eq_true rfl) dL_digits_96 ⟨Nat.zero_le _, Nat.zero_le _⟩ (fun H locs hY _ _ hS => ?_)
        obtain ⟨et, hI, hn, hT1⟩ := ty_ok (x := (48 + ((nI v) - (nI v) / 10 * 10))) hI hn (by omega) (dg_d hv1)
        rw [et]
        generalize (zX7_type Ω_24 (48 + ((nI v) - (nI v) / 10 * 10))).2 = Ω_30 at hY hI hn hT1 ⊢
        have hT := hT.tr hT1
        have hOk := hI.1
        clear et hT1
        refine lv_if_le (tgt := 106) hx hb dL_digits_99 (by decide) (fun c_31 => absurd c_31 (nI_nle (by omega) (by omega))) (fun _ => ?_)
        refine lv_iconst (v := 1) hx hb dL_digits_102 (by decide) ?_
        refine lv_goto (tgt := 107) hx hb dL_digits_103 (by decide) ?_
        exact W.zret (v := 1) hx hb hr (by decide) (fun t ht hW => ⟨⟨1, Ω_30, rfl, ⟨rfl, hI, hT, n + 1 + 1, by omega, hn⟩, by dsimp only; rw [ht]; exact hY⟩, hS.F ht⟩) hS.2.2 dL_digits_107
      · refine lv_aload_n hx hb dL_digits_61 rfl (lv_at hl 1 rfl) ?_
        refine lv_bipush (v := 48) hx hb dL_digits_62 (by decide) ?_
        refine lv_iload_n hx hb dL_digits_64 rfl (lv_at hl 2 rfl) ?_
        refine lv_bipush (v := 10) hx hb dL_digits_65 (by decide) ?_
        refine lv_idiv hx hb dL_digits_67 (by decide) ?_
        refine lv_bipush (v := 10) hx hb dL_digits_68 (by decide) ?_
        refine lv_irem hx hb dL_digits_70 (by decide) ?_
        refine lv_iadd hx hb dL_digits_71 ?_
        refine kX7_type hF (cwV 1 hts gL_digits_X7_type rfl rfl rfl hdX7_type ⟨Nat.le_of_ble_eq_true rfl, Nat.le_of_ble_eq_true rfl⟩) hC hY hJ hOk hS (fun _ h => h) hl.1 (Nat.le_of_ble_eq_true rfl) dL_digits_72 ⟨Nat.zero_le _, Nat.zero_le _⟩ (fun H locs hY _ _ hS => ?_)
        obtain ⟨et, hI, hn, hT1⟩ := ty_ok (x := (48 + (((nI v) / 10) - ((nI v) / 10) / 10 * 10))) hI hn (by omega) (dg_c hv1)
        rw [et]
        generalize (zX7_type Ω_24 (48 + (((nI v) / 10) - ((nI v) / 10) / 10 * 10))).2 = Ω_32 at hY hI hn hT1 ⊢
        have hT := hT.tr hT1
        have hOk := hI.1
        clear et hT1
        refine lv_if_le (tgt := 82) hx hb dL_digits_75 (by decide) (fun c_33 => absurd c_33 (nI_nle (by omega) (by omega))) (fun _ => ?_)
        refine lv_iconst (v := 1) hx hb dL_digits_78 (by decide) ?_
        refine lv_goto (tgt := 83) hx hb dL_digits_79 (by decide) ?_
        refine lv_istore_n (lv' := [(2, .int 1), (0, .ref (ob 0)), (1, .int (nI v))]) hx hb dL_digits_83 rfl hl (by decide) rfl (fun ls hl => ?_)
        refine lv_iload_n hx hb dL_digits_84 rfl (lv_at hl 0 rfl) ?_
        refine lv_if_eq (tgt := 106) hx hb dL_digits_85 (by decide) (fun c_34 => absurd c_34 (by decide)) (fun _ => ?_)
        refine lv_aload_n hx hb dL_digits_88 rfl (lv_at hl 1 rfl) ?_
        refine lv_bipush (v := 48) hx hb dL_digits_89 (by decide) ?_
        refine lv_iload_n hx hb dL_digits_91 rfl (lv_at hl 2 rfl) ?_
        refine lv_bipush (v := 10) hx hb dL_digits_92 (by decide) ?_
        refine lv_irem hx hb dL_digits_94 (by decide) ?_
        refine lv_iadd hx hb dL_digits_95 ?_
        refine kX7_type hF (cwV 1 hts gL_digits_X7_type rfl rfl rfl hdX7_type ⟨Nat.le_of_ble_eq_true rfl, Nat.le_of_ble_eq_true rfl⟩) hC hY hJ hOk hS (fun _ h => h) hl.1 (Nat.le_of_ble_eq_true rfl) dL_digits_96 ⟨Nat.zero_le _, Nat.zero_le _⟩ (fun H locs hY _ _ hS => ?_)
        obtain ⟨et, hI, hn, hT1⟩ := ty_ok (x := (48 + ((nI v) - (nI v) / 10 * 10))) hI hn (by omega) (dg_d hv1)
        rw [et]
        generalize (zX7_type Ω_32 (48 + ((nI v) - (nI v) / 10 * 10))).2 = Ω_35 at hY hI hn hT1 ⊢
        have hT := hT.tr hT1
        have hOk := hI.1
        clear et hT1
        refine lv_if_le (tgt := 106) hx hb dL_digits_99 (by decide) (fun c_36 => absurd c_36 (nI_nle (by omega) (by omega))) (fun _ => ?_)
        refine lv_iconst (v := 1) hx hb dL_digits_102 (by decide) ?_
        refine lv_goto (tgt := 107) hx hb dL_digits_103 (by decide) ?_
        exact W.zret (v := 1) hx hb hr (by decide) (fun t ht hW => ⟨⟨1, Ω_35, rfl, ⟨rfl, hI, hT, n + 1 + 1 + 1, by omega, hn⟩, by dsimp only; rw [ht]; exact hY⟩, hS.F ht⟩) hS.2.2 dL_digits_107
    · refine lv_aload_n hx hb dL_digits_38 rfl (lv_at hl 1 rfl) ?_
      refine lv_bipush (v := 48) hx hb dL_digits_39 (by decide) ?_
      refine lv_iload_n hx hb dL_digits_41 rfl (lv_at hl 2 rfl) ?_
      refine lv_bipush (v := 100) hx hb dL_digits_42 (by decide) ?_
      refine lv_idiv hx hb dL_digits_44 (by decide) ?_
      refine lv_bipush (v := 10) hx hb dL_digits_45 (by decide) ?_
      refine lv_irem hx hb dL_digits_47 (by decide) ?_
      refine lv_iadd hx hb dL_digits_48 ?_
      refine kX7_type hF (cwV 1 hts gL_digits_X7_type rfl rfl rfl hdX7_type ⟨Nat.le_of_ble_eq_true rfl, Nat.le_of_ble_eq_true rfl⟩) hC hY hJ hOk hS (fun _ h => h) hl.1 (Nat.le_of_ble_eq_true rfl) dL_digits_49 ⟨Nat.zero_le _, Nat.zero_le _⟩ (fun H locs hY _ _ hS => ?_)
      obtain ⟨et, hI, hn, hT1⟩ := ty_ok (x := (48 + (((nI v) / 100) - ((nI v) / 100) / 10 * 10))) hI hn (by omega) (dg_b hv1)
      rw [et]
      generalize (zX7_type Ω_24 (48 + (((nI v) / 100) - ((nI v) / 100) / 10 * 10))).2 = Ω_37 at hY hI hn hT1 ⊢
      have hT := hT.tr hT1
      have hOk := hI.1
      clear et hT1
      refine lv_if_le (tgt := 82) hx hb dL_digits_52 (by decide) (fun c_38 => absurd c_38 (nI_nle (by omega) (by omega))) (fun _ => ?_)
      refine lv_iload_n hx hb dL_digits_55 rfl (lv_at hl 2 rfl) ?_
      refine lv_bipush (v := 10) hx hb dL_digits_56 (by decide) ?_
      refine lv_icmp_lt (tgt := 78) hx hb dL_digits_58 (by decide) (fun c_39 => ?_) (fun c_39 => ?_)
      · refine lv_iconst (v := 1) hx hb dL_digits_78 (by decide) ?_
        refine lv_goto (tgt := 83) hx hb dL_digits_79 (by decide) ?_
        refine lv_istore_n (lv' := [(2, .int 1), (0, .ref (ob 0)), (1, .int (nI v))]) hx hb dL_digits_83 rfl hl (by decide) rfl (fun ls hl => ?_)
        refine lv_iload_n hx hb dL_digits_84 rfl (lv_at hl 0 rfl) ?_
        refine lv_if_eq (tgt := 106) hx hb dL_digits_85 (by decide) (fun c_40 => absurd c_40 (by decide)) (fun _ => ?_)
        refine lv_aload_n hx hb dL_digits_88 rfl (lv_at hl 1 rfl) ?_
        refine lv_bipush (v := 48) hx hb dL_digits_89 (by decide) ?_
        refine lv_iload_n hx hb dL_digits_91 rfl (lv_at hl 2 rfl) ?_
        refine lv_bipush (v := 10) hx hb dL_digits_92 (by decide) ?_
        refine lv_irem hx hb dL_digits_94 (by decide) ?_
        refine lv_iadd hx hb dL_digits_95 ?_
        refine kX7_type hF (cwV 1 hts gL_digits_X7_type rfl rfl rfl hdX7_type ⟨Nat.le_of_ble_eq_true rfl, Nat.le_of_ble_eq_true rfl⟩) hC hY hJ hOk hS (fun _ h => h) hl.1 (Nat.le_of_ble_eq_true rfl) dL_digits_96 ⟨Nat.zero_le _, Nat.zero_le _⟩ (fun H locs hY _ _ hS => ?_)
        obtain ⟨et, hI, hn, hT1⟩ := ty_ok (x := (48 + ((nI v) - (nI v) / 10 * 10))) hI hn (by omega) (dg_d hv1)
        rw [et]
        generalize (zX7_type Ω_37 (48 + ((nI v) - (nI v) / 10 * 10))).2 = Ω_41 at hY hI hn hT1 ⊢
        have hT := hT.tr hT1
        have hOk := hI.1
        clear et hT1
        refine lv_if_le (tgt := 106) hx hb dL_digits_99 (by decide) (fun c_42 => absurd c_42 (nI_nle (by omega) (by omega))) (fun _ => ?_)
        refine lv_iconst (v := 1) hx hb dL_digits_102 (by decide) ?_
        refine lv_goto (tgt := 107) hx hb dL_digits_103 (by decide) ?_
        exact W.zret (v := 1) hx hb hr (by decide) (fun t ht hW => ⟨⟨1, Ω_41, rfl, ⟨rfl, hI, hT, n + 1 + 1 + 1, by omega, hn⟩, by dsimp only; rw [ht]; exact hY⟩, hS.F ht⟩) hS.2.2 dL_digits_107
      · refine lv_aload_n hx hb dL_digits_61 rfl (lv_at hl 1 rfl) ?_
        refine lv_bipush (v := 48) hx hb dL_digits_62 (by decide) ?_
        refine lv_iload_n hx hb dL_digits_64 rfl (lv_at hl 2 rfl) ?_
        refine lv_bipush (v := 10) hx hb dL_digits_65 (by decide) ?_
        refine lv_idiv hx hb dL_digits_67 (by decide) ?_
        refine lv_bipush (v := 10) hx hb dL_digits_68 (by decide) ?_
        refine lv_irem hx hb dL_digits_70 (by decide) ?_
        refine lv_iadd hx hb dL_digits_71 ?_
        refine kX7_type hF (cwV 1 hts gL_digits_X7_type rfl rfl rfl hdX7_type ⟨Nat.le_of_ble_eq_true rfl, Nat.le_of_ble_eq_true rfl⟩) hC hY hJ hOk hS (fun _ h => h) hl.1 (Nat.le_of_ble_eq_true rfl) dL_digits_72 ⟨Nat.zero_le _, Nat.zero_le _⟩ (fun H locs hY _ _ hS => ?_)
        obtain ⟨et, hI, hn, hT1⟩ := ty_ok (x := (48 + (((nI v) / 10) - ((nI v) / 10) / 10 * 10))) hI hn (by omega) (dg_c hv1)
        rw [et]
        generalize (zX7_type Ω_37 (48 + (((nI v) / 10) - ((nI v) / 10) / 10 * 10))).2 = Ω_43 at hY hI hn hT1 ⊢
        have hT := hT.tr hT1
        have hOk := hI.1
        clear et hT1
        refine lv_if_le (tgt := 82) hx hb dL_digits_75 (by decide) (fun c_44 => absurd c_44 (nI_nle (by omega) (by omega))) (fun _ => ?_)
        refine lv_iconst (v := 1) hx hb dL_digits_78 (by decide) ?_
        refine lv_goto (tgt := 83) hx hb dL_digits_79 (by decide) ?_
        refine lv_istore_n (lv' := [(2, .int 1), (0, .ref (ob 0)), (1, .int (nI v))]) hx hb dL_digits_83 rfl hl (by decide) rfl (fun ls hl => ?_)
        refine lv_iload_n hx hb dL_digits_84 rfl (lv_at hl 0 rfl) ?_
        refine lv_if_eq (tgt := 106) hx hb dL_digits_85 (by decide) (fun c_45 => absurd c_45 (by decide)) (fun _ => ?_)
        refine lv_aload_n hx hb dL_digits_88 rfl (lv_at hl 1 rfl) ?_
        refine lv_bipush (v := 48) hx hb dL_digits_89 (by decide) ?_
        refine lv_iload_n hx hb dL_digits_91 rfl (lv_at hl 2 rfl) ?_
        refine lv_bipush (v := 10) hx hb dL_digits_92 (by decide) ?_
        refine lv_irem hx hb dL_digits_94 (by decide) ?_
        refine lv_iadd hx hb dL_digits_95 ?_
        refine kX7_type hF (cwV 1 hts gL_digits_X7_type rfl rfl rfl hdX7_type ⟨Nat.le_of_ble_eq_true rfl, Nat.le_of_ble_eq_true rfl⟩) hC hY hJ hOk hS (fun _ h => h) hl.1 (Nat.le_of_ble_eq_true rfl) dL_digits_96 ⟨Nat.zero_le _, Nat.zero_le _⟩ (fun H locs hY _ _ hS => ?_)
        obtain ⟨et, hI, hn, hT1⟩ := ty_ok (x := (48 + ((nI v) - (nI v) / 10 * 10))) hI hn (by omega) (dg_d hv1)
        rw [et]
        generalize (zX7_type Ω_43 (48 + ((nI v) - (nI v) / 10 * 10))).2 = Ω_46 at hY hI hn hT1 ⊢
        have hT := hT.tr hT1
        have hOk := hI.1
        clear et hT1
        refine lv_if_le (tgt := 106) hx hb dL_digits_99 (by decide) (fun c_47 => absurd c_47 (nI_nle (by omega) (by omega))) (fun _ => ?_)
        refine lv_iconst (v := 1) hx hb dL_digits_102 (by decide) ?_
        refine lv_goto (tgt := 107) hx hb dL_digits_103 (by decide) ?_
        exact W.zret (v := 1) hx hb hr (by decide) (fun t ht hW => ⟨⟨1, Ω_46, rfl, ⟨rfl, hI, hT, n + 1 + 1 + 1 + 1, by omega, hn⟩, by dsimp only; rw [ht]; exact hY⟩, hS.F ht⟩) hS.2.2 dL_digits_107
set_option maxHeartbeats 4000000 in
set_option maxRecDepth 100000 in
theorem kL_digits {p : Program} {l : Launch} {e : Env} {R : Room} {s : State} {m : MethodId} {args : Array Value} {below : List Frame} {meth : Method} {c : Code} {H : Heap} {locs : List Loc} {cells slots : Nat} {Q : State → Prop} {cc : ByteArray} {nL : Nat} {Ts : List Cond} {own : String} {index pc : Nat} {ls : Array Slot} {rest : List Value} {D : va_G} {y : Y3} {ob : Nat → Nat} {AD : Nat → Nat → Nat} {Ω : Og} {v n : Nat} {A0 : Nat → Prop} {H0 : Heap} (hF : CallFix p m c cc nL s args Ts own) (cw : CallB R s args own index yL_digits cL_digits 3 (some .boolean) wsL_digits ({ frames := 3, cells := 0, slots := 0, locals := 64 } : Room) 0 0 2 ∧ (Cond.static yL_digits).before args s = true) (hC : CK D y s) (hY : SysH D y ob AD Ω H) (hJ : sysJ ob AD) (hI : InvO Ω) (hn : Ω 6 1 0 = nI n) (hv : (v ≤ 9999 ∧ n + 4 ≤ 60)) (hS : va_S A0 H0 H locs) (hA : ∀ q, (sysA ob AD) q → A0 q) (hsz : ls.size = nL) (hW : (rest.map fun v => v.category).sum ≤ 8) (hdg : decode cc pc = .ok (.invokestatic index, 3)) (hf : cells ≤ R.cells ∧ slots ≤ R.slots)
    (k : ∀ (r : Int32) (u : Og) (H1 : Heap) (locs1 : List Loc), (r = 1 ∧ TxO Ω u (n + 4)) → SysH D y ob AD u H1 → va_S A0 H0 H1 locs1 → W p l e R s m args below meth c H1 locs1 cells slots Q (F0 m (pc + 3) ls (.int r :: rest))) : W p l e R s m args below meth c H locs cells slots Q (F0 m pc ls (.int (nI v) :: .ref (ob 0) :: rest)) := by
  refine va_calli (va_runS (As := [.ref (ob 0), .int (nI v)]) (rest := rest) hF (mL_digits l D y ob AD Ω v n) cw ⟨fun a U g mk q => by obtain ⟨q0, q1, q2, q3, q4, q5, q6⟩ := q; exact ⟨q0, q1.call g mk a, q2, q3, q4, q5, q6⟩, fun U hU hW => ⟨rfl, hC.warm hW, by rw [hU]; exact hY, hJ, hI, hn, hv⟩⟩ rfl rfl hsz rfl (lv_room hW) hdg ⟨hf.1, hf.2⟩) hS (fun q _ h => hA q h) hA (fun r u t H1 locs1 ht hvm hp hB hz1 hk1 hS1 => ?_)
  rw [ht] at hB
  exact k r u H1 locs1 hp hB hS1
theorem hdL_types : yL_types.cls ≠ "java/lang/invoke/MethodHandle" ∧ yL_types.cls ≠ "java/lang/invoke/VarHandle" ∧ (parseMethodDescriptor yL_types.desc).map (fun d => d.parameters.length) = some 2 := by decide +kernel
set_option maxHeartbeats 4000000 in
set_option maxRecDepth 100000 in
theorem lpL_types {p : Program} {l : Launch} {e : Env} {s : State} {m : MethodId} {args : Array Value} {below : List Frame} {meth : Method} {c : Code} {Q : State → Prop} {D : va_G} {y : Y3} {ob : Nat → Nat} {AD : Nat → Nat → Nat} {Ω : Og} {x1 : Int32} {N : Nat} (hx : p.tables.exec = Jvm.exec) (hb : c.code = cL_types) (hml : c.maxLocals = 10) (hown : s.vm.findClass RL = some m.cls) (hts : ∀ w ∈ wsL_types, w.before args s = true) (hC : CK D y s) (hJ : sysJ ob AD) (hN : N ≤ 4)
    (K : ∀ (Ω1 : Og) (H : Heap) (locs : List Loc) (ls : Array Slot), InvO Ω1 → TxS Ω Ω1 → SysH D y ob AD Ω1 H → va_S (sysA ob AD) s.heap H locs → lv_has ls 10 [(4, .int (nI N)), (3, .int 1), (2, .int (nI N)), (1, .int x1), (0, .ref (ob 0))] → W p l e (headSpec wsL_types ({ frames := 4, cells := 0, slots := 0, locals := 89 } : Room)).room s m args below meth c H locs 0 0 Q (F0 m 315 ls [])) :
    ∀ (j i : Nat), i + j = N → ∀ (Ω1 : Og) (n1 : Nat) (H : Heap) (locs : List Loc), InvO Ω1 → TxS Ω Ω1 → Ω1 6 1 0 = nI n1 → n1 ≤ 11 * i → SysH D y ob AD Ω1 H → va_S (sysA ob AD) s.heap H locs → ∀ ls : Array Slot, lv_has ls 10 [(4, .int (nI i)), (3, .int 1), (2, .int (nI N)), (1, .int x1), (0, .ref (ob 0))] → W p l e (headSpec wsL_types ({ frames := 4, cells := 0, slots := 0, locals := 89 } : Room)).room s m args below meth c H locs 0 0 Q (F0 m 22 ls []) := by
  have hF := (⟨hx, hb, hml, hown, hts⟩ : CallFix p m c cL_types 10 s args wsL_types RL)
  intro j
  induction j with
  | zero =>
    intro i hin Ω1 n1 H locs hI hT hn hn1 hY hS ls hl
    have hOk := hI.1
    obtain rfl : i = N := by omega
    refine lv_iload hx hb dL_types_22 (lv_at hl 0 rfl) ?_
    refine lv_iload_n hx hb dL_types_24 rfl (lv_at hl 2 rfl) ?_
    refine lv_icmp_ge (tgt := 315) hx hb dL_types_25 (by decide) (fun _ => ?_) (fun c_1 => absurd (nI_le (Nat.le_refl _) (by omega)) c_1)
    exact K Ω1 H locs ls hI hT hY hS (lv_sub hl [0, 1, 2, 3, 4] rfl)
  | succ j ih =>
    intro i hin Ω1 n1 H locs hI hT hn hn1 hY hS ls hl
    have hOk := hI.1
    refine lv_iload hx hb dL_types_22 (lv_at hl 0 rfl) ?_
    refine lv_iload_n hx hb dL_types_24 rfl (lv_at hl 2 rfl) ?_
    refine lv_icmp_ge (tgt := 315) hx hb dL_types_25 (by decide) (fun c_2 => absurd c_2 (nI_ge (a := i) (b := N) (by omega) (by omega))) (fun _ => ?_)
    refine lv_iload_n hx hb dL_types_28 rfl (lv_at hl 3 rfl) ?_
    refine lv_iconst (v := 3) hx hb dL_types_29 (by decide) ?_
    refine lv_iconst (v := 5) hx hb dL_types_30 (by decide) ?_
    refine lv_iload hx hb dL_types_31 (lv_at hl 0 rfl) ?_
    refine lv_imul hx hb dL_types_33 ?_
    refine lv_iadd hx hb dL_types_34 ?_
    refine lv_ishr hx hb dL_types_35 ?_
    refine lv_istore (lv' := [(5, .int (x1 >>> ((3 + (5 * (nI i))) &&& 31))), (4, .int (nI i)), (3, .int 1), (2, .int (nI N)), (1, .int x1), (0, .ref (ob 0))]) hx hb dL_types_36 hl (by decide) rfl (fun ls hl => ?_)
    refine lv_iload hx hb dL_types_38 (lv_at hl 0 rfl) ?_
    refine lv_bipush (v := 7) hx hb dL_types_40 (by decide) ?_
    refine kL_low (x1 := (x1 >>> ((3 + (5 * (nI i))) &&& 31))) (x2 := 7) hF (va_cwS 2 hts gL_types_L_low rfl rfl rfl hdL_low ⟨Nat.le_of_ble_eq_true rfl, Nat.le_of_ble_eq_true rfl⟩) hC (by decide) hl.1 (Nat.le_of_ble_eq_true rfl) dL_types_42 ⟨Nat.zero_le _, Nat.zero_le _⟩ ?_
    generalize (zL_low (x1 >>> ((3 + (5 * (nI i))) &&& 31)) 7) = way
    refine lv_istore (lv' := [(6, .int way), (5, .int (x1 >>> ((3 + (5 * (nI i))) &&& 31))), (4, .int (nI i)), (3, .int 1), (2, .int (nI N)), (1, .int x1), (0, .ref (ob 0))]) hx hb dL_types_45 hl (by decide) rfl (fun ls hl => ?_)
    refine lv_iload hx hb dL_types_47 (lv_at hl 1 rfl) ?_
    refine lv_iconst (v := 2) hx hb dL_types_49 (by decide) ?_
    refine lv_ishr hx hb dL_types_50 ?_
    have k64 : ∀ (r : Int32) (H : Heap) (locs : List Loc), SysH D y ob AD Ω1 H → va_S (sysA ob AD) s.heap H locs → (r = 12 ∨ r = 3) → W p l e (headSpec wsL_types ({ frames := 4, cells := 0, slots := 0, locals := 89 } : Room)).room s m args below meth c H locs 0 0 Q (F0 m 64 ls [.int r, .int ((x1 >>> ((3 + (5 * (nI i))) &&& 31)) >>> (2 &&& 31))]) := by
      intro r H locs hY hS hr
      obtain ⟨fv, hfv, efv⟩ := low_f (x := ((x1 >>> ((3 + (5 * (nI i))) &&& 31)) >>> (2 &&& 31))) hr
      refine kL_low (x1 := ((x1 >>> ((3 + (5 * (nI i))) &&& 31)) >>> (2 &&& 31))) (x2 := r) hF (va_cwS 2 hts gL_types_L_low rfl rfl rfl hdL_low ⟨Nat.le_of_ble_eq_true rfl, Nat.le_of_ble_eq_true rfl⟩) hC (low_r hr) hl.1 (Nat.le_of_ble_eq_true rfl) dL_types_64 ⟨Nat.zero_le _, Nat.zero_le _⟩ ?_
      rw [efv]
      refine lv_istore (lv' := [(7, .int (nI fv)), (6, .int way), (5, .int (x1 >>> ((3 + (5 * (nI i))) &&& 31))), (4, .int (nI i)), (3, .int 1), (2, .int (nI N)), (1, .int x1), (0, .ref (ob 0))]) hx hb dL_types_67 hl (by decide) rfl (fun ls hl => ?_)
      have k93 : ∀ (r : Int32) (H : Heap) (locs : List Loc), SysH D y ob AD Ω1 H → va_S (sysA ob AD) s.heap H locs → (∃ v : Nat, v ≤ 23 ∧ r = nI v) → W p l e (headSpec wsL_types ({ frames := 4, cells := 0, slots := 0, locals := 89 } : Room)).room s m args below meth c H locs 0 0 Q (F0 m 93 ls [.int r]) := by
        intro r H locs hY hS hr
        obtain ⟨mv, hmv, rfl⟩ := hr
        refine lv_istore (lv' := [(8, .int (nI mv)), (7, .int (nI fv)), (6, .int way), (5, .int (x1 >>> ((3 + (5 * (nI i))) &&& 31))), (4, .int (nI i)), (3, .int 1), (2, .int (nI N)), (1, .int x1), (0, .ref (ob 0))]) hx hb dL_types_93 hl (by decide) rfl (fun ls hl => ?_)
        have k151 : ∀ (r : Int32) (H : Heap) (locs : List Loc), SysH D y ob AD Ω1 H → va_S (sysA ob AD) s.heap H locs → (∃ v : Nat, v ≤ 9999 ∧ r = nI v) → W p l e (headSpec wsL_types ({ frames := 4, cells := 0, slots := 0, locals := 89 } : Room)).room s m args below meth c H locs 0 0 Q (F0 m 151 ls [.int r]) := by
          intro r H locs hY hS hr
          obtain ⟨sv, hsv, rfl⟩ := hr
          refine lv_istore (lv' := [(9, .int (nI sv)), (8, .int (nI mv)), (7, .int (nI fv)), (6, .int way), (5, .int (x1 >>> ((3 + (5 * (nI i))) &&& 31))), (4, .int (nI i)), (3, .int 1), (2, .int (nI N)), (1, .int x1), (0, .ref (ob 0))]) hx hb dL_types_151 hl (by decide) rfl (fun ls hl => ?_)
          refine lv_iload_n hx hb dL_types_153 rfl (lv_at hl 6 rfl) ?_
          refine lv_if_eq (tgt := 244) hx hb dL_types_154 (by decide) (fun c_3 => absurd c_3 (by decide)) (fun _ => ?_)
          refine lv_aload_n hx hb dL_types_157 rfl (lv_at hl 9 rfl) ?_
          have k225 : ∀ (r : Int32) (H : Heap) (locs : List Loc), SysH D y ob AD Ω1 H → va_S (sysA ob AD) s.heap H locs → (∃ c : Nat, 32 ≤ c ∧ c ≤ 126 ∧ r = nI c) → W p l e (headSpec wsL_types ({ frames := 4, cells := 0, slots := 0, locals := 89 } : Room)).room s m args below meth c H locs 0 0 Q (F0 m 225 ls [.int r, .ref (ob 0)]) := by
            intro r H locs hY hS hr
            refine kX7_type hF (cwV 1 hts gL_types_X7_type rfl rfl rfl hdX7_type ⟨Nat.le_of_ble_eq_true rfl, Nat.le_of_ble_eq_true rfl⟩) hC hY hJ hOk hS (fun _ h => h) hl.1 (Nat.le_of_ble_eq_true rfl) dL_types_225 ⟨Nat.zero_le _, Nat.zero_le _⟩ (fun H locs hY _ _ hS => ?_)
            obtain ⟨et, hI, hn, hT1⟩ := ty_ok (x := r) hI hn (by omega) (hr)
            rw [et]
            generalize (zX7_type Ω1 r).2 = Ω_4 at hY hI hn hT1 ⊢
            have hT := hT.tr hT1
            have hOk := hI.1
            clear et hT1
            refine lv_if_le (tgt := 244) hx hb dL_types_228 (by decide) (fun c_5 => absurd c_5 (nI_nle (by omega) (by omega))) (fun _ => ?_)
            refine lv_aload_n hx hb dL_types_231 rfl (lv_at hl 9 rfl) ?_
            refine lv_iload hx hb dL_types_232 (lv_at hl 2 rfl) ?_
            refine kL_digits (v := fv) (n := n1 + 1) hF (va_cwS 2 hts gL_types_L_digits rfl rfl rfl hdL_digits ⟨Nat.le_of_ble_eq_true rfl, Nat.le_of_ble_eq_true rfl⟩) hC hY hJ hI hn ⟨by omega, by omega⟩ hS (fun _ h => h) hl.1 (Nat.le_of_ble_eq_true rfl) dL_types_234 ⟨Nat.zero_le _, Nat.zero_le _⟩ (fun r_7 u_6 H locs hq hY hS => ?_)
            obtain ⟨rfl, hI, hT1, n_8, n_8_le, hn⟩ := hq
            have hT := hT.tr hT1
            have hOk := hI.1
            clear hT1
            refine lv_if_eq (tgt := 244) hx hb dL_types_237 (by decide) (fun c_9 => absurd c_9 (by decide)) (fun _ => ?_)
            refine lv_iconst (v := 1) hx hb dL_types_240 (by decide) ?_
            refine lv_goto (tgt := 245) hx hb dL_types_241 (by decide) ?_
            refine lv_istore_n (lv' := [(3, .int 1), (9, .int (nI sv)), (8, .int (nI mv)), (7, .int (nI fv)), (6, .int way), (5, .int (x1 >>> ((3 + (5 * (nI i))) &&& 31))), (4, .int (nI i)), (2, .int (nI N)), (1, .int x1), (0, .ref (ob 0))]) hx hb dL_types_245 rfl hl (by decide) rfl (fun ls hl => ?_)
            refine lv_iload_n hx hb dL_types_246 rfl (lv_at hl 0 rfl) ?_
            refine lv_if_eq (tgt := 307) hx hb dL_types_247 (by decide) (fun c_10 => absurd c_10 (by decide)) (fun _ => ?_)
            have k274 : ∀ (Ω2 : Og) (n2 : Nat) (H : Heap) (locs : List Loc), InvO Ω2 → TxS Ω Ω2 → Ω2 6 1 0 = nI n2 → n2 ≤ 11 * i + 10 → SysH D y ob AD Ω2 H → va_S (sysA ob AD) s.heap H locs → W p l e (headSpec wsL_types ({ frames := 4, cells := 0, slots := 0, locals := 89 } : Room)).room s m args below meth c H locs 0 0 Q (F0 m 274 ls []) := by
              intro Ω2 n2 H locs hI hT hn hn2 hY hS
              have hOk := hI.1
              refine lv_iload_n hx hb dL_types_274 rfl (lv_at hl 8 rfl) ?_
              refine lv_bipush (v := 24) hx hb dL_types_275 (by decide) ?_
              refine lv_ishr hx hb dL_types_277 ?_
              refine lv_bipush (v := 6) hx hb dL_types_278 (by decide) ?_
              refine kL_low (x1 := (x1 >>> (24 &&& 31))) (x2 := 6) hF (va_cwS 2 hts gL_types_L_low rfl rfl rfl hdL_low ⟨Nat.le_of_ble_eq_true rfl, Nat.le_of_ble_eq_true rfl⟩) hC (by decide) hl.1 (Nat.le_of_ble_eq_true rfl) dL_types_280 ⟨Nat.zero_le _, Nat.zero_le _⟩ ?_
              refine lv_if_ne (tgt := 294) hx hb dL_types_283 (by decide) (fun c_11 => ?_) (fun c_11 => ?_)
              · refine lv_aload_n hx hb dL_types_294 rfl (lv_at hl 9 rfl) ?_
                refine lv_bipush (v := 59) hx hb dL_types_295 (by decide) ?_
                refine kX7_type hF (cwV 1 hts gL_types_X7_type rfl rfl rfl hdX7_type ⟨Nat.le_of_ble_eq_true rfl, Nat.le_of_ble_eq_true rfl⟩) hC hY hJ hOk hS (fun _ h => h) hl.1 (Nat.le_of_ble_eq_true rfl) dL_types_297 ⟨Nat.zero_le _, Nat.zero_le _⟩ (fun H locs hY _ _ hS => ?_)
                obtain ⟨et, hI, hn, hT1⟩ := ty_ok (x := 59) hI hn (by omega) (⟨59, by decide, by decide, rfl⟩)
                rw [et]
                generalize (zX7_type Ω2 59).2 = Ω_12 at hY hI hn hT1 ⊢
                have hT := hT.tr hT1
                have hOk := hI.1
                clear et hT1
                refine lv_if_le (tgt := 307) hx hb dL_types_300 (by decide) (fun c_13 => absurd c_13 (nI_nle (by omega) (by omega))) (fun _ => ?_)
                refine lv_iconst (v := 1) hx hb dL_types_303 (by decide) ?_
                refine lv_goto (tgt := 308) hx hb dL_types_304 (by decide) ?_
                refine lv_istore_n (lv' := [(3, .int 1), (9, .int (nI sv)), (8, .int (nI mv)), (7, .int (nI fv)), (6, .int way), (5, .int (x1 >>> ((3 + (5 * (nI i))) &&& 31))), (4, .int (nI i)), (2, .int (nI N)), (1, .int x1), (0, .ref (ob 0))]) hx hb dL_types_308 rfl hl (by decide) rfl (fun ls hl => ?_)
                refine lv_iinc (v := (nI (i + 1))) (lv' := [(4, .int (nI (i + 1))), (3, .int 1), (9, .int (nI sv)), (8, .int (nI mv)), (7, .int (nI fv)), (6, .int way), (5, .int (x1 >>> ((3 + (5 * (nI i))) &&& 31))), (2, .int (nI N)), (1, .int x1), (0, .ref (ob 0))]) hx hb dL_types_309 hl (k := 6) rfl (by rw [nI_succ]; rfl) (by decide) rfl (fun ls hl => ?_)
                refine lv_goto (tgt := 22) hx hb dL_types_312 (by decide) ?_
                exact ih (i + 1) (by omega) Ω_12 (n2 + 1) H locs hI hT hn (by omega) hY hS ls (lv_sub hl [0, 1, 7, 8, 9] rfl)
              · refine lv_iload hx hb dL_types_286 (lv_at hl 6 rfl) ?_
                refine lv_iload_n hx hb dL_types_288 rfl (lv_at hl 7 rfl) ?_
                refine lv_iconst (v := 1) hx hb dL_types_289 (by decide) ?_
                refine lv_isub hx hb dL_types_290 ?_
                refine lv_icmp_eq (tgt := 303) hx hb dL_types_291 (by decide) (fun c_14 => ?_) (fun c_14 => ?_)
                · refine lv_iconst (v := 1) hx hb dL_types_303 (by decide) ?_
                  refine lv_goto (tgt := 308) hx hb dL_types_304 (by decide) ?_
                  refine lv_istore_n (lv' := [(3, .int 1), (9, .int (nI sv)), (8, .int (nI mv)), (7, .int (nI fv)), (6, .int way), (5, .int (x1 >>> ((3 + (5 * (nI i))) &&& 31))), (4, .int (nI i)), (2, .int (nI N)), (1, .int x1), (0, .ref (ob 0))]) hx hb dL_types_308 rfl hl (by decide) rfl (fun ls hl => ?_)
                  refine lv_iinc (v := (nI (i + 1))) (lv' := [(4, .int (nI (i + 1))), (3, .int 1), (9, .int (nI sv)), (8, .int (nI mv)), (7, .int (nI fv)), (6, .int way), (5, .int (x1 >>> ((3 + (5 * (nI i))) &&& 31))), (2, .int (nI N)), (1, .int x1), (0, .ref (ob 0))]) hx hb dL_types_309 hl (k := 6) rfl (by rw [nI_succ]; rfl) (by decide) rfl (fun ls hl => ?_)
                  refine lv_goto (tgt := 22) hx hb dL_types_312 (by decide) ?_
                  exact ih (i + 1) (by omega) Ω2 (n2) H locs hI hT hn (by omega) hY hS ls (lv_sub hl [0, 1, 7, 8, 9] rfl)
                · refine lv_aload_n hx hb dL_types_294 rfl (lv_at hl 9 rfl) ?_
                  refine lv_bipush (v := 59) hx hb dL_types_295 (by decide) ?_
                  refine kX7_type hF (cwV 1 hts gL_types_X7_type rfl rfl rfl hdX7_type ⟨Nat.le_of_ble_eq_true rfl, Nat.le_of_ble_eq_true rfl⟩) hC hY hJ hOk hS (fun _ h => h) hl.1 (Nat.le_of_ble_eq_true rfl) dL_types_297 ⟨Nat.zero_le _, Nat.zero_le _⟩ (fun H locs hY _ _ hS => ?_)
                  obtain ⟨et, hI, hn, hT1⟩ := ty_ok (x := 59) hI hn (by omega) (⟨59, by decide, by decide, rfl⟩)
                  rw [et]
                  generalize (zX7_type Ω2 59).2 = Ω_15 at hY hI hn hT1 ⊢
                  have hT := hT.tr hT1
                  have hOk := hI.1
                  clear et hT1
                  refine lv_if_le (tgt := 307) hx hb dL_types_300 (by decide) (fun c_16 => absurd c_16 (nI_nle (by omega) (by omega))) (fun _ => ?_)
                  refine lv_iconst (v := 1) hx hb dL_types_303 (by decide) ?_
                  refine lv_goto (tgt := 308) hx hb dL_types_304 (by decide) ?_
                  refine lv_istore_n (lv' := [(3, .int 1), (9, .int (nI sv)), (8, .int (nI mv)), (7, .int (nI fv)), (6, .int way), (5, .int (x1 >>> ((3 + (5 * (nI i))) &&& 31))), (4, .int (nI i)), (2, .int (nI N)), (1, .int x1), (0, .ref (ob 0))]) hx hb dL_types_308 rfl hl (by decide) rfl (fun ls hl => ?_)
                  refine lv_iinc (v := (nI (i + 1))) (lv' := [(4, .int (nI (i + 1))), (3, .int 1), (9, .int (nI sv)), (8, .int (nI mv)), (7, .int (nI fv)), (6, .int way), (5, .int (x1 >>> ((3 + (5 * (nI i))) &&& 31))), (2, .int (nI N)), (1, .int x1), (0, .ref (ob 0))]) hx hb dL_types_309 hl (k := 6) rfl (by rw [nI_succ]; rfl) (by decide) rfl (fun ls hl => ?_)
                  refine lv_goto (tgt := 22) hx hb dL_types_312 (by decide) ?_
                  exact ih (i + 1) (by omega) Ω_15 (n2 + 1) H locs hI hT hn (by omega) hY hS ls (lv_sub hl [0, 1, 7, 8, 9] rfl)
            refine lv_iload hx hb dL_types_250 (lv_at hl 4 rfl) ?_
            refine lv_iconst (v := 4) hx hb dL_types_252 (by decide) ?_
            refine lv_icmp_gt (tgt := 274) hx hb dL_types_253 (by decide) (fun c_17 => ?_) (fun c_17 => ?_)
            · exact k274 u_6 (n_8) H locs hI hT hn (by omega) hY hS
            · refine lv_aload_n hx hb dL_types_256 rfl (lv_at hl 9 rfl) ?_
              refine lv_bipush (v := 44) hx hb dL_types_257 (by decide) ?_
              refine kX7_type hF (cwV 1 hts gL_types_X7_type rfl rfl rfl hdX7_type ⟨Nat.le_of_ble_eq_true rfl, Nat.le_of_ble_eq_true rfl⟩) hC hY hJ hOk hS (fun _ h => h) hl.1 (Nat.le_of_ble_eq_true rfl) dL_types_259 ⟨Nat.zero_le _, Nat.zero_le _⟩ (fun H locs hY _ _ hS => ?_)
              obtain ⟨et, hI, hn, hT1⟩ := ty_ok (x := 44) hI hn (by omega) (⟨44, by decide, by decide, rfl⟩)
              rw [et]
              generalize (zX7_type u_6 44).2 = Ω_18 at hY hI hn hT1 ⊢
              have hT := hT.tr hT1
              have hOk := hI.1
              clear et hT1
              refine lv_if_le (tgt := 307) hx hb dL_types_262 (by decide) (fun c_19 => absurd c_19 (nI_nle (by omega) (by omega))) (fun _ => ?_)
              refine lv_aload_n hx hb dL_types_265 rfl (lv_at hl 9 rfl) ?_
              refine lv_iload hx hb dL_types_266 (lv_at hl 1 rfl) ?_
              refine kL_digits (v := sv) (n := n_8 + 1) hF (va_cwS 2 hts gL_types_L_digits rfl rfl rfl hdL_digits ⟨Nat.le_of_ble_eq_true rfl, Nat.le_of_ble_eq_true rfl⟩) hC hY hJ hI hn ⟨by omega, by omega⟩ hS (fun _ h => h) hl.1 (Nat.le_of_ble_eq_true rfl) dL_types_268 ⟨Nat.zero_le _, Nat.zero_le _⟩ (fun r_21 u_20 H locs hq hY hS => ?_)
              obtain ⟨rfl, hI, hT1, n_22, n_22_le, hn⟩ := hq
              have hT := hT.tr hT1
              have hOk := hI.1
              clear hT1
              refine lv_if_eq (tgt := 307) hx hb dL_types_271 (by decide) (fun c_23 => absurd c_23 (by decide)) (fun _ => ?_)
              exact k274 u_20 (n_22) H locs hI hT hn (by omega) hY hS
          refine lv_iload hx hb dL_types_158 (lv_at hl 3 rfl) ?_
          refine lv_if_ne (tgt := 168) hx hb dL_types_160 (by decide) (fun c_24 => ?_) (fun c_24 => ?_)
          · refine lv_iload hx hb dL_types_168 (lv_at hl 3 rfl) ?_
            refine lv_iconst (v := 1) hx hb dL_types_170 (by decide) ?_
            refine lv_icmp_ne (tgt := 179) hx hb dL_types_171 (by decide) (fun c_25 => ?_) (fun c_25 => ?_)
            · refine lv_iload hx hb dL_types_179 (lv_at hl 3 rfl) ?_
              refine lv_iconst (v := 2) hx hb dL_types_181 (by decide) ?_
              refine lv_icmp_ne (tgt := 190) hx hb dL_types_182 (by decide) (fun c_26 => ?_) (fun c_26 => ?_)
              · refine lv_iload hx hb dL_types_190 (lv_at hl 3 rfl) ?_
                refine lv_iconst (v := 3) hx hb dL_types_192 (by decide) ?_
                refine lv_icmp_ne (tgt := 201) hx hb dL_types_193 (by decide) (fun c_27 => ?_) (fun c_27 => ?_)
                · refine lv_iload hx hb dL_types_201 (lv_at hl 3 rfl) ?_
                  refine lv_iconst (v := 4) hx hb dL_types_203 (by decide) ?_
                  refine lv_icmp_ne (tgt := 212) hx hb dL_types_204 (by decide) (fun c_28 => ?_) (fun c_28 => ?_)
                  · refine lv_iload hx hb dL_types_212 (lv_at hl 3 rfl) ?_
                    refine lv_iconst (v := 5) hx hb dL_types_214 (by decide) ?_
                    refine lv_icmp_ne (tgt := 223) hx hb dL_types_215 (by decide) (fun c_29 => ?_) (fun c_29 => ?_)
                    · refine lv_bipush (v := 104) hx hb dL_types_223 (by decide) ?_
                      exact k225 _ H locs hY hS (⟨104, by decide, by decide, rfl⟩)
                    · refine lv_bipush (v := 112) hx hb dL_types_218 (by decide) ?_
                      refine lv_goto (tgt := 225) hx hb dL_types_220 (by decide) ?_
                      exact k225 _ H locs hY hS (⟨112, by decide, by decide, rfl⟩)
                  · refine lv_bipush (v := 103) hx hb dL_types_207 (by decide) ?_
                    refine lv_goto (tgt := 225) hx hb dL_types_209 (by decide) ?_
                    exact k225 _ H locs hY hS (⟨103, by decide, by decide, rfl⟩)
                · refine lv_bipush (v := 116) hx hb dL_types_196 (by decide) ?_
                  refine lv_goto (tgt := 225) hx hb dL_types_198 (by decide) ?_
                  exact k225 _ H locs hY hS (⟨116, by decide, by decide, rfl⟩)
              · refine lv_bipush (v := 110) hx hb dL_types_185 (by decide) ?_
                refine lv_goto (tgt := 225) hx hb dL_types_187 (by decide) ?_
                exact k225 _ H locs hY hS (⟨110, by decide, by decide, rfl⟩)
            · refine lv_bipush (v := 102) hx hb dL_types_174 (by decide) ?_
              refine lv_goto (tgt := 225) hx hb dL_types_176 (by decide) ?_
              exact k225 _ H locs hY hS (⟨102, by decide, by decide, rfl⟩)
          · refine lv_bipush (v := 114) hx hb dL_types_163 (by decide) ?_
            refine lv_goto (tgt := 225) hx hb dL_types_165 (by decide) ?_
            exact k225 _ H locs hY hS (⟨114, by decide, by decide, rfl⟩)
        refine lv_iload hx hb dL_types_95 (lv_at hl 2 rfl) ?_
        refine lv_if_eq (tgt := 106) hx hb dL_types_97 (by decide) (fun c_30 => ?_) (fun c_30 => ?_)
        · refine lv_iload hx hb dL_types_106 (lv_at hl 0 rfl) ?_
          refine lv_goto (tgt := 151) hx hb dL_types_108 (by decide) ?_
          exact k151 _ H locs hY hS (⟨mv, by omega, rfl⟩)
        · refine lv_iload hx hb dL_types_100 (lv_at hl 2 rfl) ?_
          refine lv_iconst (v := 3) hx hb dL_types_102 (by decide) ?_
          refine lv_icmp_ne (tgt := 111) hx hb dL_types_103 (by decide) (fun c_31 => ?_) (fun c_31 => ?_)
          · refine lv_iload hx hb dL_types_111 (lv_at hl 2 rfl) ?_
            refine lv_iconst (v := 4) hx hb dL_types_113 (by decide) ?_
            refine lv_icmp_ne (tgt := 128) hx hb dL_types_114 (by decide) (fun c_32 => ?_) (fun c_32 => ?_)
            · refine lv_aload_n hx hb dL_types_128 rfl (lv_at hl 8 rfl) ?_
              refine lv_iload hx hb dL_types_129 (lv_at hl 0 rfl) ?_
              refine lv_iconst (v := 4) hx hb dL_types_131 (by decide) ?_
              refine rX7_mealOf hF (cwV 2 hts gL_types_X7_mealOf rfl rfl rfl hdX7_mealOf ⟨Nat.le_of_ble_eq_true rfl, Nat.le_of_ble_eq_true rfl⟩) hC hY hJ hOk hS (fun _ h => h) hl.1 (Nat.le_of_ble_eq_true rfl) dL_types_132 ⟨Nat.zero_le _, Nat.zero_le _⟩ (fun H locs hY _ _ hS => ?_)
              refine lv_if_ge (tgt := 144) hx hb dL_types_135 (by decide) (fun c_33 => ?_) (fun c_33 => ?_)
              · refine lv_aload_n hx hb dL_types_144 rfl (lv_at hl 8 rfl) ?_
                refine lv_iload hx hb dL_types_145 (lv_at hl 0 rfl) ?_
                refine lv_iconst (v := 4) hx hb dL_types_147 (by decide) ?_
                refine rX7_mealOf hF (cwV 2 hts gL_types_X7_mealOf rfl rfl rfl hdX7_mealOf ⟨Nat.le_of_ble_eq_true rfl, Nat.le_of_ble_eq_true rfl⟩) hC hY hJ hOk hS (fun _ h => h) hl.1 (Nat.le_of_ble_eq_true rfl) dL_types_148 ⟨Nat.zero_le _, Nat.zero_le _⟩ (fun H locs hY _ _ hS => ?_)
                exact k151 _ H locs hY hS (code_m hI (le_nlt c_33))
              · refine lv_sipush (v := 1000) hx hb dL_types_138 (by decide) ?_
                refine lv_goto (tgt := 151) hx hb dL_types_141 (by decide) ?_
                exact k151 _ H locs hY hS (⟨1000, by decide, rfl⟩)
            · refine lv_iload hx hb dL_types_117 (lv_at hl 3 rfl) ?_
              refine lv_iconst (v := 4) hx hb dL_types_119 (by decide) ?_
              refine lv_ishr hx hb dL_types_120 ?_
              refine lv_iconst (v := 4) hx hb dL_types_121 (by decide) ?_
              refine kL_low (x1 := ((x1 >>> ((3 + (5 * (nI i))) &&& 31)) >>> (4 &&& 31))) (x2 := 4) hF (va_cwS 2 hts gL_types_L_low rfl rfl rfl hdL_low ⟨Nat.le_of_ble_eq_true rfl, Nat.le_of_ble_eq_true rfl⟩) hC (by decide) hl.1 (Nat.le_of_ble_eq_true rfl) dL_types_122 ⟨Nat.zero_le _, Nat.zero_le _⟩ ?_
              refine lv_goto (tgt := 151) hx hb dL_types_125 (by decide) ?_
              exact k151 _ H locs hY hS (low_4 _)
          · refine lv_iload hx hb dL_types_106 (lv_at hl 0 rfl) ?_
            refine lv_goto (tgt := 151) hx hb dL_types_108 (by decide) ?_
            exact k151 _ H locs hY hS (⟨mv, by omega, rfl⟩)
      refine lv_aload_n hx hb dL_types_69 rfl (lv_at hl 7 rfl) ?_
      refine lv_iconst (v := 1) hx hb dL_types_70 (by decide) ?_
      refine rX7_countT hF (cwV 1 hts gL_types_X7_count rfl rfl rfl hdX7_count ⟨Nat.le_of_ble_eq_true rfl, Nat.le_of_ble_eq_true rfl⟩) hC hY hJ hOk ⟨by decide, by decide⟩ hS (fun _ h => h) hl.1 (Nat.le_of_ble_eq_true rfl) dL_types_71 ⟨Nat.zero_le _, Nat.zero_le _⟩ (fun H locs hY _ _ hS => ?_)
      refine lv_if_ne (tgt := 81) hx hb dL_types_74 (by decide) (fun c_34 => ?_) (fun c_34 => ?_)
      · refine lv_iload hx hb dL_types_81 (lv_at hl 2 rfl) ?_
        refine lv_iconst (v := 4) hx hb dL_types_83 (by decide) ?_
        refine lv_ishr hx hb dL_types_84 ?_
        refine lv_aload_n hx hb dL_types_85 rfl (lv_at hl 7 rfl) ?_
        refine lv_iconst (v := 1) hx hb dL_types_86 (by decide) ?_
        refine rX7_countT hF (cwV 1 hts gL_types_X7_count rfl rfl rfl hdX7_count ⟨Nat.le_of_ble_eq_true rfl, Nat.le_of_ble_eq_true rfl⟩) hC hY hJ hOk ⟨by decide, by decide⟩ hS (fun _ h => h) hl.1 (Nat.le_of_ble_eq_true rfl) dL_types_87 ⟨Nat.zero_le _, Nat.zero_le _⟩ (fun H locs hY _ _ hS => ?_)
        refine kL_low (x1 := ((x1 >>> ((3 + (5 * (nI i))) &&& 31)) >>> (4 &&& 31))) (x2 := (zX3_total (Ω1 0) 1)) hF (va_cwS 2 hts gL_types_L_low rfl rfl rfl hdL_low ⟨Nat.le_of_ble_eq_true rfl, Nat.le_of_ble_eq_true rfl⟩) hC c_34 hl.1 (Nat.le_of_ble_eq_true rfl) dL_types_90 ⟨Nat.zero_le _, Nat.zero_le _⟩ ?_
        exact k93 _ H locs hY hS (low_m hI c_34 _)
      · refine lv_iconst (v := 0) hx hb dL_types_77 (by decide) ?_
        refine lv_goto (tgt := 93) hx hb dL_types_78 (by decide) ?_
        exact k93 _ H locs hY hS (⟨0, by omega, rfl⟩)
    refine lv_iload hx hb dL_types_51 (lv_at hl 0 rfl) ?_
    refine lv_bipush (v := 6) hx hb dL_types_53 (by decide) ?_
    refine lv_icmp_ne (tgt := 63) hx hb dL_types_55 (by decide) (fun c_35 => ?_) (fun c_35 => ?_)
    · refine lv_iconst (v := 3) hx hb dL_types_63 (by decide) ?_
      exact k64 _ H locs hY hS (Or.inr rfl)
    · refine lv_bipush (v := 12) hx hb dL_types_58 (by decide) ?_
      refine lv_goto (tgt := 64) hx hb dL_types_60 (by decide) ?_
      exact k64 _ H locs hY hS (Or.inl rfl)
set_option maxHeartbeats 4000000 in
set_option maxRecDepth 100000 in
theorem mL_types (l : Launch) (D : va_G) (y : Y3) (ob : Nat → Nat) (AD : Nat → Nat → Nat) (Ω : Og) (x1 : Int32) : Met l yL_types wsL_types ({ frames := 4, cells := 0, slots := 0, locals := 89 } : Room) (va_Pc [.ref (ob 0), .int x1] (fun U => CK D y U ∧ SysH D y ob AD Ω U.heap ∧ sysJ ob AD ∧ InvO Ω)) (va_Qi (fun (r : Int32) (u : Og) => (r = 1 ∧ InvO u ∧ TxS Ω u)) (fun u t => SysH D y ob AD u t.heap) (sysA ob AD)) 0 0 (sysA ob AD) := by
  refine Met.ofW (cc := cL_types) (maxL := 10) (ret := (some .boolean)) (by decide) rfl ?_
  intro p e s m args below meth c s₁ B hml hv
  obtain ⟨rfl, hC, hY, hJ, hI⟩ := hv
  have hx := B.exec
  have hb := B.bytes
  have hr := B.returns
  have hts := atoms_spec (ws := wsL_types) B.pre
  have hown : s.vm.findClass RL = some m.cls := findClass_of_methodNamed B.named
  have hlocks := B.notSynchronized
  have hF := (⟨hx, hb, hml, hown, hts⟩ : CallFix p m c cL_types 10 s _ wsL_types RL)
  have hS : va_S (sysA ob AD) s.heap s.heap [] := va_S.rf
  have hl := lv_entry ([.ref (ob 0), .int x1]) (n := 10) (Nat.le_of_ble_eq_true rfl)
  rw [lg_entry_eq]
  generalize (lg_sl ([.ref (ob 0), .int x1]) ++ List.replicate (10 - (lg_sl ([.ref (ob 0), .int x1])).length) Slot.unset).toArray = ls at hl ⊢
  have hl : lv_has ls 10 [(0, .ref (ob 0)), (1, .int x1)] := hl
  have hOk := hI.1
  refine lv_iload_n hx hb dL_types_0 rfl (lv_at hl 1 rfl) ?_
  refine lv_iconst (v := 5) hx hb dL_types_1 (by decide) ?_
  obtain ⟨N, hN, eN⟩ := low_5 x1
  refine kL_low (x1 := x1) (x2 := 5) hF (va_cwS 2 hts gL_types_L_low rfl rfl rfl hdL_low ⟨Nat.le_of_ble_eq_true rfl, Nat.le_of_ble_eq_true rfl⟩) hC (by decide) hl.1 (Nat.le_of_ble_eq_true rfl) dL_types_2 ⟨Nat.zero_le _, Nat.zero_le _⟩ ?_
  rw [eN]
  refine lv_istore_n (lv' := [(2, .int (nI N)), (0, .ref (ob 0)), (1, .int x1)]) hx hb dL_types_5 rfl hl (by decide) rfl (fun ls hl => ?_)
  refine lv_aload_n hx hb dL_types_6 rfl (lv_at hl 1 rfl) ?_
  refine kX7_clearText hF (cwV 0 hts gL_types_X7_clearText rfl rfl rfl hdX7_clearText ⟨Nat.le_of_ble_eq_true rfl, Nat.le_of_ble_eq_true rfl⟩) hC hY hJ hOk hS (fun _ h => h) hl.1 (Nat.le_of_ble_eq_true rfl) dL_types_7 ⟨Nat.zero_le _, Nat.zero_le _⟩ (fun H locs hY _ _ hS => ?_)
  obtain ⟨ec, hI, hn, hT⟩ := cl_ok hI
  generalize (zX7_clearText Ω).1 = rc at ec ⊢
  generalize (zX7_clearText Ω).2 = Ω1 at hY hI hn hT ⊢
  have hOk := hI.1
  refine lv_if_lt (tgt := 17) hx hb dL_types_10 (by decide) (fun c_36 => absurd c_36 (le_nlt ec)) (fun _ => ?_)
  refine lv_iconst (v := 1) hx hb dL_types_13 (by decide) ?_
  refine lv_goto (tgt := 18) hx hb dL_types_14 (by decide) ?_
  refine lv_istore_n (lv' := [(3, .int 1), (2, .int (nI N)), (0, .ref (ob 0)), (1, .int x1)]) hx hb dL_types_18 rfl hl (by decide) rfl (fun ls hl => ?_)
  refine lv_iconst (v := 0) hx hb dL_types_19 (by decide) ?_
  refine lv_istore (lv' := [(4, .int 0), (3, .int 1), (2, .int (nI N)), (0, .ref (ob 0)), (1, .int x1)]) hx hb dL_types_20 hl (by decide) rfl (fun ls hl => ?_)
  refine lpL_types (Ω := Ω) (N := N) hx hb hml hown hts hC hJ hN (fun Ω1 H locs ls hI hT hY hS hl => ?_) _ 0 (Nat.zero_add _) Ω1 0 _ _ hI hT hn (Nat.zero_le _) hY hS ls (lv_sub hl [0, 1, 2, 4, 3] rfl)
  refine lv_iload_n hx hb dL_types_315 rfl (lv_at hl 1 rfl) ?_
  exact W.zret (v := 1) hx hb hr (by decide) (fun t ht hW => ⟨⟨1, Ω1, rfl, ⟨rfl, hI, hT⟩, by dsimp only; rw [ht]; exact hY⟩, hS.F ht⟩) hS.2.2 dL_types_316
set_option maxHeartbeats 4000000 in
set_option maxRecDepth 100000 in
theorem kL_types {p : Program} {l : Launch} {e : Env} {R : Room} {s : State} {m : MethodId} {args : Array Value} {below : List Frame} {meth : Method} {c : Code} {H : Heap} {locs : List Loc} {cells slots : Nat} {Q : State → Prop} {cc : ByteArray} {nL : Nat} {Ts : List Cond} {own : String} {index pc : Nat} {ls : Array Slot} {rest : List Value} {D : va_G} {y : Y3} {ob : Nat → Nat} {AD : Nat → Nat → Nat} {Ω : Og} {x1 : Int32} {A0 : Nat → Prop} {H0 : Heap} (hF : CallFix p m c cc nL s args Ts own) (cw : CallB R s args own index yL_types cL_types 10 (some .boolean) wsL_types ({ frames := 4, cells := 0, slots := 0, locals := 89 } : Room) 0 0 2 ∧ (Cond.static yL_types).before args s = true) (hC : CK D y s) (hY : SysH D y ob AD Ω H) (hJ : sysJ ob AD) (hI : InvO Ω) (hS : va_S A0 H0 H locs) (hA : ∀ q, (sysA ob AD) q → A0 q) (hsz : ls.size = nL) (hW : (rest.map fun v => v.category).sum ≤ 8) (hdg : decode cc pc = .ok (.invokestatic index, 3)) (hf : cells ≤ R.cells ∧ slots ≤ R.slots)
    (k : ∀ (r : Int32) (u : Og) (H1 : Heap) (locs1 : List Loc), (r = 1 ∧ InvO u ∧ TxS Ω u) → SysH D y ob AD u H1 → va_S A0 H0 H1 locs1 → W p l e R s m args below meth c H1 locs1 cells slots Q (F0 m (pc + 3) ls (.int r :: rest))) : W p l e R s m args below meth c H locs cells slots Q (F0 m pc ls (.int x1 :: .ref (ob 0) :: rest)) := by
  refine va_calli (va_runS (As := [.ref (ob 0), .int x1]) (rest := rest) hF (mL_types l D y ob AD Ω x1) cw ⟨fun a U g mk q => by obtain ⟨q0, q1, q2, q3, q4⟩ := q; exact ⟨q0, q1.call g mk a, q2, q3, q4⟩, fun U hU hW => ⟨rfl, hC.warm hW, by rw [hU]; exact hY, hJ, hI⟩⟩ rfl rfl hsz rfl (lv_room hW) hdg ⟨hf.1, hf.2⟩) hS (fun q _ h => hA q h) hA (fun r u t H1 locs1 ht hvm hp hB hz1 hk1 hS1 => ?_)
  rw [ht] at hB
  exact k r u H1 locs1 hp hB hS1
