theorem st_time {D : va_G} {y : Y3} {ad : Nat → Nat} {σ : Sg} {H : Heap} {v : Int32} (h : va_P D vwCl ((stW y.1 ad σ).set 0 (ad 0, .inr (4, [.ref (ad 1), .ref (ad 3), .ref (ad 5), .ref (ad 7), .ref (ad 9), .int v]))) H) : StH D y ad (sgR σ 5 v) H := h
def zatt (σ : Sg) (k : Nat) (x1 x2 : Int32) : Int32 := zX5_at (colK k) (lenK k) (σ k) x1 x2
def zsto (σ : Sg) (k : Nat) (x1 x2 x3 : Int32) : Sg := sgC σ k (zX5_store (colK k) (lenK k) (σ k) x1 x2 x3)
def zrai (σ : Sg) (k : Nat) (x1 x2 : Int32) : Sg := sgC σ k (zX5_raise (colK k) (lenK k) (σ k) x1 x2)
def zadR (σ : Sg) (k : Nat) : Int32 := (zX5_addRow (limK k) (σ 5 k)).1
def zadS (σ : Sg) (k : Nat) : Sg := sgR σ k (zX5_addRow (limK k) (σ 5 k)).2
def zmax (x y : Int32) : Int32 := if x < y then y else x
def zabs (x : Int32) : Int32 := if 0 ≤ x then x else 0 - x
theorem up_le (x : Int32) : x ≤ nI x.toNatClampNeg := by
  rw [Int32.le_iff_toInt_le, nI_toInt (clamp_lt x)]
  have h3 : x.toNatClampNeg = x.toInt.toNat := rfl
  omega
theorem up_gt {x : Int32} {i : Nat} (h : i < x.toNatClampNeg) : ¬ x ≤ nI i := by
  have h1 := clamp_lt x
  rw [Int32.le_iff_toInt_le, nI_toInt (by omega)]
  have h3 : x.toNatClampNeg = x.toInt.toNat := rfl
  omega
theorem fstK_t {c : Nat → Bool} {i j : Nat} (h : c i = true) : fstK c i (j + 1) = i := by
  show (if c i then i else fstK c (i + 1) j) = i
  rw [if_pos h]
theorem fstK_f {c : Nat → Bool} {i j : Nat} (h : c i = false) : fstK c i (j + 1) = fstK c (i + 1) j := by
  show (if c i then i else fstK c (i + 1) j) = _
  rw [if_neg (by rw [h]; decide)]
theorem tbA_st {ad : Nat → Nat} {k : Nat} (hk : k < 5) : ∀ q, tbA (ad (2 * k + 1)) (ad (2 * k + 2)) q → stA ad q := by
  intro q h
  rcases h with h | h
  · exact ⟨2 * k + 1, by omega, h⟩
  · exact ⟨2 * k + 2, by omega, h⟩
set_option maxHeartbeats 4000000 in
set_option maxRecDepth 100000 in
theorem sX5_size {p : Program} {l : Launch} {e : Env} {R : Room} {s : State} {m : MethodId} {args : Array Value} {below : List Frame} {meth : Method} {c : Code} {H : Heap} {locs : List Loc} {cells slots : Nat} {Q : State → Prop} {cc : ByteArray} {nL : Nat} {Ts : List Cond} {own : String} {index pc : Nat} {ls : Array Slot} {rest : List Value} {D : va_G} {y : Y3} {ad : Nat → Nat} {σ : Sg} {k : Nat} (hF : CallFix p m c cc nL s args Ts own) (cw : CallW R s args own RX5 index yX5_size cX5_size 1 (some .int) wsX5_size ({ frames := 0, cells := 0, slots := 0, locals := 0 } : Room) 0 0 0) (hC : CK D y s) (hSt : StH D y ad σ H) (hk : k < 5) (hsz : ls.size = nL) (hW : (rest.map fun v => v.category).sum ≤ 8) (hdg : decode cc pc = .ok (.invokevirtual index, 3)) (hf : cells ≤ R.cells ∧ slots ≤ R.slots)
    (kk : W p l e R s m args below meth c H locs cells slots Q (F0 m (pc + 3) ls (.int (σ 5 k) :: rest))) : W p l e R s m args below meth c H locs cells slots Q (F0 m pc ls (.ref (ad (2 * k + 1)) :: rest)) :=
  kX5_size (hn := lenK_lt k) hF cw hC (st_tab hSt hk) hsz hW hdg hf kk
set_option maxHeartbeats 4000000 in
set_option maxRecDepth 100000 in
theorem sX5_has {p : Program} {l : Launch} {e : Env} {R : Room} {s : State} {m : MethodId} {args : Array Value} {below : List Frame} {meth : Method} {c : Code} {H : Heap} {locs : List Loc} {cells slots : Nat} {Q : State → Prop} {cc : ByteArray} {nL : Nat} {Ts : List Cond} {own : String} {index pc : Nat} {ls : Array Slot} {rest : List Value} {D : va_G} {y : Y3} {ad : Nat → Nat} {σ : Sg} {x1 : Int32} {k : Nat} (hF : CallFix p m c cc nL s args Ts own) (cw : CallW R s args own RX5 index yX5_has cX5_has 2 (some .boolean) wsX5_has ({ frames := 0, cells := 0, slots := 0, locals := 0 } : Room) 0 0 1) (hC : CK D y s) (hSt : StH D y ad σ H) (hk : k < 5) (hsz : ls.size = nL) (hW : (rest.map fun v => v.category).sum ≤ 8) (hdg : decode cc pc = .ok (.invokevirtual index, 3)) (hf : cells ≤ R.cells ∧ slots ≤ R.slots)
    (kk : W p l e R s m args below meth c H locs cells slots Q (F0 m (pc + 3) ls (.int (zX5_has (σ 5 k) x1) :: rest))) : W p l e R s m args below meth c H locs cells slots Q (F0 m pc ls (.int x1 :: .ref (ad (2 * k + 1)) :: rest)) :=
  kX5_has (hn := lenK_lt k) hF cw hC (st_tab hSt hk) hsz hW hdg hf kk
set_option maxHeartbeats 4000000 in
set_option maxRecDepth 100000 in
theorem sX5_isFull {p : Program} {l : Launch} {e : Env} {R : Room} {s : State} {m : MethodId} {args : Array Value} {below : List Frame} {meth : Method} {c : Code} {H : Heap} {locs : List Loc} {cells slots : Nat} {Q : State → Prop} {cc : ByteArray} {nL : Nat} {Ts : List Cond} {own : String} {index pc : Nat} {ls : Array Slot} {rest : List Value} {D : va_G} {y : Y3} {ad : Nat → Nat} {σ : Sg} {k : Nat} (hF : CallFix p m c cc nL s args Ts own) (cw : CallW R s args own RX5 index yX5_isFull cX5_isFull 1 (some .boolean) wsX5_isFull ({ frames := 0, cells := 0, slots := 0, locals := 0 } : Room) 0 0 0) (hC : CK D y s) (hSt : StH D y ad σ H) (hk : k < 5) (hsz : ls.size = nL) (hW : (rest.map fun v => v.category).sum ≤ 8) (hdg : decode cc pc = .ok (.invokevirtual index, 3)) (hf : cells ≤ R.cells ∧ slots ≤ R.slots)
    (kk : W p l e R s m args below meth c H locs cells slots Q (F0 m (pc + 3) ls (.int (zX5_isFull (limK k) (σ 5 k)) :: rest))) : W p l e R s m args below meth c H locs cells slots Q (F0 m pc ls (.ref (ad (2 * k + 1)) :: rest)) :=
  kX5_isFull (hn := lenK_lt k) hF cw hC (st_tab hSt hk) hsz hW hdg hf kk
set_option maxHeartbeats 4000000 in
set_option maxRecDepth 100000 in
theorem sX5_at {p : Program} {l : Launch} {e : Env} {R : Room} {s : State} {m : MethodId} {args : Array Value} {below : List Frame} {meth : Method} {c : Code} {H : Heap} {locs : List Loc} {cells slots : Nat} {Q : State → Prop} {cc : ByteArray} {nL : Nat} {Ts : List Cond} {own : String} {index pc : Nat} {ls : Array Slot} {rest : List Value} {D : va_G} {y : Y3} {ad : Nat → Nat} {σ : Sg} {x1 : Int32} {x2 : Int32} {k : Nat} (hF : CallFix p m c cc nL s args Ts own) (cw : CallW R s args own RX5 index yX5_at cX5_at 4 (some .int) wsX5_at ({ frames := 0, cells := 0, slots := 0, locals := 0 } : Room) 0 0 2) (hC : CK D y s) (hSt : StH D y ad σ H) (hk : k < 5) (hsz : ls.size = nL) (hW : (rest.map fun v => v.category).sum ≤ 8) (hdg : decode cc pc = .ok (.invokevirtual index, 3)) (hf : cells ≤ R.cells ∧ slots ≤ R.slots)
    (kk : W p l e R s m args below meth c H locs cells slots Q (F0 m (pc + 3) ls (.int (zatt σ k x1 x2) :: rest))) : W p l e R s m args below meth c H locs cells slots Q (F0 m pc ls (.int x2 :: .int x1 :: .ref (ad (2 * k + 1)) :: rest)) :=
  kX5_at (hn := lenK_lt k) hF cw hC (st_tab hSt hk) hsz hW hdg hf kk
set_option maxHeartbeats 4000000 in
set_option maxRecDepth 100000 in
theorem sX5_store {p : Program} {l : Launch} {e : Env} {R : Room} {s : State} {m : MethodId} {args : Array Value} {below : List Frame} {meth : Method} {c : Code} {H : Heap} {locs : List Loc} {cells slots : Nat} {Q : State → Prop} {cc : ByteArray} {nL : Nat} {Ts : List Cond} {own : String} {index pc : Nat} {ls : Array Slot} {rest : List Value} {D : va_G} {y : Y3} {ad : Nat → Nat} {σ : Sg} {x1 : Int32} {x2 : Int32} {x3 : Int32} {k : Nat} {A0 : Nat → Prop} {H0 : Heap} (hF : CallFix p m c cc nL s args Ts own) (cw : CallW R s args own RX5 index yX5_store cX5_store 5 none wsX5_store ({ frames := 0, cells := 0, slots := 0, locals := 0 } : Room) 0 0 3) (hC : CK D y s) (hSt : StH D y ad σ H) (hi : adI ad) (hk : k < 5) (hS : va_S A0 H0 H locs) (hA : ∀ q, stA ad q → A0 q) (hsz : ls.size = nL) (hW : (rest.map fun v => v.category).sum ≤ 8) (hdg : decode cc pc = .ok (.invokevirtual index, 3)) (hf : cells ≤ R.cells ∧ slots ≤ R.slots)
    (kk : ∀ (H1 : Heap) (locs1 : List Loc), StH D y ad (zsto σ k x1 x2 x3) H1 → H.size ≤ H1.size → (∀ q : Nat, q < H.size → ¬ stA ad q → H1[q]? = H[q]?) → va_S A0 H0 H1 locs1 → W p l e R s m args below meth c H1 locs1 cells slots Q (F0 m (pc + 3) ls (rest))) : W p l e R s m args below meth c H locs cells slots Q (F0 m pc ls (.int x3 :: .int x2 :: .int x1 :: .ref (ad (2 * k + 1)) :: rest)) := by
  refine kX5_store (hn := lenK_lt k) hF cw hC (st_tab hSt hk) (fun z => absurd (hi _ _ (by omega) (by omega) z) (by omega)) hS (fun q h => hA q (tbA_st hk q h)) hsz hW hdg hf (fun H1 locs1 h1 h2 h3 h4 => ?_)
  have h5 := st_set hSt hi hk h1 h3
  rw [sgT_same hk] at h5
  exact kk H1 locs1 h5 h2 (fun q hq hn => h3 q hq (fun z => hn (tbA_st hk q z))) h4
set_option maxHeartbeats 4000000 in
set_option maxRecDepth 100000 in
theorem sX5_raise {p : Program} {l : Launch} {e : Env} {R : Room} {s : State} {m : MethodId} {args : Array Value} {below : List Frame} {meth : Method} {c : Code} {H : Heap} {locs : List Loc} {cells slots : Nat} {Q : State → Prop} {cc : ByteArray} {nL : Nat} {Ts : List Cond} {own : String} {index pc : Nat} {ls : Array Slot} {rest : List Value} {D : va_G} {y : Y3} {ad : Nat → Nat} {σ : Sg} {x1 : Int32} {x2 : Int32} {k : Nat} {A0 : Nat → Prop} {H0 : Heap} (hF : CallFix p m c cc nL s args Ts own) (cw : CallW R s args own RX5 index yX5_raise cX5_raise 3 none wsX5_raise ({ frames := 1, cells := 0, slots := 0, locals := 24 } : Room) 0 0 2) (hC : CK D y s) (hSt : StH D y ad σ H) (hi : adI ad) (hk : k < 5) (hS : va_S A0 H0 H locs) (hA : ∀ q, stA ad q → A0 q) (hsz : ls.size = nL) (hW : (rest.map fun v => v.category).sum ≤ 8) (hdg : decode cc pc = .ok (.invokevirtual index, 3)) (hf : cells ≤ R.cells ∧ slots ≤ R.slots)
    (kk : ∀ (H1 : Heap) (locs1 : List Loc), StH D y ad (zrai σ k x1 x2) H1 → H.size ≤ H1.size → (∀ q : Nat, q < H.size → ¬ stA ad q → H1[q]? = H[q]?) → va_S A0 H0 H1 locs1 → W p l e R s m args below meth c H1 locs1 cells slots Q (F0 m (pc + 3) ls (rest))) : W p l e R s m args below meth c H locs cells slots Q (F0 m pc ls (.int x2 :: .int x1 :: .ref (ad (2 * k + 1)) :: rest)) := by
  refine kX5_raise (hn := lenK_lt k) hF cw hC (st_tab hSt hk) (fun z => absurd (hi _ _ (by omega) (by omega) z) (by omega)) hS (fun q h => hA q (tbA_st hk q h)) hsz hW hdg hf (fun H1 locs1 h1 h2 h3 h4 => ?_)
  have h5 := st_set hSt hi hk h1 h3
  rw [sgT_same hk] at h5
  exact kk H1 locs1 h5 h2 (fun q hq hn => h3 q hq (fun z => hn (tbA_st hk q z))) h4
set_option maxHeartbeats 4000000 in
set_option maxRecDepth 100000 in
theorem sX5_addRow {p : Program} {l : Launch} {e : Env} {R : Room} {s : State} {m : MethodId} {args : Array Value} {below : List Frame} {meth : Method} {c : Code} {H : Heap} {locs : List Loc} {cells slots : Nat} {Q : State → Prop} {cc : ByteArray} {nL : Nat} {Ts : List Cond} {own : String} {index pc : Nat} {ls : Array Slot} {rest : List Value} {D : va_G} {y : Y3} {ad : Nat → Nat} {σ : Sg} {k : Nat} {A0 : Nat → Prop} {H0 : Heap} (hF : CallFix p m c cc nL s args Ts own) (cw : CallW R s args own RX5 index yX5_addRow cX5_addRow 1 (some .int) wsX5_addRow ({ frames := 0, cells := 0, slots := 0, locals := 0 } : Room) 0 0 0) (hC : CK D y s) (hSt : StH D y ad σ H) (hi : adI ad) (hk : k < 5) (hS : va_S A0 H0 H locs) (hA : ∀ q, stA ad q → A0 q) (hsz : ls.size = nL) (hW : (rest.map fun v => v.category).sum ≤ 8) (hdg : decode cc pc = .ok (.invokevirtual index, 3)) (hf : cells ≤ R.cells ∧ slots ≤ R.slots)
    (kk : ∀ (H1 : Heap) (locs1 : List Loc), StH D y ad (zadS σ k) H1 → H.size ≤ H1.size → (∀ q : Nat, q < H.size → ¬ stA ad q → H1[q]? = H[q]?) → va_S A0 H0 H1 locs1 → W p l e R s m args below meth c H1 locs1 cells slots Q (F0 m (pc + 3) ls (.int (zadR σ k) :: rest))) : W p l e R s m args below meth c H locs cells slots Q (F0 m pc ls (.ref (ad (2 * k + 1)) :: rest)) := by
  refine kX5_addRow (hn := lenK_lt k) hF cw hC (st_tab hSt hk) (fun z => absurd (hi _ _ (by omega) (by omega) z) (by omega)) hS (fun q h => hA q (tbA_st hk q h)) hsz hW hdg hf (fun H1 locs1 h1 h2 h3 h4 => ?_)
  have h5 := st_set hSt hi hk h1 h3
  rw [sgT_rows hk] at h5
  exact kk H1 locs1 h5 h2 (fun q hq hn => h3 q hq (fun z => hn (tbA_st hk q z))) h4
def zbc (x1 : Int32) : Int32 :=
  let w1 := (x1 - (((x1.toUInt32 >>> ((1 : Int32).toUInt32 &&& Int32.toUInt32 31)).toInt32) &&& 1431655765))
  let w2 := ((w1 &&& 858993459) + (((w1.toUInt32 >>> ((2 : Int32).toUInt32 &&& Int32.toUInt32 31)).toInt32) &&& 858993459))
  let w3 := ((w2 + ((w2.toUInt32 >>> ((4 : Int32).toUInt32 &&& Int32.toUInt32 31)).toInt32)) &&& 252645135)
  let w4 := (w3 + ((w3.toUInt32 >>> ((8 : Int32).toUInt32 &&& Int32.toUInt32 31)).toInt32))
  let w5 := (w4 + ((w4.toUInt32 >>> ((16 : Int32).toUInt32 &&& Int32.toUInt32 31)).toInt32))
  (w5 &&& 63)
theorem hdJ6_bitCount_0f7a4 : yJ6_bitCount_0f7a4.cls ≠ "java/lang/invoke/MethodHandle" ∧ yJ6_bitCount_0f7a4.cls ≠ "java/lang/invoke/VarHandle" ∧ (parseMethodDescriptor yJ6_bitCount_0f7a4.desc).map (fun d => d.parameters.length) = some 1 := by decide +kernel
set_option maxHeartbeats 4000000 in
set_option maxRecDepth 100000 in
theorem mJ6_bitCount_0f7a4 (l : Launch) (D : va_G) (y : Y3) (x1 : Int32) : Met l yJ6_bitCount_0f7a4 wsJ6_bitCount_0f7a4 ({ frames := 0, cells := 0, slots := 0, locals := 0 } : Room) (va_Pc [.int x1] (fun U => CK D y U)) (vp_Si (fun r => r = zbc x1)) 0 0 (fun _ => False) := by
  refine Met.ofW (cc := cJ6_bitCount_0f7a4) (maxL := 1) (ret := (some .int)) (by decide) rfl ?_
  intro p e s m args below meth c s₁ B hml hv
  obtain ⟨rfl, hC⟩ := hv
  have hx := B.exec
  have hb := B.bytes
  have hr := B.returns
  have hts := atoms_spec (ws := wsJ6_bitCount_0f7a4) B.pre
  have hown : s.vm.findClass RJ6 = some m.cls := findClass_of_methodNamed B.named
  have hlocks := B.notSynchronized
  have hF := (⟨hx, hb, hml, hown, hts⟩ : CallFix p m c cJ6_bitCount_0f7a4 1 s _ wsJ6_bitCount_0f7a4 RJ6)
  have hl := lv_entry ([.int x1]) (n := 1) (Nat.le_of_ble_eq_true rfl)
  rw [lg_entry_eq]
  generalize (lg_sl ([.int x1]) ++ List.replicate (1 - (lg_sl ([.int x1])).length) Slot.unset).toArray = ls at hl ⊢
  have hl : lv_has ls 1 [(0, .int x1)] := hl
  refine lv_iload_n hx hb dJ6_bitCount_0f7a4_0 rfl (lv_at hl 0 rfl) ?_
  refine lv_iload_n hx hb dJ6_bitCount_0f7a4_1 rfl (lv_at hl 0 rfl) ?_
  refine lv_iconst (v := 1) hx hb dJ6_bitCount_0f7a4_2 (by decide) ?_
  refine lv_iushr (v := (x1.toUInt32 >>> ((1 : Int32).toUInt32 &&& Int32.toUInt32 31)).toInt32) hx hb dJ6_bitCount_0f7a4_3 rfl ?_
  refine lv_ldcw (v := 1431655765) hx hb hown (hts (.constant RJ6 265 (1431655765)) (List.mem_of_getElem? (i := 1) rfl)) dJ6_bitCount_0f7a4_4 ?_
  refine lv_iand hx hb dJ6_bitCount_0f7a4_7 ?_
  refine lv_isub hx hb dJ6_bitCount_0f7a4_8 ?_
  refine lv_topi (fun w1 ew1 => ?_)
  refine lv_istore_n (lv' := [(0, .int w1)]) hx hb dJ6_bitCount_0f7a4_9 rfl hl (by decide) rfl (fun ls hl => ?_)
  refine lv_iload_n hx hb dJ6_bitCount_0f7a4_10 rfl (lv_at hl 0 rfl) ?_
  refine lv_ldcw (v := 858993459) hx hb hown (hts (.constant RJ6 266 (858993459)) (List.mem_of_getElem? (i := 2) rfl)) dJ6_bitCount_0f7a4_11 ?_
  refine lv_iand hx hb dJ6_bitCount_0f7a4_14 ?_
  refine lv_iload_n hx hb dJ6_bitCount_0f7a4_15 rfl (lv_at hl 0 rfl) ?_
  refine lv_iconst (v := 2) hx hb dJ6_bitCount_0f7a4_16 (by decide) ?_
  refine lv_iushr (v := (w1.toUInt32 >>> ((2 : Int32).toUInt32 &&& Int32.toUInt32 31)).toInt32) hx hb dJ6_bitCount_0f7a4_17 rfl ?_
  refine lv_ldcw (v := 858993459) hx hb hown (hts (.constant RJ6 266 (858993459)) (List.mem_of_getElem? (i := 2) rfl)) dJ6_bitCount_0f7a4_18 ?_
  refine lv_iand hx hb dJ6_bitCount_0f7a4_21 ?_
  refine lv_iadd hx hb dJ6_bitCount_0f7a4_22 ?_
  refine lv_topi (fun w2 ew2 => ?_)
  refine lv_istore_n (lv' := [(0, .int w2)]) hx hb dJ6_bitCount_0f7a4_23 rfl hl (by decide) rfl (fun ls hl => ?_)
  refine lv_iload_n hx hb dJ6_bitCount_0f7a4_24 rfl (lv_at hl 0 rfl) ?_
  refine lv_iload_n hx hb dJ6_bitCount_0f7a4_25 rfl (lv_at hl 0 rfl) ?_
  refine lv_iconst (v := 4) hx hb dJ6_bitCount_0f7a4_26 (by decide) ?_
  refine lv_iushr (v := (w2.toUInt32 >>> ((4 : Int32).toUInt32 &&& Int32.toUInt32 31)).toInt32) hx hb dJ6_bitCount_0f7a4_27 rfl ?_
  refine lv_iadd hx hb dJ6_bitCount_0f7a4_28 ?_
  refine lv_ldcw (v := 252645135) hx hb hown (hts (.constant RJ6 267 (252645135)) (List.mem_of_getElem? (i := 3) rfl)) dJ6_bitCount_0f7a4_29 ?_
  refine lv_iand hx hb dJ6_bitCount_0f7a4_32 ?_
  refine lv_topi (fun w3 ew3 => ?_)
  refine lv_istore_n (lv' := [(0, .int w3)]) hx hb dJ6_bitCount_0f7a4_33 rfl hl (by decide) rfl (fun ls hl => ?_)
  refine lv_iload_n hx hb dJ6_bitCount_0f7a4_34 rfl (lv_at hl 0 rfl) ?_
  refine lv_iload_n hx hb dJ6_bitCount_0f7a4_35 rfl (lv_at hl 0 rfl) ?_
  refine lv_bipush (v := 8) hx hb dJ6_bitCount_0f7a4_36 (by decide) ?_
  refine lv_iushr (v := (w3.toUInt32 >>> ((8 : Int32).toUInt32 &&& Int32.toUInt32 31)).toInt32) hx hb dJ6_bitCount_0f7a4_38 rfl ?_
  refine lv_iadd hx hb dJ6_bitCount_0f7a4_39 ?_
  refine lv_topi (fun w4 ew4 => ?_)
  refine lv_istore_n (lv' := [(0, .int w4)]) hx hb dJ6_bitCount_0f7a4_40 rfl hl (by decide) rfl (fun ls hl => ?_)
  refine lv_iload_n hx hb dJ6_bitCount_0f7a4_41 rfl (lv_at hl 0 rfl) ?_
  refine lv_iload_n hx hb dJ6_bitCount_0f7a4_42 rfl (lv_at hl 0 rfl) ?_
  refine lv_bipush (v := 16) hx hb dJ6_bitCount_0f7a4_43 (by decide) ?_
  refine lv_iushr (v := (w4.toUInt32 >>> ((16 : Int32).toUInt32 &&& Int32.toUInt32 31)).toInt32) hx hb dJ6_bitCount_0f7a4_45 rfl ?_
  refine lv_iadd hx hb dJ6_bitCount_0f7a4_46 ?_
  refine lv_topi (fun w5 ew5 => ?_)
  refine lv_istore_n (lv' := [(0, .int w5)]) hx hb dJ6_bitCount_0f7a4_47 rfl hl (by decide) rfl (fun ls hl => ?_)
  refine lv_iload_n hx hb dJ6_bitCount_0f7a4_48 rfl (lv_at hl 0 rfl) ?_
  refine lv_bipush (v := 63) hx hb dJ6_bitCount_0f7a4_49 (by decide) ?_
  refine lv_iand hx hb dJ6_bitCount_0f7a4_51 ?_
  exact W.iret (v := (w5 &&& 63)) hx hb hr (fun t ht hW => ⟨(w5 &&& 63), rfl, (by subst ew5; subst ew4; subst ew3; subst ew2; subst ew1; rfl), ht⟩) (fun q hq => absurd hq List.not_mem_nil) dJ6_bitCount_0f7a4_52
set_option maxHeartbeats 4000000 in
set_option maxRecDepth 100000 in
theorem kJ6_bitCount_0f7a4 {p : Program} {l : Launch} {e : Env} {R : Room} {s : State} {m : MethodId} {args : Array Value} {below : List Frame} {meth : Method} {c : Code} {H : Heap} {locs : List Loc} {cells slots : Nat} {Q : State → Prop} {cc : ByteArray} {nL : Nat} {Ts : List Cond} {own : String} {index pc : Nat} {ls : Array Slot} {rest : List Value} {D : va_G} {y : Y3} {x1 : Int32} (hF : CallFix p m c cc nL s args Ts own) (cw : CallB R s args own index yJ6_bitCount_0f7a4 cJ6_bitCount_0f7a4 1 (some .int) wsJ6_bitCount_0f7a4 ({ frames := 0, cells := 0, slots := 0, locals := 0 } : Room) 0 0 1 ∧ (Cond.static yJ6_bitCount_0f7a4).before args s = true) (hC : CK D y s) (hsz : ls.size = nL) (hW : (rest.map fun v => v.category).sum ≤ 8) (hdg : decode cc pc = .ok (.invokestatic index, 3)) (hf : cells ≤ R.cells ∧ slots ≤ R.slots)
    (k : W p l e R s m args below meth c H locs cells slots Q (F0 m (pc + 3) ls (.int (zbc x1) :: rest))) : W p l e R s m args below meth c H locs cells slots Q (F0 m pc ls (.int x1 :: rest)) := by
  refine vp_callSi (W.runS (As := [.int x1]) (rest := rest) hF (mJ6_bitCount_0f7a4 l D y x1) cw ⟨fun a U g mk q => by obtain ⟨q0, q1⟩ := q; exact ⟨q0, q1.call g mk a⟩, fun U hU hW => ⟨rfl, hC.warm hW⟩⟩ rfl rfl hsz rfl (lv_room hW) hdg ⟨hf.1, hf.2⟩) (fun r hr => ?_)
  subst hr
  exact k
def zX7_isWithin (x1 x2 x3 : Int32) : Int32 := if x1 < x2 then 0
  else (if x3 < x1 then 0
    else 1)
theorem hdX7_isWithin : yX7_isWithin.cls ≠ "java/lang/invoke/MethodHandle" ∧ yX7_isWithin.cls ≠ "java/lang/invoke/VarHandle" ∧ (parseMethodDescriptor yX7_isWithin.desc).map (fun d => d.parameters.length) = some 3 := by decide +kernel
set_option maxHeartbeats 4000000 in
set_option maxRecDepth 100000 in
theorem mX7_isWithin (l : Launch) (D : va_G) (y : Y3) (x1 x2 x3 : Int32) : Met l yX7_isWithin wsX7_isWithin ({ frames := 0, cells := 0, slots := 0, locals := 0 } : Room) (va_Pc [.int x1, .int x2, .int x3] (fun U => CK D y U)) (vp_Si (fun r => r = zX7_isWithin x1 x2 x3)) 0 0 (fun _ => False) := by
  refine Met.ofW (cc := cX7_isWithin) (maxL := 3) (ret := (some .boolean)) (by decide) rfl ?_
  intro p e s m args below meth c s₁ B hml hv
  obtain ⟨rfl, hC⟩ := hv
  have hx := B.exec
  have hb := B.bytes
  have hr := B.returns
  have hts := atoms_spec (ws := wsX7_isWithin) B.pre
  have hown : s.vm.findClass RX7 = some m.cls := findClass_of_methodNamed B.named
  have hlocks := B.notSynchronized
  have hF := (⟨hx, hb, hml, hown, hts⟩ : CallFix p m c cX7_isWithin 3 s _ wsX7_isWithin RX7)
  have hl := lv_entry ([.int x1, .int x2, .int x3]) (n := 3) (Nat.le_of_ble_eq_true rfl)
  rw [lg_entry_eq]
  generalize (lg_sl ([.int x1, .int x2, .int x3]) ++ List.replicate (3 - (lg_sl ([.int x1, .int x2, .int x3])).length) Slot.unset).toArray = ls at hl ⊢
  have hl : lv_has ls 3 [(0, .int x1), (1, .int x2), (2, .int x3)] := hl
  refine lv_iload_n hx hb dX7_isWithin_0 rfl (lv_at hl 0 rfl) ?_
  refine lv_iload_n hx hb dX7_isWithin_1 rfl (lv_at hl 1 rfl) ?_
  refine lv_icmp_lt (tgt := 14) hx hb dX7_isWithin_2 (by decide) (fun c_1 => ?_) (fun c_1 => ?_)
  · refine lv_iconst (v := 0) hx hb dX7_isWithin_14 (by decide) ?_
    exact W.zret (v := 0) hx hb hr (by decide) (fun t ht hW => ⟨0, rfl, (by unfold zX7_isWithin; rw [if_pos c_1]), ht⟩) (fun q hq => absurd hq List.not_mem_nil) dX7_isWithin_15
  · refine lv_iload_n hx hb dX7_isWithin_5 rfl (lv_at hl 0 rfl) ?_
    refine lv_iload_n hx hb dX7_isWithin_6 rfl (lv_at hl 2 rfl) ?_
    refine lv_icmp_gt (tgt := 14) hx hb dX7_isWithin_7 (by decide) (fun c_2 => ?_) (fun c_2 => ?_)
    · refine lv_iconst (v := 0) hx hb dX7_isWithin_14 (by decide) ?_
      exact W.zret (v := 0) hx hb hr (by decide) (fun t ht hW => ⟨0, rfl, (by unfold zX7_isWithin; rw [if_neg c_1, if_pos c_2]), ht⟩) (fun q hq => absurd hq List.not_mem_nil) dX7_isWithin_15
    · refine lv_iconst (v := 1) hx hb dX7_isWithin_10 (by decide) ?_
      refine lv_goto (tgt := 15) hx hb dX7_isWithin_11 (by decide) ?_
      exact W.zret (v := 1) hx hb hr (by decide) (fun t ht hW => ⟨1, rfl, (by unfold zX7_isWithin; rw [if_neg c_1, if_neg c_2]), ht⟩) (fun q hq => absurd hq List.not_mem_nil) dX7_isWithin_15
set_option maxHeartbeats 4000000 in
set_option maxRecDepth 100000 in
theorem kX7_isWithinN {p : Program} {l : Launch} {e : Env} {R : Room} {s : State} {m : MethodId} {args : Array Value} {below : List Frame} {meth : Method} {c : Code} {H : Heap} {locs : List Loc} {cells slots : Nat} {Q : State → Prop} {cc : ByteArray} {nL : Nat} {Ts : List Cond} {own : String} {index pc : Nat} {ls : Array Slot} {rest : List Value} {D : va_G} {y : Y3} {x1 x2 x3 : Int32} (hF : CallFix p m c cc nL s args Ts own) (cw : va_CN R s args own index yX7_isWithin "MealLockers" cX7_isWithin 3 (some .boolean) wsX7_isWithin ({ frames := 0, cells := 0, slots := 0, locals := 0 } : Room) 0 0 3 ∧ (Cond.static yX7_isWithin).before args s = true ∧ True) (hC : CK D y s) (hsz : ls.size = nL) (hW : (rest.map fun v => v.category).sum ≤ 8) (hdg : decode cc pc = .ok (.invokestatic index, 3)) (hf : cells ≤ R.cells ∧ slots ≤ R.slots)
    (k : W p l e R s m args below meth c H locs cells slots Q (F0 m (pc + 3) ls (.int (zX7_isWithin x1 x2 x3) :: rest))) : W p l e R s m args below meth c H locs cells slots Q (F0 m pc ls (.int x3 :: .int x2 :: .int x1 :: rest)) := by
  refine vp_callSi (va_runSN (As := [.int x1, .int x2, .int x3]) (rest := rest) hF (mX7_isWithin l D y x1 x2 x3) cw ⟨fun a U g mk q => by obtain ⟨q0, q1⟩ := q; exact ⟨q0, q1.call g mk a⟩, fun U hU hW => ⟨rfl, hC.warm hW⟩⟩ rfl rfl hsz rfl (lv_room hW) hdg ⟨hf.1, hf.2⟩).run (fun r hr => ?_)
  subst hr
  exact k
def zX4_setting (σ : Sg) (x1 : Int32) : Int32 := (zatt σ 4 x1 0)
theorem iwX4_setting_X4 : ∀ w ∈ wsX40, w ∈ wsX4_setting := fun _ h => List.mem_cons_of_mem _ (List.mem_append_left _ (List.mem_append_right _ h))
theorem hdX4_setting : yX4_setting.cls = RX4 ∧ yX4_setting.cls ≠ "java/lang/invoke/MethodHandle" ∧ yX4_setting.cls ≠ "java/lang/invoke/VarHandle" ∧ (parseMethodDescriptor yX4_setting.desc).map (fun d => d.parameters.length) = some 1 := by decide +kernel
set_option maxHeartbeats 4000000 in
set_option maxRecDepth 100000 in
theorem mX4_setting (l : Launch) (D : va_G) (y : Y3) (ad : Nat → Nat) (σ : Sg) (x1 : Int32) : Met l yX4_setting wsX4_setting ({ frames := 1, cells := 0, slots := 0, locals := 23 } : Room) (va_Pc [.ref (ad 0), .int x1] (fun U => CK D y U ∧ StH D y ad σ U.heap)) (vp_Si (fun r => r = zX4_setting σ x1)) 0 0 (fun _ => False) := by
  refine Met.ofW (cc := cX4_setting) (maxL := 2) (ret := (some .int)) (by decide) rfl ?_
  intro p e s m args below meth c s₁ B hml hv
  obtain ⟨rfl, hC, hSt⟩ := hv
  have hx := B.exec
  have hb := B.bytes
  have hr := B.returns
  have hts := atoms_spec (ws := wsX4_setting) B.pre
  have hown : s.vm.findClass RX4 = some m.cls := findClass_of_methodNamed B.named
  have hlocks := B.notSynchronized
  have hF := (⟨hx, hb, hml, hown, hts⟩ : CallFix p m c cX4_setting 2 s _ wsX4_setting RX4)
  have hl := lv_entry ([.ref (ad 0), .int x1]) (n := 2) (Nat.le_of_ble_eq_true rfl)
  rw [lg_entry_eq]
  generalize (lg_sl ([.ref (ad 0), .int x1]) ++ List.replicate (2 - (lg_sl ([.ref (ad 0), .int x1])).length) Slot.unset).toArray = ls at hl ⊢
  have hl : lv_has ls 2 [(0, .ref (ad 0)), (1, .int x1)] := hl
  refine lv_aload_n hx hb dX4_setting_0 rfl (lv_at hl 0 rfl) ?_
  refine va_get (D := D) (ci := 4) (v := .ref (ad 9)) (C := RX4) (T := TX4) (N := 6) hx hb hts iwX4_setting_X4 hown hC.1 hSt 0 rfl rfl 4 (by decide) (hts (.fieldLink RX4 29 "MealLockers$State" "settings" "LMealLockers$Table;") (List.mem_of_getElem? (i := 1) rfl)) (fun _ h9 => h9) rfl dX4_setting_1 ?_
  refine lv_iload_n hx hb dX4_setting_4 rfl (lv_at hl 1 rfl) ?_
  refine lv_iconst (v := 0) hx hb dX4_setting_5 (by decide) ?_
  refine sX5_at (k := 4) hF (cwV 2 hts gX4_setting_X5_at rfl rfl rfl hdX5_at ⟨Nat.le_of_ble_eq_true rfl, Nat.le_of_ble_eq_true rfl⟩) hC hSt (by decide) hl.1 (Nat.le_of_ble_eq_true rfl) dX4_setting_6 ⟨Nat.zero_le _, Nat.zero_le _⟩ ?_
  exact W.iret (v := (zatt σ 4 x1 0)) hx hb hr (fun t ht hW => ⟨(zatt σ 4 x1 0), rfl, rfl, ht⟩) (fun q hq => absurd hq List.not_mem_nil) dX4_setting_9
set_option maxHeartbeats 4000000 in
set_option maxRecDepth 100000 in
theorem kX4_setting {p : Program} {l : Launch} {e : Env} {R : Room} {s : State} {m : MethodId} {args : Array Value} {below : List Frame} {meth : Method} {c : Code} {H : Heap} {locs : List Loc} {cells slots : Nat} {Q : State → Prop} {cc : ByteArray} {nL : Nat} {Ts : List Cond} {own : String} {index pc : Nat} {ls : Array Slot} {rest : List Value} {D : va_G} {y : Y3} {ad : Nat → Nat} {σ : Sg} {x1 : Int32} (hF : CallFix p m c cc nL s args Ts own) (cw : CallW R s args own RX4 index yX4_setting cX4_setting 2 (some .int) wsX4_setting ({ frames := 1, cells := 0, slots := 0, locals := 23 } : Room) 0 0 1) (hC : CK D y s) (hSt : StH D y ad σ H) (hsz : ls.size = nL) (hW : (rest.map fun v => v.category).sum ≤ 8) (hdg : decode cc pc = .ok (.invokevirtual index, 3)) (hf : cells ≤ R.cells ∧ slots ≤ R.slots)
    (k : W p l e R s m args below meth c H locs cells slots Q (F0 m (pc + 3) ls (.int (zX4_setting σ x1) :: rest))) : W p l e R s m args below meth c H locs cells slots Q (F0 m pc ls (.int x1 :: .ref (ad 0) :: rest)) := by
  refine vp_callSi (W.runV (As := [.int x1]) (rest := rest) hF (mX4_setting l D y ad σ x1) cw ⟨fun a U g mk q => by obtain ⟨q0, q1, q2⟩ := q; exact ⟨q0, q1.call g mk a, q2⟩, va_recv hC.1 hSt (ci := 4) (q0 := 0) rfl rfl, fun U hU hW => ⟨rfl, hC.warm hW, by rw [hU]; exact hSt⟩⟩ rfl rfl hsz rfl (lv_room hW) hdg ⟨hf.1, hf.2⟩) (fun r hr => ?_)
  subst hr
  exact k
def bX4_mealsIn (σ : Sg) (x1 : Int32) (i : Nat) (v : Int32) : Int32 := if 1 < (zatt σ 1 (nI i) 0) then v
  else (if (zatt σ 1 (nI i) 1) = x1 then (v ||| ((1 : Int32) <<< ((nI i) &&& 31)))
    else v)
def zX4_mealsIn (σ : Sg) (x1 : Int32) : Int32 := (upTo (bX4_mealsIn σ x1) 0 (σ 5 1).toNatClampNeg)
theorem iwX4_mealsIn_X4 : ∀ w ∈ wsX40, w ∈ wsX4_mealsIn := fun _ h => List.mem_cons_of_mem _ (List.mem_append_left _ (List.mem_append_right _ h))
theorem hdX4_mealsIn : yX4_mealsIn.cls = RX4 ∧ yX4_mealsIn.cls ≠ "java/lang/invoke/MethodHandle" ∧ yX4_mealsIn.cls ≠ "java/lang/invoke/VarHandle" ∧ (parseMethodDescriptor yX4_mealsIn.desc).map (fun d => d.parameters.length) = some 1 := by decide +kernel
set_option maxHeartbeats 4000000 in
set_option maxRecDepth 100000 in
theorem lpX4_mealsIn {p : Program} {l : Launch} {e : Env} {s : State} {m : MethodId} {args : Array Value} {below : List Frame} {meth : Method} {c : Code} {Q : State → Prop} {D : va_G} {y : Y3} {ad : Nat → Nat} {σ : Sg} {x1 : Int32} {H : Heap} {locs : List Loc} (hx : p.tables.exec = Jvm.exec) (hb : c.code = cX4_mealsIn) (hml : c.maxLocals = 4) (hown : s.vm.findClass RX4 = some m.cls) (hts : ∀ w ∈ wsX4_mealsIn, w.before args s = true) (hC : CK D y s) (hSt : StH D y ad σ H)
    (K : ∀ ls : Array Slot, lv_has ls 4 [(3, .int (nI (σ 5 1).toNatClampNeg)), (2, .int (upTo (bX4_mealsIn σ x1) 0 ((σ 5 1).toNatClampNeg))), (0, .ref (ad 0)), (1, .int x1)] → W p l e (headSpec wsX4_mealsIn ({ frames := 1, cells := 0, slots := 0, locals := 23 } : Room)).room s m args below meth c H locs 0 0 Q (F0 m 53 ls [])) :
    ∀ (j i : Nat), i + j = (σ 5 1).toNatClampNeg → ∀ ls : Array Slot, lv_has ls 4 [(3, .int (nI i)), (2, .int (upTo (bX4_mealsIn σ x1) 0 i)), (0, .ref (ad 0)), (1, .int x1)] → W p l e (headSpec wsX4_mealsIn ({ frames := 1, cells := 0, slots := 0, locals := 23 } : Room)).room s m args below meth c H locs 0 0 Q (F0 m 4 ls []) := by
  have hF := (⟨hx, hb, hml, hown, hts⟩ : CallFix p m c cX4_mealsIn 4 s args wsX4_mealsIn RX4)
  have hN := clamp_lt (σ 5 1)
  intro j
  induction j with
  | zero =>
    intro i hin ls hl
    obtain rfl : i = (σ 5 1).toNatClampNeg := by omega
    refine lv_iload_n hx hb dX4_mealsIn_4 rfl (lv_at hl 0 rfl) ?_
    refine lv_aload_n hx hb dX4_mealsIn_5 rfl (lv_at hl 2 rfl) ?_
    refine va_get (D := D) (ci := 4) (v := .ref (ad 3)) (C := RX4) (T := TX4) (N := 6) hx hb hts iwX4_mealsIn_X4 hown hC.1 hSt 0 rfl rfl 1 (by decide) (hts (.fieldLink RX4 20 "MealLockers$State" "meals" "LMealLockers$Table;") (List.mem_of_getElem? (i := 1) rfl)) (fun _ h9 => h9) rfl dX4_mealsIn_6 ?_
    refine sX5_size (k := 1) hF (cwV 0 hts gX4_mealsIn_X5_size rfl rfl rfl hdX5_size ⟨Nat.le_of_ble_eq_true rfl, Nat.le_of_ble_eq_true rfl⟩) hC hSt (by decide) hl.1 (Nat.le_of_ble_eq_true rfl) dX4_mealsIn_9 ⟨Nat.zero_le _, Nat.zero_le _⟩ ?_
    refine lv_icmp_ge (tgt := 53) hx hb dX4_mealsIn_12 (by decide) (fun _ => ?_) (fun c_1 => absurd (up_le _) c_1)
    exact K ls hl
  | succ j ih =>
    intro i hin ls hl
    obtain ⟨v, hv⟩ : ∃ v, v = (upTo (bX4_mealsIn σ x1) 0 i) := ⟨_, rfl⟩
    rw [← hv] at hl
    refine lv_iload_n hx hb dX4_mealsIn_4 rfl (lv_at hl 0 rfl) ?_
    refine lv_aload_n hx hb dX4_mealsIn_5 rfl (lv_at hl 2 rfl) ?_
    refine va_get (D := D) (ci := 4) (v := .ref (ad 3)) (C := RX4) (T := TX4) (N := 6) hx hb hts iwX4_mealsIn_X4 hown hC.1 hSt 0 rfl rfl 1 (by decide) (hts (.fieldLink RX4 20 "MealLockers$State" "meals" "LMealLockers$Table;") (List.mem_of_getElem? (i := 1) rfl)) (fun _ h9 => h9) rfl dX4_mealsIn_6 ?_
    refine sX5_size (k := 1) hF (cwV 0 hts gX4_mealsIn_X5_size rfl rfl rfl hdX5_size ⟨Nat.le_of_ble_eq_true rfl, Nat.le_of_ble_eq_true rfl⟩) hC hSt (by decide) hl.1 (Nat.le_of_ble_eq_true rfl) dX4_mealsIn_9 ⟨Nat.zero_le _, Nat.zero_le _⟩ ?_
    refine lv_icmp_ge (tgt := 53) hx hb dX4_mealsIn_12 (by decide) (fun c_2 => absurd c_2 (up_gt (by omega))) (fun _ => ?_)
    refine lv_aload_n hx hb dX4_mealsIn_15 rfl (lv_at hl 2 rfl) ?_
    refine va_get (D := D) (ci := 4) (v := .ref (ad 3)) (C := RX4) (T := TX4) (N := 6) hx hb hts iwX4_mealsIn_X4 hown hC.1 hSt 0 rfl rfl 1 (by decide) (hts (.fieldLink RX4 20 "MealLockers$State" "meals" "LMealLockers$Table;") (List.mem_of_getElem? (i := 1) rfl)) (fun _ h9 => h9) rfl dX4_mealsIn_16 ?_
    refine lv_iload_n hx hb dX4_mealsIn_19 rfl (lv_at hl 0 rfl) ?_
    refine lv_iconst (v := 0) hx hb dX4_mealsIn_20 (by decide) ?_
    refine sX5_at (k := 1) hF (cwV 2 hts gX4_mealsIn_X5_at rfl rfl rfl hdX5_at ⟨Nat.le_of_ble_eq_true rfl, Nat.le_of_ble_eq_true rfl⟩) hC hSt (by decide) hl.1 (Nat.le_of_ble_eq_true rfl) dX4_mealsIn_21 ⟨Nat.zero_le _, Nat.zero_le _⟩ ?_
    refine lv_iconst (v := 1) hx hb dX4_mealsIn_24 (by decide) ?_
    refine lv_icmp_gt (tgt := 47) hx hb dX4_mealsIn_25 (by decide) (fun c_3 => ?_) (fun c_3 => ?_)
    · refine lv_iinc (v := (nI (i + 1))) (lv' := [(3, .int (nI (i + 1))), (2, .int v), (0, .ref (ad 0)), (1, .int x1)]) hx hb dX4_mealsIn_47 hl (k := 0) rfl (by rw [nI_succ]; rfl) (by decide) rfl (fun ls hl => ?_)
      refine lv_goto (tgt := 4) hx hb dX4_mealsIn_50 (by decide) ?_
      have e9 : (upTo (bX4_mealsIn σ x1) 0 (i + 1)) = v := by show bX4_mealsIn σ x1 i (upTo (bX4_mealsIn σ x1) 0 i) = _; rw [← hv]; unfold bX4_mealsIn; rw [if_pos c_3]
      exact ih (i + 1) (by omega) ls (by rw [e9]; exact lv_sub hl [0, 1, 2, 3] rfl)
    · refine lv_aload_n hx hb dX4_mealsIn_28 rfl (lv_at hl 2 rfl) ?_
      refine va_get (D := D) (ci := 4) (v := .ref (ad 3)) (C := RX4) (T := TX4) (N := 6) hx hb hts iwX4_mealsIn_X4 hown hC.1 hSt 0 rfl rfl 1 (by decide) (hts (.fieldLink RX4 20 "MealLockers$State" "meals" "LMealLockers$Table;") (List.mem_of_getElem? (i := 1) rfl)) (fun _ h9 => h9) rfl dX4_mealsIn_29 ?_
      refine lv_iload_n hx hb dX4_mealsIn_32 rfl (lv_at hl 0 rfl) ?_
      refine lv_iconst (v := 1) hx hb dX4_mealsIn_33 (by decide) ?_
      refine sX5_at (k := 1) hF (cwV 2 hts gX4_mealsIn_X5_at rfl rfl rfl hdX5_at ⟨Nat.le_of_ble_eq_true rfl, Nat.le_of_ble_eq_true rfl⟩) hC hSt (by decide) hl.1 (Nat.le_of_ble_eq_true rfl) dX4_mealsIn_34 ⟨Nat.zero_le _, Nat.zero_le _⟩ ?_
      refine lv_iload_n hx hb dX4_mealsIn_37 rfl (lv_at hl 3 rfl) ?_
      refine lv_icmp_ne (tgt := 47) hx hb dX4_mealsIn_38 (by decide) (fun c_4 => ?_) (fun c_4 => ?_)
      · refine lv_iinc (v := (nI (i + 1))) (lv' := [(3, .int (nI (i + 1))), (2, .int v), (0, .ref (ad 0)), (1, .int x1)]) hx hb dX4_mealsIn_47 hl (k := 0) rfl (by rw [nI_succ]; rfl) (by decide) rfl (fun ls hl => ?_)
        refine lv_goto (tgt := 4) hx hb dX4_mealsIn_50 (by decide) ?_
        have e9 : (upTo (bX4_mealsIn σ x1) 0 (i + 1)) = v := by show bX4_mealsIn σ x1 i (upTo (bX4_mealsIn σ x1) 0 i) = _; rw [← hv]; unfold bX4_mealsIn; rw [if_neg c_3, if_neg c_4]
        exact ih (i + 1) (by omega) ls (by rw [e9]; exact lv_sub hl [0, 1, 2, 3] rfl)
      · refine lv_iload_n hx hb dX4_mealsIn_41 rfl (lv_at hl 1 rfl) ?_
        refine lv_iconst (v := 1) hx hb dX4_mealsIn_42 (by decide) ?_
        refine lv_iload_n hx hb dX4_mealsIn_43 rfl (lv_at hl 0 rfl) ?_
        refine lv_ishl hx hb dX4_mealsIn_44 ?_
        refine lv_ior hx hb dX4_mealsIn_45 ?_
        refine lv_istore_n (lv' := [(2, .int (v ||| ((1 : Int32) <<< ((nI i) &&& 31)))), (3, .int (nI i)), (0, .ref (ad 0)), (1, .int x1)]) hx hb dX4_mealsIn_46 rfl hl (by decide) rfl (fun ls hl => ?_)
        refine lv_iinc (v := (nI (i + 1))) (lv' := [(3, .int (nI (i + 1))), (2, .int (v ||| ((1 : Int32) <<< ((nI i) &&& 31)))), (0, .ref (ad 0)), (1, .int x1)]) hx hb dX4_mealsIn_47 hl (k := 1) rfl (by rw [nI_succ]; rfl) (by decide) rfl (fun ls hl => ?_)
        refine lv_goto (tgt := 4) hx hb dX4_mealsIn_50 (by decide) ?_
        have e9 : (upTo (bX4_mealsIn σ x1) 0 (i + 1)) = (v ||| ((1 : Int32) <<< ((nI i) &&& 31))) := by show bX4_mealsIn σ x1 i (upTo (bX4_mealsIn σ x1) 0 i) = _; rw [← hv]; unfold bX4_mealsIn; rw [if_neg c_3, if_pos c_4]
        exact ih (i + 1) (by omega) ls (by rw [e9]; exact lv_sub hl [0, 1, 2, 3] rfl)
set_option maxHeartbeats 4000000 in
set_option maxRecDepth 100000 in
theorem mX4_mealsIn (l : Launch) (D : va_G) (y : Y3) (ad : Nat → Nat) (σ : Sg) (x1 : Int32) : Met l yX4_mealsIn wsX4_mealsIn ({ frames := 1, cells := 0, slots := 0, locals := 23 } : Room) (va_Pc [.ref (ad 0), .int x1] (fun U => CK D y U ∧ StH D y ad σ U.heap)) (vp_Si (fun r => r = zX4_mealsIn σ x1)) 0 0 (fun _ => False) := by
  refine Met.ofW (cc := cX4_mealsIn) (maxL := 4) (ret := (some .int)) (by decide) rfl ?_
  intro p e s m args below meth c s₁ B hml hv
  obtain ⟨rfl, hC, hSt⟩ := hv
  have hx := B.exec
  have hb := B.bytes
  have hr := B.returns
  have hts := atoms_spec (ws := wsX4_mealsIn) B.pre
  have hown : s.vm.findClass RX4 = some m.cls := findClass_of_methodNamed B.named
  have hlocks := B.notSynchronized
  have hF := (⟨hx, hb, hml, hown, hts⟩ : CallFix p m c cX4_mealsIn 4 s _ wsX4_mealsIn RX4)
  have hl := lv_entry ([.ref (ad 0), .int x1]) (n := 4) (Nat.le_of_ble_eq_true rfl)
  rw [lg_entry_eq]
  generalize (lg_sl ([.ref (ad 0), .int x1]) ++ List.replicate (4 - (lg_sl ([.ref (ad 0), .int x1])).length) Slot.unset).toArray = ls at hl ⊢
  have hl : lv_has ls 4 [(0, .ref (ad 0)), (1, .int x1)] := hl
  refine lv_iconst (v := 0) hx hb dX4_mealsIn_0 (by decide) ?_
  refine lv_istore_n (lv' := [(2, .int 0), (0, .ref (ad 0)), (1, .int x1)]) hx hb dX4_mealsIn_1 rfl hl (by decide) rfl (fun ls hl => ?_)
  refine lv_iconst (v := 0) hx hb dX4_mealsIn_2 (by decide) ?_
  refine lv_istore_n (lv' := [(3, .int 0), (2, .int 0), (0, .ref (ad 0)), (1, .int x1)]) hx hb dX4_mealsIn_3 rfl hl (by decide) rfl (fun ls hl => ?_)
  refine lpX4_mealsIn hx hb hml hown hts hC hSt (fun ls hl => ?_) _ 0 (Nat.zero_add _) ls (lv_sub hl [0, 1, 2, 3] rfl)
  refine lv_iload_n hx hb dX4_mealsIn_53 rfl (lv_at hl 1 rfl) ?_
  exact W.iret (v := (upTo (bX4_mealsIn σ x1) 0 (σ 5 1).toNatClampNeg)) hx hb hr (fun t ht hW => ⟨(upTo (bX4_mealsIn σ x1) 0 (σ 5 1).toNatClampNeg), rfl, rfl, ht⟩) (fun q hq => absurd hq List.not_mem_nil) dX4_mealsIn_54
set_option maxHeartbeats 4000000 in
set_option maxRecDepth 100000 in
theorem kX4_mealsIn {p : Program} {l : Launch} {e : Env} {R : Room} {s : State} {m : MethodId} {args : Array Value} {below : List Frame} {meth : Method} {c : Code} {H : Heap} {locs : List Loc} {cells slots : Nat} {Q : State → Prop} {cc : ByteArray} {nL : Nat} {Ts : List Cond} {own : String} {index pc : Nat} {ls : Array Slot} {rest : List Value} {D : va_G} {y : Y3} {ad : Nat → Nat} {σ : Sg} {x1 : Int32} (hF : CallFix p m c cc nL s args Ts own) (cw : CallW R s args own RX4 index yX4_mealsIn cX4_mealsIn 4 (some .int) wsX4_mealsIn ({ frames := 1, cells := 0, slots := 0, locals := 23 } : Room) 0 0 1) (hC : CK D y s) (hSt : StH D y ad σ H) (hsz : ls.size = nL) (hW : (rest.map fun v => v.category).sum ≤ 8) (hdg : decode cc pc = .ok (.invokevirtual index, 3)) (hf : cells ≤ R.cells ∧ slots ≤ R.slots)
    (k : W p l e R s m args below meth c H locs cells slots Q (F0 m (pc + 3) ls (.int (zX4_mealsIn σ x1) :: rest))) : W p l e R s m args below meth c H locs cells slots Q (F0 m pc ls (.int x1 :: .ref (ad 0) :: rest)) := by
  refine vp_callSi (W.runV (As := [.int x1]) (rest := rest) hF (mX4_mealsIn l D y ad σ x1) cw ⟨fun a U g mk q => by obtain ⟨q0, q1, q2⟩ := q; exact ⟨q0, q1.call g mk a, q2⟩, va_recv hC.1 hSt (ci := 4) (q0 := 0) rfl rfl, fun U hU hW => ⟨rfl, hC.warm hW, by rw [hU]; exact hSt⟩⟩ rfl rfl hsz rfl (lv_room hW) hdg ⟨hf.1, hf.2⟩) (fun r hr => ?_)
  subst hr
  exact k
def bX4_mealsWith (σ : Sg) (x1 : Int32) (i : Nat) (v : Int32) : Int32 := if (zatt σ 1 (nI i) 0) = 2 then (if (zatt σ 1 (nI i) 6) = x1 then (v ||| ((1 : Int32) <<< ((nI i) &&& 31)))
    else v)
  else v
def zX4_mealsWith (σ : Sg) (x1 : Int32) : Int32 := (upTo (bX4_mealsWith σ x1) 0 (σ 5 1).toNatClampNeg)
theorem iwX4_mealsWith_X4 : ∀ w ∈ wsX40, w ∈ wsX4_mealsWith := fun _ h => List.mem_cons_of_mem _ (List.mem_append_left _ (List.mem_append_right _ h))
theorem hdX4_mealsWith : yX4_mealsWith.cls = RX4 ∧ yX4_mealsWith.cls ≠ "java/lang/invoke/MethodHandle" ∧ yX4_mealsWith.cls ≠ "java/lang/invoke/VarHandle" ∧ (parseMethodDescriptor yX4_mealsWith.desc).map (fun d => d.parameters.length) = some 1 := by decide +kernel
set_option maxHeartbeats 4000000 in
set_option maxRecDepth 100000 in
theorem lpX4_mealsWith {p : Program} {l : Launch} {e : Env} {s : State} {m : MethodId} {args : Array Value} {below : List Frame} {meth : Method} {c : Code} {Q : State → Prop} {D : va_G} {y : Y3} {ad : Nat → Nat} {σ : Sg} {x1 : Int32} {H : Heap} {locs : List Loc} (hx : p.tables.exec = Jvm.exec) (hb : c.code = cX4_mealsWith) (hml : c.maxLocals = 4) (hown : s.vm.findClass RX4 = some m.cls) (hts : ∀ w ∈ wsX4_mealsWith, w.before args s = true) (hC : CK D y s) (hSt : StH D y ad σ H)
    (K : ∀ ls : Array Slot, lv_has ls 4 [(3, .int (nI (σ 5 1).toNatClampNeg)), (2, .int (upTo (bX4_mealsWith σ x1) 0 ((σ 5 1).toNatClampNeg))), (0, .ref (ad 0)), (1, .int x1)] → W p l e (headSpec wsX4_mealsWith ({ frames := 1, cells := 0, slots := 0, locals := 23 } : Room)).room s m args below meth c H locs 0 0 Q (F0 m 54 ls [])) :
    ∀ (j i : Nat), i + j = (σ 5 1).toNatClampNeg → ∀ ls : Array Slot, lv_has ls 4 [(3, .int (nI i)), (2, .int (upTo (bX4_mealsWith σ x1) 0 i)), (0, .ref (ad 0)), (1, .int x1)] → W p l e (headSpec wsX4_mealsWith ({ frames := 1, cells := 0, slots := 0, locals := 23 } : Room)).room s m args below meth c H locs 0 0 Q (F0 m 4 ls []) := by
  have hF := (⟨hx, hb, hml, hown, hts⟩ : CallFix p m c cX4_mealsWith 4 s args wsX4_mealsWith RX4)
  have hN := clamp_lt (σ 5 1)
  intro j
  induction j with
  | zero =>
    intro i hin ls hl
    obtain rfl : i = (σ 5 1).toNatClampNeg := by omega
    refine lv_iload_n hx hb dX4_mealsWith_4 rfl (lv_at hl 0 rfl) ?_
    refine lv_aload_n hx hb dX4_mealsWith_5 rfl (lv_at hl 2 rfl) ?_
    refine va_get (D := D) (ci := 4) (v := .ref (ad 3)) (C := RX4) (T := TX4) (N := 6) hx hb hts iwX4_mealsWith_X4 hown hC.1 hSt 0 rfl rfl 1 (by decide) (hts (.fieldLink RX4 20 "MealLockers$State" "meals" "LMealLockers$Table;") (List.mem_of_getElem? (i := 1) rfl)) (fun _ h9 => h9) rfl dX4_mealsWith_6 ?_
    refine sX5_size (k := 1) hF (cwV 0 hts gX4_mealsWith_X5_size rfl rfl rfl hdX5_size ⟨Nat.le_of_ble_eq_true rfl, Nat.le_of_ble_eq_true rfl⟩) hC hSt (by decide) hl.1 (Nat.le_of_ble_eq_true rfl) dX4_mealsWith_9 ⟨Nat.zero_le _, Nat.zero_le _⟩ ?_
    refine lv_icmp_ge (tgt := 54) hx hb dX4_mealsWith_12 (by decide) (fun _ => ?_) (fun c_1 => absurd (up_le _) c_1)
    exact K ls hl
  | succ j ih =>
    intro i hin ls hl
    obtain ⟨v, hv⟩ : ∃ v, v = (upTo (bX4_mealsWith σ x1) 0 i) := ⟨_, rfl⟩
    rw [← hv] at hl
    refine lv_iload_n hx hb dX4_mealsWith_4 rfl (lv_at hl 0 rfl) ?_
    refine lv_aload_n hx hb dX4_mealsWith_5 rfl (lv_at hl 2 rfl) ?_
    refine va_get (D := D) (ci := 4) (v := .ref (ad 3)) (C := RX4) (T := TX4) (N := 6) hx hb hts iwX4_mealsWith_X4 hown hC.1 hSt 0 rfl rfl 1 (by decide) (hts (.fieldLink RX4 20 "MealLockers$State" "meals" "LMealLockers$Table;") (List.mem_of_getElem? (i := 1) rfl)) (fun _ h9 => h9) rfl dX4_mealsWith_6 ?_
    refine sX5_size (k := 1) hF (cwV 0 hts gX4_mealsWith_X5_size rfl rfl rfl hdX5_size ⟨Nat.le_of_ble_eq_true rfl, Nat.le_of_ble_eq_true rfl⟩) hC hSt (by decide) hl.1 (Nat.le_of_ble_eq_true rfl) dX4_mealsWith_9 ⟨Nat.zero_le _, Nat.zero_le _⟩ ?_
    refine lv_icmp_ge (tgt := 54) hx hb dX4_mealsWith_12 (by decide) (fun c_2 => absurd c_2 (up_gt (by omega))) (fun _ => ?_)
    refine lv_aload_n hx hb dX4_mealsWith_15 rfl (lv_at hl 2 rfl) ?_
    refine va_get (D := D) (ci := 4) (v := .ref (ad 3)) (C := RX4) (T := TX4) (N := 6) hx hb hts iwX4_mealsWith_X4 hown hC.1 hSt 0 rfl rfl 1 (by decide) (hts (.fieldLink RX4 20 "MealLockers$State" "meals" "LMealLockers$Table;") (List.mem_of_getElem? (i := 1) rfl)) (fun _ h9 => h9) rfl dX4_mealsWith_16 ?_
    refine lv_iload_n hx hb dX4_mealsWith_19 rfl (lv_at hl 0 rfl) ?_
    refine lv_iconst (v := 0) hx hb dX4_mealsWith_20 (by decide) ?_
    refine sX5_at (k := 1) hF (cwV 2 hts gX4_mealsWith_X5_at rfl rfl rfl hdX5_at ⟨Nat.le_of_ble_eq_true rfl, Nat.le_of_ble_eq_true rfl⟩) hC hSt (by decide) hl.1 (Nat.le_of_ble_eq_true rfl) dX4_mealsWith_21 ⟨Nat.zero_le _, Nat.zero_le _⟩ ?_
    refine lv_iconst (v := 2) hx hb dX4_mealsWith_24 (by decide) ?_
    refine lv_icmp_ne (tgt := 48) hx hb dX4_mealsWith_25 (by decide) (fun c_3 => ?_) (fun c_3 => ?_)
    · refine lv_iinc (v := (nI (i + 1))) (lv' := [(3, .int (nI (i + 1))), (2, .int v), (0, .ref (ad 0)), (1, .int x1)]) hx hb dX4_mealsWith_48 hl (k := 0) rfl (by rw [nI_succ]; rfl) (by decide) rfl (fun ls hl => ?_)
      refine lv_goto (tgt := 4) hx hb dX4_mealsWith_51 (by decide) ?_
      have e9 : (upTo (bX4_mealsWith σ x1) 0 (i + 1)) = v := by show bX4_mealsWith σ x1 i (upTo (bX4_mealsWith σ x1) 0 i) = _; rw [← hv]; unfold bX4_mealsWith; rw [if_neg c_3]
      exact ih (i + 1) (by omega) ls (by rw [e9]; exact lv_sub hl [0, 1, 2, 3] rfl)
    · refine lv_aload_n hx hb dX4_mealsWith_28 rfl (lv_at hl 2 rfl) ?_
      refine va_get (D := D) (ci := 4) (v := .ref (ad 3)) (C := RX4) (T := TX4) (N := 6) hx hb hts iwX4_mealsWith_X4 hown hC.1 hSt 0 rfl rfl 1 (by decide) (hts (.fieldLink RX4 20 "MealLockers$State" "meals" "LMealLockers$Table;") (List.mem_of_getElem? (i := 1) rfl)) (fun _ h9 => h9) rfl dX4_mealsWith_29 ?_
      refine lv_iload_n hx hb dX4_mealsWith_32 rfl (lv_at hl 0 rfl) ?_
      refine lv_bipush (v := 6) hx hb dX4_mealsWith_33 (by decide) ?_
      refine sX5_at (k := 1) hF (cwV 2 hts gX4_mealsWith_X5_at rfl rfl rfl hdX5_at ⟨Nat.le_of_ble_eq_true rfl, Nat.le_of_ble_eq_true rfl⟩) hC hSt (by decide) hl.1 (Nat.le_of_ble_eq_true rfl) dX4_mealsWith_35 ⟨Nat.zero_le _, Nat.zero_le _⟩ ?_
      refine lv_iload_n hx hb dX4_mealsWith_38 rfl (lv_at hl 3 rfl) ?_
      refine lv_icmp_ne (tgt := 48) hx hb dX4_mealsWith_39 (by decide) (fun c_4 => ?_) (fun c_4 => ?_)
      · refine lv_iinc (v := (nI (i + 1))) (lv' := [(3, .int (nI (i + 1))), (2, .int v), (0, .ref (ad 0)), (1, .int x1)]) hx hb dX4_mealsWith_48 hl (k := 0) rfl (by rw [nI_succ]; rfl) (by decide) rfl (fun ls hl => ?_)
        refine lv_goto (tgt := 4) hx hb dX4_mealsWith_51 (by decide) ?_
        have e9 : (upTo (bX4_mealsWith σ x1) 0 (i + 1)) = v := by show bX4_mealsWith σ x1 i (upTo (bX4_mealsWith σ x1) 0 i) = _; rw [← hv]; unfold bX4_mealsWith; rw [if_pos c_3, if_neg c_4]
        exact ih (i + 1) (by omega) ls (by rw [e9]; exact lv_sub hl [0, 1, 2, 3] rfl)
      · refine lv_iload_n hx hb dX4_mealsWith_42 rfl (lv_at hl 1 rfl) ?_
        refine lv_iconst (v := 1) hx hb dX4_mealsWith_43 (by decide) ?_
        refine lv_iload_n hx hb dX4_mealsWith_44 rfl (lv_at hl 0 rfl) ?_
        refine lv_ishl hx hb dX4_mealsWith_45 ?_
        refine lv_ior hx hb dX4_mealsWith_46 ?_
        refine lv_istore_n (lv' := [(2, .int (v ||| ((1 : Int32) <<< ((nI i) &&& 31)))), (3, .int (nI i)), (0, .ref (ad 0)), (1, .int x1)]) hx hb dX4_mealsWith_47 rfl hl (by decide) rfl (fun ls hl => ?_)
        refine lv_iinc (v := (nI (i + 1))) (lv' := [(3, .int (nI (i + 1))), (2, .int (v ||| ((1 : Int32) <<< ((nI i) &&& 31)))), (0, .ref (ad 0)), (1, .int x1)]) hx hb dX4_mealsWith_48 hl (k := 1) rfl (by rw [nI_succ]; rfl) (by decide) rfl (fun ls hl => ?_)
        refine lv_goto (tgt := 4) hx hb dX4_mealsWith_51 (by decide) ?_
        have e9 : (upTo (bX4_mealsWith σ x1) 0 (i + 1)) = (v ||| ((1 : Int32) <<< ((nI i) &&& 31))) := by show bX4_mealsWith σ x1 i (upTo (bX4_mealsWith σ x1) 0 i) = _; rw [← hv]; unfold bX4_mealsWith; rw [if_pos c_3, if_pos c_4]
        exact ih (i + 1) (by omega) ls (by rw [e9]; exact lv_sub hl [0, 1, 2, 3] rfl)
set_option maxHeartbeats 4000000 in
set_option maxRecDepth 100000 in
theorem mX4_mealsWith (l : Launch) (D : va_G) (y : Y3) (ad : Nat → Nat) (σ : Sg) (x1 : Int32) : Met l yX4_mealsWith wsX4_mealsWith ({ frames := 1, cells := 0, slots := 0, locals := 23 } : Room) (va_Pc [.ref (ad 0), .int x1] (fun U => CK D y U ∧ StH D y ad σ U.heap)) (vp_Si (fun r => r = zX4_mealsWith σ x1)) 0 0 (fun _ => False) := by
  refine Met.ofW (cc := cX4_mealsWith) (maxL := 4) (ret := (some .int)) (by decide) rfl ?_
  intro p e s m args below meth c s₁ B hml hv
  obtain ⟨rfl, hC, hSt⟩ := hv
  have hx := B.exec
  have hb := B.bytes
  have hr := B.returns
  have hts := atoms_spec (ws := wsX4_mealsWith) B.pre
  have hown : s.vm.findClass RX4 = some m.cls := findClass_of_methodNamed B.named
  have hlocks := B.notSynchronized
  have hF := (⟨hx, hb, hml, hown, hts⟩ : CallFix p m c cX4_mealsWith 4 s _ wsX4_mealsWith RX4)
  have hl := lv_entry ([.ref (ad 0), .int x1]) (n := 4) (Nat.le_of_ble_eq_true rfl)
  rw [lg_entry_eq]
  generalize (lg_sl ([.ref (ad 0), .int x1]) ++ List.replicate (4 - (lg_sl ([.ref (ad 0), .int x1])).length) Slot.unset).toArray = ls at hl ⊢
  have hl : lv_has ls 4 [(0, .ref (ad 0)), (1, .int x1)] := hl
  refine lv_iconst (v := 0) hx hb dX4_mealsWith_0 (by decide) ?_
  refine lv_istore_n (lv' := [(2, .int 0), (0, .ref (ad 0)), (1, .int x1)]) hx hb dX4_mealsWith_1 rfl hl (by decide) rfl (fun ls hl => ?_)
  refine lv_iconst (v := 0) hx hb dX4_mealsWith_2 (by decide) ?_
  refine lv_istore_n (lv' := [(3, .int 0), (2, .int 0), (0, .ref (ad 0)), (1, .int x1)]) hx hb dX4_mealsWith_3 rfl hl (by decide) rfl (fun ls hl => ?_)
  refine lpX4_mealsWith hx hb hml hown hts hC hSt (fun ls hl => ?_) _ 0 (Nat.zero_add _) ls (lv_sub hl [0, 1, 2, 3] rfl)
  refine lv_iload_n hx hb dX4_mealsWith_54 rfl (lv_at hl 1 rfl) ?_
  exact W.iret (v := (upTo (bX4_mealsWith σ x1) 0 (σ 5 1).toNatClampNeg)) hx hb hr (fun t ht hW => ⟨(upTo (bX4_mealsWith σ x1) 0 (σ 5 1).toNatClampNeg), rfl, rfl, ht⟩) (fun q hq => absurd hq List.not_mem_nil) dX4_mealsWith_55
set_option maxHeartbeats 4000000 in
set_option maxRecDepth 100000 in
theorem kX4_mealsWith {p : Program} {l : Launch} {e : Env} {R : Room} {s : State} {m : MethodId} {args : Array Value} {below : List Frame} {meth : Method} {c : Code} {H : Heap} {locs : List Loc} {cells slots : Nat} {Q : State → Prop} {cc : ByteArray} {nL : Nat} {Ts : List Cond} {own : String} {index pc : Nat} {ls : Array Slot} {rest : List Value} {D : va_G} {y : Y3} {ad : Nat → Nat} {σ : Sg} {x1 : Int32} (hF : CallFix p m c cc nL s args Ts own) (cw : CallW R s args own RX4 index yX4_mealsWith cX4_mealsWith 4 (some .int) wsX4_mealsWith ({ frames := 1, cells := 0, slots := 0, locals := 23 } : Room) 0 0 1) (hC : CK D y s) (hSt : StH D y ad σ H) (hsz : ls.size = nL) (hW : (rest.map fun v => v.category).sum ≤ 8) (hdg : decode cc pc = .ok (.invokevirtual index, 3)) (hf : cells ≤ R.cells ∧ slots ≤ R.slots)
    (k : W p l e R s m args below meth c H locs cells slots Q (F0 m (pc + 3) ls (.int (zX4_mealsWith σ x1) :: rest))) : W p l e R s m args below meth c H locs cells slots Q (F0 m pc ls (.int x1 :: .ref (ad 0) :: rest)) := by
  refine vp_callSi (W.runV (As := [.int x1]) (rest := rest) hF (mX4_mealsWith l D y ad σ x1) cw ⟨fun a U g mk q => by obtain ⟨q0, q1, q2⟩ := q; exact ⟨q0, q1.call g mk a, q2⟩, va_recv hC.1 hSt (ci := 4) (q0 := 0) rfl rfl, fun U hU hW => ⟨rfl, hC.warm hW, by rw [hU]; exact hSt⟩⟩ rfl rfl hsz rfl (lv_room hW) hdg ⟨hf.1, hf.2⟩) (fun r hr => ?_)
  subst hr
  exact k
def zX4_freeCells (σ : Sg) (x1 : Int32) : Int32 := ((zatt σ 0 x1 0) - (zbc (zX4_mealsIn σ x1)))
theorem iwX4_freeCells_X4 : ∀ w ∈ wsX40, w ∈ wsX4_freeCells := fun _ h => List.mem_cons_of_mem _ (List.mem_append_left _ (List.mem_append_right _ h))
theorem hdX4_freeCells : yX4_freeCells.cls = RX4 ∧ yX4_freeCells.cls ≠ "java/lang/invoke/MethodHandle" ∧ yX4_freeCells.cls ≠ "java/lang/invoke/VarHandle" ∧ (parseMethodDescriptor yX4_freeCells.desc).map (fun d => d.parameters.length) = some 1 := by decide +kernel
set_option maxHeartbeats 4000000 in
set_option maxRecDepth 100000 in
theorem mX4_freeCells (l : Launch) (D : va_G) (y : Y3) (ad : Nat → Nat) (σ : Sg) (x1 : Int32) : Met l yX4_freeCells wsX4_freeCells ({ frames := 2, cells := 0, slots := 0, locals := 46 } : Room) (va_Pc [.ref (ad 0), .int x1] (fun U => CK D y U ∧ StH D y ad σ U.heap)) (vp_Si (fun r => r = zX4_freeCells σ x1)) 0 0 (fun _ => False) := by
  refine Met.ofW (cc := cX4_freeCells) (maxL := 2) (ret := (some .int)) (by decide) rfl ?_
  intro p e s m args below meth c s₁ B hml hv
  obtain ⟨rfl, hC, hSt⟩ := hv
  have hx := B.exec
  have hb := B.bytes
  have hr := B.returns
  have hts := atoms_spec (ws := wsX4_freeCells) B.pre
  have hown : s.vm.findClass RX4 = some m.cls := findClass_of_methodNamed B.named
  have hlocks := B.notSynchronized
  have hF := (⟨hx, hb, hml, hown, hts⟩ : CallFix p m c cX4_freeCells 2 s _ wsX4_freeCells RX4)
  have hl := lv_entry ([.ref (ad 0), .int x1]) (n := 2) (Nat.le_of_ble_eq_true rfl)
  rw [lg_entry_eq]
  generalize (lg_sl ([.ref (ad 0), .int x1]) ++ List.replicate (2 - (lg_sl ([.ref (ad 0), .int x1])).length) Slot.unset).toArray = ls at hl ⊢
  have hl : lv_has ls 2 [(0, .ref (ad 0)), (1, .int x1)] := hl
  refine lv_aload_n hx hb dX4_freeCells_0 rfl (lv_at hl 0 rfl) ?_
  refine va_get (D := D) (ci := 4) (v := .ref (ad 1)) (C := RX4) (T := TX4) (N := 6) hx hb hts iwX4_freeCells_X4 hown hC.1 hSt 0 rfl rfl 0 (by decide) (hts (.fieldLink RX4 14 "MealLockers$State" "lockers" "LMealLockers$Table;") (List.mem_of_getElem? (i := 1) rfl)) (fun _ h9 => h9) rfl dX4_freeCells_1 ?_
  refine lv_iload_n hx hb dX4_freeCells_4 rfl (lv_at hl 1 rfl) ?_
  refine lv_iconst (v := 0) hx hb dX4_freeCells_5 (by decide) ?_
  refine sX5_at (k := 0) hF (cwV 2 hts gX4_freeCells_X5_at rfl rfl rfl hdX5_at ⟨Nat.le_of_ble_eq_true rfl, Nat.le_of_ble_eq_true rfl⟩) hC hSt (by decide) hl.1 (Nat.le_of_ble_eq_true rfl) dX4_freeCells_6 ⟨Nat.zero_le _, Nat.zero_le _⟩ ?_
  refine lv_aload_n hx hb dX4_freeCells_9 rfl (lv_at hl 0 rfl) ?_
  refine lv_iload_n hx hb dX4_freeCells_10 rfl (lv_at hl 1 rfl) ?_
  refine kX4_mealsIn hF (cwV 1 hts gX4_freeCells_X4_mealsIn rfl rfl rfl hdX4_mealsIn ⟨Nat.le_of_ble_eq_true rfl, Nat.le_of_ble_eq_true rfl⟩) hC hSt hl.1 (Nat.le_of_ble_eq_true rfl) dX4_freeCells_11 ⟨Nat.zero_le _, Nat.zero_le _⟩ ?_
  refine kJ6_bitCount_0f7a4 hF (va_cwS 1 hts gX4_freeCells_J6_bitCount_0f7a4 rfl rfl rfl hdJ6_bitCount_0f7a4 ⟨Nat.le_of_ble_eq_true rfl, Nat.le_of_ble_eq_true rfl⟩) hC hl.1 (Nat.le_of_ble_eq_true rfl) dX4_freeCells_14 ⟨Nat.zero_le _, Nat.zero_le _⟩ ?_
  refine lv_isub hx hb dX4_freeCells_17 ?_
  exact W.iret (v := ((zatt σ 0 x1 0) - (zbc (zX4_mealsIn σ x1)))) hx hb hr (fun t ht hW => ⟨((zatt σ 0 x1 0) - (zbc (zX4_mealsIn σ x1))), rfl, rfl, ht⟩) (fun q hq => absurd hq List.not_mem_nil) dX4_freeCells_18
set_option maxHeartbeats 4000000 in
set_option maxRecDepth 100000 in
theorem kX4_freeCells {p : Program} {l : Launch} {e : Env} {R : Room} {s : State} {m : MethodId} {args : Array Value} {below : List Frame} {meth : Method} {c : Code} {H : Heap} {locs : List Loc} {cells slots : Nat} {Q : State → Prop} {cc : ByteArray} {nL : Nat} {Ts : List Cond} {own : String} {index pc : Nat} {ls : Array Slot} {rest : List Value} {D : va_G} {y : Y3} {ad : Nat → Nat} {σ : Sg} {x1 : Int32} (hF : CallFix p m c cc nL s args Ts own) (cw : CallW R s args own RX4 index yX4_freeCells cX4_freeCells 2 (some .int) wsX4_freeCells ({ frames := 2, cells := 0, slots := 0, locals := 46 } : Room) 0 0 1) (hC : CK D y s) (hSt : StH D y ad σ H) (hsz : ls.size = nL) (hW : (rest.map fun v => v.category).sum ≤ 8) (hdg : decode cc pc = .ok (.invokevirtual index, 3)) (hf : cells ≤ R.cells ∧ slots ≤ R.slots)
    (k : W p l e R s m args below meth c H locs cells slots Q (F0 m (pc + 3) ls (.int (zX4_freeCells σ x1) :: rest))) : W p l e R s m args below meth c H locs cells slots Q (F0 m pc ls (.int x1 :: .ref (ad 0) :: rest)) := by
  refine vp_callSi (W.runV (As := [.int x1]) (rest := rest) hF (mX4_freeCells l D y ad σ x1) cw ⟨fun a U g mk q => by obtain ⟨q0, q1, q2⟩ := q; exact ⟨q0, q1.call g mk a, q2⟩, va_recv hC.1 hSt (ci := 4) (q0 := 0) rfl rfl, fun U hU hW => ⟨rfl, hC.warm hW, by rw [hU]; exact hSt⟩⟩ rfl rfl hsz rfl (lv_room hW) hdg ⟨hf.1, hf.2⟩) (fun r hr => ?_)
  subst hr
  exact k
def bX4_mealReservedBy (σ : Sg) (x1 : Int32) (i : Nat) : Bool := if (zatt σ 1 (nI i) 0) = 1 then (if (zatt σ 1 (nI i) 5) = x1 then true
    else false)
  else false
def zX4_mealReservedBy (σ : Sg) (x1 : Int32) : Int32 := if fstK (bX4_mealReservedBy σ x1) 0 (σ 5 1).toNatClampNeg < (σ 5 1).toNatClampNeg then nI (fstK (bX4_mealReservedBy σ x1) 0 (σ 5 1).toNatClampNeg) else -4
theorem iwX4_mealReservedBy_X4 : ∀ w ∈ wsX40, w ∈ wsX4_mealReservedBy := fun _ h => List.mem_cons_of_mem _ (List.mem_append_left _ (List.mem_append_right _ h))
theorem hdX4_mealReservedBy : yX4_mealReservedBy.cls = RX4 ∧ yX4_mealReservedBy.cls ≠ "java/lang/invoke/MethodHandle" ∧ yX4_mealReservedBy.cls ≠ "java/lang/invoke/VarHandle" ∧ (parseMethodDescriptor yX4_mealReservedBy.desc).map (fun d => d.parameters.length) = some 1 := by decide +kernel
set_option maxHeartbeats 4000000 in
set_option maxRecDepth 100000 in
theorem lpX4_mealReservedBy {p : Program} {l : Launch} {e : Env} {s : State} {m : MethodId} {args : Array Value} {below : List Frame} {meth : Method} {c : Code} {Q : State → Prop} {D : va_G} {y : Y3} {ad : Nat → Nat} {σ : Sg} {x1 : Int32} {H : Heap} {locs : List Loc} (hx : p.tables.exec = Jvm.exec) (hb : c.code = cX4_mealReservedBy) (hml : c.maxLocals = 3) (hown : s.vm.findClass RX4 = some m.cls) (hts : ∀ w ∈ wsX4_mealReservedBy, w.before args s = true) (hC : CK D y s) (hSt : StH D y ad σ H)
    (K1 : fstK (bX4_mealReservedBy σ x1) 0 ((σ 5 1).toNatClampNeg) = (σ 5 1).toNatClampNeg → ∀ ls : Array Slot, lv_has ls 3 [(2, .int (nI (σ 5 1).toNatClampNeg)), (0, .ref (ad 0)), (1, .int x1)] → W p l e (headSpec wsX4_mealReservedBy ({ frames := 1, cells := 0, slots := 0, locals := 23 } : Room)).room s m args below meth c H locs 0 0 Q (F0 m 47 ls []))
    (K2 : ∀ i : Nat, i < (σ 5 1).toNatClampNeg → fstK (bX4_mealReservedBy σ x1) 0 ((σ 5 1).toNatClampNeg) = i → ∀ ls : Array Slot, lv_has ls 3 [(2, .int (nI i)), (0, .ref (ad 0)), (1, .int x1)] → W p l e (headSpec wsX4_mealReservedBy ({ frames := 1, cells := 0, slots := 0, locals := 23 } : Room)).room s m args below meth c H locs 0 0 Q (F0 m 39 ls [])) :
    ∀ (j i : Nat), i + j = (σ 5 1).toNatClampNeg → fstK (bX4_mealReservedBy σ x1) 0 ((σ 5 1).toNatClampNeg) = fstK (bX4_mealReservedBy σ x1) i j → ∀ ls : Array Slot, lv_has ls 3 [(2, .int (nI i)), (0, .ref (ad 0)), (1, .int x1)] → W p l e (headSpec wsX4_mealReservedBy ({ frames := 1, cells := 0, slots := 0, locals := 23 } : Room)).room s m args below meth c H locs 0 0 Q (F0 m 2 ls []) := by
  have hF := (⟨hx, hb, hml, hown, hts⟩ : CallFix p m c cX4_mealReservedBy 3 s args wsX4_mealReservedBy RX4)
  have hN := clamp_lt (σ 5 1)
  intro j
  induction j with
  | zero =>
    intro i hin hfst ls hl
    obtain rfl : i = (σ 5 1).toNatClampNeg := by omega
    refine lv_iload_n hx hb dX4_mealReservedBy_2 rfl (lv_at hl 0 rfl) ?_
    refine lv_aload_n hx hb dX4_mealReservedBy_3 rfl (lv_at hl 1 rfl) ?_
    refine va_get (D := D) (ci := 4) (v := .ref (ad 3)) (C := RX4) (T := TX4) (N := 6) hx hb hts iwX4_mealReservedBy_X4 hown hC.1 hSt 0 rfl rfl 1 (by decide) (hts (.fieldLink RX4 20 "MealLockers$State" "meals" "LMealLockers$Table;") (List.mem_of_getElem? (i := 1) rfl)) (fun _ h9 => h9) rfl dX4_mealReservedBy_4 ?_
    refine sX5_size (k := 1) hF (cwV 0 hts gX4_mealReservedBy_X5_size rfl rfl rfl hdX5_size ⟨Nat.le_of_ble_eq_true rfl, Nat.le_of_ble_eq_true rfl⟩) hC hSt (by decide) hl.1 (Nat.le_of_ble_eq_true rfl) dX4_mealReservedBy_7 ⟨Nat.zero_le _, Nat.zero_le _⟩ ?_
    refine lv_icmp_ge (tgt := 47) hx hb dX4_mealReservedBy_10 (by decide) (fun _ => ?_) (fun c_1 => absurd (up_le _) c_1)
    exact K1 hfst ls (lv_sub hl [0, 1, 2] rfl)
  | succ j ih =>
    intro i hin hfst ls hl
    refine lv_iload_n hx hb dX4_mealReservedBy_2 rfl (lv_at hl 0 rfl) ?_
    refine lv_aload_n hx hb dX4_mealReservedBy_3 rfl (lv_at hl 1 rfl) ?_
    refine va_get (D := D) (ci := 4) (v := .ref (ad 3)) (C := RX4) (T := TX4) (N := 6) hx hb hts iwX4_mealReservedBy_X4 hown hC.1 hSt 0 rfl rfl 1 (by decide) (hts (.fieldLink RX4 20 "MealLockers$State" "meals" "LMealLockers$Table;") (List.mem_of_getElem? (i := 1) rfl)) (fun _ h9 => h9) rfl dX4_mealReservedBy_4 ?_
    refine sX5_size (k := 1) hF (cwV 0 hts gX4_mealReservedBy_X5_size rfl rfl rfl hdX5_size ⟨Nat.le_of_ble_eq_true rfl, Nat.le_of_ble_eq_true rfl⟩) hC hSt (by decide) hl.1 (Nat.le_of_ble_eq_true rfl) dX4_mealReservedBy_7 ⟨Nat.zero_le _, Nat.zero_le _⟩ ?_
    refine lv_icmp_ge (tgt := 47) hx hb dX4_mealReservedBy_10 (by decide) (fun c_2 => absurd c_2 (up_gt (by omega))) (fun _ => ?_)
    refine lv_aload_n hx hb dX4_mealReservedBy_13 rfl (lv_at hl 1 rfl) ?_
    refine va_get (D := D) (ci := 4) (v := .ref (ad 3)) (C := RX4) (T := TX4) (N := 6) hx hb hts iwX4_mealReservedBy_X4 hown hC.1 hSt 0 rfl rfl 1 (by decide) (hts (.fieldLink RX4 20 "MealLockers$State" "meals" "LMealLockers$Table;") (List.mem_of_getElem? (i := 1) rfl)) (fun _ h9 => h9) rfl dX4_mealReservedBy_14 ?_
    refine lv_iload_n hx hb dX4_mealReservedBy_17 rfl (lv_at hl 0 rfl) ?_
    refine lv_iconst (v := 0) hx hb dX4_mealReservedBy_18 (by decide) ?_
    refine sX5_at (k := 1) hF (cwV 2 hts gX4_mealReservedBy_X5_at rfl rfl rfl hdX5_at ⟨Nat.le_of_ble_eq_true rfl, Nat.le_of_ble_eq_true rfl⟩) hC hSt (by decide) hl.1 (Nat.le_of_ble_eq_true rfl) dX4_mealReservedBy_19 ⟨Nat.zero_le _, Nat.zero_le _⟩ ?_
    refine lv_iconst (v := 1) hx hb dX4_mealReservedBy_22 (by decide) ?_
    refine lv_icmp_ne (tgt := 41) hx hb dX4_mealReservedBy_23 (by decide) (fun c_3 => ?_) (fun c_3 => ?_)
    · refine lv_iinc (v := (nI (i + 1))) (lv' := [(2, .int (nI (i + 1))), (0, .ref (ad 0)), (1, .int x1)]) hx hb dX4_mealReservedBy_41 hl (k := 0) rfl (by rw [nI_succ]; rfl) (by decide) rfl (fun ls hl => ?_)
      refine lv_goto (tgt := 2) hx hb dX4_mealReservedBy_44 (by decide) ?_
      have e9 : bX4_mealReservedBy σ x1 i = false := by unfold bX4_mealReservedBy; rw [if_neg c_3]
      exact ih (i + 1) (by omega) (hfst.trans (fstK_f e9)) ls (lv_sub hl [0, 1, 2] rfl)
    · refine lv_aload_n hx hb dX4_mealReservedBy_26 rfl (lv_at hl 1 rfl) ?_
      refine va_get (D := D) (ci := 4) (v := .ref (ad 3)) (C := RX4) (T := TX4) (N := 6) hx hb hts iwX4_mealReservedBy_X4 hown hC.1 hSt 0 rfl rfl 1 (by decide) (hts (.fieldLink RX4 20 "MealLockers$State" "meals" "LMealLockers$Table;") (List.mem_of_getElem? (i := 1) rfl)) (fun _ h9 => h9) rfl dX4_mealReservedBy_27 ?_
      refine lv_iload_n hx hb dX4_mealReservedBy_30 rfl (lv_at hl 0 rfl) ?_
      refine lv_iconst (v := 5) hx hb dX4_mealReservedBy_31 (by decide) ?_
      refine sX5_at (k := 1) hF (cwV 2 hts gX4_mealReservedBy_X5_at rfl rfl rfl hdX5_at ⟨Nat.le_of_ble_eq_true rfl, Nat.le_of_ble_eq_true rfl⟩) hC hSt (by decide) hl.1 (Nat.le_of_ble_eq_true rfl) dX4_mealReservedBy_32 ⟨Nat.zero_le _, Nat.zero_le _⟩ ?_
      refine lv_iload_n hx hb dX4_mealReservedBy_35 rfl (lv_at hl 2 rfl) ?_
      refine lv_icmp_ne (tgt := 41) hx hb dX4_mealReservedBy_36 (by decide) (fun c_4 => ?_) (fun c_4 => ?_)
      · refine lv_iinc (v := (nI (i + 1))) (lv' := [(2, .int (nI (i + 1))), (0, .ref (ad 0)), (1, .int x1)]) hx hb dX4_mealReservedBy_41 hl (k := 0) rfl (by rw [nI_succ]; rfl) (by decide) rfl (fun ls hl => ?_)
        refine lv_goto (tgt := 2) hx hb dX4_mealReservedBy_44 (by decide) ?_
        have e9 : bX4_mealReservedBy σ x1 i = false := by unfold bX4_mealReservedBy; rw [if_pos c_3, if_neg c_4]
        exact ih (i + 1) (by omega) (hfst.trans (fstK_f e9)) ls (lv_sub hl [0, 1, 2] rfl)
      · have e9 : bX4_mealReservedBy σ x1 i = true := by unfold bX4_mealReservedBy; rw [if_pos c_3, if_pos c_4]
        exact K2 i (by omega) (hfst.trans (fstK_t e9)) ls (lv_sub hl [0, 1, 2] rfl)
set_option maxHeartbeats 4000000 in
set_option maxRecDepth 100000 in
theorem mX4_mealReservedBy (l : Launch) (D : va_G) (y : Y3) (ad : Nat → Nat) (σ : Sg) (x1 : Int32) : Met l yX4_mealReservedBy wsX4_mealReservedBy ({ frames := 1, cells := 0, slots := 0, locals := 23 } : Room) (va_Pc [.ref (ad 0), .int x1] (fun U => CK D y U ∧ StH D y ad σ U.heap)) (vp_Si (fun r => r = zX4_mealReservedBy σ x1)) 0 0 (fun _ => False) := by
  refine Met.ofW (cc := cX4_mealReservedBy) (maxL := 3) (ret := (some .int)) (by decide) rfl ?_
  intro p e s m args below meth c s₁ B hml hv
  obtain ⟨rfl, hC, hSt⟩ := hv
  have hx := B.exec
  have hb := B.bytes
  have hr := B.returns
  have hts := atoms_spec (ws := wsX4_mealReservedBy) B.pre
  have hown : s.vm.findClass RX4 = some m.cls := findClass_of_methodNamed B.named
  have hlocks := B.notSynchronized
  have hF := (⟨hx, hb, hml, hown, hts⟩ : CallFix p m c cX4_mealReservedBy 3 s _ wsX4_mealReservedBy RX4)
  have hl := lv_entry ([.ref (ad 0), .int x1]) (n := 3) (Nat.le_of_ble_eq_true rfl)
  rw [lg_entry_eq]
  generalize (lg_sl ([.ref (ad 0), .int x1]) ++ List.replicate (3 - (lg_sl ([.ref (ad 0), .int x1])).length) Slot.unset).toArray = ls at hl ⊢
  have hl : lv_has ls 3 [(0, .ref (ad 0)), (1, .int x1)] := hl
  refine lv_iconst (v := 0) hx hb dX4_mealReservedBy_0 (by decide) ?_
  refine lv_istore_n (lv' := [(2, .int 0), (0, .ref (ad 0)), (1, .int x1)]) hx hb dX4_mealReservedBy_1 rfl hl (by decide) rfl (fun ls hl => ?_)
  refine lpX4_mealReservedBy hx hb hml hown hts hC hSt (fun hq ls hl => ?_) (fun i hi hq ls hl => ?_) _ 0 (Nat.zero_add _) rfl ls (lv_sub hl [0, 1, 2] rfl)
  · refine lv_bipush (v := (-4)) hx hb dX4_mealReservedBy_47 (by decide) ?_
    exact W.iret (v := (-4)) hx hb hr (fun t ht hW => ⟨(-4), rfl, (by unfold zX4_mealReservedBy; rw [hq, if_neg (Nat.lt_irrefl _)]), ht⟩) (fun q hq => absurd hq List.not_mem_nil) dX4_mealReservedBy_49
  · refine lv_iload_n hx hb dX4_mealReservedBy_39 rfl (lv_at hl 0 rfl) ?_
    exact W.iret (v := (nI i)) hx hb hr (fun t ht hW => ⟨(nI i), rfl, (by unfold zX4_mealReservedBy; rw [hq, if_pos hi]), ht⟩) (fun q hq => absurd hq List.not_mem_nil) dX4_mealReservedBy_40
set_option maxHeartbeats 4000000 in
set_option maxRecDepth 100000 in
theorem kX4_mealReservedBy {p : Program} {l : Launch} {e : Env} {R : Room} {s : State} {m : MethodId} {args : Array Value} {below : List Frame} {meth : Method} {c : Code} {H : Heap} {locs : List Loc} {cells slots : Nat} {Q : State → Prop} {cc : ByteArray} {nL : Nat} {Ts : List Cond} {own : String} {index pc : Nat} {ls : Array Slot} {rest : List Value} {D : va_G} {y : Y3} {ad : Nat → Nat} {σ : Sg} {x1 : Int32} (hF : CallFix p m c cc nL s args Ts own) (cw : CallW R s args own RX4 index yX4_mealReservedBy cX4_mealReservedBy 3 (some .int) wsX4_mealReservedBy ({ frames := 1, cells := 0, slots := 0, locals := 23 } : Room) 0 0 1) (hC : CK D y s) (hSt : StH D y ad σ H) (hsz : ls.size = nL) (hW : (rest.map fun v => v.category).sum ≤ 8) (hdg : decode cc pc = .ok (.invokevirtual index, 3)) (hf : cells ≤ R.cells ∧ slots ≤ R.slots)
    (k : W p l e R s m args below meth c H locs cells slots Q (F0 m (pc + 3) ls (.int (zX4_mealReservedBy σ x1) :: rest))) : W p l e R s m args below meth c H locs cells slots Q (F0 m pc ls (.int x1 :: .ref (ad 0) :: rest)) := by
  refine vp_callSi (W.runV (As := [.int x1]) (rest := rest) hF (mX4_mealReservedBy l D y ad σ x1) cw ⟨fun a U g mk q => by obtain ⟨q0, q1, q2⟩ := q; exact ⟨q0, q1.call g mk a, q2⟩, va_recv hC.1 hSt (ci := 4) (q0 := 0) rfl rfl, fun U hU hW => ⟨rfl, hC.warm hW, by rw [hU]; exact hSt⟩⟩ rfl rfl hsz rfl (lv_room hW) hdg ⟨hf.1, hf.2⟩) (fun r hr => ?_)
  subst hr
  exact k
def zX4_isFitFor (σ : Sg) (x1 : Int32) (x2 : Int32) : Int32 := if (zatt σ 1 x2 0) = 0 then (if ((zatt σ 1 x2 3) &&& (zatt σ 2 x1 0)) = 0 then 1
    else 0)
  else 0
theorem iwX4_isFitFor_X4 : ∀ w ∈ wsX40, w ∈ wsX4_isFitFor := fun _ h => List.mem_cons_of_mem _ (List.mem_append_left _ (List.mem_append_right _ h))
theorem hdX4_isFitFor : yX4_isFitFor.cls = RX4 ∧ yX4_isFitFor.cls ≠ "java/lang/invoke/MethodHandle" ∧ yX4_isFitFor.cls ≠ "java/lang/invoke/VarHandle" ∧ (parseMethodDescriptor yX4_isFitFor.desc).map (fun d => d.parameters.length) = some 2 := by decide +kernel
set_option maxHeartbeats 4000000 in
set_option maxRecDepth 100000 in
theorem mX4_isFitFor (l : Launch) (D : va_G) (y : Y3) (ad : Nat → Nat) (σ : Sg) (x1 : Int32) (x2 : Int32) : Met l yX4_isFitFor wsX4_isFitFor ({ frames := 1, cells := 0, slots := 0, locals := 23 } : Room) (va_Pc [.ref (ad 0), .int x1, .int x2] (fun U => CK D y U ∧ StH D y ad σ U.heap)) (vp_Si (fun r => r = zX4_isFitFor σ x1 x2)) 0 0 (fun _ => False) := by
  refine Met.ofW (cc := cX4_isFitFor) (maxL := 4) (ret := (some .boolean)) (by decide) rfl ?_
  intro p e s m args below meth c s₁ B hml hv
  obtain ⟨rfl, hC, hSt⟩ := hv
  have hx := B.exec
  have hb := B.bytes
  have hr := B.returns
  have hts := atoms_spec (ws := wsX4_isFitFor) B.pre
  have hown : s.vm.findClass RX4 = some m.cls := findClass_of_methodNamed B.named
  have hlocks := B.notSynchronized
  have hF := (⟨hx, hb, hml, hown, hts⟩ : CallFix p m c cX4_isFitFor 4 s _ wsX4_isFitFor RX4)
  have hl := lv_entry ([.ref (ad 0), .int x1, .int x2]) (n := 4) (Nat.le_of_ble_eq_true rfl)
  rw [lg_entry_eq]
  generalize (lg_sl ([.ref (ad 0), .int x1, .int x2]) ++ List.replicate (4 - (lg_sl ([.ref (ad 0), .int x1, .int x2])).length) Slot.unset).toArray = ls at hl ⊢
  have hl : lv_has ls 4 [(0, .ref (ad 0)), (1, .int x1), (2, .int x2)] := hl
  refine lv_aload_n hx hb dX4_isFitFor_0 rfl (lv_at hl 0 rfl) ?_
  refine va_get (D := D) (ci := 4) (v := .ref (ad 3)) (C := RX4) (T := TX4) (N := 6) hx hb hts iwX4_isFitFor_X4 hown hC.1 hSt 0 rfl rfl 1 (by decide) (hts (.fieldLink RX4 20 "MealLockers$State" "meals" "LMealLockers$Table;") (List.mem_of_getElem? (i := 1) rfl)) (fun _ h9 => h9) rfl dX4_isFitFor_1 ?_
  refine lv_iload_n hx hb dX4_isFitFor_4 rfl (lv_at hl 2 rfl) ?_
  refine lv_iconst (v := 3) hx hb dX4_isFitFor_5 (by decide) ?_
  refine sX5_at (k := 1) hF (cwV 2 hts gX4_isFitFor_X5_at rfl rfl rfl hdX5_at ⟨Nat.le_of_ble_eq_true rfl, Nat.le_of_ble_eq_true rfl⟩) hC hSt (by decide) hl.1 (Nat.le_of_ble_eq_true rfl) dX4_isFitFor_6 ⟨Nat.zero_le _, Nat.zero_le _⟩ ?_
  refine lv_aload_n hx hb dX4_isFitFor_9 rfl (lv_at hl 0 rfl) ?_
  refine va_get (D := D) (ci := 4) (v := .ref (ad 5)) (C := RX4) (T := TX4) (N := 6) hx hb hts iwX4_isFitFor_X4 hown hC.1 hSt 0 rfl rfl 2 (by decide) (hts (.fieldLink RX4 23 "MealLockers$State" "people" "LMealLockers$Table;") (List.mem_of_getElem? (i := 2) rfl)) (fun _ h9 => h9) rfl dX4_isFitFor_10 ?_
  refine lv_iload_n hx hb dX4_isFitFor_13 rfl (lv_at hl 1 rfl) ?_
  refine lv_iconst (v := 0) hx hb dX4_isFitFor_14 (by decide) ?_
  refine sX5_at (k := 2) hF (cwV 2 hts gX4_isFitFor_X5_at rfl rfl rfl hdX5_at ⟨Nat.le_of_ble_eq_true rfl, Nat.le_of_ble_eq_true rfl⟩) hC hSt (by decide) hl.1 (Nat.le_of_ble_eq_true rfl) dX4_isFitFor_15 ⟨Nat.zero_le _, Nat.zero_le _⟩ ?_
  refine lv_iand hx hb dX4_isFitFor_18 ?_
  refine lv_istore_n (lv' := [(3, .int ((zatt σ 1 x2 3) &&& (zatt σ 2 x1 0))), (0, .ref (ad 0)), (1, .int x1), (2, .int x2)]) hx hb dX4_isFitFor_19 rfl hl (by decide) rfl (fun ls hl => ?_)
  refine lv_aload_n hx hb dX4_isFitFor_20 rfl (lv_at hl 1 rfl) ?_
  refine va_get (D := D) (ci := 4) (v := .ref (ad 3)) (C := RX4) (T := TX4) (N := 6) hx hb hts iwX4_isFitFor_X4 hown hC.1 hSt 0 rfl rfl 1 (by decide) (hts (.fieldLink RX4 20 "MealLockers$State" "meals" "LMealLockers$Table;") (List.mem_of_getElem? (i := 1) rfl)) (fun _ h9 => h9) rfl dX4_isFitFor_21 ?_
  refine lv_iload_n hx hb dX4_isFitFor_24 rfl (lv_at hl 3 rfl) ?_
  refine lv_iconst (v := 0) hx hb dX4_isFitFor_25 (by decide) ?_
  refine sX5_at (k := 1) hF (cwV 2 hts gX4_isFitFor_X5_at rfl rfl rfl hdX5_at ⟨Nat.le_of_ble_eq_true rfl, Nat.le_of_ble_eq_true rfl⟩) hC hSt (by decide) hl.1 (Nat.le_of_ble_eq_true rfl) dX4_isFitFor_26 ⟨Nat.zero_le _, Nat.zero_le _⟩ ?_
  refine lv_if_ne (tgt := 40) hx hb dX4_isFitFor_29 (by decide) (fun c_1 => ?_) (fun c_1 => ?_)
  · refine lv_iconst (v := 0) hx hb dX4_isFitFor_40 (by decide) ?_
    exact W.zret (v := 0) hx hb hr (by decide) (fun t ht hW => ⟨0, rfl, (by unfold zX4_isFitFor; rw [if_neg c_1]), ht⟩) (fun q hq => absurd hq List.not_mem_nil) dX4_isFitFor_41
  · refine lv_iload_n hx hb dX4_isFitFor_32 rfl (lv_at hl 0 rfl) ?_
    refine lv_if_ne (tgt := 40) hx hb dX4_isFitFor_33 (by decide) (fun c_2 => ?_) (fun c_2 => ?_)
    · refine lv_iconst (v := 0) hx hb dX4_isFitFor_40 (by decide) ?_
      exact W.zret (v := 0) hx hb hr (by decide) (fun t ht hW => ⟨0, rfl, (by unfold zX4_isFitFor; rw [if_pos c_1, if_neg c_2]), ht⟩) (fun q hq => absurd hq List.not_mem_nil) dX4_isFitFor_41
    · refine lv_iconst (v := 1) hx hb dX4_isFitFor_36 (by decide) ?_
      refine lv_goto (tgt := 41) hx hb dX4_isFitFor_37 (by decide) ?_
      exact W.zret (v := 1) hx hb hr (by decide) (fun t ht hW => ⟨1, rfl, (by unfold zX4_isFitFor; rw [if_pos c_1, if_pos c_2]), ht⟩) (fun q hq => absurd hq List.not_mem_nil) dX4_isFitFor_41
set_option maxHeartbeats 4000000 in
set_option maxRecDepth 100000 in
theorem kX4_isFitFor {p : Program} {l : Launch} {e : Env} {R : Room} {s : State} {m : MethodId} {args : Array Value} {below : List Frame} {meth : Method} {c : Code} {H : Heap} {locs : List Loc} {cells slots : Nat} {Q : State → Prop} {cc : ByteArray} {nL : Nat} {Ts : List Cond} {own : String} {index pc : Nat} {ls : Array Slot} {rest : List Value} {D : va_G} {y : Y3} {ad : Nat → Nat} {σ : Sg} {x1 : Int32} {x2 : Int32} (hF : CallFix p m c cc nL s args Ts own) (cw : CallW R s args own RX4 index yX4_isFitFor cX4_isFitFor 4 (some .boolean) wsX4_isFitFor ({ frames := 1, cells := 0, slots := 0, locals := 23 } : Room) 0 0 2) (hC : CK D y s) (hSt : StH D y ad σ H) (hsz : ls.size = nL) (hW : (rest.map fun v => v.category).sum ≤ 8) (hdg : decode cc pc = .ok (.invokevirtual index, 3)) (hf : cells ≤ R.cells ∧ slots ≤ R.slots)
    (k : W p l e R s m args below meth c H locs cells slots Q (F0 m (pc + 3) ls (.int (zX4_isFitFor σ x1 x2) :: rest))) : W p l e R s m args below meth c H locs cells slots Q (F0 m pc ls (.int x2 :: .int x1 :: .ref (ad 0) :: rest)) := by
  refine vp_callSi (W.runV (As := [.int x1, .int x2]) (rest := rest) hF (mX4_isFitFor l D y ad σ x1 x2) cw ⟨fun a U g mk q => by obtain ⟨q0, q1, q2⟩ := q; exact ⟨q0, q1.call g mk a, q2⟩, va_recv hC.1 hSt (ci := 4) (q0 := 0) rfl rfl, fun U hU hW => ⟨rfl, hC.warm hW, by rw [hU]; exact hSt⟩⟩ rfl rfl hsz rfl (lv_room hW) hdg ⟨hf.1, hf.2⟩) (fun r hr => ?_)
  subst hr
  exact k
def zX4_barredHours (σ : Sg) (x1 : Int32) : Int32 := (zmax 0 ((zatt σ 2 x1 2) - (σ 5 5)))
theorem iwX4_barredHours_X4 : ∀ w ∈ wsX40, w ∈ wsX4_barredHours := fun _ h => List.mem_cons_of_mem _ (List.mem_append_left _ (List.mem_append_right _ h))
theorem hdX4_barredHours : yX4_barredHours.cls = RX4 ∧ yX4_barredHours.cls ≠ "java/lang/invoke/MethodHandle" ∧ yX4_barredHours.cls ≠ "java/lang/invoke/VarHandle" ∧ (parseMethodDescriptor yX4_barredHours.desc).map (fun d => d.parameters.length) = some 1 := by decide +kernel
set_option maxHeartbeats 4000000 in
set_option maxRecDepth 100000 in
theorem mX4_barredHours (l : Launch) (D : va_G) (y : Y3) (ad : Nat → Nat) (σ : Sg) (x1 : Int32) : Met l yX4_barredHours wsX4_barredHours ({ frames := 1, cells := 0, slots := 0, locals := 23 } : Room) (va_Pc [.ref (ad 0), .int x1] (fun U => CK D y U ∧ StH D y ad σ U.heap)) (vp_Si (fun r => r = zX4_barredHours σ x1)) 0 0 (fun _ => False) := by
  refine Met.ofW (cc := cX4_barredHours) (maxL := 2) (ret := (some .int)) (by decide) rfl ?_
  intro p e s m args below meth c s₁ B hml hv
  obtain ⟨rfl, hC, hSt⟩ := hv
  have hx := B.exec
  have hb := B.bytes
  have hr := B.returns
  have hts := atoms_spec (ws := wsX4_barredHours) B.pre
  have hown : s.vm.findClass RX4 = some m.cls := findClass_of_methodNamed B.named
  have hlocks := B.notSynchronized
  have hF := (⟨hx, hb, hml, hown, hts⟩ : CallFix p m c cX4_barredHours 2 s _ wsX4_barredHours RX4)
  have hl := lv_entry ([.ref (ad 0), .int x1]) (n := 2) (Nat.le_of_ble_eq_true rfl)
  rw [lg_entry_eq]
  generalize (lg_sl ([.ref (ad 0), .int x1]) ++ List.replicate (2 - (lg_sl ([.ref (ad 0), .int x1])).length) Slot.unset).toArray = ls at hl ⊢
  have hl : lv_has ls 2 [(0, .ref (ad 0)), (1, .int x1)] := hl
  refine lv_iconst (v := 0) hx hb dX4_barredHours_0 (by decide) ?_
  refine lv_aload_n hx hb dX4_barredHours_1 rfl (lv_at hl 0 rfl) ?_
  refine va_get (D := D) (ci := 4) (v := .ref (ad 5)) (C := RX4) (T := TX4) (N := 6) hx hb hts iwX4_barredHours_X4 hown hC.1 hSt 0 rfl rfl 2 (by decide) (hts (.fieldLink RX4 23 "MealLockers$State" "people" "LMealLockers$Table;") (List.mem_of_getElem? (i := 1) rfl)) (fun _ h9 => h9) rfl dX4_barredHours_2 ?_
  refine lv_iload_n hx hb dX4_barredHours_5 rfl (lv_at hl 1 rfl) ?_
  refine lv_iconst (v := 2) hx hb dX4_barredHours_6 (by decide) ?_
  refine sX5_at (k := 2) hF (cwV 2 hts gX4_barredHours_X5_at rfl rfl rfl hdX5_at ⟨Nat.le_of_ble_eq_true rfl, Nat.le_of_ble_eq_true rfl⟩) hC hSt (by decide) hl.1 (Nat.le_of_ble_eq_true rfl) dX4_barredHours_7 ⟨Nat.zero_le _, Nat.zero_le _⟩ ?_
  refine lv_aload_n hx hb dX4_barredHours_10 rfl (lv_at hl 0 rfl) ?_
  refine va_get (D := D) (ci := 4) (v := .int (σ 5 5)) (C := RX4) (T := TX4) (N := 6) hx hb hts iwX4_barredHours_X4 hown hC.1 hSt 0 rfl rfl 5 (by decide) (hts (.fieldLink RX4 48 "MealLockers$State" "time" "I") (List.mem_of_getElem? (i := 2) rfl)) (fun _ h9 => h9) rfl dX4_barredHours_11 ?_
  refine lv_isub hx hb dX4_barredHours_14 ?_
  refine va_mmax hx hb (hml.trans hl.1.symm) hown (hts (.methodLink RX4 68 Lib.Math.max.name) (List.mem_of_getElem? (i := 3) rfl)) (hts (.static Lib.Math.max.name) (List.mem_of_getElem? (i := 4) rfl)) (hts (.initialized "java/lang/Math") (List.mem_of_getElem? (i := 5) rfl)) (hts (.code Lib.Math.max.name Lib.Math.max.code 2 (some .int)) (List.mem_of_getElem? (i := 6) rfl)) (Nat.le_of_ble_eq_true rfl) (Nat.le_of_ble_eq_true rfl) (Nat.zero_le _) (Nat.zero_le _) dX4_barredHours_15 ?_
  exact W.iret (v := (zmax 0 ((zatt σ 2 x1 2) - (σ 5 5)))) hx hb hr (fun t ht hW => ⟨(zmax 0 ((zatt σ 2 x1 2) - (σ 5 5))), rfl, rfl, ht⟩) (fun q hq => absurd hq List.not_mem_nil) dX4_barredHours_18
set_option maxHeartbeats 4000000 in
set_option maxRecDepth 100000 in
theorem kX4_barredHours {p : Program} {l : Launch} {e : Env} {R : Room} {s : State} {m : MethodId} {args : Array Value} {below : List Frame} {meth : Method} {c : Code} {H : Heap} {locs : List Loc} {cells slots : Nat} {Q : State → Prop} {cc : ByteArray} {nL : Nat} {Ts : List Cond} {own : String} {index pc : Nat} {ls : Array Slot} {rest : List Value} {D : va_G} {y : Y3} {ad : Nat → Nat} {σ : Sg} {x1 : Int32} (hF : CallFix p m c cc nL s args Ts own) (cw : CallW R s args own RX4 index yX4_barredHours cX4_barredHours 2 (some .int) wsX4_barredHours ({ frames := 1, cells := 0, slots := 0, locals := 23 } : Room) 0 0 1) (hC : CK D y s) (hSt : StH D y ad σ H) (hsz : ls.size = nL) (hW : (rest.map fun v => v.category).sum ≤ 8) (hdg : decode cc pc = .ok (.invokevirtual index, 3)) (hf : cells ≤ R.cells ∧ slots ≤ R.slots)
    (k : W p l e R s m args below meth c H locs cells slots Q (F0 m (pc + 3) ls (.int (zX4_barredHours σ x1) :: rest))) : W p l e R s m args below meth c H locs cells slots Q (F0 m pc ls (.int x1 :: .ref (ad 0) :: rest)) := by
  refine vp_callSi (W.runV (As := [.int x1]) (rest := rest) hF (mX4_barredHours l D y ad σ x1) cw ⟨fun a U g mk q => by obtain ⟨q0, q1, q2⟩ := q; exact ⟨q0, q1.call g mk a, q2⟩, va_recv hC.1 hSt (ci := 4) (q0 := 0) rfl rfl, fun U hU hW => ⟨rfl, hC.warm hW, by rw [hU]; exact hSt⟩⟩ rfl rfl hsz rfl (lv_room hW) hdg ⟨hf.1, hf.2⟩) (fun r hr => ?_)
  subst hr
  exact k
def zX4_wayHoursLeft (σ : Sg) (x1 : Int32) : Int32 := (zmax 0 ((zatt σ 3 x1 3) - (σ 5 5)))
theorem iwX4_wayHoursLeft_X4 : ∀ w ∈ wsX40, w ∈ wsX4_wayHoursLeft := fun _ h => List.mem_cons_of_mem _ (List.mem_append_left _ (List.mem_append_right _ h))
theorem hdX4_wayHoursLeft : yX4_wayHoursLeft.cls = RX4 ∧ yX4_wayHoursLeft.cls ≠ "java/lang/invoke/MethodHandle" ∧ yX4_wayHoursLeft.cls ≠ "java/lang/invoke/VarHandle" ∧ (parseMethodDescriptor yX4_wayHoursLeft.desc).map (fun d => d.parameters.length) = some 1 := by decide +kernel
set_option maxHeartbeats 4000000 in
set_option maxRecDepth 100000 in
theorem mX4_wayHoursLeft (l : Launch) (D : va_G) (y : Y3) (ad : Nat → Nat) (σ : Sg) (x1 : Int32) : Met l yX4_wayHoursLeft wsX4_wayHoursLeft ({ frames := 1, cells := 0, slots := 0, locals := 23 } : Room) (va_Pc [.ref (ad 0), .int x1] (fun U => CK D y U ∧ StH D y ad σ U.heap)) (vp_Si (fun r => r = zX4_wayHoursLeft σ x1)) 0 0 (fun _ => False) := by
  refine Met.ofW (cc := cX4_wayHoursLeft) (maxL := 2) (ret := (some .int)) (by decide) rfl ?_
  intro p e s m args below meth c s₁ B hml hv
  obtain ⟨rfl, hC, hSt⟩ := hv
  have hx := B.exec
  have hb := B.bytes
  have hr := B.returns
  have hts := atoms_spec (ws := wsX4_wayHoursLeft) B.pre
  have hown : s.vm.findClass RX4 = some m.cls := findClass_of_methodNamed B.named
  have hlocks := B.notSynchronized
  have hF := (⟨hx, hb, hml, hown, hts⟩ : CallFix p m c cX4_wayHoursLeft 2 s _ wsX4_wayHoursLeft RX4)
  have hl := lv_entry ([.ref (ad 0), .int x1]) (n := 2) (Nat.le_of_ble_eq_true rfl)
  rw [lg_entry_eq]
  generalize (lg_sl ([.ref (ad 0), .int x1]) ++ List.replicate (2 - (lg_sl ([.ref (ad 0), .int x1])).length) Slot.unset).toArray = ls at hl ⊢
  have hl : lv_has ls 2 [(0, .ref (ad 0)), (1, .int x1)] := hl
  refine lv_iconst (v := 0) hx hb dX4_wayHoursLeft_0 (by decide) ?_
  refine lv_aload_n hx hb dX4_wayHoursLeft_1 rfl (lv_at hl 0 rfl) ?_
  refine va_get (D := D) (ci := 4) (v := .ref (ad 7)) (C := RX4) (T := TX4) (N := 6) hx hb hts iwX4_wayHoursLeft_X4 hown hC.1 hSt 0 rfl rfl 3 (by decide) (hts (.fieldLink RX4 26 "MealLockers$State" "volunteers" "LMealLockers$Table;") (List.mem_of_getElem? (i := 1) rfl)) (fun _ h9 => h9) rfl dX4_wayHoursLeft_2 ?_
  refine lv_iload_n hx hb dX4_wayHoursLeft_5 rfl (lv_at hl 1 rfl) ?_
  refine lv_iconst (v := 3) hx hb dX4_wayHoursLeft_6 (by decide) ?_
  refine sX5_at (k := 3) hF (cwV 2 hts gX4_wayHoursLeft_X5_at rfl rfl rfl hdX5_at ⟨Nat.le_of_ble_eq_true rfl, Nat.le_of_ble_eq_true rfl⟩) hC hSt (by decide) hl.1 (Nat.le_of_ble_eq_true rfl) dX4_wayHoursLeft_7 ⟨Nat.zero_le _, Nat.zero_le _⟩ ?_
  refine lv_aload_n hx hb dX4_wayHoursLeft_10 rfl (lv_at hl 0 rfl) ?_
  refine va_get (D := D) (ci := 4) (v := .int (σ 5 5)) (C := RX4) (T := TX4) (N := 6) hx hb hts iwX4_wayHoursLeft_X4 hown hC.1 hSt 0 rfl rfl 5 (by decide) (hts (.fieldLink RX4 48 "MealLockers$State" "time" "I") (List.mem_of_getElem? (i := 2) rfl)) (fun _ h9 => h9) rfl dX4_wayHoursLeft_11 ?_
  refine lv_isub hx hb dX4_wayHoursLeft_14 ?_
  refine va_mmax hx hb (hml.trans hl.1.symm) hown (hts (.methodLink RX4 68 Lib.Math.max.name) (List.mem_of_getElem? (i := 3) rfl)) (hts (.static Lib.Math.max.name) (List.mem_of_getElem? (i := 4) rfl)) (hts (.initialized "java/lang/Math") (List.mem_of_getElem? (i := 5) rfl)) (hts (.code Lib.Math.max.name Lib.Math.max.code 2 (some .int)) (List.mem_of_getElem? (i := 6) rfl)) (Nat.le_of_ble_eq_true rfl) (Nat.le_of_ble_eq_true rfl) (Nat.zero_le _) (Nat.zero_le _) dX4_wayHoursLeft_15 ?_
  exact W.iret (v := (zmax 0 ((zatt σ 3 x1 3) - (σ 5 5)))) hx hb hr (fun t ht hW => ⟨(zmax 0 ((zatt σ 3 x1 3) - (σ 5 5))), rfl, rfl, ht⟩) (fun q hq => absurd hq List.not_mem_nil) dX4_wayHoursLeft_18
set_option maxHeartbeats 4000000 in
set_option maxRecDepth 100000 in
theorem kX4_wayHoursLeft {p : Program} {l : Launch} {e : Env} {R : Room} {s : State} {m : MethodId} {args : Array Value} {below : List Frame} {meth : Method} {c : Code} {H : Heap} {locs : List Loc} {cells slots : Nat} {Q : State → Prop} {cc : ByteArray} {nL : Nat} {Ts : List Cond} {own : String} {index pc : Nat} {ls : Array Slot} {rest : List Value} {D : va_G} {y : Y3} {ad : Nat → Nat} {σ : Sg} {x1 : Int32} (hF : CallFix p m c cc nL s args Ts own) (cw : CallW R s args own RX4 index yX4_wayHoursLeft cX4_wayHoursLeft 2 (some .int) wsX4_wayHoursLeft ({ frames := 1, cells := 0, slots := 0, locals := 23 } : Room) 0 0 1) (hC : CK D y s) (hSt : StH D y ad σ H) (hsz : ls.size = nL) (hW : (rest.map fun v => v.category).sum ≤ 8) (hdg : decode cc pc = .ok (.invokevirtual index, 3)) (hf : cells ≤ R.cells ∧ slots ≤ R.slots)
    (k : W p l e R s m args below meth c H locs cells slots Q (F0 m (pc + 3) ls (.int (zX4_wayHoursLeft σ x1) :: rest))) : W p l e R s m args below meth c H locs cells slots Q (F0 m pc ls (.int x1 :: .ref (ad 0) :: rest)) := by
  refine vp_callSi (W.runV (As := [.int x1]) (rest := rest) hF (mX4_wayHoursLeft l D y ad σ x1) cw ⟨fun a U g mk q => by obtain ⟨q0, q1, q2⟩ := q; exact ⟨q0, q1.call g mk a, q2⟩, va_recv hC.1 hSt (ci := 4) (q0 := 0) rfl rfl, fun U hU hW => ⟨rfl, hC.warm hW, by rw [hU]; exact hSt⟩⟩ rfl rfl hsz rfl (lv_room hW) hdg ⟨hf.1, hf.2⟩) (fun r hr => ?_)
  subst hr
  exact k
def zX4_wayHours (σ : Sg) (x1 : Int32) (x2 : Int32) : Int32 := ((zabs (x1 - x2)) * (zX4_setting σ 3))
theorem hdX4_wayHours : yX4_wayHours.cls = RX4 ∧ yX4_wayHours.cls ≠ "java/lang/invoke/MethodHandle" ∧ yX4_wayHours.cls ≠ "java/lang/invoke/VarHandle" ∧ (parseMethodDescriptor yX4_wayHours.desc).map (fun d => d.parameters.length) = some 2 := by decide +kernel
set_option maxHeartbeats 4000000 in
set_option maxRecDepth 100000 in
theorem mX4_wayHours (l : Launch) (D : va_G) (y : Y3) (ad : Nat → Nat) (σ : Sg) (x1 : Int32) (x2 : Int32) : Met l yX4_wayHours wsX4_wayHours ({ frames := 2, cells := 0, slots := 0, locals := 44 } : Room) (va_Pc [.ref (ad 0), .int x1, .int x2] (fun U => CK D y U ∧ StH D y ad σ U.heap)) (vp_Si (fun r => r = zX4_wayHours σ x1 x2)) 0 0 (fun _ => False) := by
  refine Met.ofW (cc := cX4_wayHours) (maxL := 3) (ret := (some .int)) (by decide) rfl ?_
  intro p e s m args below meth c s₁ B hml hv
  obtain ⟨rfl, hC, hSt⟩ := hv
  have hx := B.exec
  have hb := B.bytes
  have hr := B.returns
  have hts := atoms_spec (ws := wsX4_wayHours) B.pre
  have hown : s.vm.findClass RX4 = some m.cls := findClass_of_methodNamed B.named
  have hlocks := B.notSynchronized
  have hF := (⟨hx, hb, hml, hown, hts⟩ : CallFix p m c cX4_wayHours 3 s _ wsX4_wayHours RX4)
  have hl := lv_entry ([.ref (ad 0), .int x1, .int x2]) (n := 3) (Nat.le_of_ble_eq_true rfl)
  rw [lg_entry_eq]
  generalize (lg_sl ([.ref (ad 0), .int x1, .int x2]) ++ List.replicate (3 - (lg_sl ([.ref (ad 0), .int x1, .int x2])).length) Slot.unset).toArray = ls at hl ⊢
  have hl : lv_has ls 3 [(0, .ref (ad 0)), (1, .int x1), (2, .int x2)] := hl
  refine lv_iload_n hx hb dX4_wayHours_0 rfl (lv_at hl 1 rfl) ?_
  refine lv_iload_n hx hb dX4_wayHours_1 rfl (lv_at hl 2 rfl) ?_
  refine lv_isub hx hb dX4_wayHours_2 ?_
  refine va_mabs hx hb (hml.trans hl.1.symm) hown (hts (.methodLink RX4 73 Lib.Math.abs.name) (List.mem_of_getElem? (i := 1) rfl)) (hts (.static Lib.Math.abs.name) (List.mem_of_getElem? (i := 2) rfl)) (hts (.initialized "java/lang/Math") (List.mem_of_getElem? (i := 3) rfl)) (hts (.code Lib.Math.abs.name Lib.Math.abs.code 1 (some .int)) (List.mem_of_getElem? (i := 4) rfl)) (Nat.le_of_ble_eq_true rfl) (Nat.le_of_ble_eq_true rfl) (Nat.zero_le _) (Nat.zero_le _) dX4_wayHours_3 ?_
  refine lv_aload_n hx hb dX4_wayHours_6 rfl (lv_at hl 0 rfl) ?_
  refine lv_iconst (v := 3) hx hb dX4_wayHours_7 (by decide) ?_
  refine kX4_setting hF (cwV 1 hts gX4_wayHours_X4_setting rfl rfl rfl hdX4_setting ⟨Nat.le_of_ble_eq_true rfl, Nat.le_of_ble_eq_true rfl⟩) hC hSt hl.1 (Nat.le_of_ble_eq_true rfl) dX4_wayHours_8 ⟨Nat.zero_le _, Nat.zero_le _⟩ ?_
  refine lv_imul hx hb dX4_wayHours_11 ?_
  exact W.iret (v := ((zabs (x1 - x2)) * (zX4_setting σ 3))) hx hb hr (fun t ht hW => ⟨((zabs (x1 - x2)) * (zX4_setting σ 3)), rfl, rfl, ht⟩) (fun q hq => absurd hq List.not_mem_nil) dX4_wayHours_12
set_option maxHeartbeats 4000000 in
set_option maxRecDepth 100000 in
theorem kX4_wayHours {p : Program} {l : Launch} {e : Env} {R : Room} {s : State} {m : MethodId} {args : Array Value} {below : List Frame} {meth : Method} {c : Code} {H : Heap} {locs : List Loc} {cells slots : Nat} {Q : State → Prop} {cc : ByteArray} {nL : Nat} {Ts : List Cond} {own : String} {index pc : Nat} {ls : Array Slot} {rest : List Value} {D : va_G} {y : Y3} {ad : Nat → Nat} {σ : Sg} {x1 : Int32} {x2 : Int32} (hF : CallFix p m c cc nL s args Ts own) (cw : CallW R s args own RX4 index yX4_wayHours cX4_wayHours 3 (some .int) wsX4_wayHours ({ frames := 2, cells := 0, slots := 0, locals := 44 } : Room) 0 0 2) (hC : CK D y s) (hSt : StH D y ad σ H) (hsz : ls.size = nL) (hW : (rest.map fun v => v.category).sum ≤ 8) (hdg : decode cc pc = .ok (.invokevirtual index, 3)) (hf : cells ≤ R.cells ∧ slots ≤ R.slots)
    (k : W p l e R s m args below meth c H locs cells slots Q (F0 m (pc + 3) ls (.int (zX4_wayHours σ x1 x2) :: rest))) : W p l e R s m args below meth c H locs cells slots Q (F0 m pc ls (.int x2 :: .int x1 :: .ref (ad 0) :: rest)) := by
  refine vp_callSi (W.runV (As := [.int x1, .int x2]) (rest := rest) hF (mX4_wayHours l D y ad σ x1 x2) cw ⟨fun a U g mk q => by obtain ⟨q0, q1, q2⟩ := q; exact ⟨q0, q1.call g mk a, q2⟩, va_recv hC.1 hSt (ci := 4) (q0 := 0) rfl rfl, fun U hU hW => ⟨rfl, hC.warm hW, by rw [hU]; exact hSt⟩⟩ rfl rfl hsz rfl (lv_room hW) hdg ⟨hf.1, hf.2⟩) (fun r hr => ?_)
  subst hr
  exact k
def zX4_isCold (σ : Sg) (x1 : Int32) : Int32 := if (zatt σ 0 x1 1) = 1 then 1
  else 0
theorem iwX4_isCold_X4 : ∀ w ∈ wsX40, w ∈ wsX4_isCold := fun _ h => List.mem_cons_of_mem _ (List.mem_append_left _ (List.mem_append_right _ h))
theorem hdX4_isCold : yX4_isCold.cls = RX4 ∧ yX4_isCold.cls ≠ "java/lang/invoke/MethodHandle" ∧ yX4_isCold.cls ≠ "java/lang/invoke/VarHandle" ∧ (parseMethodDescriptor yX4_isCold.desc).map (fun d => d.parameters.length) = some 1 := by decide +kernel
set_option maxHeartbeats 4000000 in
set_option maxRecDepth 100000 in
theorem mX4_isCold (l : Launch) (D : va_G) (y : Y3) (ad : Nat → Nat) (σ : Sg) (x1 : Int32) : Met l yX4_isCold wsX4_isCold ({ frames := 1, cells := 0, slots := 0, locals := 23 } : Room) (va_Pc [.ref (ad 0), .int x1] (fun U => CK D y U ∧ StH D y ad σ U.heap)) (vp_Si (fun r => r = zX4_isCold σ x1)) 0 0 (fun _ => False) := by
  refine Met.ofW (cc := cX4_isCold) (maxL := 2) (ret := (some .boolean)) (by decide) rfl ?_
  intro p e s m args below meth c s₁ B hml hv
  obtain ⟨rfl, hC, hSt⟩ := hv
  have hx := B.exec
  have hb := B.bytes
  have hr := B.returns
  have hts := atoms_spec (ws := wsX4_isCold) B.pre
  have hown : s.vm.findClass RX4 = some m.cls := findClass_of_methodNamed B.named
  have hlocks := B.notSynchronized
  have hF := (⟨hx, hb, hml, hown, hts⟩ : CallFix p m c cX4_isCold 2 s _ wsX4_isCold RX4)
  have hl := lv_entry ([.ref (ad 0), .int x1]) (n := 2) (Nat.le_of_ble_eq_true rfl)
  rw [lg_entry_eq]
  generalize (lg_sl ([.ref (ad 0), .int x1]) ++ List.replicate (2 - (lg_sl ([.ref (ad 0), .int x1])).length) Slot.unset).toArray = ls at hl ⊢
  have hl : lv_has ls 2 [(0, .ref (ad 0)), (1, .int x1)] := hl
  refine lv_aload_n hx hb dX4_isCold_0 rfl (lv_at hl 0 rfl) ?_
  refine va_get (D := D) (ci := 4) (v := .ref (ad 1)) (C := RX4) (T := TX4) (N := 6) hx hb hts iwX4_isCold_X4 hown hC.1 hSt 0 rfl rfl 0 (by decide) (hts (.fieldLink RX4 14 "MealLockers$State" "lockers" "LMealLockers$Table;") (List.mem_of_getElem? (i := 1) rfl)) (fun _ h9 => h9) rfl dX4_isCold_1 ?_
  refine lv_iload_n hx hb dX4_isCold_4 rfl (lv_at hl 1 rfl) ?_
  refine lv_iconst (v := 1) hx hb dX4_isCold_5 (by decide) ?_
  refine sX5_at (k := 0) hF (cwV 2 hts gX4_isCold_X5_at rfl rfl rfl hdX5_at ⟨Nat.le_of_ble_eq_true rfl, Nat.le_of_ble_eq_true rfl⟩) hC hSt (by decide) hl.1 (Nat.le_of_ble_eq_true rfl) dX4_isCold_6 ⟨Nat.zero_le _, Nat.zero_le _⟩ ?_
  refine lv_iconst (v := 1) hx hb dX4_isCold_9 (by decide) ?_
  refine lv_icmp_ne (tgt := 17) hx hb dX4_isCold_10 (by decide) (fun c_1 => ?_) (fun c_1 => ?_)
  · refine lv_iconst (v := 0) hx hb dX4_isCold_17 (by decide) ?_
    exact W.zret (v := 0) hx hb hr (by decide) (fun t ht hW => ⟨0, rfl, (by unfold zX4_isCold; rw [if_neg c_1]), ht⟩) (fun q hq => absurd hq List.not_mem_nil) dX4_isCold_18
  · refine lv_iconst (v := 1) hx hb dX4_isCold_13 (by decide) ?_
    refine lv_goto (tgt := 18) hx hb dX4_isCold_14 (by decide) ?_
    exact W.zret (v := 1) hx hb hr (by decide) (fun t ht hW => ⟨1, rfl, (by unfold zX4_isCold; rw [if_pos c_1]), ht⟩) (fun q hq => absurd hq List.not_mem_nil) dX4_isCold_18
set_option maxHeartbeats 4000000 in
set_option maxRecDepth 100000 in
theorem kX4_isCold {p : Program} {l : Launch} {e : Env} {R : Room} {s : State} {m : MethodId} {args : Array Value} {below : List Frame} {meth : Method} {c : Code} {H : Heap} {locs : List Loc} {cells slots : Nat} {Q : State → Prop} {cc : ByteArray} {nL : Nat} {Ts : List Cond} {own : String} {index pc : Nat} {ls : Array Slot} {rest : List Value} {D : va_G} {y : Y3} {ad : Nat → Nat} {σ : Sg} {x1 : Int32} (hF : CallFix p m c cc nL s args Ts own) (cw : CallW R s args own RX4 index yX4_isCold cX4_isCold 2 (some .boolean) wsX4_isCold ({ frames := 1, cells := 0, slots := 0, locals := 23 } : Room) 0 0 1) (hC : CK D y s) (hSt : StH D y ad σ H) (hsz : ls.size = nL) (hW : (rest.map fun v => v.category).sum ≤ 8) (hdg : decode cc pc = .ok (.invokevirtual index, 3)) (hf : cells ≤ R.cells ∧ slots ≤ R.slots)
    (k : W p l e R s m args below meth c H locs cells slots Q (F0 m (pc + 3) ls (.int (zX4_isCold σ x1) :: rest))) : W p l e R s m args below meth c H locs cells slots Q (F0 m pc ls (.int x1 :: .ref (ad 0) :: rest)) := by
  refine vp_callSi (W.runV (As := [.int x1]) (rest := rest) hF (mX4_isCold l D y ad σ x1) cw ⟨fun a U g mk q => by obtain ⟨q0, q1, q2⟩ := q; exact ⟨q0, q1.call g mk a, q2⟩, va_recv hC.1 hSt (ci := 4) (q0 := 0) rfl rfl, fun U hU hW => ⟨rfl, hC.warm hW, by rw [hU]; exact hSt⟩⟩ rfl rfl hsz rfl (lv_room hW) hdg ⟨hf.1, hf.2⟩) (fun r hr => ?_)
  subst hr
  exact k
