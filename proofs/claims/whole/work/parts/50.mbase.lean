/-- the reference: mo 0 the object, mo 1 .. mo 4 its rows s, begun, past, text; μ 0 .. μ 3 what they hold, μ 4 the numbers states, length, at, done, reason, isForm -/
def moW (cI : ClassId) (mo : Nat → Nat) (μ : Sg) : va_W := [(mo 0, .inr (8, [.ref (mo 1), .ref (mo 2), .ref (mo 3), .int (μ 4 0), .ref (mo 4), .int (μ 4 1), .int (μ 4 2), .int (μ 4 3), .int (μ 4 4), .int (μ 4 5)])), (mo 1, .inl (cI, 299, .inl (μ 0))), (mo 2, .inl (cI, 299, .inl (μ 1))), (mo 3, .inl (cI, 1196, .inl (μ 2))), (mo 4, .inl (cI, 60, .inl (μ 3)))]
def MoH (D : va_G) (y : Y3) (mo : Nat → Nat) (μ : Sg) (H : Heap) : Prop := va_P D vwCl (moW y.1 mo μ) H
def moA (mo : Nat → Nat) : Nat → Prop := fun q => ∃ k, k < 5 ∧ q = mo k
def moI (mo : Nat → Nat) : Prop := ∀ i j, i < 5 → j < 5 → mo i = mo j → i = j
def mU (μ : Sg) (k : Nat) (f : Nat → Int32) : Sg := fun j => if j = k then f else μ j
def mT (μ : Sg) (k : Nat) (v : Int32) : Sg := fun j => if j = 4 then upd (μ 4) k v else μ j
theorem mo_get {cI : ClassId} {mo : Nat → Nat} {μ : Sg} {i : Nat} {q : Nat × va_E} (h : (moW cI mo μ)[i]? = some q) : i < 5 ∧ q.1 = mo i := by
  match i, h with
  | 0, h => cases h; exact ⟨by decide, rfl⟩
  | 1, h => cases h; exact ⟨by decide, rfl⟩
  | 2, h => cases h; exact ⟨by decide, rfl⟩
  | 3, h => cases h; exact ⟨by decide, rfl⟩
  | 4, h => cases h; exact ⟨by decide, rfl⟩
  | i + 5, h => simp [moW] at h
theorem mo_D {cI : ClassId} {mo : Nat → Nat} {μ : Sg} (hi : moI mo) : va_D (moA mo) (moW cI mo μ) := by
  refine ⟨fun i j p q h1 h2 e => ?_, fun k q hk => ?_⟩
  · obtain ⟨a1, a2⟩ := mo_get h1
    obtain ⟨b1, b2⟩ := mo_get h2
    exact hi i j a1 b1 (by rw [← a2, ← b2]; exact e)
  · obtain ⟨a1, a2⟩ := mo_get hk
    exact ⟨k, a1, a2⟩
theorem mo_lt {D : va_G} {y : Y3} {mo : Nat → Nat} {μ : Sg} {H : Heap} (h : MoH D y mo μ H) {k : Nat} (hk : k < 5) : mo k < H.size := by
  have hl : (moW y.1 mo μ).length = 5 := rfl
  have h1 : (moW y.1 mo μ)[k]? = some ((moW y.1 mo μ)[k]'(by omega)) := List.getElem?_eq_getElem _
  have h2 := (h k _ h1).lt
  rw [(mo_get h1).2] at h2
  exact h2
theorem mo_kept {D : va_G} {y : Y3} {mo : Nat → Nat} {μ : Sg} {H H1 : Heap} (h : MoH D y mo μ H) (hq : ∀ k, k < 5 → H1[mo k]? = H[mo k]?) : MoH D y mo μ H1 :=
  va_P.kept h (fun k q hk => by obtain ⟨a1, a2⟩ := mo_get hk; rw [a2]; exact hq k a1)
/-- an int of 0 .. n - 1 -/
abbrev rg (x : Int32) (n : Int) : Prop := 0 ≤ x.toInt ∧ x.toInt < n
theorem rg_nI {x : Int32} {n : Int} (h : rg x n) : x = nI x.toNatClampNeg ∧ (x.toNatClampNeg : Int) = x.toInt := by
  refine ⟨(nI_toNat h.1).symm, ?_⟩
  have h3 : x.toNatClampNeg = x.toInt.toNat := rfl
  have := h.1
  omega
theorem rg_of {i : Nat} {n : Int} (h : (i : Int) < n) (hn : n ≤ 2000) : rg (nI i) n := by
  have e : (nI i).toInt = (i : Int) := nI_toInt (by omega)
  exact ⟨by omega, by omega⟩
theorem ix_of {b c : Nat} {x w : Int32} {n k : Int} (hx : rg x n) (hw : rg w k) (hb : b ≤ 1000) (hc : c ≤ 10) (hn : n ≤ 100) (hk : k ≤ 100) : (nI b + nI c * x) + w = nI (b + c * x.toNatClampNeg + w.toNatClampNeg) := by
  obtain ⟨ex, -⟩ := rg_nI hx
  obtain ⟨ew, -⟩ := rg_nI hw
  rw [← nI_add, ← nI_add, ← pk_mul, ← ex, ← ew]
theorem vp_ix {b c N : Nat} {x w : Int32} {n k : Int} (hx : rg x n) (hw : rg w k) (hb : b ≤ 1000) (hc : c ≤ 10) (hn : n ≤ 100) (hk : k ≤ 100) (h : (b : Int) + c * (n - 1) + (k - 1) < N) (hN : N < 2000) : vp_in ((nI b + nI c * x) + w) N := by
  rw [ix_of hx hw hb hc hn hk]
  refine vp_in_nI ?_ (by omega)
  obtain ⟨-, ex⟩ := rg_nI hx
  obtain ⟨-, ew⟩ := rg_nI hw
  have h1 := hx.2
  have h2 := hw.2
  have h3 : (c : Int) * (x.toNatClampNeg : Int) ≤ c * (n - 1) := Int.mul_le_mul_of_nonneg_left (by omega) (by omega)
  have h4 : ((c * x.toNatClampNeg : Nat) : Int) = (c : Int) * (x.toNatClampNeg : Int) := by simp
  omega
theorem vpL {x w : Int32} (hx : rg x 5) (hw : rg w 8) : vp_in ((12 + (8 * x)) + w) 299 := vp_ix (b := 12) (c := 8) hx hw (by decide) (by decide) (by decide) (by decide) (by decide) (by decide)
theorem vpM {x w : Int32} (hx : rg x 24) (hw : rg w 8) : vp_in ((52 + (8 * x)) + w) 299 := vp_ix (b := 52) (c := 8) hx hw (by decide) (by decide) (by decide) (by decide) (by decide) (by decide)
theorem vpP {x w : Int32} (hx : rg x 8) (hw : rg w 5) : vp_in ((244 + (5 * x)) + w) 299 := vp_ix (b := 244) (c := 5) hx hw (by decide) (by decide) (by decide) (by decide) (by decide) (by decide)
theorem vpH {x w : Int32} (hx : rg x 3) (hw : rg w 5) : vp_in ((284 + (5 * x)) + w) 299 := vp_ix (b := 284) (c := 5) hx hw (by decide) (by decide) (by decide) (by decide) (by decide) (by decide)
theorem vpl {i : Int32} (h : ¬ i < 0 ∧ i.toNatClampNeg < 299) : vp_in i 299 := fun z => z.elim h.1 (fun z => by omega)
/-- what the reference's row s keeps to: its numbers are small, places in it are places -/
def InvM (μ : Sg) : Prop := rg (μ 0 0) 6 ∧ rg (μ 0 1) 25 ∧ rg (μ 0 2) 9 ∧ rg (μ 0 3) 4 ∧ (∀ m, m < 24 → rg (μ 0 (52 + 8 * m + 1)) 5) ∧ (∀ m, m < 24 → μ 0 (52 + 8 * m) = 1 → rg (μ 0 (52 + 8 * m + 5)) 8) ∧ ∀ h, h < 3 → rg (μ 0 (284 + 5 * h + 1)) 5
theorem cl_0 : (0 : Int32).toNatClampNeg = 0 := by decide
theorem cl_1 : (1 : Int32).toNatClampNeg = 1 := by decide
theorem cl_2 : (2 : Int32).toNatClampNeg = 2 := by decide
theorem cl_3 : (3 : Int32).toNatClampNeg = 3 := by decide
theorem cl_4 : (4 : Int32).toNatClampNeg = 4 := by decide
theorem cl_5 : (5 : Int32).toNatClampNeg = 5 := by decide
theorem cl_6 : (6 : Int32).toNatClampNeg = 6 := by decide
theorem cl_7 : (7 : Int32).toNatClampNeg = 7 := by decide
theorem cl_8 : (8 : Int32).toNatClampNeg = 8 := by decide
theorem cl_9 : (9 : Int32).toNatClampNeg = 9 := by decide
theorem cl_10 : (10 : Int32).toNatClampNeg = 10 := by decide
theorem cl_11 : (11 : Int32).toNatClampNeg = 11 := by decide
theorem mo_put0 {D : va_G} {y : Y3} {mo : Nat → Nat} {μ : Sg} {H : Heap} {v : Int32} (h : va_P D vwCl ((moW y.1 mo μ).set 0 (mo 0, .inr (8, ([.ref (mo 1), .ref (mo 2), .ref (mo 3), .int (μ 4 0), .ref (mo 4), .int (μ 4 1), .int (μ 4 2), .int (μ 4 3), .int (μ 4 4), .int (μ 4 5)] : List Value).set 3 (.int v)))) H) : MoH D y mo (mT μ 0 v) H := h
theorem mo_put1 {D : va_G} {y : Y3} {mo : Nat → Nat} {μ : Sg} {H : Heap} {v : Int32} (h : va_P D vwCl ((moW y.1 mo μ).set 0 (mo 0, .inr (8, ([.ref (mo 1), .ref (mo 2), .ref (mo 3), .int (μ 4 0), .ref (mo 4), .int (μ 4 1), .int (μ 4 2), .int (μ 4 3), .int (μ 4 4), .int (μ 4 5)] : List Value).set 5 (.int v)))) H) : MoH D y mo (mT μ 1 v) H := h
theorem mo_put2 {D : va_G} {y : Y3} {mo : Nat → Nat} {μ : Sg} {H : Heap} {v : Int32} (h : va_P D vwCl ((moW y.1 mo μ).set 0 (mo 0, .inr (8, ([.ref (mo 1), .ref (mo 2), .ref (mo 3), .int (μ 4 0), .ref (mo 4), .int (μ 4 1), .int (μ 4 2), .int (μ 4 3), .int (μ 4 4), .int (μ 4 5)] : List Value).set 6 (.int v)))) H) : MoH D y mo (mT μ 2 v) H := h
theorem mo_put3 {D : va_G} {y : Y3} {mo : Nat → Nat} {μ : Sg} {H : Heap} {v : Int32} (h : va_P D vwCl ((moW y.1 mo μ).set 0 (mo 0, .inr (8, ([.ref (mo 1), .ref (mo 2), .ref (mo 3), .int (μ 4 0), .ref (mo 4), .int (μ 4 1), .int (μ 4 2), .int (μ 4 3), .int (μ 4 4), .int (μ 4 5)] : List Value).set 7 (.int v)))) H) : MoH D y mo (mT μ 3 v) H := h
theorem mo_put4 {D : va_G} {y : Y3} {mo : Nat → Nat} {μ : Sg} {H : Heap} {v : Int32} (h : va_P D vwCl ((moW y.1 mo μ).set 0 (mo 0, .inr (8, ([.ref (mo 1), .ref (mo 2), .ref (mo 3), .int (μ 4 0), .ref (mo 4), .int (μ 4 1), .int (μ 4 2), .int (μ 4 3), .int (μ 4 4), .int (μ 4 5)] : List Value).set 8 (.int v)))) H) : MoH D y mo (mT μ 4 v) H := h
theorem mo_put5 {D : va_G} {y : Y3} {mo : Nat → Nat} {μ : Sg} {H : Heap} {v : Int32} (h : va_P D vwCl ((moW y.1 mo μ).set 0 (mo 0, .inr (8, ([.ref (mo 1), .ref (mo 2), .ref (mo 3), .int (μ 4 0), .ref (mo 4), .int (μ 4 1), .int (μ 4 2), .int (μ 4 3), .int (μ 4 4), .int (μ 4 5)] : List Value).set 9 (.int v)))) H) : MoH D y mo (mT μ 5 v) H := h
theorem mo_row1 {D : va_G} {y : Y3} {mo : Nat → Nat} {μ : Sg} {H : Heap} {f : Nat → Int32} (h : va_P D vwCl ((moW y.1 mo μ).set 1 (mo 1, .inl (y.1, 299, .inl f))) H) : MoH D y mo (mU μ 0 f) H := h
theorem mo_row2 {D : va_G} {y : Y3} {mo : Nat → Nat} {μ : Sg} {H : Heap} {f : Nat → Int32} (h : va_P D vwCl ((moW y.1 mo μ).set 2 (mo 2, .inl (y.1, 299, .inl f))) H) : MoH D y mo (mU μ 1 f) H := h
theorem mo_row3 {D : va_G} {y : Y3} {mo : Nat → Nat} {μ : Sg} {H : Heap} {f : Nat → Int32} (h : va_P D vwCl ((moW y.1 mo μ).set 3 (mo 3, .inl (y.1, 1196, .inl f))) H) : MoH D y mo (mU μ 2 f) H := h
theorem mo_row4 {D : va_G} {y : Y3} {mo : Nat → Nat} {μ : Sg} {H : Heap} {f : Nat → Int32} (h : va_P D vwCl ((moW y.1 mo μ).set 4 (mo 4, .inl (y.1, 60, .inl f))) H) : MoH D y mo (mU μ 3 f) H := h
theorem inv_mT {μ : Sg} {k : Nat} {v : Int32} (h : InvM μ) : InvM (mT μ k v) := h
def zX8_in (x1 x2 x3 : Int32) : Int32 := if x1 < x2 then 0
  else (if x3 < x1 then 0
    else 1)
set_option maxHeartbeats 4000000 in
set_option maxRecDepth 100000 in
theorem mX8_in (l : Launch) (D : va_G) (y : Y3) (x1 x2 x3 : Int32) : Met l yX8_in wsX8_in ({ frames := 0, cells := 0, slots := 0, locals := 0 } : Room) (va_Pc [.int x1, .int x2, .int x3] (fun U => CK D y U)) (vp_Si (fun r => r = zX8_in x1 x2 x3)) 0 0 (fun _ => False) := by
  refine Met.ofW (cc := cX8_in) (maxL := 3) (ret := (some .boolean)) (by decide) rfl ?_
  intro p e s m args below meth c s₁ B hml hv
  obtain ⟨rfl, hC⟩ := hv
  have hx := B.exec
  have hb := B.bytes
  have hr := B.returns
  have hts := atoms_spec (ws := wsX8_in) B.pre
  have hown : s.vm.findClass RX8 = some m.cls := findClass_of_methodNamed B.named
  have hlocks := B.notSynchronized
  have hF := (⟨hx, hb, hml, hown, hts⟩ : CallFix p m c cX8_in 3 s _ wsX8_in RX8)
  have hl := lv_entry ([.int x1, .int x2, .int x3]) (n := 3) (Nat.le_of_ble_eq_true rfl)
  rw [lg_entry_eq]
  generalize (lg_sl ([.int x1, .int x2, .int x3]) ++ List.replicate (3 - (lg_sl ([.int x1, .int x2, .int x3])).length) Slot.unset).toArray = ls at hl ⊢
  have hl : lv_has ls 3 [(0, .int x1), (1, .int x2), (2, .int x3)] := hl
  refine lv_iload_n hx hb dX8_in_0 rfl (lv_at hl 0 rfl) ?_
  refine lv_iload_n hx hb dX8_in_1 rfl (lv_at hl 1 rfl) ?_
  refine lv_icmp_lt (tgt := 14) hx hb dX8_in_2 (by decide) (fun c_1 => ?_) (fun c_1 => ?_)
  · refine lv_iconst (v := 0) hx hb dX8_in_14 (by decide) ?_
    exact W.zret (v := 0) hx hb hr (by decide) (fun t ht hW => ⟨0, rfl, (by unfold zX8_in; rw [if_pos c_1]), ht⟩) (fun q hq => absurd hq List.not_mem_nil) dX8_in_15
  · refine lv_iload_n hx hb dX8_in_5 rfl (lv_at hl 0 rfl) ?_
    refine lv_iload_n hx hb dX8_in_6 rfl (lv_at hl 2 rfl) ?_
    refine lv_icmp_gt (tgt := 14) hx hb dX8_in_7 (by decide) (fun c_2 => ?_) (fun c_2 => ?_)
    · refine lv_iconst (v := 0) hx hb dX8_in_14 (by decide) ?_
      exact W.zret (v := 0) hx hb hr (by decide) (fun t ht hW => ⟨0, rfl, (by unfold zX8_in; rw [if_neg c_1, if_pos c_2]), ht⟩) (fun q hq => absurd hq List.not_mem_nil) dX8_in_15
    · refine lv_iconst (v := 1) hx hb dX8_in_10 (by decide) ?_
      refine lv_goto (tgt := 15) hx hb dX8_in_11 (by decide) ?_
      exact W.zret (v := 1) hx hb hr (by decide) (fun t ht hW => ⟨1, rfl, (by unfold zX8_in; rw [if_neg c_1, if_neg c_2]), ht⟩) (fun q hq => absurd hq List.not_mem_nil) dX8_in_15
set_option maxHeartbeats 4000000 in
set_option maxRecDepth 100000 in
theorem kX8_in {p : Program} {l : Launch} {e : Env} {R : Room} {s : State} {m : MethodId} {args : Array Value} {below : List Frame} {meth : Method} {c : Code} {H : Heap} {locs : List Loc} {cells slots : Nat} {Q : State → Prop} {cc : ByteArray} {nL : Nat} {Ts : List Cond} {own : String} {index pc : Nat} {ls : Array Slot} {rest : List Value} {D : va_G} {y : Y3} {x1 x2 x3 : Int32} (hF : CallFix p m c cc nL s args Ts own) (cw : CallB R s args own index yX8_in cX8_in 3 (some .boolean) wsX8_in ({ frames := 0, cells := 0, slots := 0, locals := 0 } : Room) 0 0 3 ∧ (Cond.static yX8_in).before args s = true) (hC : CK D y s) (hsz : ls.size = nL) (hW : (rest.map fun v => v.category).sum ≤ 8) (hdg : decode cc pc = .ok (.invokestatic index, 3)) (hf : cells ≤ R.cells ∧ slots ≤ R.slots)
    (k : W p l e R s m args below meth c H locs cells slots Q (F0 m (pc + 3) ls (.int (zX8_in x1 x2 x3) :: rest))) : W p l e R s m args below meth c H locs cells slots Q (F0 m pc ls (.int x3 :: .int x2 :: .int x1 :: rest)) := by
  refine vp_callSi (W.runS (As := [.int x1, .int x2, .int x3]) (rest := rest) hF (mX8_in l D y x1 x2 x3) cw ⟨fun a U g mk q => by obtain ⟨q0, q1⟩ := q; exact ⟨q0, q1.call g mk a⟩, fun U hU hW => ⟨rfl, hC.warm hW⟩⟩ rfl rfl hsz rfl (lv_room hW) hdg ⟨hf.1, hf.2⟩) (fun r hr => ?_)
  subst hr
  exact k
def zX8_hasTwo (x1 : Int32) : Int32 := if x1 = 114 then 1
  else (if x1 = 102 then 1
    else (if x1 = 110 then 1
      else (if x1 = 116 then 1
        else (if x1 = 103 then 1
          else 0))))
set_option maxHeartbeats 4000000 in
set_option maxRecDepth 100000 in
theorem mX8_hasTwo (l : Launch) (D : va_G) (y : Y3) (x1 : Int32) : Met l yX8_hasTwo wsX8_hasTwo ({ frames := 0, cells := 0, slots := 0, locals := 0 } : Room) (va_Pc [.int x1] (fun U => CK D y U)) (vp_Si (fun r => r = zX8_hasTwo x1)) 0 0 (fun _ => False) := by
  refine Met.ofW (cc := cX8_hasTwo) (maxL := 1) (ret := (some .boolean)) (by decide) rfl ?_
  intro p e s m args below meth c s₁ B hml hv
  obtain ⟨rfl, hC⟩ := hv
  have hx := B.exec
  have hb := B.bytes
  have hr := B.returns
  have hts := atoms_spec (ws := wsX8_hasTwo) B.pre
  have hown : s.vm.findClass RX8 = some m.cls := findClass_of_methodNamed B.named
  have hlocks := B.notSynchronized
  have hF := (⟨hx, hb, hml, hown, hts⟩ : CallFix p m c cX8_hasTwo 1 s _ wsX8_hasTwo RX8)
  have hl := lv_entry ([.int x1]) (n := 1) (Nat.le_of_ble_eq_true rfl)
  rw [lg_entry_eq]
  generalize (lg_sl ([.int x1]) ++ List.replicate (1 - (lg_sl ([.int x1])).length) Slot.unset).toArray = ls at hl ⊢
  have hl : lv_has ls 1 [(0, .int x1)] := hl
  refine lv_iload_n hx hb dX8_hasTwo_0 rfl (lv_at hl 0 rfl) ?_
  refine lv_bipush (v := 114) hx hb dX8_hasTwo_1 (by decide) ?_
  refine lv_icmp_eq (tgt := 30) hx hb dX8_hasTwo_3 (by decide) (fun c_1 => ?_) (fun c_1 => ?_)
  · refine lv_iconst (v := 1) hx hb dX8_hasTwo_30 (by decide) ?_
    refine lv_goto (tgt := 35) hx hb dX8_hasTwo_31 (by decide) ?_
    exact W.zret (v := 1) hx hb hr (by decide) (fun t ht hW => ⟨1, rfl, (by unfold zX8_hasTwo; rw [if_pos c_1]), ht⟩) (fun q hq => absurd hq List.not_mem_nil) dX8_hasTwo_35
  · refine lv_iload_n hx hb dX8_hasTwo_6 rfl (lv_at hl 0 rfl) ?_
    refine lv_bipush (v := 102) hx hb dX8_hasTwo_7 (by decide) ?_
    refine lv_icmp_eq (tgt := 30) hx hb dX8_hasTwo_9 (by decide) (fun c_2 => ?_) (fun c_2 => ?_)
    · refine lv_iconst (v := 1) hx hb dX8_hasTwo_30 (by decide) ?_
      refine lv_goto (tgt := 35) hx hb dX8_hasTwo_31 (by decide) ?_
      exact W.zret (v := 1) hx hb hr (by decide) (fun t ht hW => ⟨1, rfl, (by unfold zX8_hasTwo; rw [if_neg c_1, if_pos c_2]), ht⟩) (fun q hq => absurd hq List.not_mem_nil) dX8_hasTwo_35
    · refine lv_iload_n hx hb dX8_hasTwo_12 rfl (lv_at hl 0 rfl) ?_
      refine lv_bipush (v := 110) hx hb dX8_hasTwo_13 (by decide) ?_
      refine lv_icmp_eq (tgt := 30) hx hb dX8_hasTwo_15 (by decide) (fun c_3 => ?_) (fun c_3 => ?_)
      · refine lv_iconst (v := 1) hx hb dX8_hasTwo_30 (by decide) ?_
        refine lv_goto (tgt := 35) hx hb dX8_hasTwo_31 (by decide) ?_
        exact W.zret (v := 1) hx hb hr (by decide) (fun t ht hW => ⟨1, rfl, (by unfold zX8_hasTwo; rw [if_neg c_1, if_neg c_2, if_pos c_3]), ht⟩) (fun q hq => absurd hq List.not_mem_nil) dX8_hasTwo_35
      · refine lv_iload_n hx hb dX8_hasTwo_18 rfl (lv_at hl 0 rfl) ?_
        refine lv_bipush (v := 116) hx hb dX8_hasTwo_19 (by decide) ?_
        refine lv_icmp_eq (tgt := 30) hx hb dX8_hasTwo_21 (by decide) (fun c_4 => ?_) (fun c_4 => ?_)
        · refine lv_iconst (v := 1) hx hb dX8_hasTwo_30 (by decide) ?_
          refine lv_goto (tgt := 35) hx hb dX8_hasTwo_31 (by decide) ?_
          exact W.zret (v := 1) hx hb hr (by decide) (fun t ht hW => ⟨1, rfl, (by unfold zX8_hasTwo; rw [if_neg c_1, if_neg c_2, if_neg c_3, if_pos c_4]), ht⟩) (fun q hq => absurd hq List.not_mem_nil) dX8_hasTwo_35
        · refine lv_iload_n hx hb dX8_hasTwo_24 rfl (lv_at hl 0 rfl) ?_
          refine lv_bipush (v := 103) hx hb dX8_hasTwo_25 (by decide) ?_
          refine lv_icmp_ne (tgt := 34) hx hb dX8_hasTwo_27 (by decide) (fun c_5 => ?_) (fun c_5 => ?_)
          · refine lv_iconst (v := 0) hx hb dX8_hasTwo_34 (by decide) ?_
            exact W.zret (v := 0) hx hb hr (by decide) (fun t ht hW => ⟨0, rfl, (by unfold zX8_hasTwo; rw [if_neg c_1, if_neg c_2, if_neg c_3, if_neg c_4, if_neg c_5]), ht⟩) (fun q hq => absurd hq List.not_mem_nil) dX8_hasTwo_35
          · refine lv_iconst (v := 1) hx hb dX8_hasTwo_30 (by decide) ?_
            refine lv_goto (tgt := 35) hx hb dX8_hasTwo_31 (by decide) ?_
            exact W.zret (v := 1) hx hb hr (by decide) (fun t ht hW => ⟨1, rfl, (by unfold zX8_hasTwo; rw [if_neg c_1, if_neg c_2, if_neg c_3, if_neg c_4, if_pos c_5]), ht⟩) (fun q hq => absurd hq List.not_mem_nil) dX8_hasTwo_35
set_option maxHeartbeats 4000000 in
set_option maxRecDepth 100000 in
theorem kX8_hasTwo {p : Program} {l : Launch} {e : Env} {R : Room} {s : State} {m : MethodId} {args : Array Value} {below : List Frame} {meth : Method} {c : Code} {H : Heap} {locs : List Loc} {cells slots : Nat} {Q : State → Prop} {cc : ByteArray} {nL : Nat} {Ts : List Cond} {own : String} {index pc : Nat} {ls : Array Slot} {rest : List Value} {D : va_G} {y : Y3} {x1 : Int32} (hF : CallFix p m c cc nL s args Ts own) (cw : CallB R s args own index yX8_hasTwo cX8_hasTwo 1 (some .boolean) wsX8_hasTwo ({ frames := 0, cells := 0, slots := 0, locals := 0 } : Room) 0 0 1 ∧ (Cond.static yX8_hasTwo).before args s = true) (hC : CK D y s) (hsz : ls.size = nL) (hW : (rest.map fun v => v.category).sum ≤ 8) (hdg : decode cc pc = .ok (.invokestatic index, 3)) (hf : cells ≤ R.cells ∧ slots ≤ R.slots)
    (k : W p l e R s m args below meth c H locs cells slots Q (F0 m (pc + 3) ls (.int (zX8_hasTwo x1) :: rest))) : W p l e R s m args below meth c H locs cells slots Q (F0 m pc ls (.int x1 :: rest)) := by
  refine vp_callSi (W.runS (As := [.int x1]) (rest := rest) hF (mX8_hasTwo l D y x1) cw ⟨fun a U g mk q => by obtain ⟨q0, q1⟩ := q; exact ⟨q0, q1.call g mk a⟩, fun U hU hW => ⟨rfl, hC.warm hW⟩⟩ rfl rfl hsz rfl (lv_room hW) hdg ⟨hf.1, hf.2⟩) (fun r hr => ?_)
  subst hr
  exact k
theorem nb_in (x a b : Int32) : narrow .boolean (.int (zX8_in x a b)) = .int (zX8_in x a b) := by
  unfold zX8_in
  (repeat' split) <;> rfl
theorem rg_in {x b : Int32} (h : ¬ zX8_in x 0 b = 0) : rg x (b.toInt + 1) := by
  unfold zX8_in at h
  split at h
  · exact absurd rfl h
  · rename_i h1
    split at h
    · exact absurd rfl h
    · rename_i h2
      rw [Int32.lt_iff_toInt_lt, Int32.toInt_zero] at h1
      rw [Int32.lt_iff_toInt_lt] at h2
      exact ⟨by omega, by omega⟩
def zX8_ofLocker (μ : Sg) (x1 : Int32) (x2 : Int32) : Int32 := (μ 0 ((12 + (8 * x1)) + x2).toNatClampNeg)
theorem iwX8_ofLocker_X8 : ∀ w ∈ wsX80, w ∈ wsX8_ofLocker := fun _ h => List.mem_cons_of_mem _ (List.mem_append_right _ h)
theorem hdX8_ofLocker : yX8_ofLocker.cls = RX8 ∧ yX8_ofLocker.cls ≠ "java/lang/invoke/MethodHandle" ∧ yX8_ofLocker.cls ≠ "java/lang/invoke/VarHandle" ∧ (parseMethodDescriptor yX8_ofLocker.desc).map (fun d => d.parameters.length) = some 2 := by decide +kernel
set_option maxHeartbeats 4000000 in
set_option maxRecDepth 100000 in
theorem mX8_ofLocker (l : Launch) (D : va_G) (y : Y3) (mo : Nat → Nat) (μ : Sg) (x1 : Int32) (x2 : Int32) : Met l yX8_ofLocker wsX8_ofLocker ({ frames := 0, cells := 0, slots := 0, locals := 0 } : Room) (va_Pc [.ref (mo 0), .int x1, .int x2] (fun U => CK D y U ∧ MoH D y mo μ U.heap ∧ rg x1 5 ∧ rg x2 8)) (vp_Si (fun r => r = zX8_ofLocker μ x1 x2)) 0 0 (fun _ => False) := by
  refine Met.ofW (cc := cX8_ofLocker) (maxL := 3) (ret := (some .int)) (by decide) rfl ?_
  intro p e s m args below meth c s₁ B hml hv
  obtain ⟨rfl, hC, hMo, r_x1, r_x2⟩ := hv
  have hx := B.exec
  have hb := B.bytes
  have hr := B.returns
  have hts := atoms_spec (ws := wsX8_ofLocker) B.pre
  have hown : s.vm.findClass RX8 = some m.cls := findClass_of_methodNamed B.named
  have hlocks := B.notSynchronized
  have hF := (⟨hx, hb, hml, hown, hts⟩ : CallFix p m c cX8_ofLocker 3 s _ wsX8_ofLocker RX8)
  have hl := lv_entry ([.ref (mo 0), .int x1, .int x2]) (n := 3) (Nat.le_of_ble_eq_true rfl)
  rw [lg_entry_eq]
  generalize (lg_sl ([.ref (mo 0), .int x1, .int x2]) ++ List.replicate (3 - (lg_sl ([.ref (mo 0), .int x1, .int x2])).length) Slot.unset).toArray = ls at hl ⊢
  have hl : lv_has ls 3 [(0, .ref (mo 0)), (1, .int x1), (2, .int x2)] := hl
  refine lv_aload_n hx hb dX8_ofLocker_0 rfl (lv_at hl 0 rfl) ?_
  refine va_get (D := D) (ci := 8) (v := .ref (mo 1)) (C := RX8) (T := TX8) (N := 10) hx hb hts iwX8_ofLocker_X8 hown hC.1 hMo 0 rfl rfl 0 (by decide) (hts (.fieldLink RX8 7 "MealLockersModel" "s" "[I") (List.mem_of_getElem? (i := 1) rfl)) (fun _ h9 => h9) rfl dX8_ofLocker_1 ?_
  refine lv_bipush (v := 12) hx hb dX8_ofLocker_4 (by decide) ?_
  refine lv_bipush (v := 8) hx hb dX8_ofLocker_6 (by decide) ?_
  refine lv_iload_n hx hb dX8_ofLocker_8 rfl (lv_at hl 1 rfl) ?_
  refine lv_imul hx hb dX8_ofLocker_9 ?_
  refine lv_iadd hx hb dX8_ofLocker_10 ?_
  refine lv_iload_n hx hb dX8_ofLocker_11 rfl (lv_at hl 2 rfl) ?_
  refine lv_iadd hx hb dX8_ofLocker_12 ?_
  refine va_iald hx hb hC.1 hMo 1 0 rfl rfl (vpL r_x1 r_x2) dX8_ofLocker_13 ?_
  exact W.iret (v := (μ 0 ((12 + (8 * x1)) + x2).toNatClampNeg)) hx hb hr (fun t ht hW => ⟨(μ 0 ((12 + (8 * x1)) + x2).toNatClampNeg), rfl, rfl, ht⟩) (fun q hq => absurd hq List.not_mem_nil) dX8_ofLocker_14
set_option maxHeartbeats 4000000 in
set_option maxRecDepth 100000 in
theorem kX8_ofLocker {p : Program} {l : Launch} {e : Env} {R : Room} {s : State} {m : MethodId} {args : Array Value} {below : List Frame} {meth : Method} {c : Code} {H : Heap} {locs : List Loc} {cells slots : Nat} {Q : State → Prop} {cc : ByteArray} {nL : Nat} {Ts : List Cond} {own : String} {index pc : Nat} {ls : Array Slot} {rest : List Value} {D : va_G} {y : Y3} {mo : Nat → Nat} {μ : Sg} {x1 : Int32} {x2 : Int32} (hF : CallFix p m c cc nL s args Ts own) (cw : CallW R s args own RX8 index yX8_ofLocker cX8_ofLocker 3 (some .int) wsX8_ofLocker ({ frames := 0, cells := 0, slots := 0, locals := 0 } : Room) 0 0 2) (hC : CK D y s) (hMo : MoH D y mo μ H) (r_x1 : rg x1 5) (r_x2 : rg x2 8) (hsz : ls.size = nL) (hW : (rest.map fun v => v.category).sum ≤ 8) (hdg : decode cc pc = .ok (.invokevirtual index, 3)) (hf : cells ≤ R.cells ∧ slots ≤ R.slots)
    (k : W p l e R s m args below meth c H locs cells slots Q (F0 m (pc + 3) ls (.int (zX8_ofLocker μ x1 x2) :: rest))) : W p l e R s m args below meth c H locs cells slots Q (F0 m pc ls (.int x2 :: .int x1 :: .ref (mo 0) :: rest)) := by
  refine vp_callSi (W.runV (As := [.int x1, .int x2]) (rest := rest) hF (mX8_ofLocker l D y mo μ x1 x2) cw ⟨fun a U g mk q => by obtain ⟨q0, q1, q2, q3, q4⟩ := q; exact ⟨q0, q1.call g mk a, q2, q3, q4⟩, va_recv hC.1 hMo (ci := 8) (q0 := 0) rfl rfl, fun U hU hW => ⟨rfl, hC.warm hW, by rw [hU]; exact hMo, r_x1, r_x2⟩⟩ rfl rfl hsz rfl (lv_room hW) hdg ⟨hf.1, hf.2⟩) (fun r hr => ?_)
  subst hr
  exact k
def zX8_ofMeal (μ : Sg) (x1 : Int32) (x2 : Int32) : Int32 := (μ 0 ((52 + (8 * x1)) + x2).toNatClampNeg)
theorem iwX8_ofMeal_X8 : ∀ w ∈ wsX80, w ∈ wsX8_ofMeal := fun _ h => List.mem_cons_of_mem _ (List.mem_append_right _ h)
theorem hdX8_ofMeal : yX8_ofMeal.cls = RX8 ∧ yX8_ofMeal.cls ≠ "java/lang/invoke/MethodHandle" ∧ yX8_ofMeal.cls ≠ "java/lang/invoke/VarHandle" ∧ (parseMethodDescriptor yX8_ofMeal.desc).map (fun d => d.parameters.length) = some 2 := by decide +kernel
set_option maxHeartbeats 4000000 in
set_option maxRecDepth 100000 in
theorem mX8_ofMeal (l : Launch) (D : va_G) (y : Y3) (mo : Nat → Nat) (μ : Sg) (x1 : Int32) (x2 : Int32) : Met l yX8_ofMeal wsX8_ofMeal ({ frames := 0, cells := 0, slots := 0, locals := 0 } : Room) (va_Pc [.ref (mo 0), .int x1, .int x2] (fun U => CK D y U ∧ MoH D y mo μ U.heap ∧ rg x1 24 ∧ rg x2 8)) (vp_Si (fun r => r = zX8_ofMeal μ x1 x2)) 0 0 (fun _ => False) := by
  refine Met.ofW (cc := cX8_ofMeal) (maxL := 3) (ret := (some .int)) (by decide) rfl ?_
  intro p e s m args below meth c s₁ B hml hv
  obtain ⟨rfl, hC, hMo, r_x1, r_x2⟩ := hv
  have hx := B.exec
  have hb := B.bytes
  have hr := B.returns
  have hts := atoms_spec (ws := wsX8_ofMeal) B.pre
  have hown : s.vm.findClass RX8 = some m.cls := findClass_of_methodNamed B.named
  have hlocks := B.notSynchronized
  have hF := (⟨hx, hb, hml, hown, hts⟩ : CallFix p m c cX8_ofMeal 3 s _ wsX8_ofMeal RX8)
  have hl := lv_entry ([.ref (mo 0), .int x1, .int x2]) (n := 3) (Nat.le_of_ble_eq_true rfl)
  rw [lg_entry_eq]
  generalize (lg_sl ([.ref (mo 0), .int x1, .int x2]) ++ List.replicate (3 - (lg_sl ([.ref (mo 0), .int x1, .int x2])).length) Slot.unset).toArray = ls at hl ⊢
  have hl : lv_has ls 3 [(0, .ref (mo 0)), (1, .int x1), (2, .int x2)] := hl
  refine lv_aload_n hx hb dX8_ofMeal_0 rfl (lv_at hl 0 rfl) ?_
  refine va_get (D := D) (ci := 8) (v := .ref (mo 1)) (C := RX8) (T := TX8) (N := 10) hx hb hts iwX8_ofMeal_X8 hown hC.1 hMo 0 rfl rfl 0 (by decide) (hts (.fieldLink RX8 7 "MealLockersModel" "s" "[I") (List.mem_of_getElem? (i := 1) rfl)) (fun _ h9 => h9) rfl dX8_ofMeal_1 ?_
  refine lv_bipush (v := 52) hx hb dX8_ofMeal_4 (by decide) ?_
  refine lv_bipush (v := 8) hx hb dX8_ofMeal_6 (by decide) ?_
  refine lv_iload_n hx hb dX8_ofMeal_8 rfl (lv_at hl 1 rfl) ?_
  refine lv_imul hx hb dX8_ofMeal_9 ?_
  refine lv_iadd hx hb dX8_ofMeal_10 ?_
  refine lv_iload_n hx hb dX8_ofMeal_11 rfl (lv_at hl 2 rfl) ?_
  refine lv_iadd hx hb dX8_ofMeal_12 ?_
  refine va_iald hx hb hC.1 hMo 1 0 rfl rfl (vpM r_x1 r_x2) dX8_ofMeal_13 ?_
  exact W.iret (v := (μ 0 ((52 + (8 * x1)) + x2).toNatClampNeg)) hx hb hr (fun t ht hW => ⟨(μ 0 ((52 + (8 * x1)) + x2).toNatClampNeg), rfl, rfl, ht⟩) (fun q hq => absurd hq List.not_mem_nil) dX8_ofMeal_14
set_option maxHeartbeats 4000000 in
set_option maxRecDepth 100000 in
theorem kX8_ofMeal {p : Program} {l : Launch} {e : Env} {R : Room} {s : State} {m : MethodId} {args : Array Value} {below : List Frame} {meth : Method} {c : Code} {H : Heap} {locs : List Loc} {cells slots : Nat} {Q : State → Prop} {cc : ByteArray} {nL : Nat} {Ts : List Cond} {own : String} {index pc : Nat} {ls : Array Slot} {rest : List Value} {D : va_G} {y : Y3} {mo : Nat → Nat} {μ : Sg} {x1 : Int32} {x2 : Int32} (hF : CallFix p m c cc nL s args Ts own) (cw : CallW R s args own RX8 index yX8_ofMeal cX8_ofMeal 3 (some .int) wsX8_ofMeal ({ frames := 0, cells := 0, slots := 0, locals := 0 } : Room) 0 0 2) (hC : CK D y s) (hMo : MoH D y mo μ H) (r_x1 : rg x1 24) (r_x2 : rg x2 8) (hsz : ls.size = nL) (hW : (rest.map fun v => v.category).sum ≤ 8) (hdg : decode cc pc = .ok (.invokevirtual index, 3)) (hf : cells ≤ R.cells ∧ slots ≤ R.slots)
    (k : W p l e R s m args below meth c H locs cells slots Q (F0 m (pc + 3) ls (.int (zX8_ofMeal μ x1 x2) :: rest))) : W p l e R s m args below meth c H locs cells slots Q (F0 m pc ls (.int x2 :: .int x1 :: .ref (mo 0) :: rest)) := by
  refine vp_callSi (W.runV (As := [.int x1, .int x2]) (rest := rest) hF (mX8_ofMeal l D y mo μ x1 x2) cw ⟨fun a U g mk q => by obtain ⟨q0, q1, q2, q3, q4⟩ := q; exact ⟨q0, q1.call g mk a, q2, q3, q4⟩, va_recv hC.1 hMo (ci := 8) (q0 := 0) rfl rfl, fun U hU hW => ⟨rfl, hC.warm hW, by rw [hU]; exact hMo, r_x1, r_x2⟩⟩ rfl rfl hsz rfl (lv_room hW) hdg ⟨hf.1, hf.2⟩) (fun r hr => ?_)
  subst hr
  exact k
def zX8_ofPerson (μ : Sg) (x1 : Int32) (x2 : Int32) : Int32 := (μ 0 ((244 + (5 * x1)) + x2).toNatClampNeg)
theorem iwX8_ofPerson_X8 : ∀ w ∈ wsX80, w ∈ wsX8_ofPerson := fun _ h => List.mem_cons_of_mem _ (List.mem_append_right _ h)
theorem hdX8_ofPerson : yX8_ofPerson.cls = RX8 ∧ yX8_ofPerson.cls ≠ "java/lang/invoke/MethodHandle" ∧ yX8_ofPerson.cls ≠ "java/lang/invoke/VarHandle" ∧ (parseMethodDescriptor yX8_ofPerson.desc).map (fun d => d.parameters.length) = some 2 := by decide +kernel
set_option maxHeartbeats 4000000 in
set_option maxRecDepth 100000 in
theorem mX8_ofPerson (l : Launch) (D : va_G) (y : Y3) (mo : Nat → Nat) (μ : Sg) (x1 : Int32) (x2 : Int32) : Met l yX8_ofPerson wsX8_ofPerson ({ frames := 0, cells := 0, slots := 0, locals := 0 } : Room) (va_Pc [.ref (mo 0), .int x1, .int x2] (fun U => CK D y U ∧ MoH D y mo μ U.heap ∧ rg x1 8 ∧ rg x2 5)) (vp_Si (fun r => r = zX8_ofPerson μ x1 x2)) 0 0 (fun _ => False) := by
  refine Met.ofW (cc := cX8_ofPerson) (maxL := 3) (ret := (some .int)) (by decide) rfl ?_
  intro p e s m args below meth c s₁ B hml hv
  obtain ⟨rfl, hC, hMo, r_x1, r_x2⟩ := hv
  have hx := B.exec
  have hb := B.bytes
  have hr := B.returns
  have hts := atoms_spec (ws := wsX8_ofPerson) B.pre
  have hown : s.vm.findClass RX8 = some m.cls := findClass_of_methodNamed B.named
  have hlocks := B.notSynchronized
  have hF := (⟨hx, hb, hml, hown, hts⟩ : CallFix p m c cX8_ofPerson 3 s _ wsX8_ofPerson RX8)
  have hl := lv_entry ([.ref (mo 0), .int x1, .int x2]) (n := 3) (Nat.le_of_ble_eq_true rfl)
  rw [lg_entry_eq]
  generalize (lg_sl ([.ref (mo 0), .int x1, .int x2]) ++ List.replicate (3 - (lg_sl ([.ref (mo 0), .int x1, .int x2])).length) Slot.unset).toArray = ls at hl ⊢
  have hl : lv_has ls 3 [(0, .ref (mo 0)), (1, .int x1), (2, .int x2)] := hl
  refine lv_aload_n hx hb dX8_ofPerson_0 rfl (lv_at hl 0 rfl) ?_
  refine va_get (D := D) (ci := 8) (v := .ref (mo 1)) (C := RX8) (T := TX8) (N := 10) hx hb hts iwX8_ofPerson_X8 hown hC.1 hMo 0 rfl rfl 0 (by decide) (hts (.fieldLink RX8 7 "MealLockersModel" "s" "[I") (List.mem_of_getElem? (i := 1) rfl)) (fun _ h9 => h9) rfl dX8_ofPerson_1 ?_
  refine lv_sipush (v := 244) hx hb dX8_ofPerson_4 (by decide) ?_
  refine lv_iconst (v := 5) hx hb dX8_ofPerson_7 (by decide) ?_
  refine lv_iload_n hx hb dX8_ofPerson_8 rfl (lv_at hl 1 rfl) ?_
  refine lv_imul hx hb dX8_ofPerson_9 ?_
  refine lv_iadd hx hb dX8_ofPerson_10 ?_
  refine lv_iload_n hx hb dX8_ofPerson_11 rfl (lv_at hl 2 rfl) ?_
  refine lv_iadd hx hb dX8_ofPerson_12 ?_
  refine va_iald hx hb hC.1 hMo 1 0 rfl rfl (vpP r_x1 r_x2) dX8_ofPerson_13 ?_
  exact W.iret (v := (μ 0 ((244 + (5 * x1)) + x2).toNatClampNeg)) hx hb hr (fun t ht hW => ⟨(μ 0 ((244 + (5 * x1)) + x2).toNatClampNeg), rfl, rfl, ht⟩) (fun q hq => absurd hq List.not_mem_nil) dX8_ofPerson_14
set_option maxHeartbeats 4000000 in
set_option maxRecDepth 100000 in
theorem kX8_ofPerson {p : Program} {l : Launch} {e : Env} {R : Room} {s : State} {m : MethodId} {args : Array Value} {below : List Frame} {meth : Method} {c : Code} {H : Heap} {locs : List Loc} {cells slots : Nat} {Q : State → Prop} {cc : ByteArray} {nL : Nat} {Ts : List Cond} {own : String} {index pc : Nat} {ls : Array Slot} {rest : List Value} {D : va_G} {y : Y3} {mo : Nat → Nat} {μ : Sg} {x1 : Int32} {x2 : Int32} (hF : CallFix p m c cc nL s args Ts own) (cw : CallW R s args own RX8 index yX8_ofPerson cX8_ofPerson 3 (some .int) wsX8_ofPerson ({ frames := 0, cells := 0, slots := 0, locals := 0 } : Room) 0 0 2) (hC : CK D y s) (hMo : MoH D y mo μ H) (r_x1 : rg x1 8) (r_x2 : rg x2 5) (hsz : ls.size = nL) (hW : (rest.map fun v => v.category).sum ≤ 8) (hdg : decode cc pc = .ok (.invokevirtual index, 3)) (hf : cells ≤ R.cells ∧ slots ≤ R.slots)
    (k : W p l e R s m args below meth c H locs cells slots Q (F0 m (pc + 3) ls (.int (zX8_ofPerson μ x1 x2) :: rest))) : W p l e R s m args below meth c H locs cells slots Q (F0 m pc ls (.int x2 :: .int x1 :: .ref (mo 0) :: rest)) := by
  refine vp_callSi (W.runV (As := [.int x1, .int x2]) (rest := rest) hF (mX8_ofPerson l D y mo μ x1 x2) cw ⟨fun a U g mk q => by obtain ⟨q0, q1, q2, q3, q4⟩ := q; exact ⟨q0, q1.call g mk a, q2, q3, q4⟩, va_recv hC.1 hMo (ci := 8) (q0 := 0) rfl rfl, fun U hU hW => ⟨rfl, hC.warm hW, by rw [hU]; exact hMo, r_x1, r_x2⟩⟩ rfl rfl hsz rfl (lv_room hW) hdg ⟨hf.1, hf.2⟩) (fun r hr => ?_)
  subst hr
  exact k
def zX8_ofHelper (μ : Sg) (x1 : Int32) (x2 : Int32) : Int32 := (μ 0 ((284 + (5 * x1)) + x2).toNatClampNeg)
theorem iwX8_ofHelper_X8 : ∀ w ∈ wsX80, w ∈ wsX8_ofHelper := fun _ h => List.mem_cons_of_mem _ (List.mem_append_right _ h)
theorem hdX8_ofHelper : yX8_ofHelper.cls = RX8 ∧ yX8_ofHelper.cls ≠ "java/lang/invoke/MethodHandle" ∧ yX8_ofHelper.cls ≠ "java/lang/invoke/VarHandle" ∧ (parseMethodDescriptor yX8_ofHelper.desc).map (fun d => d.parameters.length) = some 2 := by decide +kernel
set_option maxHeartbeats 4000000 in
set_option maxRecDepth 100000 in
theorem mX8_ofHelper (l : Launch) (D : va_G) (y : Y3) (mo : Nat → Nat) (μ : Sg) (x1 : Int32) (x2 : Int32) : Met l yX8_ofHelper wsX8_ofHelper ({ frames := 0, cells := 0, slots := 0, locals := 0 } : Room) (va_Pc [.ref (mo 0), .int x1, .int x2] (fun U => CK D y U ∧ MoH D y mo μ U.heap ∧ rg x1 3 ∧ rg x2 5)) (vp_Si (fun r => r = zX8_ofHelper μ x1 x2)) 0 0 (fun _ => False) := by
  refine Met.ofW (cc := cX8_ofHelper) (maxL := 3) (ret := (some .int)) (by decide) rfl ?_
  intro p e s m args below meth c s₁ B hml hv
  obtain ⟨rfl, hC, hMo, r_x1, r_x2⟩ := hv
  have hx := B.exec
  have hb := B.bytes
  have hr := B.returns
  have hts := atoms_spec (ws := wsX8_ofHelper) B.pre
  have hown : s.vm.findClass RX8 = some m.cls := findClass_of_methodNamed B.named
  have hlocks := B.notSynchronized
  have hF := (⟨hx, hb, hml, hown, hts⟩ : CallFix p m c cX8_ofHelper 3 s _ wsX8_ofHelper RX8)
  have hl := lv_entry ([.ref (mo 0), .int x1, .int x2]) (n := 3) (Nat.le_of_ble_eq_true rfl)
  rw [lg_entry_eq]
  generalize (lg_sl ([.ref (mo 0), .int x1, .int x2]) ++ List.replicate (3 - (lg_sl ([.ref (mo 0), .int x1, .int x2])).length) Slot.unset).toArray = ls at hl ⊢
  have hl : lv_has ls 3 [(0, .ref (mo 0)), (1, .int x1), (2, .int x2)] := hl
  refine lv_aload_n hx hb dX8_ofHelper_0 rfl (lv_at hl 0 rfl) ?_
  refine va_get (D := D) (ci := 8) (v := .ref (mo 1)) (C := RX8) (T := TX8) (N := 10) hx hb hts iwX8_ofHelper_X8 hown hC.1 hMo 0 rfl rfl 0 (by decide) (hts (.fieldLink RX8 7 "MealLockersModel" "s" "[I") (List.mem_of_getElem? (i := 1) rfl)) (fun _ h9 => h9) rfl dX8_ofHelper_1 ?_
  refine lv_sipush (v := 284) hx hb dX8_ofHelper_4 (by decide) ?_
  refine lv_iconst (v := 5) hx hb dX8_ofHelper_7 (by decide) ?_
  refine lv_iload_n hx hb dX8_ofHelper_8 rfl (lv_at hl 1 rfl) ?_
  refine lv_imul hx hb dX8_ofHelper_9 ?_
  refine lv_iadd hx hb dX8_ofHelper_10 ?_
  refine lv_iload_n hx hb dX8_ofHelper_11 rfl (lv_at hl 2 rfl) ?_
  refine lv_iadd hx hb dX8_ofHelper_12 ?_
  refine va_iald hx hb hC.1 hMo 1 0 rfl rfl (vpH r_x1 r_x2) dX8_ofHelper_13 ?_
  exact W.iret (v := (μ 0 ((284 + (5 * x1)) + x2).toNatClampNeg)) hx hb hr (fun t ht hW => ⟨(μ 0 ((284 + (5 * x1)) + x2).toNatClampNeg), rfl, rfl, ht⟩) (fun q hq => absurd hq List.not_mem_nil) dX8_ofHelper_14
set_option maxHeartbeats 4000000 in
set_option maxRecDepth 100000 in
theorem kX8_ofHelper {p : Program} {l : Launch} {e : Env} {R : Room} {s : State} {m : MethodId} {args : Array Value} {below : List Frame} {meth : Method} {c : Code} {H : Heap} {locs : List Loc} {cells slots : Nat} {Q : State → Prop} {cc : ByteArray} {nL : Nat} {Ts : List Cond} {own : String} {index pc : Nat} {ls : Array Slot} {rest : List Value} {D : va_G} {y : Y3} {mo : Nat → Nat} {μ : Sg} {x1 : Int32} {x2 : Int32} (hF : CallFix p m c cc nL s args Ts own) (cw : CallW R s args own RX8 index yX8_ofHelper cX8_ofHelper 3 (some .int) wsX8_ofHelper ({ frames := 0, cells := 0, slots := 0, locals := 0 } : Room) 0 0 2) (hC : CK D y s) (hMo : MoH D y mo μ H) (r_x1 : rg x1 3) (r_x2 : rg x2 5) (hsz : ls.size = nL) (hW : (rest.map fun v => v.category).sum ≤ 8) (hdg : decode cc pc = .ok (.invokevirtual index, 3)) (hf : cells ≤ R.cells ∧ slots ≤ R.slots)
    (k : W p l e R s m args below meth c H locs cells slots Q (F0 m (pc + 3) ls (.int (zX8_ofHelper μ x1 x2) :: rest))) : W p l e R s m args below meth c H locs cells slots Q (F0 m pc ls (.int x2 :: .int x1 :: .ref (mo 0) :: rest)) := by
  refine vp_callSi (W.runV (As := [.int x1, .int x2]) (rest := rest) hF (mX8_ofHelper l D y mo μ x1 x2) cw ⟨fun a U g mk q => by obtain ⟨q0, q1, q2, q3, q4⟩ := q; exact ⟨q0, q1.call g mk a, q2, q3, q4⟩, va_recv hC.1 hMo (ci := 8) (q0 := 0) rfl rfl, fun U hU hW => ⟨rfl, hC.warm hW, by rw [hU]; exact hMo, r_x1, r_x2⟩⟩ rfl rfl hsz rfl (lv_room hW) hdg ⟨hf.1, hf.2⟩) (fun r hr => ?_)
  subst hr
  exact k
theorem ofMeal_n {μ : Sg} {x w : Int32} (hx : rg x 24) (hw : rg w 8) : zX8_ofMeal μ x w = μ 0 (52 + 8 * x.toNatClampNeg + w.toNatClampNeg) := by
  have e : (52 : Int32) + 8 * x + w = nI (52 + 8 * x.toNatClampNeg + w.toNatClampNeg) := ix_of (b := 52) (c := 8) hx hw (by decide) (by decide) (by decide) (by decide)
  have h1 := (rg_nI hx).2
  have h2 := (rg_nI hw).2
  unfold zX8_ofMeal
  rw [e, nI_clamp (by omega)]
theorem ofHelper_n {μ : Sg} {x w : Int32} (hx : rg x 3) (hw : rg w 5) : zX8_ofHelper μ x w = μ 0 (284 + 5 * x.toNatClampNeg + w.toNatClampNeg) := by
  have e : (284 : Int32) + 5 * x + w = nI (284 + 5 * x.toNatClampNeg + w.toNatClampNeg) := ix_of (b := 284) (c := 5) hx hw (by decide) (by decide) (by decide) (by decide)
  have h1 := (rg_nI hx).2
  have h2 := (rg_nI hw).2
  unfold zX8_ofHelper
  rw [e, nI_clamp (by omega)]
theorem ofLocker_n {μ : Sg} {x w : Int32} (hx : rg x 5) (hw : rg w 8) : zX8_ofLocker μ x w = μ 0 (12 + 8 * x.toNatClampNeg + w.toNatClampNeg) := by
  have e : (12 : Int32) + 8 * x + w = nI (12 + 8 * x.toNatClampNeg + w.toNatClampNeg) := ix_of (b := 12) (c := 8) hx hw (by decide) (by decide) (by decide) (by decide)
  have h1 := (rg_nI hx).2
  have h2 := (rg_nI hw).2
  unfold zX8_ofLocker
  rw [e, nI_clamp (by omega)]
theorem ofPerson_n {μ : Sg} {x w : Int32} (hx : rg x 8) (hw : rg w 5) : zX8_ofPerson μ x w = μ 0 (244 + 5 * x.toNatClampNeg + w.toNatClampNeg) := by
  have e : (244 : Int32) + 5 * x + w = nI (244 + 5 * x.toNatClampNeg + w.toNatClampNeg) := ix_of (b := 244) (c := 5) hx hw (by decide) (by decide) (by decide) (by decide)
  have h1 := (rg_nI hx).2
  have h2 := (rg_nI hw).2
  unfold zX8_ofPerson
  rw [e, nI_clamp (by omega)]
theorem inv_where {μ : Sg} (h : InvM μ) {x : Int32} (hx : rg x 24) : rg (zX8_ofMeal μ x 1) 5 := by
  rw [ofMeal_n hx (by decide)]
  have h1 := (rg_nI hx).2
  have h2 := hx.2
  exact h.2.2.2.2.1 x.toNatClampNeg (by omega)
theorem inv_who {μ : Sg} (h : InvM μ) {x : Int32} (hx : rg x 24) (h1 : zX8_ofMeal μ x 0 = 1) : rg (zX8_ofMeal μ x 5) 8 := by
  rw [ofMeal_n hx (by decide)] at h1 ⊢
  have h2 := (rg_nI hx).2
  have h3 := hx.2
  exact h.2.2.2.2.2.1 x.toNatClampNeg (by omega) h1
theorem inv_at {μ : Sg} (h : InvM μ) {x : Int32} (hx : rg x 3) : rg (zX8_ofHelper μ x 1) 5 := by
  rw [ofHelper_n hx (by decide)]
  have h1 := (rg_nI hx).2
  have h2 := hx.2
  exact h.2.2.2.2.2.2 x.toNatClampNeg (by omega)
def zX8_isLocker (μ : Sg) (x1 : Int32) : Int32 := (zX8_in x1 0 ((μ 0 0) - 1))
theorem iwX8_isLocker_X8 : ∀ w ∈ wsX80, w ∈ wsX8_isLocker := fun _ h => List.mem_cons_of_mem _ (List.mem_append_right _ h)
theorem hdX8_isLocker : yX8_isLocker.cls = RX8 ∧ yX8_isLocker.cls ≠ "java/lang/invoke/MethodHandle" ∧ yX8_isLocker.cls ≠ "java/lang/invoke/VarHandle" ∧ (parseMethodDescriptor yX8_isLocker.desc).map (fun d => d.parameters.length) = some 1 := by decide +kernel
set_option maxHeartbeats 4000000 in
set_option maxRecDepth 100000 in
theorem mX8_isLocker (l : Launch) (D : va_G) (y : Y3) (mo : Nat → Nat) (μ : Sg) (x1 : Int32) : Met l yX8_isLocker wsX8_isLocker ({ frames := 1, cells := 0, slots := 0, locals := 22 } : Room) (va_Pc [.ref (mo 0), .int x1] (fun U => CK D y U ∧ MoH D y mo μ U.heap)) (vp_Si (fun r => r = zX8_isLocker μ x1)) 0 0 (fun _ => False) := by
  refine Met.ofW (cc := cX8_isLocker) (maxL := 2) (ret := (some .boolean)) (by decide) rfl ?_
  intro p e s m args below meth c s₁ B hml hv
  obtain ⟨rfl, hC, hMo⟩ := hv
  have hx := B.exec
  have hb := B.bytes
  have hr := B.returns
  have hts := atoms_spec (ws := wsX8_isLocker) B.pre
  have hown : s.vm.findClass RX8 = some m.cls := findClass_of_methodNamed B.named
  have hlocks := B.notSynchronized
  have hF := (⟨hx, hb, hml, hown, hts⟩ : CallFix p m c cX8_isLocker 2 s _ wsX8_isLocker RX8)
  have hl := lv_entry ([.ref (mo 0), .int x1]) (n := 2) (Nat.le_of_ble_eq_true rfl)
  rw [lg_entry_eq]
  generalize (lg_sl ([.ref (mo 0), .int x1]) ++ List.replicate (2 - (lg_sl ([.ref (mo 0), .int x1])).length) Slot.unset).toArray = ls at hl ⊢
  have hl : lv_has ls 2 [(0, .ref (mo 0)), (1, .int x1)] := hl
  refine lv_iload_n hx hb dX8_isLocker_0 rfl (lv_at hl 1 rfl) ?_
  refine lv_iconst (v := 0) hx hb dX8_isLocker_1 (by decide) ?_
  refine lv_aload_n hx hb dX8_isLocker_2 rfl (lv_at hl 0 rfl) ?_
  refine va_get (D := D) (ci := 8) (v := .ref (mo 1)) (C := RX8) (T := TX8) (N := 10) hx hb hts iwX8_isLocker_X8 hown hC.1 hMo 0 rfl rfl 0 (by decide) (hts (.fieldLink RX8 7 "MealLockersModel" "s" "[I") (List.mem_of_getElem? (i := 1) rfl)) (fun _ h9 => h9) rfl dX8_isLocker_3 ?_
  refine lv_iconst (v := 0) hx hb dX8_isLocker_6 (by decide) ?_
  refine va_iald hx hb hC.1 hMo 1 0 rfl rfl (vpl (by decide)) dX8_isLocker_7 ?_
  rw [cl_0]
  refine lv_iconst (v := 1) hx hb dX8_isLocker_8 (by decide) ?_
  refine lv_isub hx hb dX8_isLocker_9 ?_
  refine kX8_in hF (cwS 3 hts gX8_isLocker_X8_in rfl rfl rfl (by decide +kernel) ⟨Nat.le_of_ble_eq_true rfl, Nat.le_of_ble_eq_true rfl⟩) hC hl.1 (Nat.le_of_ble_eq_true rfl) dX8_isLocker_10 ⟨Nat.zero_le _, Nat.zero_le _⟩ ?_
  exact W.zret (v := (zX8_in x1 0 ((μ 0 0) - 1))) hx hb hr (nb_in _ _ _) (fun t ht hW => ⟨(zX8_in x1 0 ((μ 0 0) - 1)), rfl, rfl, ht⟩) (fun q hq => absurd hq List.not_mem_nil) dX8_isLocker_13
set_option maxHeartbeats 4000000 in
set_option maxRecDepth 100000 in
theorem kX8_isLocker {p : Program} {l : Launch} {e : Env} {R : Room} {s : State} {m : MethodId} {args : Array Value} {below : List Frame} {meth : Method} {c : Code} {H : Heap} {locs : List Loc} {cells slots : Nat} {Q : State → Prop} {cc : ByteArray} {nL : Nat} {Ts : List Cond} {own : String} {index pc : Nat} {ls : Array Slot} {rest : List Value} {D : va_G} {y : Y3} {mo : Nat → Nat} {μ : Sg} {x1 : Int32} (hF : CallFix p m c cc nL s args Ts own) (cw : CallW R s args own RX8 index yX8_isLocker cX8_isLocker 2 (some .boolean) wsX8_isLocker ({ frames := 1, cells := 0, slots := 0, locals := 22 } : Room) 0 0 1) (hC : CK D y s) (hMo : MoH D y mo μ H) (hsz : ls.size = nL) (hW : (rest.map fun v => v.category).sum ≤ 8) (hdg : decode cc pc = .ok (.invokevirtual index, 3)) (hf : cells ≤ R.cells ∧ slots ≤ R.slots)
    (k : W p l e R s m args below meth c H locs cells slots Q (F0 m (pc + 3) ls (.int (zX8_isLocker μ x1) :: rest))) : W p l e R s m args below meth c H locs cells slots Q (F0 m pc ls (.int x1 :: .ref (mo 0) :: rest)) := by
  refine vp_callSi (W.runV (As := [.int x1]) (rest := rest) hF (mX8_isLocker l D y mo μ x1) cw ⟨fun a U g mk q => by obtain ⟨q0, q1, q2⟩ := q; exact ⟨q0, q1.call g mk a, q2⟩, va_recv hC.1 hMo (ci := 8) (q0 := 0) rfl rfl, fun U hU hW => ⟨rfl, hC.warm hW, by rw [hU]; exact hMo⟩⟩ rfl rfl hsz rfl (lv_room hW) hdg ⟨hf.1, hf.2⟩) (fun r hr => ?_)
  subst hr
  exact k
def zX8_isMeal (μ : Sg) (x1 : Int32) : Int32 := (zX8_in x1 0 ((μ 0 1) - 1))
theorem iwX8_isMeal_X8 : ∀ w ∈ wsX80, w ∈ wsX8_isMeal := fun _ h => List.mem_cons_of_mem _ (List.mem_append_right _ h)
theorem hdX8_isMeal : yX8_isMeal.cls = RX8 ∧ yX8_isMeal.cls ≠ "java/lang/invoke/MethodHandle" ∧ yX8_isMeal.cls ≠ "java/lang/invoke/VarHandle" ∧ (parseMethodDescriptor yX8_isMeal.desc).map (fun d => d.parameters.length) = some 1 := by decide +kernel
set_option maxHeartbeats 4000000 in
set_option maxRecDepth 100000 in
theorem mX8_isMeal (l : Launch) (D : va_G) (y : Y3) (mo : Nat → Nat) (μ : Sg) (x1 : Int32) : Met l yX8_isMeal wsX8_isMeal ({ frames := 1, cells := 0, slots := 0, locals := 22 } : Room) (va_Pc [.ref (mo 0), .int x1] (fun U => CK D y U ∧ MoH D y mo μ U.heap)) (vp_Si (fun r => r = zX8_isMeal μ x1)) 0 0 (fun _ => False) := by
  refine Met.ofW (cc := cX8_isMeal) (maxL := 2) (ret := (some .boolean)) (by decide) rfl ?_
  intro p e s m args below meth c s₁ B hml hv
  obtain ⟨rfl, hC, hMo⟩ := hv
  have hx := B.exec
  have hb := B.bytes
  have hr := B.returns
  have hts := atoms_spec (ws := wsX8_isMeal) B.pre
  have hown : s.vm.findClass RX8 = some m.cls := findClass_of_methodNamed B.named
  have hlocks := B.notSynchronized
  have hF := (⟨hx, hb, hml, hown, hts⟩ : CallFix p m c cX8_isMeal 2 s _ wsX8_isMeal RX8)
  have hl := lv_entry ([.ref (mo 0), .int x1]) (n := 2) (Nat.le_of_ble_eq_true rfl)
  rw [lg_entry_eq]
  generalize (lg_sl ([.ref (mo 0), .int x1]) ++ List.replicate (2 - (lg_sl ([.ref (mo 0), .int x1])).length) Slot.unset).toArray = ls at hl ⊢
  have hl : lv_has ls 2 [(0, .ref (mo 0)), (1, .int x1)] := hl
  refine lv_iload_n hx hb dX8_isMeal_0 rfl (lv_at hl 1 rfl) ?_
  refine lv_iconst (v := 0) hx hb dX8_isMeal_1 (by decide) ?_
  refine lv_aload_n hx hb dX8_isMeal_2 rfl (lv_at hl 0 rfl) ?_
  refine va_get (D := D) (ci := 8) (v := .ref (mo 1)) (C := RX8) (T := TX8) (N := 10) hx hb hts iwX8_isMeal_X8 hown hC.1 hMo 0 rfl rfl 0 (by decide) (hts (.fieldLink RX8 7 "MealLockersModel" "s" "[I") (List.mem_of_getElem? (i := 1) rfl)) (fun _ h9 => h9) rfl dX8_isMeal_3 ?_
  refine lv_iconst (v := 1) hx hb dX8_isMeal_6 (by decide) ?_
  refine va_iald hx hb hC.1 hMo 1 0 rfl rfl (vpl (by decide)) dX8_isMeal_7 ?_
  rw [cl_1]
  refine lv_iconst (v := 1) hx hb dX8_isMeal_8 (by decide) ?_
  refine lv_isub hx hb dX8_isMeal_9 ?_
  refine kX8_in hF (cwS 3 hts gX8_isMeal_X8_in rfl rfl rfl (by decide +kernel) ⟨Nat.le_of_ble_eq_true rfl, Nat.le_of_ble_eq_true rfl⟩) hC hl.1 (Nat.le_of_ble_eq_true rfl) dX8_isMeal_10 ⟨Nat.zero_le _, Nat.zero_le _⟩ ?_
  exact W.zret (v := (zX8_in x1 0 ((μ 0 1) - 1))) hx hb hr (nb_in _ _ _) (fun t ht hW => ⟨(zX8_in x1 0 ((μ 0 1) - 1)), rfl, rfl, ht⟩) (fun q hq => absurd hq List.not_mem_nil) dX8_isMeal_13
set_option maxHeartbeats 4000000 in
set_option maxRecDepth 100000 in
theorem kX8_isMeal {p : Program} {l : Launch} {e : Env} {R : Room} {s : State} {m : MethodId} {args : Array Value} {below : List Frame} {meth : Method} {c : Code} {H : Heap} {locs : List Loc} {cells slots : Nat} {Q : State → Prop} {cc : ByteArray} {nL : Nat} {Ts : List Cond} {own : String} {index pc : Nat} {ls : Array Slot} {rest : List Value} {D : va_G} {y : Y3} {mo : Nat → Nat} {μ : Sg} {x1 : Int32} (hF : CallFix p m c cc nL s args Ts own) (cw : CallW R s args own RX8 index yX8_isMeal cX8_isMeal 2 (some .boolean) wsX8_isMeal ({ frames := 1, cells := 0, slots := 0, locals := 22 } : Room) 0 0 1) (hC : CK D y s) (hMo : MoH D y mo μ H) (hsz : ls.size = nL) (hW : (rest.map fun v => v.category).sum ≤ 8) (hdg : decode cc pc = .ok (.invokevirtual index, 3)) (hf : cells ≤ R.cells ∧ slots ≤ R.slots)
    (k : W p l e R s m args below meth c H locs cells slots Q (F0 m (pc + 3) ls (.int (zX8_isMeal μ x1) :: rest))) : W p l e R s m args below meth c H locs cells slots Q (F0 m pc ls (.int x1 :: .ref (mo 0) :: rest)) := by
  refine vp_callSi (W.runV (As := [.int x1]) (rest := rest) hF (mX8_isMeal l D y mo μ x1) cw ⟨fun a U g mk q => by obtain ⟨q0, q1, q2⟩ := q; exact ⟨q0, q1.call g mk a, q2⟩, va_recv hC.1 hMo (ci := 8) (q0 := 0) rfl rfl, fun U hU hW => ⟨rfl, hC.warm hW, by rw [hU]; exact hMo⟩⟩ rfl rfl hsz rfl (lv_room hW) hdg ⟨hf.1, hf.2⟩) (fun r hr => ?_)
  subst hr
  exact k
def zX8_isPerson (μ : Sg) (x1 : Int32) : Int32 := (zX8_in x1 0 ((μ 0 2) - 1))
theorem iwX8_isPerson_X8 : ∀ w ∈ wsX80, w ∈ wsX8_isPerson := fun _ h => List.mem_cons_of_mem _ (List.mem_append_right _ h)
theorem hdX8_isPerson : yX8_isPerson.cls = RX8 ∧ yX8_isPerson.cls ≠ "java/lang/invoke/MethodHandle" ∧ yX8_isPerson.cls ≠ "java/lang/invoke/VarHandle" ∧ (parseMethodDescriptor yX8_isPerson.desc).map (fun d => d.parameters.length) = some 1 := by decide +kernel
set_option maxHeartbeats 4000000 in
set_option maxRecDepth 100000 in
theorem mX8_isPerson (l : Launch) (D : va_G) (y : Y3) (mo : Nat → Nat) (μ : Sg) (x1 : Int32) : Met l yX8_isPerson wsX8_isPerson ({ frames := 1, cells := 0, slots := 0, locals := 22 } : Room) (va_Pc [.ref (mo 0), .int x1] (fun U => CK D y U ∧ MoH D y mo μ U.heap)) (vp_Si (fun r => r = zX8_isPerson μ x1)) 0 0 (fun _ => False) := by
  refine Met.ofW (cc := cX8_isPerson) (maxL := 2) (ret := (some .boolean)) (by decide) rfl ?_
  intro p e s m args below meth c s₁ B hml hv
  obtain ⟨rfl, hC, hMo⟩ := hv
  have hx := B.exec
  have hb := B.bytes
  have hr := B.returns
  have hts := atoms_spec (ws := wsX8_isPerson) B.pre
  have hown : s.vm.findClass RX8 = some m.cls := findClass_of_methodNamed B.named
  have hlocks := B.notSynchronized
  have hF := (⟨hx, hb, hml, hown, hts⟩ : CallFix p m c cX8_isPerson 2 s _ wsX8_isPerson RX8)
  have hl := lv_entry ([.ref (mo 0), .int x1]) (n := 2) (Nat.le_of_ble_eq_true rfl)
  rw [lg_entry_eq]
  generalize (lg_sl ([.ref (mo 0), .int x1]) ++ List.replicate (2 - (lg_sl ([.ref (mo 0), .int x1])).length) Slot.unset).toArray = ls at hl ⊢
  have hl : lv_has ls 2 [(0, .ref (mo 0)), (1, .int x1)] := hl
  refine lv_iload_n hx hb dX8_isPerson_0 rfl (lv_at hl 1 rfl) ?_
  refine lv_iconst (v := 0) hx hb dX8_isPerson_1 (by decide) ?_
  refine lv_aload_n hx hb dX8_isPerson_2 rfl (lv_at hl 0 rfl) ?_
  refine va_get (D := D) (ci := 8) (v := .ref (mo 1)) (C := RX8) (T := TX8) (N := 10) hx hb hts iwX8_isPerson_X8 hown hC.1 hMo 0 rfl rfl 0 (by decide) (hts (.fieldLink RX8 7 "MealLockersModel" "s" "[I") (List.mem_of_getElem? (i := 1) rfl)) (fun _ h9 => h9) rfl dX8_isPerson_3 ?_
  refine lv_iconst (v := 2) hx hb dX8_isPerson_6 (by decide) ?_
  refine va_iald hx hb hC.1 hMo 1 0 rfl rfl (vpl (by decide)) dX8_isPerson_7 ?_
  rw [cl_2]
  refine lv_iconst (v := 1) hx hb dX8_isPerson_8 (by decide) ?_
  refine lv_isub hx hb dX8_isPerson_9 ?_
  refine kX8_in hF (cwS 3 hts gX8_isPerson_X8_in rfl rfl rfl (by decide +kernel) ⟨Nat.le_of_ble_eq_true rfl, Nat.le_of_ble_eq_true rfl⟩) hC hl.1 (Nat.le_of_ble_eq_true rfl) dX8_isPerson_10 ⟨Nat.zero_le _, Nat.zero_le _⟩ ?_
  exact W.zret (v := (zX8_in x1 0 ((μ 0 2) - 1))) hx hb hr (nb_in _ _ _) (fun t ht hW => ⟨(zX8_in x1 0 ((μ 0 2) - 1)), rfl, rfl, ht⟩) (fun q hq => absurd hq List.not_mem_nil) dX8_isPerson_13
set_option maxHeartbeats 4000000 in
set_option maxRecDepth 100000 in
theorem kX8_isPerson {p : Program} {l : Launch} {e : Env} {R : Room} {s : State} {m : MethodId} {args : Array Value} {below : List Frame} {meth : Method} {c : Code} {H : Heap} {locs : List Loc} {cells slots : Nat} {Q : State → Prop} {cc : ByteArray} {nL : Nat} {Ts : List Cond} {own : String} {index pc : Nat} {ls : Array Slot} {rest : List Value} {D : va_G} {y : Y3} {mo : Nat → Nat} {μ : Sg} {x1 : Int32} (hF : CallFix p m c cc nL s args Ts own) (cw : CallW R s args own RX8 index yX8_isPerson cX8_isPerson 2 (some .boolean) wsX8_isPerson ({ frames := 1, cells := 0, slots := 0, locals := 22 } : Room) 0 0 1) (hC : CK D y s) (hMo : MoH D y mo μ H) (hsz : ls.size = nL) (hW : (rest.map fun v => v.category).sum ≤ 8) (hdg : decode cc pc = .ok (.invokevirtual index, 3)) (hf : cells ≤ R.cells ∧ slots ≤ R.slots)
    (k : W p l e R s m args below meth c H locs cells slots Q (F0 m (pc + 3) ls (.int (zX8_isPerson μ x1) :: rest))) : W p l e R s m args below meth c H locs cells slots Q (F0 m pc ls (.int x1 :: .ref (mo 0) :: rest)) := by
  refine vp_callSi (W.runV (As := [.int x1]) (rest := rest) hF (mX8_isPerson l D y mo μ x1) cw ⟨fun a U g mk q => by obtain ⟨q0, q1, q2⟩ := q; exact ⟨q0, q1.call g mk a, q2⟩, va_recv hC.1 hMo (ci := 8) (q0 := 0) rfl rfl, fun U hU hW => ⟨rfl, hC.warm hW, by rw [hU]; exact hMo⟩⟩ rfl rfl hsz rfl (lv_room hW) hdg ⟨hf.1, hf.2⟩) (fun r hr => ?_)
  subst hr
  exact k
def zX8_isHelper (μ : Sg) (x1 : Int32) : Int32 := (zX8_in x1 0 ((μ 0 3) - 1))
theorem iwX8_isHelper_X8 : ∀ w ∈ wsX80, w ∈ wsX8_isHelper := fun _ h => List.mem_cons_of_mem _ (List.mem_append_right _ h)
theorem hdX8_isHelper : yX8_isHelper.cls = RX8 ∧ yX8_isHelper.cls ≠ "java/lang/invoke/MethodHandle" ∧ yX8_isHelper.cls ≠ "java/lang/invoke/VarHandle" ∧ (parseMethodDescriptor yX8_isHelper.desc).map (fun d => d.parameters.length) = some 1 := by decide +kernel
set_option maxHeartbeats 4000000 in
set_option maxRecDepth 100000 in
theorem mX8_isHelper (l : Launch) (D : va_G) (y : Y3) (mo : Nat → Nat) (μ : Sg) (x1 : Int32) : Met l yX8_isHelper wsX8_isHelper ({ frames := 1, cells := 0, slots := 0, locals := 22 } : Room) (va_Pc [.ref (mo 0), .int x1] (fun U => CK D y U ∧ MoH D y mo μ U.heap)) (vp_Si (fun r => r = zX8_isHelper μ x1)) 0 0 (fun _ => False) := by
  refine Met.ofW (cc := cX8_isHelper) (maxL := 2) (ret := (some .boolean)) (by decide) rfl ?_
  intro p e s m args below meth c s₁ B hml hv
  obtain ⟨rfl, hC, hMo⟩ := hv
  have hx := B.exec
  have hb := B.bytes
  have hr := B.returns
  have hts := atoms_spec (ws := wsX8_isHelper) B.pre
  have hown : s.vm.findClass RX8 = some m.cls := findClass_of_methodNamed B.named
  have hlocks := B.notSynchronized
  have hF := (⟨hx, hb, hml, hown, hts⟩ : CallFix p m c cX8_isHelper 2 s _ wsX8_isHelper RX8)
  have hl := lv_entry ([.ref (mo 0), .int x1]) (n := 2) (Nat.le_of_ble_eq_true rfl)
  rw [lg_entry_eq]
  generalize (lg_sl ([.ref (mo 0), .int x1]) ++ List.replicate (2 - (lg_sl ([.ref (mo 0), .int x1])).length) Slot.unset).toArray = ls at hl ⊢
  have hl : lv_has ls 2 [(0, .ref (mo 0)), (1, .int x1)] := hl
  refine lv_iload_n hx hb dX8_isHelper_0 rfl (lv_at hl 1 rfl) ?_
  refine lv_iconst (v := 0) hx hb dX8_isHelper_1 (by decide) ?_
  refine lv_aload_n hx hb dX8_isHelper_2 rfl (lv_at hl 0 rfl) ?_
  refine va_get (D := D) (ci := 8) (v := .ref (mo 1)) (C := RX8) (T := TX8) (N := 10) hx hb hts iwX8_isHelper_X8 hown hC.1 hMo 0 rfl rfl 0 (by decide) (hts (.fieldLink RX8 7 "MealLockersModel" "s" "[I") (List.mem_of_getElem? (i := 1) rfl)) (fun _ h9 => h9) rfl dX8_isHelper_3 ?_
  refine lv_iconst (v := 3) hx hb dX8_isHelper_6 (by decide) ?_
  refine va_iald hx hb hC.1 hMo 1 0 rfl rfl (vpl (by decide)) dX8_isHelper_7 ?_
  rw [cl_3]
  refine lv_iconst (v := 1) hx hb dX8_isHelper_8 (by decide) ?_
  refine lv_isub hx hb dX8_isHelper_9 ?_
  refine kX8_in hF (cwS 3 hts gX8_isHelper_X8_in rfl rfl rfl (by decide +kernel) ⟨Nat.le_of_ble_eq_true rfl, Nat.le_of_ble_eq_true rfl⟩) hC hl.1 (Nat.le_of_ble_eq_true rfl) dX8_isHelper_10 ⟨Nat.zero_le _, Nat.zero_le _⟩ ?_
  exact W.zret (v := (zX8_in x1 0 ((μ 0 3) - 1))) hx hb hr (nb_in _ _ _) (fun t ht hW => ⟨(zX8_in x1 0 ((μ 0 3) - 1)), rfl, rfl, ht⟩) (fun q hq => absurd hq List.not_mem_nil) dX8_isHelper_13
set_option maxHeartbeats 4000000 in
set_option maxRecDepth 100000 in
theorem kX8_isHelper {p : Program} {l : Launch} {e : Env} {R : Room} {s : State} {m : MethodId} {args : Array Value} {below : List Frame} {meth : Method} {c : Code} {H : Heap} {locs : List Loc} {cells slots : Nat} {Q : State → Prop} {cc : ByteArray} {nL : Nat} {Ts : List Cond} {own : String} {index pc : Nat} {ls : Array Slot} {rest : List Value} {D : va_G} {y : Y3} {mo : Nat → Nat} {μ : Sg} {x1 : Int32} (hF : CallFix p m c cc nL s args Ts own) (cw : CallW R s args own RX8 index yX8_isHelper cX8_isHelper 2 (some .boolean) wsX8_isHelper ({ frames := 1, cells := 0, slots := 0, locals := 22 } : Room) 0 0 1) (hC : CK D y s) (hMo : MoH D y mo μ H) (hsz : ls.size = nL) (hW : (rest.map fun v => v.category).sum ≤ 8) (hdg : decode cc pc = .ok (.invokevirtual index, 3)) (hf : cells ≤ R.cells ∧ slots ≤ R.slots)
    (k : W p l e R s m args below meth c H locs cells slots Q (F0 m (pc + 3) ls (.int (zX8_isHelper μ x1) :: rest))) : W p l e R s m args below meth c H locs cells slots Q (F0 m pc ls (.int x1 :: .ref (mo 0) :: rest)) := by
  refine vp_callSi (W.runV (As := [.int x1]) (rest := rest) hF (mX8_isHelper l D y mo μ x1) cw ⟨fun a U g mk q => by obtain ⟨q0, q1, q2⟩ := q; exact ⟨q0, q1.call g mk a, q2⟩, va_recv hC.1 hMo (ci := 8) (q0 := 0) rfl rfl, fun U hU hW => ⟨rfl, hC.warm hW, by rw [hU]; exact hMo⟩⟩ rfl rfl hsz rfl (lv_room hW) hdg ⟨hf.1, hf.2⟩) (fun r hr => ?_)
  subst hr
  exact k
theorem rg_isL {μ : Sg} (h : InvM μ) {x : Int32} (hc : ¬ zX8_isLocker μ x = 0) : rg x 5 := by
  have hr : rg (μ 0 0) 6 := h.1
  have h1 := rg_in hc
  have e : (μ 0 0 - 1).toInt = (μ 0 0).toInt - 1 := by
    rw [Int32.toInt_sub, show (1 : Int32).toInt = 1 from rfl]
    exact Int.bmod_eq_of_le (by omega) (by omega)
  rw [e] at h1
  exact ⟨h1.1, by omega⟩
theorem rg_isM {μ : Sg} (h : InvM μ) {x : Int32} (hc : ¬ zX8_isMeal μ x = 0) : rg x 24 := by
  have hr : rg (μ 0 1) 25 := h.2.1
  have h1 := rg_in hc
  have e : (μ 0 1 - 1).toInt = (μ 0 1).toInt - 1 := by
    rw [Int32.toInt_sub, show (1 : Int32).toInt = 1 from rfl]
    exact Int.bmod_eq_of_le (by omega) (by omega)
  rw [e] at h1
  exact ⟨h1.1, by omega⟩
theorem rg_isP {μ : Sg} (h : InvM μ) {x : Int32} (hc : ¬ zX8_isPerson μ x = 0) : rg x 8 := by
  have hr : rg (μ 0 2) 9 := h.2.2.1
  have h1 := rg_in hc
  have e : (μ 0 2 - 1).toInt = (μ 0 2).toInt - 1 := by
    rw [Int32.toInt_sub, show (1 : Int32).toInt = 1 from rfl]
    exact Int.bmod_eq_of_le (by omega) (by omega)
  rw [e] at h1
  exact ⟨h1.1, by omega⟩
theorem rg_isH {μ : Sg} (h : InvM μ) {x : Int32} (hc : ¬ zX8_isHelper μ x = 0) : rg x 3 := by
  have hr : rg (μ 0 3) 4 := h.2.2.2.1
  have h1 := rg_in hc
  have e : (μ 0 3 - 1).toInt = (μ 0 3).toInt - 1 := by
    rw [Int32.toInt_sub, show (1 : Int32).toInt = 1 from rfl]
    exact Int.bmod_eq_of_le (by omega) (by omega)
  rw [e] at h1
  exact ⟨h1.1, by omega⟩
