/-! READS AND WRITES BY PLAIN NUMBERS -/
def colN (k : Nat) : Nat := match k with
  | 0 => 9
  | 1 => 8
  | 2 => 6
  | 3 => 5
  | _ => 1
theorem colN_eq : ∀ k : Nat, colK k = nI (colN k)
  | 0 => rfl
  | 1 => rfl
  | 2 => rfl
  | 3 => rfl
  | _ + 4 => rfl
def sgU (σ : Sg) (k i : Nat) (v : Int32) : Sg := sgC σ k (upd (σ k) i v)
theorem sgU_eq {σ : Sg} {k i : Nat} {v : Int32} : sgU σ k i v k i = v := by
  show (if k = k then upd (σ k) i v else σ k) i = v
  rw [if_pos rfl]
  exact pk_us
theorem sgU_ne {σ : Sg} {k i k2 i2 : Nat} {v : Int32} (h : k2 ≠ k ∨ i2 ≠ i) : sgU σ k i v k2 i2 = σ k2 i2 := by
  show (if k2 = k then upd (σ k) i v else σ k2) i2 = σ k2 i2
  by_cases e : k2 = k
  · subst e
    rw [if_pos rfl]
    exact pk_un (h.elim (fun z => absurd rfl z) id)
  · rw [if_neg e]
theorem sgU_row {σ : Sg} {k i k2 : Nat} {v : Int32} (h : k2 ≠ k) : sgU σ k i v k2 = σ k2 := if_neg h
theorem sgR_eq {σ : Sg} {k : Nat} {v : Int32} : sgR σ k v = sgU σ 5 k v := rfl
theorem sgU_comm {σ : Sg} {k i k2 i2 : Nat} {v v2 : Int32} (h : k2 ≠ k ∨ i2 ≠ i) : sgU (sgU σ k i v) k2 i2 v2 = sgU (sgU σ k2 i2 v2) k i v := by
  funext a b
  by_cases h1 : a = k ∧ b = i
  · obtain ⟨rfl, rfl⟩ := h1
    rw [sgU_ne (by omega), sgU_eq, sgU_eq]
  · by_cases h2 : a = k2 ∧ b = i2
    · obtain ⟨rfl, rfl⟩ := h2
      rw [sgU_eq, sgU_ne (by omega), sgU_eq]
    · rw [sgU_ne (by omega), sgU_ne (by omega), sgU_ne (by omega), sgU_ne (by omega)]
theorem sgU_id {σ : Sg} {k i : Nat} {v : Int32} (h : σ k i = v) : sgU σ k i v = σ := by
  funext a b
  by_cases h1 : a = k ∧ b = i
  · obtain ⟨rfl, rfl⟩ := h1
    rw [sgU_eq, h]
  · rw [sgU_ne (by omega)]
theorem upd_comm {s : Nat → Int32} {i j : Nat} {a b : Int32} (h : j ≠ i) : upd (upd s i a) j b = upd (upd s j b) i a := by
  funext k
  by_cases h1 : k = i
  · subst h1
    rw [pk_un (fun z => h z.symm), pk_us, pk_us]
  · by_cases h2 : k = j
    · subst h2
      rw [pk_us, pk_un h1, pk_us]
    · rw [pk_un h2, pk_un h1, pk_un h1, pk_un h2]
def mW (μ : Sg) (i : Nat) (v : Int32) : Sg := mU μ 0 (upd (μ 0) i v)
theorem mW_0 {μ : Sg} {i : Nat} {v : Int32} : mW μ i v 0 = upd (μ 0) i v := by
  show (if (0 : Nat) = 0 then upd (μ 0) i v else μ 0) = _
  rw [if_pos rfl]
theorem mW_k {μ : Sg} {i k : Nat} {v : Int32} (h : k ≠ 0) : mW μ i v k = μ k := if_neg h
theorem zatt_n {σ : Sg} {k m c : Nat} (h : colN k * m + c < lenK k) : zatt σ k (nI m) (nI c) = σ k (colN k * m + c) := by
  have hl := lenK_lt k
  have e : nI m * colK k + nI c = nI (colN k * m + c) := by rw [colN_eq, pk_mul, nI_add, Nat.mul_comm m]
  unfold zatt zX5_at
  rw [e, if_neg (nI_pos (by omega)), if_neg (show ¬ Int32.ofNat (lenK k) ≤ nI (colN k * m + c) from nI_ge h hl), nI_clamp (by omega)]
theorem zsto_n {σ : Sg} {k m c : Nat} {v : Int32} (h : colN k * m + c < lenK k) : zsto σ k (nI m) (nI c) v = sgU σ k (colN k * m + c) v := by
  have hl := lenK_lt k
  have e : nI m * colK k + nI c = nI (colN k * m + c) := by rw [colN_eq, pk_mul, nI_add, Nat.mul_comm m]
  unfold zsto zX5_store
  rw [e, if_neg (nI_pos (by omega)), if_neg (show ¬ Int32.ofNat (lenK k) ≤ nI (colN k * m + c) from nI_ge h hl), nI_clamp (by omega)]
  rfl
theorem zrai_n {σ : Sg} {k m c : Nat} (h : colN k * m + c < lenK k) : zrai σ k (nI m) (nI c) = sgU σ k (colN k * m + c) (σ k (colN k * m + c) + 1) := by
  have h1 : zrai σ k (nI m) (nI c) = zsto σ k (nI m) (nI c) (zatt σ k (nI m) (nI c) + 1) := rfl
  rw [h1, zsto_n h, zatt_n h]
theorem oidx {b c m w N : Nat} (h : b + c * m + w < N) (hN : N < 2 ^ 31) : ((nI b + nI c * nI m) + nI w).toNatClampNeg = b + c * m + w := by
  rw [pk_mul, nI_add, nI_add, nI_clamp (by omega)]
theorem cL0 {σ : Sg} {l : Nat} (h : l < 5) : zatt σ 0 (nI l) 0 = σ 0 (9 * l) := zatt_n (k := 0) (m := l) (c := 0) (by show 9 * l + 0 < _; show _ < 45; omega)
theorem wL0 {σ : Sg} {l : Nat} {z : Int32} (h : l < 5) : zsto σ 0 (nI l) 0 z = sgU σ 0 (9 * l) z := zsto_n (k := 0) (m := l) (c := 0) (by show 9 * l + 0 < _; show _ < 45; omega)
theorem iL0 {σ : Sg} {l : Nat} (h : l < 5) : zrai σ 0 (nI l) 0 = sgU σ 0 (9 * l) (σ 0 (9 * l) + 1) := zrai_n (k := 0) (m := l) (c := 0) (by show 9 * l + 0 < _; show _ < 45; omega)
theorem cL1 {σ : Sg} {l : Nat} (h : l < 5) : zatt σ 0 (nI l) 1 = σ 0 (9 * l + 1) := zatt_n (k := 0) (m := l) (c := 1) (by show 9 * l + 1 < _; show _ < 45; omega)
theorem wL1 {σ : Sg} {l : Nat} {z : Int32} (h : l < 5) : zsto σ 0 (nI l) 1 z = sgU σ 0 (9 * l + 1) z := zsto_n (k := 0) (m := l) (c := 1) (by show 9 * l + 1 < _; show _ < 45; omega)
theorem iL1 {σ : Sg} {l : Nat} (h : l < 5) : zrai σ 0 (nI l) 1 = sgU σ 0 (9 * l + 1) (σ 0 (9 * l + 1) + 1) := zrai_n (k := 0) (m := l) (c := 1) (by show 9 * l + 1 < _; show _ < 45; omega)
theorem cL2 {σ : Sg} {l : Nat} (h : l < 5) : zatt σ 0 (nI l) 2 = σ 0 (9 * l + 2) := zatt_n (k := 0) (m := l) (c := 2) (by show 9 * l + 2 < _; show _ < 45; omega)
theorem wL2 {σ : Sg} {l : Nat} {z : Int32} (h : l < 5) : zsto σ 0 (nI l) 2 z = sgU σ 0 (9 * l + 2) z := zsto_n (k := 0) (m := l) (c := 2) (by show 9 * l + 2 < _; show _ < 45; omega)
theorem iL2 {σ : Sg} {l : Nat} (h : l < 5) : zrai σ 0 (nI l) 2 = sgU σ 0 (9 * l + 2) (σ 0 (9 * l + 2) + 1) := zrai_n (k := 0) (m := l) (c := 2) (by show 9 * l + 2 < _; show _ < 45; omega)
theorem cL3 {σ : Sg} {l : Nat} (h : l < 5) : zatt σ 0 (nI l) 3 = σ 0 (9 * l + 3) := zatt_n (k := 0) (m := l) (c := 3) (by show 9 * l + 3 < _; show _ < 45; omega)
theorem wL3 {σ : Sg} {l : Nat} {z : Int32} (h : l < 5) : zsto σ 0 (nI l) 3 z = sgU σ 0 (9 * l + 3) z := zsto_n (k := 0) (m := l) (c := 3) (by show 9 * l + 3 < _; show _ < 45; omega)
theorem iL3 {σ : Sg} {l : Nat} (h : l < 5) : zrai σ 0 (nI l) 3 = sgU σ 0 (9 * l + 3) (σ 0 (9 * l + 3) + 1) := zrai_n (k := 0) (m := l) (c := 3) (by show 9 * l + 3 < _; show _ < 45; omega)
theorem cL4 {σ : Sg} {l : Nat} (h : l < 5) : zatt σ 0 (nI l) 4 = σ 0 (9 * l + 4) := zatt_n (k := 0) (m := l) (c := 4) (by show 9 * l + 4 < _; show _ < 45; omega)
theorem wL4 {σ : Sg} {l : Nat} {z : Int32} (h : l < 5) : zsto σ 0 (nI l) 4 z = sgU σ 0 (9 * l + 4) z := zsto_n (k := 0) (m := l) (c := 4) (by show 9 * l + 4 < _; show _ < 45; omega)
theorem iL4 {σ : Sg} {l : Nat} (h : l < 5) : zrai σ 0 (nI l) 4 = sgU σ 0 (9 * l + 4) (σ 0 (9 * l + 4) + 1) := zrai_n (k := 0) (m := l) (c := 4) (by show 9 * l + 4 < _; show _ < 45; omega)
theorem cL5 {σ : Sg} {l : Nat} (h : l < 5) : zatt σ 0 (nI l) 5 = σ 0 (9 * l + 5) := zatt_n (k := 0) (m := l) (c := 5) (by show 9 * l + 5 < _; show _ < 45; omega)
theorem wL5 {σ : Sg} {l : Nat} {z : Int32} (h : l < 5) : zsto σ 0 (nI l) 5 z = sgU σ 0 (9 * l + 5) z := zsto_n (k := 0) (m := l) (c := 5) (by show 9 * l + 5 < _; show _ < 45; omega)
theorem iL5 {σ : Sg} {l : Nat} (h : l < 5) : zrai σ 0 (nI l) 5 = sgU σ 0 (9 * l + 5) (σ 0 (9 * l + 5) + 1) := zrai_n (k := 0) (m := l) (c := 5) (by show 9 * l + 5 < _; show _ < 45; omega)
theorem cL6 {σ : Sg} {l : Nat} (h : l < 5) : zatt σ 0 (nI l) 6 = σ 0 (9 * l + 6) := zatt_n (k := 0) (m := l) (c := 6) (by show 9 * l + 6 < _; show _ < 45; omega)
theorem wL6 {σ : Sg} {l : Nat} {z : Int32} (h : l < 5) : zsto σ 0 (nI l) 6 z = sgU σ 0 (9 * l + 6) z := zsto_n (k := 0) (m := l) (c := 6) (by show 9 * l + 6 < _; show _ < 45; omega)
theorem iL6 {σ : Sg} {l : Nat} (h : l < 5) : zrai σ 0 (nI l) 6 = sgU σ 0 (9 * l + 6) (σ 0 (9 * l + 6) + 1) := zrai_n (k := 0) (m := l) (c := 6) (by show 9 * l + 6 < _; show _ < 45; omega)
theorem cL7 {σ : Sg} {l : Nat} (h : l < 5) : zatt σ 0 (nI l) 7 = σ 0 (9 * l + 7) := zatt_n (k := 0) (m := l) (c := 7) (by show 9 * l + 7 < _; show _ < 45; omega)
theorem wL7 {σ : Sg} {l : Nat} {z : Int32} (h : l < 5) : zsto σ 0 (nI l) 7 z = sgU σ 0 (9 * l + 7) z := zsto_n (k := 0) (m := l) (c := 7) (by show 9 * l + 7 < _; show _ < 45; omega)
theorem iL7 {σ : Sg} {l : Nat} (h : l < 5) : zrai σ 0 (nI l) 7 = sgU σ 0 (9 * l + 7) (σ 0 (9 * l + 7) + 1) := zrai_n (k := 0) (m := l) (c := 7) (by show 9 * l + 7 < _; show _ < 45; omega)
theorem cL8 {σ : Sg} {l : Nat} (h : l < 5) : zatt σ 0 (nI l) 8 = σ 0 (9 * l + 8) := zatt_n (k := 0) (m := l) (c := 8) (by show 9 * l + 8 < _; show _ < 45; omega)
theorem wL8 {σ : Sg} {l : Nat} {z : Int32} (h : l < 5) : zsto σ 0 (nI l) 8 z = sgU σ 0 (9 * l + 8) z := zsto_n (k := 0) (m := l) (c := 8) (by show 9 * l + 8 < _; show _ < 45; omega)
theorem iL8 {σ : Sg} {l : Nat} (h : l < 5) : zrai σ 0 (nI l) 8 = sgU σ 0 (9 * l + 8) (σ 0 (9 * l + 8) + 1) := zrai_n (k := 0) (m := l) (c := 8) (by show 9 * l + 8 < _; show _ < 45; omega)
theorem cM0 {σ : Sg} {m : Nat} (h : m < 24) : zatt σ 1 (nI m) 0 = σ 1 (8 * m) := zatt_n (k := 1) (m := m) (c := 0) (by show 8 * m + 0 < _; show _ < 192; omega)
theorem wM0 {σ : Sg} {m : Nat} {z : Int32} (h : m < 24) : zsto σ 1 (nI m) 0 z = sgU σ 1 (8 * m) z := zsto_n (k := 1) (m := m) (c := 0) (by show 8 * m + 0 < _; show _ < 192; omega)
theorem iM0 {σ : Sg} {m : Nat} (h : m < 24) : zrai σ 1 (nI m) 0 = sgU σ 1 (8 * m) (σ 1 (8 * m) + 1) := zrai_n (k := 1) (m := m) (c := 0) (by show 8 * m + 0 < _; show _ < 192; omega)
theorem cM1 {σ : Sg} {m : Nat} (h : m < 24) : zatt σ 1 (nI m) 1 = σ 1 (8 * m + 1) := zatt_n (k := 1) (m := m) (c := 1) (by show 8 * m + 1 < _; show _ < 192; omega)
theorem wM1 {σ : Sg} {m : Nat} {z : Int32} (h : m < 24) : zsto σ 1 (nI m) 1 z = sgU σ 1 (8 * m + 1) z := zsto_n (k := 1) (m := m) (c := 1) (by show 8 * m + 1 < _; show _ < 192; omega)
theorem iM1 {σ : Sg} {m : Nat} (h : m < 24) : zrai σ 1 (nI m) 1 = sgU σ 1 (8 * m + 1) (σ 1 (8 * m + 1) + 1) := zrai_n (k := 1) (m := m) (c := 1) (by show 8 * m + 1 < _; show _ < 192; omega)
theorem cM2 {σ : Sg} {m : Nat} (h : m < 24) : zatt σ 1 (nI m) 2 = σ 1 (8 * m + 2) := zatt_n (k := 1) (m := m) (c := 2) (by show 8 * m + 2 < _; show _ < 192; omega)
theorem wM2 {σ : Sg} {m : Nat} {z : Int32} (h : m < 24) : zsto σ 1 (nI m) 2 z = sgU σ 1 (8 * m + 2) z := zsto_n (k := 1) (m := m) (c := 2) (by show 8 * m + 2 < _; show _ < 192; omega)
theorem iM2 {σ : Sg} {m : Nat} (h : m < 24) : zrai σ 1 (nI m) 2 = sgU σ 1 (8 * m + 2) (σ 1 (8 * m + 2) + 1) := zrai_n (k := 1) (m := m) (c := 2) (by show 8 * m + 2 < _; show _ < 192; omega)
theorem cM3 {σ : Sg} {m : Nat} (h : m < 24) : zatt σ 1 (nI m) 3 = σ 1 (8 * m + 3) := zatt_n (k := 1) (m := m) (c := 3) (by show 8 * m + 3 < _; show _ < 192; omega)
theorem wM3 {σ : Sg} {m : Nat} {z : Int32} (h : m < 24) : zsto σ 1 (nI m) 3 z = sgU σ 1 (8 * m + 3) z := zsto_n (k := 1) (m := m) (c := 3) (by show 8 * m + 3 < _; show _ < 192; omega)
theorem iM3 {σ : Sg} {m : Nat} (h : m < 24) : zrai σ 1 (nI m) 3 = sgU σ 1 (8 * m + 3) (σ 1 (8 * m + 3) + 1) := zrai_n (k := 1) (m := m) (c := 3) (by show 8 * m + 3 < _; show _ < 192; omega)
theorem cM4 {σ : Sg} {m : Nat} (h : m < 24) : zatt σ 1 (nI m) 4 = σ 1 (8 * m + 4) := zatt_n (k := 1) (m := m) (c := 4) (by show 8 * m + 4 < _; show _ < 192; omega)
theorem wM4 {σ : Sg} {m : Nat} {z : Int32} (h : m < 24) : zsto σ 1 (nI m) 4 z = sgU σ 1 (8 * m + 4) z := zsto_n (k := 1) (m := m) (c := 4) (by show 8 * m + 4 < _; show _ < 192; omega)
theorem iM4 {σ : Sg} {m : Nat} (h : m < 24) : zrai σ 1 (nI m) 4 = sgU σ 1 (8 * m + 4) (σ 1 (8 * m + 4) + 1) := zrai_n (k := 1) (m := m) (c := 4) (by show 8 * m + 4 < _; show _ < 192; omega)
theorem cM5 {σ : Sg} {m : Nat} (h : m < 24) : zatt σ 1 (nI m) 5 = σ 1 (8 * m + 5) := zatt_n (k := 1) (m := m) (c := 5) (by show 8 * m + 5 < _; show _ < 192; omega)
theorem wM5 {σ : Sg} {m : Nat} {z : Int32} (h : m < 24) : zsto σ 1 (nI m) 5 z = sgU σ 1 (8 * m + 5) z := zsto_n (k := 1) (m := m) (c := 5) (by show 8 * m + 5 < _; show _ < 192; omega)
theorem iM5 {σ : Sg} {m : Nat} (h : m < 24) : zrai σ 1 (nI m) 5 = sgU σ 1 (8 * m + 5) (σ 1 (8 * m + 5) + 1) := zrai_n (k := 1) (m := m) (c := 5) (by show 8 * m + 5 < _; show _ < 192; omega)
theorem cM6 {σ : Sg} {m : Nat} (h : m < 24) : zatt σ 1 (nI m) 6 = σ 1 (8 * m + 6) := zatt_n (k := 1) (m := m) (c := 6) (by show 8 * m + 6 < _; show _ < 192; omega)
theorem wM6 {σ : Sg} {m : Nat} {z : Int32} (h : m < 24) : zsto σ 1 (nI m) 6 z = sgU σ 1 (8 * m + 6) z := zsto_n (k := 1) (m := m) (c := 6) (by show 8 * m + 6 < _; show _ < 192; omega)
theorem iM6 {σ : Sg} {m : Nat} (h : m < 24) : zrai σ 1 (nI m) 6 = sgU σ 1 (8 * m + 6) (σ 1 (8 * m + 6) + 1) := zrai_n (k := 1) (m := m) (c := 6) (by show 8 * m + 6 < _; show _ < 192; omega)
theorem cM7 {σ : Sg} {m : Nat} (h : m < 24) : zatt σ 1 (nI m) 7 = σ 1 (8 * m + 7) := zatt_n (k := 1) (m := m) (c := 7) (by show 8 * m + 7 < _; show _ < 192; omega)
theorem wM7 {σ : Sg} {m : Nat} {z : Int32} (h : m < 24) : zsto σ 1 (nI m) 7 z = sgU σ 1 (8 * m + 7) z := zsto_n (k := 1) (m := m) (c := 7) (by show 8 * m + 7 < _; show _ < 192; omega)
theorem iM7 {σ : Sg} {m : Nat} (h : m < 24) : zrai σ 1 (nI m) 7 = sgU σ 1 (8 * m + 7) (σ 1 (8 * m + 7) + 1) := zrai_n (k := 1) (m := m) (c := 7) (by show 8 * m + 7 < _; show _ < 192; omega)
theorem cP0 {σ : Sg} {p : Nat} (h : p < 8) : zatt σ 2 (nI p) 0 = σ 2 (6 * p) := zatt_n (k := 2) (m := p) (c := 0) (by show 6 * p + 0 < _; show _ < 48; omega)
theorem wP0 {σ : Sg} {p : Nat} {z : Int32} (h : p < 8) : zsto σ 2 (nI p) 0 z = sgU σ 2 (6 * p) z := zsto_n (k := 2) (m := p) (c := 0) (by show 6 * p + 0 < _; show _ < 48; omega)
theorem iP0 {σ : Sg} {p : Nat} (h : p < 8) : zrai σ 2 (nI p) 0 = sgU σ 2 (6 * p) (σ 2 (6 * p) + 1) := zrai_n (k := 2) (m := p) (c := 0) (by show 6 * p + 0 < _; show _ < 48; omega)
theorem cP1 {σ : Sg} {p : Nat} (h : p < 8) : zatt σ 2 (nI p) 1 = σ 2 (6 * p + 1) := zatt_n (k := 2) (m := p) (c := 1) (by show 6 * p + 1 < _; show _ < 48; omega)
theorem wP1 {σ : Sg} {p : Nat} {z : Int32} (h : p < 8) : zsto σ 2 (nI p) 1 z = sgU σ 2 (6 * p + 1) z := zsto_n (k := 2) (m := p) (c := 1) (by show 6 * p + 1 < _; show _ < 48; omega)
theorem iP1 {σ : Sg} {p : Nat} (h : p < 8) : zrai σ 2 (nI p) 1 = sgU σ 2 (6 * p + 1) (σ 2 (6 * p + 1) + 1) := zrai_n (k := 2) (m := p) (c := 1) (by show 6 * p + 1 < _; show _ < 48; omega)
theorem cP2 {σ : Sg} {p : Nat} (h : p < 8) : zatt σ 2 (nI p) 2 = σ 2 (6 * p + 2) := zatt_n (k := 2) (m := p) (c := 2) (by show 6 * p + 2 < _; show _ < 48; omega)
theorem wP2 {σ : Sg} {p : Nat} {z : Int32} (h : p < 8) : zsto σ 2 (nI p) 2 z = sgU σ 2 (6 * p + 2) z := zsto_n (k := 2) (m := p) (c := 2) (by show 6 * p + 2 < _; show _ < 48; omega)
theorem iP2 {σ : Sg} {p : Nat} (h : p < 8) : zrai σ 2 (nI p) 2 = sgU σ 2 (6 * p + 2) (σ 2 (6 * p + 2) + 1) := zrai_n (k := 2) (m := p) (c := 2) (by show 6 * p + 2 < _; show _ < 48; omega)
theorem cP3 {σ : Sg} {p : Nat} (h : p < 8) : zatt σ 2 (nI p) 3 = σ 2 (6 * p + 3) := zatt_n (k := 2) (m := p) (c := 3) (by show 6 * p + 3 < _; show _ < 48; omega)
theorem wP3 {σ : Sg} {p : Nat} {z : Int32} (h : p < 8) : zsto σ 2 (nI p) 3 z = sgU σ 2 (6 * p + 3) z := zsto_n (k := 2) (m := p) (c := 3) (by show 6 * p + 3 < _; show _ < 48; omega)
theorem iP3 {σ : Sg} {p : Nat} (h : p < 8) : zrai σ 2 (nI p) 3 = sgU σ 2 (6 * p + 3) (σ 2 (6 * p + 3) + 1) := zrai_n (k := 2) (m := p) (c := 3) (by show 6 * p + 3 < _; show _ < 48; omega)
theorem cP4 {σ : Sg} {p : Nat} (h : p < 8) : zatt σ 2 (nI p) 4 = σ 2 (6 * p + 4) := zatt_n (k := 2) (m := p) (c := 4) (by show 6 * p + 4 < _; show _ < 48; omega)
theorem wP4 {σ : Sg} {p : Nat} {z : Int32} (h : p < 8) : zsto σ 2 (nI p) 4 z = sgU σ 2 (6 * p + 4) z := zsto_n (k := 2) (m := p) (c := 4) (by show 6 * p + 4 < _; show _ < 48; omega)
theorem iP4 {σ : Sg} {p : Nat} (h : p < 8) : zrai σ 2 (nI p) 4 = sgU σ 2 (6 * p + 4) (σ 2 (6 * p + 4) + 1) := zrai_n (k := 2) (m := p) (c := 4) (by show 6 * p + 4 < _; show _ < 48; omega)
theorem cP5 {σ : Sg} {p : Nat} (h : p < 8) : zatt σ 2 (nI p) 5 = σ 2 (6 * p + 5) := zatt_n (k := 2) (m := p) (c := 5) (by show 6 * p + 5 < _; show _ < 48; omega)
theorem wP5 {σ : Sg} {p : Nat} {z : Int32} (h : p < 8) : zsto σ 2 (nI p) 5 z = sgU σ 2 (6 * p + 5) z := zsto_n (k := 2) (m := p) (c := 5) (by show 6 * p + 5 < _; show _ < 48; omega)
theorem iP5 {σ : Sg} {p : Nat} (h : p < 8) : zrai σ 2 (nI p) 5 = sgU σ 2 (6 * p + 5) (σ 2 (6 * p + 5) + 1) := zrai_n (k := 2) (m := p) (c := 5) (by show 6 * p + 5 < _; show _ < 48; omega)
theorem cV0 {σ : Sg} {v : Nat} (h : v < 3) : zatt σ 3 (nI v) 0 = σ 3 (5 * v) := zatt_n (k := 3) (m := v) (c := 0) (by show 5 * v + 0 < _; show _ < 15; omega)
theorem wV0 {σ : Sg} {v : Nat} {z : Int32} (h : v < 3) : zsto σ 3 (nI v) 0 z = sgU σ 3 (5 * v) z := zsto_n (k := 3) (m := v) (c := 0) (by show 5 * v + 0 < _; show _ < 15; omega)
theorem iV0 {σ : Sg} {v : Nat} (h : v < 3) : zrai σ 3 (nI v) 0 = sgU σ 3 (5 * v) (σ 3 (5 * v) + 1) := zrai_n (k := 3) (m := v) (c := 0) (by show 5 * v + 0 < _; show _ < 15; omega)
theorem cV1 {σ : Sg} {v : Nat} (h : v < 3) : zatt σ 3 (nI v) 1 = σ 3 (5 * v + 1) := zatt_n (k := 3) (m := v) (c := 1) (by show 5 * v + 1 < _; show _ < 15; omega)
theorem wV1 {σ : Sg} {v : Nat} {z : Int32} (h : v < 3) : zsto σ 3 (nI v) 1 z = sgU σ 3 (5 * v + 1) z := zsto_n (k := 3) (m := v) (c := 1) (by show 5 * v + 1 < _; show _ < 15; omega)
theorem iV1 {σ : Sg} {v : Nat} (h : v < 3) : zrai σ 3 (nI v) 1 = sgU σ 3 (5 * v + 1) (σ 3 (5 * v + 1) + 1) := zrai_n (k := 3) (m := v) (c := 1) (by show 5 * v + 1 < _; show _ < 15; omega)
theorem cV2 {σ : Sg} {v : Nat} (h : v < 3) : zatt σ 3 (nI v) 2 = σ 3 (5 * v + 2) := zatt_n (k := 3) (m := v) (c := 2) (by show 5 * v + 2 < _; show _ < 15; omega)
theorem wV2 {σ : Sg} {v : Nat} {z : Int32} (h : v < 3) : zsto σ 3 (nI v) 2 z = sgU σ 3 (5 * v + 2) z := zsto_n (k := 3) (m := v) (c := 2) (by show 5 * v + 2 < _; show _ < 15; omega)
theorem iV2 {σ : Sg} {v : Nat} (h : v < 3) : zrai σ 3 (nI v) 2 = sgU σ 3 (5 * v + 2) (σ 3 (5 * v + 2) + 1) := zrai_n (k := 3) (m := v) (c := 2) (by show 5 * v + 2 < _; show _ < 15; omega)
theorem cV3 {σ : Sg} {v : Nat} (h : v < 3) : zatt σ 3 (nI v) 3 = σ 3 (5 * v + 3) := zatt_n (k := 3) (m := v) (c := 3) (by show 5 * v + 3 < _; show _ < 15; omega)
theorem wV3 {σ : Sg} {v : Nat} {z : Int32} (h : v < 3) : zsto σ 3 (nI v) 3 z = sgU σ 3 (5 * v + 3) z := zsto_n (k := 3) (m := v) (c := 3) (by show 5 * v + 3 < _; show _ < 15; omega)
theorem iV3 {σ : Sg} {v : Nat} (h : v < 3) : zrai σ 3 (nI v) 3 = sgU σ 3 (5 * v + 3) (σ 3 (5 * v + 3) + 1) := zrai_n (k := 3) (m := v) (c := 3) (by show 5 * v + 3 < _; show _ < 15; omega)
theorem cV4 {σ : Sg} {v : Nat} (h : v < 3) : zatt σ 3 (nI v) 4 = σ 3 (5 * v + 4) := zatt_n (k := 3) (m := v) (c := 4) (by show 5 * v + 4 < _; show _ < 15; omega)
theorem wV4 {σ : Sg} {v : Nat} {z : Int32} (h : v < 3) : zsto σ 3 (nI v) 4 z = sgU σ 3 (5 * v + 4) z := zsto_n (k := 3) (m := v) (c := 4) (by show 5 * v + 4 < _; show _ < 15; omega)
theorem iV4 {σ : Sg} {v : Nat} (h : v < 3) : zrai σ 3 (nI v) 4 = sgU σ 3 (5 * v + 4) (σ 3 (5 * v + 4) + 1) := zrai_n (k := 3) (m := v) (c := 4) (by show 5 * v + 4 < _; show _ < 15; omega)
theorem cS0 {σ : Sg} : zX4_setting σ 0 = σ 4 0 := zatt_n (k := 4) (m := 0) (c := 0) (by decide)
theorem cS1 {σ : Sg} : zX4_setting σ 1 = σ 4 1 := zatt_n (k := 4) (m := 1) (c := 0) (by decide)
theorem cS2 {σ : Sg} : zX4_setting σ 2 = σ 4 2 := zatt_n (k := 4) (m := 2) (c := 0) (by decide)
theorem cS3 {σ : Sg} : zX4_setting σ 3 = σ 4 3 := zatt_n (k := 4) (m := 3) (c := 0) (by decide)
theorem cSn {σ : Sg} {j : Nat} (h : j < 4) : zX4_setting σ (nI j) = σ 4 j := (zatt_n (k := 4) (m := j) (c := 0) (by show 1 * j + 0 < 4; omega)).trans (congrArg (σ 4) (by show 1 * j + 0 = j; omega))
theorem wSn {σ : Sg} {j : Nat} {z : Int32} (h : j < 4) : zsto σ 4 (nI j) 0 z = sgU σ 4 j z := (zsto_n (k := 4) (m := j) (c := 0) (by show 1 * j + 0 < 4; omega)).trans (congrArg (fun i => sgU σ 4 i z) (by show 1 * j + 0 = j; omega))
theorem oL0 {μ : Sg} {l : Nat} (h : l < 5) : zX8_ofLocker μ (nI l) 0 = μ 0 (12 + 8 * l) := congrArg (μ 0) (oidx (b := 12) (c := 8) (m := l) (w := 0) (N := 299) (by omega) (by decide))
theorem uL0 {μ : Sg} {l : Nat} (h : l < 5) : zX8_moreOf μ (nI l) 0 = mW μ (12 + 8 * l) (μ 0 (12 + 8 * l) + 1) := congrArg (fun i => mW μ i (μ 0 i + 1)) (oidx (b := 12) (c := 8) (m := l) (w := 0) (N := 299) (by omega) (by decide))
theorem oL1 {μ : Sg} {l : Nat} (h : l < 5) : zX8_ofLocker μ (nI l) 1 = μ 0 (12 + 8 * l + 1) := congrArg (μ 0) (oidx (b := 12) (c := 8) (m := l) (w := 1) (N := 299) (by omega) (by decide))
theorem uL1 {μ : Sg} {l : Nat} (h : l < 5) : zX8_moreOf μ (nI l) 1 = mW μ (12 + 8 * l + 1) (μ 0 (12 + 8 * l + 1) + 1) := congrArg (fun i => mW μ i (μ 0 i + 1)) (oidx (b := 12) (c := 8) (m := l) (w := 1) (N := 299) (by omega) (by decide))
theorem oL2 {μ : Sg} {l : Nat} (h : l < 5) : zX8_ofLocker μ (nI l) 2 = μ 0 (12 + 8 * l + 2) := congrArg (μ 0) (oidx (b := 12) (c := 8) (m := l) (w := 2) (N := 299) (by omega) (by decide))
theorem uL2 {μ : Sg} {l : Nat} (h : l < 5) : zX8_moreOf μ (nI l) 2 = mW μ (12 + 8 * l + 2) (μ 0 (12 + 8 * l + 2) + 1) := congrArg (fun i => mW μ i (μ 0 i + 1)) (oidx (b := 12) (c := 8) (m := l) (w := 2) (N := 299) (by omega) (by decide))
theorem oL3 {μ : Sg} {l : Nat} (h : l < 5) : zX8_ofLocker μ (nI l) 3 = μ 0 (12 + 8 * l + 3) := congrArg (μ 0) (oidx (b := 12) (c := 8) (m := l) (w := 3) (N := 299) (by omega) (by decide))
theorem uL3 {μ : Sg} {l : Nat} (h : l < 5) : zX8_moreOf μ (nI l) 3 = mW μ (12 + 8 * l + 3) (μ 0 (12 + 8 * l + 3) + 1) := congrArg (fun i => mW μ i (μ 0 i + 1)) (oidx (b := 12) (c := 8) (m := l) (w := 3) (N := 299) (by omega) (by decide))
theorem oL4 {μ : Sg} {l : Nat} (h : l < 5) : zX8_ofLocker μ (nI l) 4 = μ 0 (12 + 8 * l + 4) := congrArg (μ 0) (oidx (b := 12) (c := 8) (m := l) (w := 4) (N := 299) (by omega) (by decide))
theorem uL4 {μ : Sg} {l : Nat} (h : l < 5) : zX8_moreOf μ (nI l) 4 = mW μ (12 + 8 * l + 4) (μ 0 (12 + 8 * l + 4) + 1) := congrArg (fun i => mW μ i (μ 0 i + 1)) (oidx (b := 12) (c := 8) (m := l) (w := 4) (N := 299) (by omega) (by decide))
theorem oL5 {μ : Sg} {l : Nat} (h : l < 5) : zX8_ofLocker μ (nI l) 5 = μ 0 (12 + 8 * l + 5) := congrArg (μ 0) (oidx (b := 12) (c := 8) (m := l) (w := 5) (N := 299) (by omega) (by decide))
theorem uL5 {μ : Sg} {l : Nat} (h : l < 5) : zX8_moreOf μ (nI l) 5 = mW μ (12 + 8 * l + 5) (μ 0 (12 + 8 * l + 5) + 1) := congrArg (fun i => mW μ i (μ 0 i + 1)) (oidx (b := 12) (c := 8) (m := l) (w := 5) (N := 299) (by omega) (by decide))
theorem oL6 {μ : Sg} {l : Nat} (h : l < 5) : zX8_ofLocker μ (nI l) 6 = μ 0 (12 + 8 * l + 6) := congrArg (μ 0) (oidx (b := 12) (c := 8) (m := l) (w := 6) (N := 299) (by omega) (by decide))
theorem uL6 {μ : Sg} {l : Nat} (h : l < 5) : zX8_moreOf μ (nI l) 6 = mW μ (12 + 8 * l + 6) (μ 0 (12 + 8 * l + 6) + 1) := congrArg (fun i => mW μ i (μ 0 i + 1)) (oidx (b := 12) (c := 8) (m := l) (w := 6) (N := 299) (by omega) (by decide))
theorem oL7 {μ : Sg} {l : Nat} (h : l < 5) : zX8_ofLocker μ (nI l) 7 = μ 0 (12 + 8 * l + 7) := congrArg (μ 0) (oidx (b := 12) (c := 8) (m := l) (w := 7) (N := 299) (by omega) (by decide))
theorem uL7 {μ : Sg} {l : Nat} (h : l < 5) : zX8_moreOf μ (nI l) 7 = mW μ (12 + 8 * l + 7) (μ 0 (12 + 8 * l + 7) + 1) := congrArg (fun i => mW μ i (μ 0 i + 1)) (oidx (b := 12) (c := 8) (m := l) (w := 7) (N := 299) (by omega) (by decide))
theorem oM0 {μ : Sg} {m : Nat} (h : m < 24) : zX8_ofMeal μ (nI m) 0 = μ 0 (52 + 8 * m) := congrArg (μ 0) (oidx (b := 52) (c := 8) (m := m) (w := 0) (N := 299) (by omega) (by decide))
theorem uM0 {μ : Sg} {m : Nat} {z : Int32} (h : m < 24) : zX8_setMeal μ (nI m) 0 z = mW μ (52 + 8 * m) z := congrArg (fun i => mW μ i z) (oidx (b := 52) (c := 8) (m := m) (w := 0) (N := 299) (by omega) (by decide))
theorem oM1 {μ : Sg} {m : Nat} (h : m < 24) : zX8_ofMeal μ (nI m) 1 = μ 0 (52 + 8 * m + 1) := congrArg (μ 0) (oidx (b := 52) (c := 8) (m := m) (w := 1) (N := 299) (by omega) (by decide))
theorem uM1 {μ : Sg} {m : Nat} {z : Int32} (h : m < 24) : zX8_setMeal μ (nI m) 1 z = mW μ (52 + 8 * m + 1) z := congrArg (fun i => mW μ i z) (oidx (b := 52) (c := 8) (m := m) (w := 1) (N := 299) (by omega) (by decide))
theorem oM2 {μ : Sg} {m : Nat} (h : m < 24) : zX8_ofMeal μ (nI m) 2 = μ 0 (52 + 8 * m + 2) := congrArg (μ 0) (oidx (b := 52) (c := 8) (m := m) (w := 2) (N := 299) (by omega) (by decide))
theorem uM2 {μ : Sg} {m : Nat} {z : Int32} (h : m < 24) : zX8_setMeal μ (nI m) 2 z = mW μ (52 + 8 * m + 2) z := congrArg (fun i => mW μ i z) (oidx (b := 52) (c := 8) (m := m) (w := 2) (N := 299) (by omega) (by decide))
theorem oM3 {μ : Sg} {m : Nat} (h : m < 24) : zX8_ofMeal μ (nI m) 3 = μ 0 (52 + 8 * m + 3) := congrArg (μ 0) (oidx (b := 52) (c := 8) (m := m) (w := 3) (N := 299) (by omega) (by decide))
theorem uM3 {μ : Sg} {m : Nat} {z : Int32} (h : m < 24) : zX8_setMeal μ (nI m) 3 z = mW μ (52 + 8 * m + 3) z := congrArg (fun i => mW μ i z) (oidx (b := 52) (c := 8) (m := m) (w := 3) (N := 299) (by omega) (by decide))
theorem oM4 {μ : Sg} {m : Nat} (h : m < 24) : zX8_ofMeal μ (nI m) 4 = μ 0 (52 + 8 * m + 4) := congrArg (μ 0) (oidx (b := 52) (c := 8) (m := m) (w := 4) (N := 299) (by omega) (by decide))
theorem uM4 {μ : Sg} {m : Nat} {z : Int32} (h : m < 24) : zX8_setMeal μ (nI m) 4 z = mW μ (52 + 8 * m + 4) z := congrArg (fun i => mW μ i z) (oidx (b := 52) (c := 8) (m := m) (w := 4) (N := 299) (by omega) (by decide))
theorem oM5 {μ : Sg} {m : Nat} (h : m < 24) : zX8_ofMeal μ (nI m) 5 = μ 0 (52 + 8 * m + 5) := congrArg (μ 0) (oidx (b := 52) (c := 8) (m := m) (w := 5) (N := 299) (by omega) (by decide))
theorem uM5 {μ : Sg} {m : Nat} {z : Int32} (h : m < 24) : zX8_setMeal μ (nI m) 5 z = mW μ (52 + 8 * m + 5) z := congrArg (fun i => mW μ i z) (oidx (b := 52) (c := 8) (m := m) (w := 5) (N := 299) (by omega) (by decide))
theorem oM6 {μ : Sg} {m : Nat} (h : m < 24) : zX8_ofMeal μ (nI m) 6 = μ 0 (52 + 8 * m + 6) := congrArg (μ 0) (oidx (b := 52) (c := 8) (m := m) (w := 6) (N := 299) (by omega) (by decide))
theorem uM6 {μ : Sg} {m : Nat} {z : Int32} (h : m < 24) : zX8_setMeal μ (nI m) 6 z = mW μ (52 + 8 * m + 6) z := congrArg (fun i => mW μ i z) (oidx (b := 52) (c := 8) (m := m) (w := 6) (N := 299) (by omega) (by decide))
theorem oM7 {μ : Sg} {m : Nat} (h : m < 24) : zX8_ofMeal μ (nI m) 7 = μ 0 (52 + 8 * m + 7) := congrArg (μ 0) (oidx (b := 52) (c := 8) (m := m) (w := 7) (N := 299) (by omega) (by decide))
theorem uM7 {μ : Sg} {m : Nat} {z : Int32} (h : m < 24) : zX8_setMeal μ (nI m) 7 z = mW μ (52 + 8 * m + 7) z := congrArg (fun i => mW μ i z) (oidx (b := 52) (c := 8) (m := m) (w := 7) (N := 299) (by omega) (by decide))
theorem oP0 {μ : Sg} {p : Nat} (h : p < 8) : zX8_ofPerson μ (nI p) 0 = μ 0 (244 + 5 * p) := congrArg (μ 0) (oidx (b := 244) (c := 5) (m := p) (w := 0) (N := 299) (by omega) (by decide))
theorem uP0 {μ : Sg} {p : Nat} {z : Int32} (h : p < 8) : zX8_setPerson μ (nI p) 0 z = mW μ (244 + 5 * p) z := congrArg (fun i => mW μ i z) (oidx (b := 244) (c := 5) (m := p) (w := 0) (N := 299) (by omega) (by decide))
theorem oP1 {μ : Sg} {p : Nat} (h : p < 8) : zX8_ofPerson μ (nI p) 1 = μ 0 (244 + 5 * p + 1) := congrArg (μ 0) (oidx (b := 244) (c := 5) (m := p) (w := 1) (N := 299) (by omega) (by decide))
theorem uP1 {μ : Sg} {p : Nat} {z : Int32} (h : p < 8) : zX8_setPerson μ (nI p) 1 z = mW μ (244 + 5 * p + 1) z := congrArg (fun i => mW μ i z) (oidx (b := 244) (c := 5) (m := p) (w := 1) (N := 299) (by omega) (by decide))
theorem oP2 {μ : Sg} {p : Nat} (h : p < 8) : zX8_ofPerson μ (nI p) 2 = μ 0 (244 + 5 * p + 2) := congrArg (μ 0) (oidx (b := 244) (c := 5) (m := p) (w := 2) (N := 299) (by omega) (by decide))
theorem uP2 {μ : Sg} {p : Nat} {z : Int32} (h : p < 8) : zX8_setPerson μ (nI p) 2 z = mW μ (244 + 5 * p + 2) z := congrArg (fun i => mW μ i z) (oidx (b := 244) (c := 5) (m := p) (w := 2) (N := 299) (by omega) (by decide))
theorem oP3 {μ : Sg} {p : Nat} (h : p < 8) : zX8_ofPerson μ (nI p) 3 = μ 0 (244 + 5 * p + 3) := congrArg (μ 0) (oidx (b := 244) (c := 5) (m := p) (w := 3) (N := 299) (by omega) (by decide))
theorem uP3 {μ : Sg} {p : Nat} {z : Int32} (h : p < 8) : zX8_setPerson μ (nI p) 3 z = mW μ (244 + 5 * p + 3) z := congrArg (fun i => mW μ i z) (oidx (b := 244) (c := 5) (m := p) (w := 3) (N := 299) (by omega) (by decide))
theorem oP4 {μ : Sg} {p : Nat} (h : p < 8) : zX8_ofPerson μ (nI p) 4 = μ 0 (244 + 5 * p + 4) := congrArg (μ 0) (oidx (b := 244) (c := 5) (m := p) (w := 4) (N := 299) (by omega) (by decide))
theorem uP4 {μ : Sg} {p : Nat} {z : Int32} (h : p < 8) : zX8_setPerson μ (nI p) 4 z = mW μ (244 + 5 * p + 4) z := congrArg (fun i => mW μ i z) (oidx (b := 244) (c := 5) (m := p) (w := 4) (N := 299) (by omega) (by decide))
theorem oH0 {μ : Sg} {v : Nat} (h : v < 3) : zX8_ofHelper μ (nI v) 0 = μ 0 (284 + 5 * v) := congrArg (μ 0) (oidx (b := 284) (c := 5) (m := v) (w := 0) (N := 299) (by omega) (by decide))
theorem uH0 {μ : Sg} {v : Nat} {z : Int32} (h : v < 3) : zX8_setHelper μ (nI v) 0 z = mW μ (284 + 5 * v) z := congrArg (fun i => mW μ i z) (oidx (b := 284) (c := 5) (m := v) (w := 0) (N := 299) (by omega) (by decide))
theorem oH1 {μ : Sg} {v : Nat} (h : v < 3) : zX8_ofHelper μ (nI v) 1 = μ 0 (284 + 5 * v + 1) := congrArg (μ 0) (oidx (b := 284) (c := 5) (m := v) (w := 1) (N := 299) (by omega) (by decide))
theorem uH1 {μ : Sg} {v : Nat} {z : Int32} (h : v < 3) : zX8_setHelper μ (nI v) 1 z = mW μ (284 + 5 * v + 1) z := congrArg (fun i => mW μ i z) (oidx (b := 284) (c := 5) (m := v) (w := 1) (N := 299) (by omega) (by decide))
theorem oH2 {μ : Sg} {v : Nat} (h : v < 3) : zX8_ofHelper μ (nI v) 2 = μ 0 (284 + 5 * v + 2) := congrArg (μ 0) (oidx (b := 284) (c := 5) (m := v) (w := 2) (N := 299) (by omega) (by decide))
theorem uH2 {μ : Sg} {v : Nat} {z : Int32} (h : v < 3) : zX8_setHelper μ (nI v) 2 z = mW μ (284 + 5 * v + 2) z := congrArg (fun i => mW μ i z) (oidx (b := 284) (c := 5) (m := v) (w := 2) (N := 299) (by omega) (by decide))
theorem oH3 {μ : Sg} {v : Nat} (h : v < 3) : zX8_ofHelper μ (nI v) 3 = μ 0 (284 + 5 * v + 3) := congrArg (μ 0) (oidx (b := 284) (c := 5) (m := v) (w := 3) (N := 299) (by omega) (by decide))
theorem uH3 {μ : Sg} {v : Nat} {z : Int32} (h : v < 3) : zX8_setHelper μ (nI v) 3 z = mW μ (284 + 5 * v + 3) z := congrArg (fun i => mW μ i z) (oidx (b := 284) (c := 5) (m := v) (w := 3) (N := 299) (by omega) (by decide))
theorem oH4 {μ : Sg} {v : Nat} (h : v < 3) : zX8_ofHelper μ (nI v) 4 = μ 0 (284 + 5 * v + 4) := congrArg (μ 0) (oidx (b := 284) (c := 5) (m := v) (w := 4) (N := 299) (by omega) (by decide))
theorem uH4 {μ : Sg} {v : Nat} {z : Int32} (h : v < 3) : zX8_setHelper μ (nI v) 4 z = mW μ (284 + 5 * v + 4) z := congrArg (fun i => mW μ i z) (oidx (b := 284) (c := 5) (m := v) (w := 4) (N := 299) (by omega) (by decide))
theorem oLw {μ : Sg} {l w : Nat} (h : l < 5) (hw : w < 8) : zX8_ofLocker μ (nI l) (nI w) = μ 0 (12 + 8 * l + w) := congrArg (μ 0) (oidx (b := 12) (c := 8) (m := l) (w := w) (N := 299) (by omega) (by decide))
theorem oMw {μ : Sg} {m w : Nat} (h : m < 24) (hw : w < 8) : zX8_ofMeal μ (nI m) (nI w) = μ 0 (52 + 8 * m + w) := congrArg (μ 0) (oidx (b := 52) (c := 8) (m := m) (w := w) (N := 299) (by omega) (by decide))
theorem oPw {μ : Sg} {p w : Nat} (h : p < 8) (hw : w < 5) : zX8_ofPerson μ (nI p) (nI w) = μ 0 (244 + 5 * p + w) := congrArg (μ 0) (oidx (b := 244) (c := 5) (m := p) (w := w) (N := 299) (by omega) (by decide))
theorem oHw {μ : Sg} {v w : Nat} (h : v < 3) (hw : w < 5) : zX8_ofHelper μ (nI v) (nI w) = μ 0 (284 + 5 * v + w) := congrArg (μ 0) (oidx (b := 284) (c := 5) (m := v) (w := w) (N := 299) (by omega) (by decide))
theorem cLc {σ : Sg} {l c : Nat} (h : l < 5) (hc : c < 9) : zatt σ 0 (nI l) (nI c) = σ 0 (9 * l + c) := zatt_n (k := 0) (by show 9 * l + c < 45; omega)
theorem cMc {σ : Sg} {m c : Nat} (h : m < 24) (hc : c < 8) : zatt σ 1 (nI m) (nI c) = σ 1 (8 * m + c) := zatt_n (k := 1) (by show 8 * m + c < 192; omega)
theorem cPc {σ : Sg} {p c : Nat} (h : p < 8) (hc : c < 6) : zatt σ 2 (nI p) (nI c) = σ 2 (6 * p + c) := zatt_n (k := 2) (by show 6 * p + c < 48; omega)
theorem cVc {σ : Sg} {v c : Nat} (h : v < 3) (hc : c < 5) : zatt σ 3 (nI v) (nI c) = σ 3 (5 * v + c) := zatt_n (k := 3) (by show 5 * v + c < 15; omega)
/-! WHICH CELL STANDS WHERE -/
def tr (k i : Nat) : Nat := match k with
  | 0 => 12 + 8 * (i / 9) + (if i % 9 < 2 then i % 9 else i % 9 - 1)
  | 1 => 52 + 8 * (i / 8) + (if i % 8 = 6 then 7 else if i % 8 = 7 then 6 else i % 8)
  | 2 => 244 + 5 * (i / 6) + (if i % 6 < 3 then i % 6 else i % 6 - 1)
  | 3 => 284 + 5 * (i / 5) + (if i % 5 < 2 then i % 5 else i % 5 - 1)
  | 4 => 5 + i
  | _ => if i = 5 then 4 else i
def dm (k i : Nat) : Bool := match k with
  | 0 => decide (i < 45) && !decide (i % 9 = 2)
  | 1 => decide (i < 192) && !decide (i % 8 = 5)
  | 2 => decide (i < 48) && !decide (i % 6 = 3)
  | 3 => decide (i < 15) && !decide (i % 5 = 2)
  | 4 => decide (i < 4)
  | 5 => decide (i < 4) || decide (i = 5)
  | _ => false
def itr (j : Nat) : Nat := if j < 4 then 960 + j else if j = 4 then 965 else if j < 9 then 768 + (j - 5) else if j < 12 then 0 else if j < 52 then 9 * ((j - 12) / 8) + (if (j - 12) % 8 < 2 then (j - 12) % 8 else (j - 12) % 8 + 1) else if j < 244 then 192 + 8 * ((j - 52) / 8) + (if (j - 52) % 8 = 7 then 6 else if (j - 52) % 8 = 6 then 7 else (j - 52) % 8) else if j < 284 then 384 + 6 * ((j - 244) / 5) + (if (j - 244) % 5 < 3 then (j - 244) % 5 else (j - 244) % 5 + 1) else 576 + 5 * ((j - 284) / 5) + (if (j - 284) % 5 < 2 then (j - 284) % 5 else (j - 284) % 5 + 1)
theorem itr_tr : ∀ k, k < 6 → ∀ i, i < 192 → dm k i = true → itr (tr k i) = 192 * k + i := by decide +kernel
theorem dm_lt {k i : Nat} (h : dm k i = true) : k < 6 ∧ i < 192 := by
  match k, h with
  | 0, h => simp [dm] at h; omega
  | 1, h => simp [dm] at h; omega
  | 2, h => simp [dm] at h; omega
  | 3, h => simp [dm] at h; omega
  | 4, h => simp [dm] at h; omega
  | 5, h => simp [dm] at h; omega
  | k + 6, h => simp [dm] at h
theorem tr_ne {k i k2 i2 : Nat} (h : dm k i = true) (h2 : dm k2 i2 = true) (hn : k2 ≠ k ∨ i2 ≠ i) : tr k2 i2 ≠ tr k i := by
  intro e
  have a := dm_lt h
  have b := dm_lt h2
  have c := itr_tr k a.1 i a.2 h
  have d := itr_tr k2 b.1 i2 b.2 h2
  rw [e] at d
  omega
/-- places of the reference alone: the three counters, a meal's person -/
theorem tr_frB : ∀ k, k < 6 → ∀ i, i < 192 → (!dm k i || (!decide (tr k i = 9) && !decide (tr k i = 10) && !decide (tr k i = 11) && decide (tr k i < 299) && (!decide ((tr k i - 52) % 8 = 5) || decide (tr k i < 52) || decide (244 ≤ tr k i)))) = true := by decide +kernel
theorem tr_fr (k : Nat) (hk : k < 6) (i : Nat) (hi : i < 192) (h : dm k i = true) : tr k i ≠ 9 ∧ tr k i ≠ 10 ∧ tr k i ≠ 11 ∧ tr k i < 299 ∧ ((tr k i - 52) % 8 ≠ 5 ∨ tr k i < 52 ∨ 244 ≤ tr k i) := by
  have e := tr_frB k hk i hi
  rw [h] at e
  simp at e
  omega
theorem tL0 (l : Nat) : tr 0 (9 * l) = 12 + 8 * l := by
  show 12 + 8 * ((9 * l) / 9) + (if (9 * l) % 9 < 2 then (9 * l) % 9 else (9 * l) % 9 - 1) = _
  rw [show (9 * l) / 9 = l by omega, show (9 * l) % 9 = 0 by omega]
  rfl
theorem dL0 {l : Nat} (h : l < 5) : dm 0 (9 * l) = true := by
  show (decide (9 * l < 45) && !decide ((9 * l) % 9 = 2)) = true
  rw [decide_eq_true (by omega), decide_eq_false (by omega)]
  rfl
theorem tL1 (l : Nat) : tr 0 (9 * l + 1) = 12 + 8 * l + 1 := by
  show 12 + 8 * ((9 * l + 1) / 9) + (if (9 * l + 1) % 9 < 2 then (9 * l + 1) % 9 else (9 * l + 1) % 9 - 1) = _
  rw [show (9 * l + 1) / 9 = l by omega, show (9 * l + 1) % 9 = 1 by omega]
  rfl
theorem dL1 {l : Nat} (h : l < 5) : dm 0 (9 * l + 1) = true := by
  show (decide (9 * l + 1 < 45) && !decide ((9 * l + 1) % 9 = 2)) = true
  rw [decide_eq_true (by omega), decide_eq_false (by omega)]
  rfl
theorem tL3 (l : Nat) : tr 0 (9 * l + 3) = 12 + 8 * l + 2 := by
  show 12 + 8 * ((9 * l + 3) / 9) + (if (9 * l + 3) % 9 < 2 then (9 * l + 3) % 9 else (9 * l + 3) % 9 - 1) = _
  rw [show (9 * l + 3) / 9 = l by omega, show (9 * l + 3) % 9 = 3 by omega]
  rfl
theorem dL3 {l : Nat} (h : l < 5) : dm 0 (9 * l + 3) = true := by
  show (decide (9 * l + 3 < 45) && !decide ((9 * l + 3) % 9 = 2)) = true
  rw [decide_eq_true (by omega), decide_eq_false (by omega)]
  rfl
theorem tL4 (l : Nat) : tr 0 (9 * l + 4) = 12 + 8 * l + 3 := by
  show 12 + 8 * ((9 * l + 4) / 9) + (if (9 * l + 4) % 9 < 2 then (9 * l + 4) % 9 else (9 * l + 4) % 9 - 1) = _
  rw [show (9 * l + 4) / 9 = l by omega, show (9 * l + 4) % 9 = 4 by omega]
  rfl
theorem dL4 {l : Nat} (h : l < 5) : dm 0 (9 * l + 4) = true := by
  show (decide (9 * l + 4 < 45) && !decide ((9 * l + 4) % 9 = 2)) = true
  rw [decide_eq_true (by omega), decide_eq_false (by omega)]
  rfl
theorem tL5 (l : Nat) : tr 0 (9 * l + 5) = 12 + 8 * l + 4 := by
  show 12 + 8 * ((9 * l + 5) / 9) + (if (9 * l + 5) % 9 < 2 then (9 * l + 5) % 9 else (9 * l + 5) % 9 - 1) = _
  rw [show (9 * l + 5) / 9 = l by omega, show (9 * l + 5) % 9 = 5 by omega]
  rfl
theorem dL5 {l : Nat} (h : l < 5) : dm 0 (9 * l + 5) = true := by
  show (decide (9 * l + 5 < 45) && !decide ((9 * l + 5) % 9 = 2)) = true
  rw [decide_eq_true (by omega), decide_eq_false (by omega)]
  rfl
theorem tL6 (l : Nat) : tr 0 (9 * l + 6) = 12 + 8 * l + 5 := by
  show 12 + 8 * ((9 * l + 6) / 9) + (if (9 * l + 6) % 9 < 2 then (9 * l + 6) % 9 else (9 * l + 6) % 9 - 1) = _
  rw [show (9 * l + 6) / 9 = l by omega, show (9 * l + 6) % 9 = 6 by omega]
  rfl
theorem dL6 {l : Nat} (h : l < 5) : dm 0 (9 * l + 6) = true := by
  show (decide (9 * l + 6 < 45) && !decide ((9 * l + 6) % 9 = 2)) = true
  rw [decide_eq_true (by omega), decide_eq_false (by omega)]
  rfl
theorem tL7 (l : Nat) : tr 0 (9 * l + 7) = 12 + 8 * l + 6 := by
  show 12 + 8 * ((9 * l + 7) / 9) + (if (9 * l + 7) % 9 < 2 then (9 * l + 7) % 9 else (9 * l + 7) % 9 - 1) = _
  rw [show (9 * l + 7) / 9 = l by omega, show (9 * l + 7) % 9 = 7 by omega]
  rfl
theorem dL7 {l : Nat} (h : l < 5) : dm 0 (9 * l + 7) = true := by
  show (decide (9 * l + 7 < 45) && !decide ((9 * l + 7) % 9 = 2)) = true
  rw [decide_eq_true (by omega), decide_eq_false (by omega)]
  rfl
theorem tL8 (l : Nat) : tr 0 (9 * l + 8) = 12 + 8 * l + 7 := by
  show 12 + 8 * ((9 * l + 8) / 9) + (if (9 * l + 8) % 9 < 2 then (9 * l + 8) % 9 else (9 * l + 8) % 9 - 1) = _
  rw [show (9 * l + 8) / 9 = l by omega, show (9 * l + 8) % 9 = 8 by omega]
  rfl
theorem dL8 {l : Nat} (h : l < 5) : dm 0 (9 * l + 8) = true := by
  show (decide (9 * l + 8 < 45) && !decide ((9 * l + 8) % 9 = 2)) = true
  rw [decide_eq_true (by omega), decide_eq_false (by omega)]
  rfl
theorem tM0 (m : Nat) : tr 1 (8 * m) = 52 + 8 * m := by
  show 52 + 8 * ((8 * m) / 8) + (if (8 * m) % 8 = 6 then 7 else if (8 * m) % 8 = 7 then 6 else (8 * m) % 8) = _
  rw [show (8 * m) / 8 = m by omega, show (8 * m) % 8 = 0 by omega]
  rfl
theorem dM0 {m : Nat} (h : m < 24) : dm 1 (8 * m) = true := by
  show (decide (8 * m < 192) && !decide ((8 * m) % 8 = 5)) = true
  rw [decide_eq_true (by omega), decide_eq_false (by omega)]
  rfl
theorem tM1 (m : Nat) : tr 1 (8 * m + 1) = 52 + 8 * m + 1 := by
  show 52 + 8 * ((8 * m + 1) / 8) + (if (8 * m + 1) % 8 = 6 then 7 else if (8 * m + 1) % 8 = 7 then 6 else (8 * m + 1) % 8) = _
  rw [show (8 * m + 1) / 8 = m by omega, show (8 * m + 1) % 8 = 1 by omega]
  rfl
theorem dM1 {m : Nat} (h : m < 24) : dm 1 (8 * m + 1) = true := by
  show (decide (8 * m + 1 < 192) && !decide ((8 * m + 1) % 8 = 5)) = true
  rw [decide_eq_true (by omega), decide_eq_false (by omega)]
  rfl
theorem tM2 (m : Nat) : tr 1 (8 * m + 2) = 52 + 8 * m + 2 := by
  show 52 + 8 * ((8 * m + 2) / 8) + (if (8 * m + 2) % 8 = 6 then 7 else if (8 * m + 2) % 8 = 7 then 6 else (8 * m + 2) % 8) = _
  rw [show (8 * m + 2) / 8 = m by omega, show (8 * m + 2) % 8 = 2 by omega]
  rfl
theorem dM2 {m : Nat} (h : m < 24) : dm 1 (8 * m + 2) = true := by
  show (decide (8 * m + 2 < 192) && !decide ((8 * m + 2) % 8 = 5)) = true
  rw [decide_eq_true (by omega), decide_eq_false (by omega)]
  rfl
theorem tM3 (m : Nat) : tr 1 (8 * m + 3) = 52 + 8 * m + 3 := by
  show 52 + 8 * ((8 * m + 3) / 8) + (if (8 * m + 3) % 8 = 6 then 7 else if (8 * m + 3) % 8 = 7 then 6 else (8 * m + 3) % 8) = _
  rw [show (8 * m + 3) / 8 = m by omega, show (8 * m + 3) % 8 = 3 by omega]
  rfl
theorem dM3 {m : Nat} (h : m < 24) : dm 1 (8 * m + 3) = true := by
  show (decide (8 * m + 3 < 192) && !decide ((8 * m + 3) % 8 = 5)) = true
  rw [decide_eq_true (by omega), decide_eq_false (by omega)]
  rfl
theorem tM4 (m : Nat) : tr 1 (8 * m + 4) = 52 + 8 * m + 4 := by
  show 52 + 8 * ((8 * m + 4) / 8) + (if (8 * m + 4) % 8 = 6 then 7 else if (8 * m + 4) % 8 = 7 then 6 else (8 * m + 4) % 8) = _
  rw [show (8 * m + 4) / 8 = m by omega, show (8 * m + 4) % 8 = 4 by omega]
  rfl
theorem dM4 {m : Nat} (h : m < 24) : dm 1 (8 * m + 4) = true := by
  show (decide (8 * m + 4 < 192) && !decide ((8 * m + 4) % 8 = 5)) = true
  rw [decide_eq_true (by omega), decide_eq_false (by omega)]
  rfl
theorem tM6 (m : Nat) : tr 1 (8 * m + 6) = 52 + 8 * m + 7 := by
  show 52 + 8 * ((8 * m + 6) / 8) + (if (8 * m + 6) % 8 = 6 then 7 else if (8 * m + 6) % 8 = 7 then 6 else (8 * m + 6) % 8) = _
  rw [show (8 * m + 6) / 8 = m by omega, show (8 * m + 6) % 8 = 6 by omega]
  rfl
theorem dM6 {m : Nat} (h : m < 24) : dm 1 (8 * m + 6) = true := by
  show (decide (8 * m + 6 < 192) && !decide ((8 * m + 6) % 8 = 5)) = true
  rw [decide_eq_true (by omega), decide_eq_false (by omega)]
  rfl
theorem tM7 (m : Nat) : tr 1 (8 * m + 7) = 52 + 8 * m + 6 := by
  show 52 + 8 * ((8 * m + 7) / 8) + (if (8 * m + 7) % 8 = 6 then 7 else if (8 * m + 7) % 8 = 7 then 6 else (8 * m + 7) % 8) = _
  rw [show (8 * m + 7) / 8 = m by omega, show (8 * m + 7) % 8 = 7 by omega]
  rfl
theorem dM7 {m : Nat} (h : m < 24) : dm 1 (8 * m + 7) = true := by
  show (decide (8 * m + 7 < 192) && !decide ((8 * m + 7) % 8 = 5)) = true
  rw [decide_eq_true (by omega), decide_eq_false (by omega)]
  rfl
theorem tP0 (p : Nat) : tr 2 (6 * p) = 244 + 5 * p := by
  show 244 + 5 * ((6 * p) / 6) + (if (6 * p) % 6 < 3 then (6 * p) % 6 else (6 * p) % 6 - 1) = _
  rw [show (6 * p) / 6 = p by omega, show (6 * p) % 6 = 0 by omega]
  rfl
theorem dP0 {p : Nat} (h : p < 8) : dm 2 (6 * p) = true := by
  show (decide (6 * p < 48) && !decide ((6 * p) % 6 = 3)) = true
  rw [decide_eq_true (by omega), decide_eq_false (by omega)]
  rfl
theorem tP1 (p : Nat) : tr 2 (6 * p + 1) = 244 + 5 * p + 1 := by
  show 244 + 5 * ((6 * p + 1) / 6) + (if (6 * p + 1) % 6 < 3 then (6 * p + 1) % 6 else (6 * p + 1) % 6 - 1) = _
  rw [show (6 * p + 1) / 6 = p by omega, show (6 * p + 1) % 6 = 1 by omega]
  rfl
theorem dP1 {p : Nat} (h : p < 8) : dm 2 (6 * p + 1) = true := by
  show (decide (6 * p + 1 < 48) && !decide ((6 * p + 1) % 6 = 3)) = true
  rw [decide_eq_true (by omega), decide_eq_false (by omega)]
  rfl
theorem tP2 (p : Nat) : tr 2 (6 * p + 2) = 244 + 5 * p + 2 := by
  show 244 + 5 * ((6 * p + 2) / 6) + (if (6 * p + 2) % 6 < 3 then (6 * p + 2) % 6 else (6 * p + 2) % 6 - 1) = _
  rw [show (6 * p + 2) / 6 = p by omega, show (6 * p + 2) % 6 = 2 by omega]
  rfl
theorem dP2 {p : Nat} (h : p < 8) : dm 2 (6 * p + 2) = true := by
  show (decide (6 * p + 2 < 48) && !decide ((6 * p + 2) % 6 = 3)) = true
  rw [decide_eq_true (by omega), decide_eq_false (by omega)]
  rfl
theorem tP4 (p : Nat) : tr 2 (6 * p + 4) = 244 + 5 * p + 3 := by
  show 244 + 5 * ((6 * p + 4) / 6) + (if (6 * p + 4) % 6 < 3 then (6 * p + 4) % 6 else (6 * p + 4) % 6 - 1) = _
  rw [show (6 * p + 4) / 6 = p by omega, show (6 * p + 4) % 6 = 4 by omega]
  rfl
theorem dP4 {p : Nat} (h : p < 8) : dm 2 (6 * p + 4) = true := by
  show (decide (6 * p + 4 < 48) && !decide ((6 * p + 4) % 6 = 3)) = true
  rw [decide_eq_true (by omega), decide_eq_false (by omega)]
  rfl
theorem tP5 (p : Nat) : tr 2 (6 * p + 5) = 244 + 5 * p + 4 := by
  show 244 + 5 * ((6 * p + 5) / 6) + (if (6 * p + 5) % 6 < 3 then (6 * p + 5) % 6 else (6 * p + 5) % 6 - 1) = _
  rw [show (6 * p + 5) / 6 = p by omega, show (6 * p + 5) % 6 = 5 by omega]
  rfl
theorem dP5 {p : Nat} (h : p < 8) : dm 2 (6 * p + 5) = true := by
  show (decide (6 * p + 5 < 48) && !decide ((6 * p + 5) % 6 = 3)) = true
  rw [decide_eq_true (by omega), decide_eq_false (by omega)]
  rfl
theorem tV0 (v : Nat) : tr 3 (5 * v) = 284 + 5 * v := by
  show 284 + 5 * ((5 * v) / 5) + (if (5 * v) % 5 < 2 then (5 * v) % 5 else (5 * v) % 5 - 1) = _
  rw [show (5 * v) / 5 = v by omega, show (5 * v) % 5 = 0 by omega]
  rfl
theorem dV0 {v : Nat} (h : v < 3) : dm 3 (5 * v) = true := by
  show (decide (5 * v < 15) && !decide ((5 * v) % 5 = 2)) = true
  rw [decide_eq_true (by omega), decide_eq_false (by omega)]
  rfl
theorem tV1 (v : Nat) : tr 3 (5 * v + 1) = 284 + 5 * v + 1 := by
  show 284 + 5 * ((5 * v + 1) / 5) + (if (5 * v + 1) % 5 < 2 then (5 * v + 1) % 5 else (5 * v + 1) % 5 - 1) = _
  rw [show (5 * v + 1) / 5 = v by omega, show (5 * v + 1) % 5 = 1 by omega]
  rfl
theorem dV1 {v : Nat} (h : v < 3) : dm 3 (5 * v + 1) = true := by
  show (decide (5 * v + 1 < 15) && !decide ((5 * v + 1) % 5 = 2)) = true
  rw [decide_eq_true (by omega), decide_eq_false (by omega)]
  rfl
theorem tV3 (v : Nat) : tr 3 (5 * v + 3) = 284 + 5 * v + 2 := by
  show 284 + 5 * ((5 * v + 3) / 5) + (if (5 * v + 3) % 5 < 2 then (5 * v + 3) % 5 else (5 * v + 3) % 5 - 1) = _
  rw [show (5 * v + 3) / 5 = v by omega, show (5 * v + 3) % 5 = 3 by omega]
  rfl
theorem dV3 {v : Nat} (h : v < 3) : dm 3 (5 * v + 3) = true := by
  show (decide (5 * v + 3 < 15) && !decide ((5 * v + 3) % 5 = 2)) = true
  rw [decide_eq_true (by omega), decide_eq_false (by omega)]
  rfl
theorem tV4 (v : Nat) : tr 3 (5 * v + 4) = 284 + 5 * v + 3 := by
  show 284 + 5 * ((5 * v + 4) / 5) + (if (5 * v + 4) % 5 < 2 then (5 * v + 4) % 5 else (5 * v + 4) % 5 - 1) = _
  rw [show (5 * v + 4) / 5 = v by omega, show (5 * v + 4) % 5 = 4 by omega]
  rfl
theorem dV4 {v : Nat} (h : v < 3) : dm 3 (5 * v + 4) = true := by
  show (decide (5 * v + 4 < 15) && !decide ((5 * v + 4) % 5 = 2)) = true
  rw [decide_eq_true (by omega), decide_eq_false (by omega)]
  rfl
theorem dS {j : Nat} (h : j < 4) : dm 4 j = true := decide_eq_true h
theorem dF {j : Nat} (h : j < 4) : dm 5 j = true := by
  show (decide (j < 4) || decide (j = 5)) = true
  rw [decide_eq_true h]
  rfl
theorem tF {j : Nat} (h : j < 4) : tr 5 j = j := if_neg (by omega)

