/-! PURE: the model's rows and sections -/
theorem m_app {sc : Nat → Int32} {ar : Nat → Nat → Int32} {r c : Nat} {b : Int32} (hr : r < 5) (hc : ar 1 r = nI c) (h : 1000 * r + c < 5000) :
    fX8_append sc ar (nI r) b = some (va_up (va_up ar 0 (upd (ar 0) (1000 * r + c) b)) 1 (upd (ar 1) r (nI (c + 1)))) := by
  have e : (1000 : Int32) * nI r + ar 1 (nI r).toNatClampNeg = nI (1000 * r + c) := by
    rw [nI_clamp (by omega), hc, L1000, pk_mul, nI_add]
  have i5 : inb (nI r) 5 = true := by rw [inb_nI (by omega)]; exact hr
  have i6 : inb (nI (1000 * r + c)) 5000 = true := by rw [inb_nI (by omega)]; exact h
  rw [fX8_append, e, if_pos i5, if_pos i6, if_pos i5, if_pos i5, nI_clamp (by omega), nI_clamp (by omega), hc, nI_1]
theorem m_wr {sc : Nat → Int32} {ar : Nat → Nat → Int32} {r c : Nat} {b : Int32} (hr : r < 3) (hc : ar 9 r = nI c) (h : c < 400) :
    fX8_write sc ar (nI r) b = some (va_up (va_up ar 8 (upd (ar 8) (400 * r + c) b)) 9 (upd (ar 9) r (nI (c + 1)))) := by
  have e : (400 : Int32) * nI r + ar 9 (nI r).toNatClampNeg = nI (400 * r + c) := by
    rw [nI_clamp (by omega), hc, L400, pk_mul, nI_add]
  have i5 : inb (nI r) 3 = true := by rw [inb_nI (by omega)]; exact hr
  have i6 : inb (nI (400 * r + c)) 1200 = true := by rw [inb_nI (by omega)]; omega
  rw [fX8_write, e, if_pos i5, if_pos i6, if_pos i5, if_pos i5, nI_clamp (by omega), nI_clamp (by omega), hc, nI_1]
theorem m_bytesOf {v : Nat} (hv : v < 16384) : fX8_bytesOf (nI v) = some (nI (vlen v)) := by
  have s0 : FU = 5997 + 1 + 1 + 1 := rfl
  have a7 : nI v >>> ((7 : Int32) &&& 31) = nI (v / 128) := shr_nI (by omega) _ 7 (by decide)
  have b7 : nI (v / 128) >>> ((7 : Int32) &&& 31) = nI (v / 128 / 128) := shr_nI (by omega) _ 7 (by decide)
  have z : v / 128 / 128 = 0 := by omega
  rw [fX8_bytesOf, a7, s0, fX8_bytesOf_L7]
  by_cases h : v < 128
  · have z1 : v / 128 = 0 := by omega
    rw [z1, if_pos (by decide), Option.bind_some]
    simp [vlen, h, L1]
  · rw [if_neg (by rw [L0, nI_leI (by omega) (by omega)]; omega), b7, z, fX8_bytesOf_L7, if_pos (by decide), Option.bind_some]
    simp [vlen, h, L1, nI_add]
theorem m_byteOf {v j : Nat} (hv : v < 16384) (hj : j < vlen v) : fX8_byteOf (nI v) (nI (vlen v)) (nI j) = some (vfun v j) := by
  by_cases h : v < 128
  · have e : vlen v = 1 := by simp [vlen, h]
    rw [e] at hj ⊢
    have e2 : j = 0 := by omega
    subst e2
    have a0 : nI v >>> (((7 : Int32) * ((nI 1 - (1 : Int32)) - nI 0)) &&& 31) = nI (v / 2 ^ 0) := shr_nI (by omega) _ 0 (by decide)
    rw [fX8_byteOf, if_pos (by decide), a0, L127, and127 (by omega), L0, nI_add]
    simp only [vfun, vbyte, if_pos h]
    congr 2
    omega
  · have e : vlen v = 2 := by simp [vlen, h]
    rw [e] at hj ⊢
    rcases (show j = 0 ∨ j = 1 by omega) with rfl | rfl
    · have a0 : nI v >>> (((7 : Int32) * ((nI 2 - (1 : Int32)) - nI 0)) &&& 31) = nI (v / 2 ^ 7) := shr_nI (by omega) _ 7 (by decide)
      rw [fX8_byteOf, if_neg (by decide), a0, L127, and127 (by omega), L128, nI_add]
      simp only [vfun, vbyte, if_neg h, if_true]
      congr 2
      omega
    · have a0 : nI v >>> (((7 : Int32) * ((nI 2 - (1 : Int32)) - nI 1)) &&& 31) = nI (v / 2 ^ 0) := shr_nI (by omega) _ 0 (by decide)
      rw [fX8_byteOf, if_pos (by decide), a0, L127, and127 (by omega), L0, nI_add]
      simp only [vfun, vbyte, if_neg h]
      congr 2
      simp
/-- m values g appended to the model's row r of length c; to its section s -/
def rA (ar : Nat → Nat → Int32) (r c m : Nat) (g : Nat → Int32) : Nat → Nat → Int32 := va_up (va_up ar 0 (apd (ar 0) (1000 * r + c) m g)) 1 (upd (ar 1) r (nI (c + m)))
def wA (ar : Nat → Nat → Int32) (r c m : Nat) (g : Nat → Int32) : Nat → Nat → Int32 := va_up (va_up ar 8 (apd (ar 8) (400 * r + c) m g)) 9 (upd (ar 9) r (nI (c + m)))
theorem upd_id {f : Nat → Int32} {k : Nat} {x : Int32} (h : f k = x) : upd f k x = f := by
  funext j; rw [upd_ap]; by_cases e : j = k
  · rw [if_pos e, e, h]
  · rw [if_neg e]
theorem upd_upd (f : Nat → Int32) (k : Nat) (x y : Int32) : upd (upd f k x) k y = upd f k y := by
  funext j; rw [upd_ap, upd_ap, upd_ap]; by_cases e : j = k
  · rw [if_pos e, if_pos e]
  · rw [if_neg e, if_neg e, if_neg e]
theorem up_id {α : Type} {f : Nat → α} {k : Nat} {x : α} (h : f k = x) : va_up f k x = f := by
  funext j; rw [up_ap]; by_cases e : j = k
  · rw [if_pos e, e, h]
  · rw [if_neg e]
theorem rA_0 {ar : Nat → Nat → Int32} {r c : Nat} (h : ar 1 r = nI c) (g : Nat → Int32) : rA ar r c 0 g = ar := by
  unfold rA
  rw [apd_0, upd_id (by simpa using h), up_id rfl, up_id rfl]
theorem wA_0 {ar : Nat → Nat → Int32} {r c : Nat} (h : ar 9 r = nI c) (g : Nat → Int32) : wA ar r c 0 g = ar := by
  unfold wA
  rw [apd_0, upd_id (by simpa using h), up_id rfl, up_id rfl]
theorem up2 {α : Type} (f : Nat → α) (i j : Nat) (hij : i ≠ j) (x y x' y' : α) : va_up (va_up (va_up (va_up f i x) j y) i x') j y' = va_up (va_up f i x') j y' := by
  funext k; simp only [up_ap]
  by_cases h1 : k = j
  · simp [h1]
  · by_cases h2 : k = i
    · simp [h2, hij]
    · simp [h1, h2]
theorem m_app_s {sc : Nat → Int32} {ar : Nat → Nat → Int32} {r c m : Nat} {g : Nat → Int32} (hr : r < 5) (h : 1000 * r + c + m < 5000) : fX8_append sc (rA ar r c m g) (nI r) (g m) = some (rA ar r c (m + 1) g) := by
  have h1 : (rA ar r c m g) 1 r = nI (c + m) := by show upd (ar 1) r (nI (c + m)) r = _; rw [upd_s]
  rw [m_app hr h1 (by omega)]
  show some (va_up (va_up (va_up (va_up ar 0 _) 1 _) 0 (upd (apd (ar 0) (1000 * r + c) m g) (1000 * r + (c + m)) (g m))) 1 (upd (upd (ar 1) r (nI (c + m))) r (nI (c + m + 1)))) = _
  rw [up2 _ 0 1 (by decide), upd_upd, ← Nat.add_assoc (1000 * r) c m, ← apd_s]
  rfl
theorem m_wr_s {sc : Nat → Int32} {ar : Nat → Nat → Int32} {r c m : Nat} {g : Nat → Int32} (hr : r < 3) (h : c + m < 400) : fX8_write sc (wA ar r c m g) (nI r) (g m) = some (wA ar r c (m + 1) g) := by
  have h1 : (wA ar r c m g) 9 r = nI (c + m) := by show upd (ar 9) r (nI (c + m)) r = _; rw [upd_s]
  rw [m_wr hr h1 (by omega)]
  show some (va_up (va_up (va_up (va_up ar 8 _) 9 _) 8 (upd (apd (ar 8) (400 * r + c) m g) (400 * r + (c + m)) (g m))) 9 (upd (upd (ar 9) r (nI (c + m))) r (nI (c + m + 1)))) = _
  rw [up2 _ 8 9 (by decide), upd_upd, ← Nat.add_assoc (400 * r) c m, ← apd_s]
  rfl
theorem m_app1 {sc : Nat → Int32} {ar : Nat → Nat → Int32} {r c : Nat} {b : Int32} (hr : r < 5) (hc : ar 1 r = nI c) (h : 1000 * r + c < 5000) : fX8_append sc ar (nI r) b = some (rA ar r c 1 (fun _ => b)) := by
  have := m_app_s (sc := sc) (ar := ar) (r := r) (c := c) (m := 0) (g := fun _ => b) hr (by omega)
  rw [rA_0 hc] at this
  exact this
theorem m_wr1 {sc : Nat → Int32} {ar : Nat → Nat → Int32} {r c : Nat} {b : Int32} (hr : r < 3) (hc : ar 9 r = nI c) (h : c < 400) : fX8_write sc ar (nI r) b = some (wA ar r c 1 (fun _ => b)) := by
  have := m_wr_s (sc := sc) (ar := ar) (r := r) (c := c) (m := 0) (g := fun _ => b) hr (by omega)
  rw [wA_0 hc] at this
  exact this
theorem m_appInt_L {sc : Nat → Int32} {ar : Nat → Nat → Int32} {c v : Nat} (hv : v < 16384) (h : c + 2 < 3000) : ∀ (r i k : Nat), i + r = vlen v → r < k → fX8_appendInteger_L7 sc (nI v) (nI (vlen v)) k (nI i) (rA ar 2 c i (vfun v)) = some (rA ar 2 c (vlen v) (vfun v))
  | 0, i, k + 1, hi, _ => by
    have e : i = vlen v := by omega
    have hl : vlen v ≤ 2 := by unfold vlen; split <;> omega
    rw [fX8_appendInteger_L7, if_pos (by rw [nI_leI (by omega) (by omega)]; omega), e]
  | r + 1, i, k + 1, hi, hk => by
    have hl : vlen v ≤ 2 := by unfold vlen; split <;> omega
    rw [fX8_appendInteger_L7, if_neg (by rw [nI_leI (by omega) (by omega)]; omega), m_byteOf hv (by omega), Option.bind_some, L2, m_app_s (by omega) (by omega), Option.bind_some, nI_1]
    exact m_appInt_L hv h r (i + 1) k (by omega) (by omega)
  | r, i, 0, hi, hk => by omega
theorem m_appInt {sc : Nat → Int32} {ar : Nat → Nat → Int32} {c v : Nat} (hv : v < 16384) (h : c + 2 < 3000) (hc : ar 1 2 = nI c) : fX8_appendInteger sc ar (nI v) = some (rA ar 2 c (vlen v) (vfun v)) := by
  have hl : vlen v ≤ 2 := by unfold vlen; split <;> omega
  have := m_appInt_L (sc := sc) (ar := ar) (c := c) hv h (vlen v) 0 FU (by omega) (by rw [FUv]; omega)
  rw [rA_0 hc] at this
  rw [fX8_appendInteger, m_bytesOf hv, Option.bind_some, L0, this, Option.bind_some]
theorem m_wrInt_L {sc : Nat → Int32} {ar : Nat → Nat → Int32} {s c v : Nat} (hs : s < 3) (hv : v < 16384) (h : c + 2 ≤ 400) : ∀ (r i k : Nat), i + r = vlen v → r < k → fX8_writeInteger_L8 sc (nI s) (nI v) (nI (vlen v)) k (nI i) (wA ar s c i (vfun v)) = some (wA ar s c (vlen v) (vfun v))
  | 0, i, k + 1, hi, _ => by
    have e : i = vlen v := by omega
    have hl : vlen v ≤ 2 := by unfold vlen; split <;> omega
    rw [fX8_writeInteger_L8, if_pos (by rw [nI_leI (by omega) (by omega)]; omega), e]
  | r + 1, i, k + 1, hi, hk => by
    have hl : vlen v ≤ 2 := by unfold vlen; split <;> omega
    rw [fX8_writeInteger_L8, if_neg (by rw [nI_leI (by omega) (by omega)]; omega), m_byteOf hv (by omega), Option.bind_some, m_wr_s hs (by omega), Option.bind_some, nI_1]
    exact m_wrInt_L hs hv h r (i + 1) k (by omega) (by omega)
  | r, i, 0, hi, hk => by omega
theorem m_wrInt {sc : Nat → Int32} {ar : Nat → Nat → Int32} {s c v : Nat} (hs : s < 3) (hv : v < 16384) (h : c + 2 ≤ 400) (hc : ar 9 s = nI c) : fX8_writeInteger sc ar (nI s) (nI v) = some (wA ar s c (vlen v) (vfun v)) := by
  have hl : vlen v ≤ 2 := by unfold vlen; split <;> omega
  have := m_wrInt_L (sc := sc) (ar := ar) (c := c) hs hv h (vlen v) 0 FU (by omega) (by rw [FUv]; omega)
  rw [wA_0 hc] at this
  rw [fX8_writeInteger, m_bytesOf hv, Option.bind_some, L0, this, Option.bind_some]
theorem wr_0 {sc : Nat → Int32} {ar : Nat → Nat → Int32} {c : Nat} {b : Int32} (hc : ar 9 0 = nI c) (h : c < 400) : fX8_write sc ar (0 : Int32) b = some (wA ar 0 c 1 (fun _ => b)) := m_wr1 (r := 0) (by omega) hc h
theorem wr_1 {sc : Nat → Int32} {ar : Nat → Nat → Int32} {c : Nat} {b : Int32} (hc : ar 9 1 = nI c) (h : c < 400) : fX8_write sc ar (1 : Int32) b = some (wA ar 1 c 1 (fun _ => b)) := m_wr1 (r := 1) (by omega) hc h
theorem wr_2 {sc : Nat → Int32} {ar : Nat → Nat → Int32} {c : Nat} {b : Int32} (hc : ar 9 2 = nI c) (h : c < 400) : fX8_write sc ar (2 : Int32) b = some (wA ar 2 c 1 (fun _ => b)) := m_wr1 (r := 2) (by omega) hc h
theorem wrI_1 {sc : Nat → Int32} {ar : Nat → Nat → Int32} {c v : Nat} (hv : v < 16384) (h : c + 2 ≤ 400) (hc : ar 9 1 = nI c) : fX8_writeInteger sc ar (1 : Int32) (nI v) = some (wA ar 1 c (vlen v) (vfun v)) := m_wrInt (s := 1) (by omega) hv h hc
theorem wrI_2 {sc : Nat → Int32} {ar : Nat → Nat → Int32} {c v : Nat} (hv : v < 16384) (h : c + 2 ≤ 400) (hc : ar 9 2 = nI c) : fX8_writeInteger sc ar (2 : Int32) (nI v) = some (wA ar 2 c (vlen v) (vfun v)) := m_wrInt (s := 2) (by omega) hv h hc
theorem ap_2 {sc : Nat → Int32} {ar : Nat → Nat → Int32} {c : Nat} {b : Int32} (hc : ar 1 2 = nI c) (h : c < 3000) : fX8_append sc ar (2 : Int32) b = some (rA ar 2 c 1 (fun _ => b)) := m_app1 (r := 2) (by omega) hc (by omega)
theorem ap_4 {sc : Nat → Int32} {ar : Nat → Nat → Int32} {c : Nat} {b : Int32} (hc : ar 1 4 = nI c) (h : c < 1000) : fX8_append sc ar (4 : Int32) b = some (rA ar 4 c 1 (fun _ => b)) := m_app1 (r := 4) (by omega) hc (by omega)
