/-! PURE: numbers -/
theorem L0 : (0 : Int32) = nI 0 := rfl
theorem L1 : (1 : Int32) = nI 1 := rfl
theorem L2 : (2 : Int32) = nI 2 := rfl
theorem L3 : (3 : Int32) = nI 3 := rfl
theorem L4 : (4 : Int32) = nI 4 := rfl
theorem L5 : (5 : Int32) = nI 5 := rfl
theorem L6 : (6 : Int32) = nI 6 := rfl
theorem L7 : (7 : Int32) = nI 7 := rfl
theorem L12 : (12 : Int32) = nI 12 := rfl
theorem L14 : (14 : Int32) = nI 14 := rfl
theorem L16 : (16 : Int32) = nI 16 := rfl
theorem L17 : (17 : Int32) = nI 17 := rfl
theorem L18 : (18 : Int32) = nI 18 := rfl
theorem L19 : (19 : Int32) = nI 19 := rfl
theorem L21 : (21 : Int32) = nI 21 := rfl
theorem L28 : (28 : Int32) = nI 28 := rfl
theorem L48 : (48 : Int32) = nI 48 := rfl
theorem L64 : (64 : Int32) = nI 64 := rfl
theorem L112 : (112 : Int32) = nI 112 := rfl
theorem L127 : (127 : Int32) = nI 127 := rfl
theorem L128 : (128 : Int32) = nI 128 := rfl
theorem L163 : (163 : Int32) = nI 163 := rfl
theorem L235 : (235 : Int32) = nI 235 := rfl
theorem L247 : (247 : Int32) = nI 247 := rfl
theorem L255 : (255 : Int32) = nI 255 := rfl
theorem L256 : (256 : Int32) = nI 256 := rfl
theorem L400 : (400 : Int32) = nI 400 := rfl
theorem L768 : (768 : Int32) = nI 768 := rfl
theorem L771 : (771 : Int32) = nI 771 := rfl
theorem L772 : (772 : Int32) = nI 772 := rfl
theorem L1000 : (1000 : Int32) = nI 1000 := rfl
theorem L3000 : (3000 : Int32) = nI 3000 := rfl
theorem L4000 : (4000 : Int32) = nI 4000 := rfl
theorem L320 : (320 : Int32) = nI 320 := rfl
theorem inb_nI {i n : Nat} (h : i < 2 ^ 31) : (inb (nI i) n = true) = (i < n) := by
  simp only [inb, Bool.and_eq_true, decide_eq_true_eq, nI_toInt h, eq_iff_iff]
  omega
theorem nI_nlt0 {i : Nat} (h : i < 2 ^ 31) : ¬ (nI i < 0) := nI_pos h
theorem nI_ne_m1 {i : Nat} (h : i < 2 ^ 31) : ¬ (nI i = (-1 : Int32)) := by
  intro e
  have := congrArg Int32.toInt e
  rw [nI_toInt h] at this
  have h2 : (-1 : Int32).toInt = -1 := by decide
  omega
theorem upd_s {f : Nat → Int32} {k : Nat} {x : Int32} : upd f k x k = x := pk_us
theorem upd_n {f : Nat → Int32} {k j : Nat} {x : Int32} (h : j ≠ k) : upd f k x j = f j := pk_un h
theorem upd_ap (f : Nat → Int32) (k : Nat) (x : Int32) (j : Nat) : upd f k x j = if j = k then x else f j := by
  by_cases h : j = k
  · rw [if_pos h, h, upd_s]
  · rw [if_neg h, upd_n h]
theorem up_ap {α : Type} (f : Nat → α) (k : Nat) (x : α) (j : Nat) : va_up f k x j = if j = k then x else f j := rfl
theorem shr_nI {v : Nat} (h : v < 2 ^ 31) (s : Int32) (k : Nat) (hs : (s.toBitVec.smod 32).toNat = k) : nI v >>> s = nI (v / 2 ^ k) := pk_shrN h s k hs
theorem and127 {v : Nat} (h : v < 2 ^ 31) : nI v &&& nI 127 = nI (v % 128) := pk_andN (by omega) 7 (by decide)
/-! PURE: rows -/
theorem row_at {n : Nat} {f : Nat → Int32} {c i : Nat} (hi : i < c) (hc : c ≤ n) (hn : n < 2 ^ 31) : fX6_at n f (nI c) (nI i) = some (f i) := by
  rw [fX6_at, if_neg (nI_pos (by omega)), if_neg (by rw [nI_leI (by omega) (by omega)]; omega), if_pos (by rw [inb_nI (by omega)]; omega), nI_clamp (by omega)]
theorem row_out {n : Nat} {f : Nat → Int32} {c i : Nat} (hi : c ≤ i) (h : i < 2 ^ 31) : fX6_at n f (nI c) (nI i) = some (-1 : Int32) := by
  rw [fX6_at, if_neg (nI_pos (by omega)), if_pos (by rw [nI_leI (by omega) (by omega)]; omega)]
theorem row_app {n : Nat} {f : Nat → Int32} {c : Nat} {b : Int32} (hc : c < n) (hn : n < 2 ^ 31) : fX6_append n f (nI c) b = some (upd f c b, nI (c + 1)) := by
  rw [fX6_append, if_neg (by rw [nI_leI (by omega) (by omega)]; omega), if_pos (by rw [inb_nI (by omega)]; omega), nI_clamp (by omega), nI_1]
theorem row_keep0 {n : Nat} {f : Nat → Int32} {c : Nat} (hc : c < 2 ^ 31) : fX6_keep n f (nI c) 0 = some (nI 0) := by
  rw [fX6_keep, if_neg (by decide)]
  by_cases h : c = 0
  · subst h; rw [if_pos (by decide)]
  · rw [if_neg (by rw [L0, nI_leI (by omega) (by omega)]; omega), L0]
theorem row_keep {n : Nat} {f : Nat → Int32} {c i : Nat} (hi : i ≤ c) (hc : c < 2 ^ 31) : fX6_keep n f (nI c) (nI i) = some (nI i) := by
  rw [fX6_keep, if_neg (nI_pos (by omega))]
  by_cases h : c = i
  · subst h; rw [if_pos (by rw [nI_leI (by omega) (by omega)]; omega)]
  · rw [if_neg (by rw [nI_leI (by omega) (by omega)]; omega)]
/-- f with the m values g behind place c -/
def apd (f : Nat → Int32) (c m : Nat) (g : Nat → Int32) : Nat → Int32 := fun j => if c ≤ j ∧ j < c + m then g (j - c) else f j
theorem apd_0 (f g : Nat → Int32) (c : Nat) : apd f c 0 g = f := by
  funext j; simp only [apd]; rw [if_neg (by omega)]
theorem apd_s (f g : Nat → Int32) (c m : Nat) : apd f c (m + 1) g = upd (apd f c m g) (c + m) (g m) := by
  funext j
  rw [upd_ap]; simp only [apd]
  by_cases h : j = c + m
  · rw [if_pos (by omega), if_pos h, h]; congr 1; omega
  · rw [if_neg h]
    by_cases h2 : c ≤ j ∧ j < c + m
    · rw [if_pos (by omega), if_pos h2]
    · rw [if_neg (by omega), if_neg h2]
theorem row_appRow_L {n n2 : Nat} {f2 : Nat → Int32} {c2 c : Nat} {f0 : Nat → Int32} (hn : c + c2 ≤ n) (hn1 : n < 2 ^ 30) (h2 : c2 ≤ n2) (hn2 : n2 < 2 ^ 30) : ∀ (r i k : Nat), i + r = c2 → r < k → fX6_appendRow_L2 n n2 f2 (nI c2) k (nI i) (apd f0 c i f2) (nI (c + i)) = some (apd f0 c c2 f2, nI (c + c2))
  | 0, i, k + 1, hi, _ => by
    have e : i = c2 := by omega
    subst e
    rw [fX6_appendRow_L2, if_pos (by rw [nI_leI (by omega) (by omega)]; omega)]
  | r + 1, i, k + 1, hi, hk => by
    rw [fX6_appendRow_L2, if_neg (by rw [nI_leI (by omega) (by omega)]; omega), if_pos (by rw [inb_nI (by omega)]; omega), nI_clamp (by omega), row_app (by omega) (by omega), Option.bind_some, nI_1]
    have h := row_appRow_L (f0 := f0) (f2 := f2) hn hn1 h2 hn2 r (i + 1) k (by omega) (by omega)
    rw [apd_s] at h
    exact h
  | r, i, 0, hi, hk => by omega
theorem FUv : FU = 6000 := rfl
theorem row_appRow {n n2 : Nat} {f f2 : Nat → Int32} {c c2 : Nat} (hn : c + c2 ≤ n) (hn1 : n < 5000) (h2 : c2 ≤ n2) (hn2 : n2 < 5000) : fX6_appendRow n n2 f (nI c) f2 (nI c2) = some (apd f c c2 f2, nI (c + c2)) := by
  have h := row_appRow_L (f0 := f) (f2 := f2) hn (by omega) h2 (by omega) c2 0 FU (by omega) (by rw [FUv]; omega)
  rw [apd_0, Nat.add_zero] at h
  rw [fX6_appendRow, L0, h, Option.bind_some]
theorem row_become {n n2 : Nat} {f f2 : Nat → Int32} {ct : Int32} {c2 : Nat} (hn : c2 ≤ n) (hn1 : n < 5000) (h2 : c2 ≤ n2) (hn2 : n2 < 5000) : fX6_become n n2 f ct f2 (nI c2) = some (apd f 0 c2 f2, nI c2, nI c2) := by
  rw [fX6_become, L0, row_appRow (by omega) hn1 h2 hn2, Option.bind_some, Nat.zero_add]
/-- an integer of one or two bytes, appended -/
def vlen (v : Nat) : Nat := if v < 128 then 1 else 2
def vbyte (v j : Nat) : Nat := if v < 128 then v else if j = 0 then 128 + v / 128 else v % 128
def vfun (v : Nat) : Nat → Int32 := fun j => nI (vbyte v j)
theorem row_appInt_L {n : Nat} {f : Nat → Int32} {c v : Nat} (hv : v < 16384) (hc : 128 ≤ v → c < n) (hn : n < 5000) : fX6_appendInteger_L3 n (nI v) FU (nI 28) f (nI c) = if v < 128 then some (f, nI c) else some (upd f c (nI (128 + v / 128)), nI (c + 1)) := by
  have s0 : FU = 5995 + 1 + 1 + 1 + 1 + 1 := rfl
  have a28 : nI v >>> ((nI 28) &&& 31) = nI (v / 2 ^ 28) := shr_nI (by omega) _ 28 (by decide)
  have a21 : nI v >>> ((nI 21) &&& 31) = nI (v / 2 ^ 21) := shr_nI (by omega) _ 21 (by decide)
  have a14 : nI v >>> ((nI 14) &&& 31) = nI (v / 2 ^ 14) := shr_nI (by omega) _ 14 (by decide)
  have a7 : nI v >>> ((nI 7) &&& 31) = nI (v / 2 ^ 7) := shr_nI (by omega) _ 7 (by decide)
  have e1 : nI 28 + (-7 : Int32) = nI 21 := by decide
  have e2 : nI 21 + (-7 : Int32) = nI 14 := by decide
  have e3 : nI 14 + (-7 : Int32) = nI 7 := by decide
  have e4 : nI 7 + (-7 : Int32) = nI 0 := by decide
  have z28 : v / 2 ^ 28 = 0 := Nat.div_eq_of_lt (by omega)
  have z21 : v / 2 ^ 21 = 0 := Nat.div_eq_of_lt (by omega)
  have z14 : v / 2 ^ 14 = 0 := Nat.div_eq_of_lt (by omega)
  rw [s0, fX6_appendInteger_L3, if_neg (by decide), a28, z28, if_pos (by decide), e1]
  rw [fX6_appendInteger_L3, if_neg (by decide), a21, z21, if_pos (by decide), e2]
  rw [fX6_appendInteger_L3, if_neg (by decide), a14, z14, if_pos (by decide), e3]
  rw [fX6_appendInteger_L3, if_neg (by decide), a7, e4]
  by_cases h : v < 128
  · have z7 : v / 2 ^ 7 = 0 := Nat.div_eq_of_lt (by omega)
    rw [z7, if_pos (by decide), if_pos h, fX6_appendInteger_L3, if_pos (by decide)]
  · have z7 : v / 2 ^ 7 = v / 128 := rfl
    rw [if_neg h, z7, if_neg (by rw [L0, nI_leI (by omega) (by omega)]; omega), L127, and127 (by omega), L128, nI_add, Nat.mod_eq_of_lt (by omega), row_app (hc (by omega)) (by omega), Option.bind_some, fX6_appendInteger_L3, if_pos (by decide)]
theorem row_appInt {n : Nat} {f : Nat → Int32} {c v : Nat} (hv : v < 16384) (hc : c + vlen v ≤ n) (hn : n < 5000) : fX6_appendInteger n f (nI c) (nI v) = some (apd f c (vlen v) (vfun v), nI (c + vlen v)) := by
  rw [fX6_appendInteger, L28, row_appInt_L hv (fun q => by unfold vlen at hc; rw [if_neg (by omega)] at hc; omega) hn]
  unfold vlen at hc
  by_cases h : v < 128
  · rw [if_pos h] at hc
    rw [if_pos h, Option.bind_some, L127, and127 (by omega), row_app (by omega) (by omega), Option.bind_some]
    have e : vlen v = 0 + 1 := by simp [vlen, h]
    rw [e, apd_s, apd_0]
    simp only [vfun, vbyte, if_pos h, Nat.add_zero, Nat.zero_add, Nat.mod_eq_of_lt h]
  · rw [if_neg h] at hc
    rw [if_neg h, Option.bind_some, L127, and127 (by omega), row_app (by omega) (by omega), Option.bind_some]
    have e : vlen v = 0 + 1 + 1 := by simp [vlen, h]
    rw [e, apd_s, apd_s, apd_0]
    simp [vfun, vbyte, h, Nat.add_assoc]
theorem nI_2 (a : Nat) : nI a + 2 = nI (a + 2) := nI_add a 2
