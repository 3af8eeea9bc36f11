/-! PURE: the search for runs and copies, both sides -/
def STR (sl n fr : Nat) (str : Nat → Int32) (sc : Nat → Int32) (ar mar : Nat → Nat → Int32) : Prop := sc 4 = nI (sl + n) ∧ (∀ i, i < sl + n → ar 4 i = str i) ∧ mar 1 0 = nI sl ∧ (∀ i, i < sl → mar 0 i = str i) ∧ (∀ j, j < n → mar 0 (1000 + fr + j) = str (sl + j)) ∧ (∀ i, i < sl + n → isb (str i)) ∧ sl ≤ 48 ∧ fr + n ≤ 64
theorem x_strAt {sl n fr : Nat} {str : Nat → Int32} {sc : Nat → Int32} {ar mar : Nat → Nat → Int32} (h : STR sl n fr str sc ar mar) {i : Nat} (hi : i < sl + n) : fX6_at 112 (ar 4) (sc 4) (nI i) = some (str i) := by
  obtain ⟨h1, h2, -, -, -, -, h7, h8⟩ := h
  rw [h1, row_at hi (by omega) (by omega), h2 i hi]
theorem m_strAt {sl n fr : Nat} {str : Nat → Int32} {sc : Nat → Int32} {ar mar : Nat → Nat → Int32} {msc : Nat → Int32} (h : STR sl n fr str sc ar mar) {i : Nat} (hi : i < sl + n) : fX8_stringAt msc mar (nI fr) (nI i) = some (str i) := by
  obtain ⟨-, -, h3, h4, h5, -, h7, h8⟩ := h
  have z : (0 : Int32).toNatClampNeg = 0 := by decide
  rw [fX8_stringAt, z, h3, if_pos (by decide)]
  by_cases hl : sl ≤ i
  · have e : (1000 : Int32) + nI fr + nI i - nI sl = nI (1000 + fr + (i - sl)) := by
      rw [L1000, nI_add, nI_add, pk_sub (by omega)]; congr 1; omega
    rw [if_pos (by rw [nI_leI (by omega) (by omega)]; exact hl), if_pos (by decide), e, if_pos (by rw [inb_nI (by omega)]; omega), nI_clamp (by omega), h5 (i - sl) (by omega)]
    congr 2; omega
  · rw [if_neg (by rw [nI_leI (by omega) (by omega)]; exact hl), if_pos (by rw [inb_nI (by omega)]; omega), nI_clamp (by omega), h4 i (by omega)]
theorem m_tgAt {sl n fr : Nat} {str : Nat → Int32} {sc : Nat → Int32} {ar mar : Nat → Nat → Int32} (h : STR sl n fr str sc ar mar) {p v : Nat} (h1 : fr ≤ p) (hi : p + v < fr + n) : inb ((1000 : Int32) + nI p + nI v) 5000 = true ∧ mar 0 ((1000 : Int32) + nI p + nI v).toNatClampNeg = str (sl + (p - fr) + v) := by
  obtain ⟨-, -, -, -, h5, -, h7, h8⟩ := h
  have e : (1000 : Int32) + nI p + nI v = nI (1000 + fr + (p - fr + v)) := by
    rw [L1000, nI_add, nI_add]; congr 1; omega
  rw [e]
  refine ⟨by rw [inb_nI (by omega)]; omega, ?_⟩
  rw [nI_clamp (by omega), h5 _ (by omega)]; congr 1; omega
theorem m_tgAt0 {sl n fr : Nat} {str : Nat → Int32} {sc : Nat → Int32} {ar mar : Nat → Nat → Int32} (h : STR sl n fr str sc ar mar) {p : Nat} (h1 : fr ≤ p) (hi : p < fr + n) : inb ((1000 : Int32) + nI p) 5000 = true ∧ mar 0 ((1000 : Int32) + nI p).toNatClampNeg = str (sl + (p - fr)) := by
  have := m_tgAt (v := 0) h h1 (by omega)
  rw [show (1000 : Int32) + nI p + nI 0 = (1000 : Int32) + nI p by rw [L1000, nI_add, nI_add, Nat.add_zero]] at this
  exact this
theorem run_L {sl n fr : Nat} {str : Nat → Int32} {sc : Nat → Int32} {ar mar : Nat → Nat → Int32} {msc : Nat → Int32} {sg : Bool} (h : STR sl n fr str sc ar mar) {o : Nat} (ho : o < n) : ∀ (r v kx km : Nat), o + v + r = n → r < kx → r < km → ∃ w, v ≤ w ∧ o + w ≤ n ∧ fX3_sameBytes_L2 sc ar sg (nI (sl + o)) kx (nI v) = some (nI w) ∧ fX8_runFrom_L2 msc mar (nI (fr + o)) (nI (fr + n)) km (nI v) = some (nI w) := by
  have h4 := h.1
  have h7 := h.2.2.2.2.2.2.1
  have h8 := h.2.2.2.2.2.2.2
  intro r
  induction r with
  | zero =>
    intro v kx km hv hkx hkm
    obtain ⟨kx, rfl⟩ : ∃ q, kx = q + 1 := ⟨kx - 1, by omega⟩
    obtain ⟨km, rfl⟩ : ∃ q, km = q + 1 := ⟨km - 1, by omega⟩
    refine ⟨v, Nat.le_refl _, by omega, ?_, ?_⟩
    · rw [fX3_sameBytes_L2, fX6_count, Option.bind_some, h4, nI_add, if_pos (by rw [nI_leI (by omega) (by omega)]; omega)]
    · rw [fX8_runFrom_L2, nI_add, if_pos (by rw [nI_leI (by omega) (by omega)]; omega)]
  | succ r ih =>
    intro v kx km hv hkx hkm
    obtain ⟨kx, rfl⟩ : ∃ q, kx = q + 1 := ⟨kx - 1, by omega⟩
    obtain ⟨km, rfl⟩ : ∃ q, km = q + 1 := ⟨km - 1, by omega⟩
    obtain ⟨t1, t2⟩ := m_tgAt (p := fr + o) (v := v) h (by omega) (by omega)
    obtain ⟨u1, u2⟩ := m_tgAt0 (p := fr + o) h (by omega) (by omega)
    rw [show fr + o - fr = o by omega] at t2 u2
    have hg : ¬ nI (fr + n) ≤ nI (fr + o) + nI v := by rw [nI_add, nI_leI (by omega) (by omega)]; omega
    rw [fX3_sameBytes_L2, fX6_count, Option.bind_some, nI_add, if_neg (by rw [h4, nI_leI (by omega) (by omega)]; omega), x_strAt h (by omega), Option.bind_some, x_strAt h (by omega), Option.bind_some, fX8_runFrom_L2, if_neg hg, if_pos t1, if_pos u1, t2, u2, nI_1]
    by_cases hq : str (sl + o + v) = str (sl + o)
    · rw [if_pos hq, if_pos hq]
      obtain ⟨w, w1, w2, w3, w4⟩ := ih (v + 1) kx km (by omega) (by omega) (by omega)
      exact ⟨w, by omega, w2, w3, w4⟩
    · rw [if_neg hq, if_neg hq]
      exact ⟨v, Nat.le_refl _, by omega, rfl, rfl⟩
theorem run_sim {sl n fr : Nat} {str : Nat → Int32} {sc : Nat → Int32} {ar mar : Nat → Nat → Int32} {msc : Nat → Int32} {sg : Bool} (h : STR sl n fr str sc ar mar) {o : Nat} (ho : o < n) : ∃ w, 1 ≤ w ∧ o + w ≤ n ∧ fX3_sameBytes sc ar sg (nI (sl + o)) = some (nI w) ∧ fX8_runFrom msc mar (nI (fr + o)) (nI (fr + n)) = some (nI w) := by
  have h8 := h.2.2.2.2.2.2.2
  obtain ⟨w, w1, w2, w3, w4⟩ := run_L (msc := msc) (sg := sg) h ho (n - o - 1) 1 FU FU (by omega) (by rw [FUv]; omega) (by rw [FUv]; omega)
  refine ⟨w, w1, w2, ?_, ?_⟩
  · rw [fX3_sameBytes, L1, w3, Option.bind_some]
  · rw [fX8_runFrom, L1, w4, Option.bind_some]
theorem reach_L {sl n fr : Nat} {str : Nat → Int32} {sc : Nat → Int32} {ar mar : Nat → Nat → Int32} {msc : Nat → Int32} {sg : Bool} (h : STR sl n fr str sc ar mar) {o a : Nat} (ha : a < sl + o) : ∀ (r v kx km : Nat), o + v + r = n → r < kx → r < km → ∃ w, o + w ≤ n ∧ fX3_findCopy_L19 sc ar sg (nI (sl + o)) (nI a) kx (nI v) = some (nI w) ∧ fX8_reach_L3 msc mar (nI fr) (nI (fr + n)) (nI (fr + o)) (nI a) km (nI v) = some (nI w) := by
  have h4 := h.1
  have h7 := h.2.2.2.2.2.2.1
  have h8 := h.2.2.2.2.2.2.2
  intro r
  induction r with
  | zero =>
    intro v kx km hv hkx hkm
    obtain ⟨kx, rfl⟩ : ∃ q, kx = q + 1 := ⟨kx - 1, by omega⟩
    obtain ⟨km, rfl⟩ : ∃ q, km = q + 1 := ⟨km - 1, by omega⟩
    refine ⟨v, by omega, ?_, ?_⟩
    · rw [fX3_findCopy_L19, fX6_count, Option.bind_some, h4, nI_add, if_pos (by rw [nI_leI (by omega) (by omega)]; omega)]
    · rw [fX8_reach_L3, nI_add, if_pos (by rw [nI_leI (by omega) (by omega)]; omega)]
  | succ r ih =>
    intro v kx km hv hkx hkm
    obtain ⟨kx, rfl⟩ : ∃ q, kx = q + 1 := ⟨kx - 1, by omega⟩
    obtain ⟨km, rfl⟩ : ∃ q, km = q + 1 := ⟨km - 1, by omega⟩
    obtain ⟨t1, t2⟩ := m_tgAt (p := fr + o) (v := v) h (by omega) (by omega)
    rw [show fr + o - fr = o by omega] at t2
    have hg : ¬ nI (fr + n) ≤ nI (fr + o) + nI v := by rw [nI_add, nI_leI (by omega) (by omega)]; omega
    rw [fX3_findCopy_L19, fX6_count, Option.bind_some, nI_add, nI_add, if_neg (by rw [h4, nI_leI (by omega) (by omega)]; omega), x_strAt h (by omega), Option.bind_some, x_strAt h (by omega), Option.bind_some, fX8_reach_L3, if_neg hg, nI_add a v, m_strAt h (by omega), Option.bind_some, if_pos t1, t2, nI_1]
    by_cases hq : str (a + v) = str (sl + o + v)
    · rw [if_pos hq, if_pos hq]
      obtain ⟨w, w2, w3, w4⟩ := ih (v + 1) kx km (by omega) (by omega) (by omega)
      exact ⟨w, w2, w3, w4⟩
    · rw [if_neg hq, if_neg hq]
      exact ⟨v, by omega, rfl, rfl⟩
theorem STR_sc {sl n fr : Nat} {str : Nat → Int32} {sc sc' : Nat → Int32} {ar mar : Nat → Nat → Int32} (h : STR sl n fr str sc ar mar) (e : sc' 4 = sc 4) : STR sl n fr str sc' ar mar := ⟨by rw [e]; exact h.1, h.2⟩
theorem copy_L {sl n fr : Nat} {str : Nat → Int32} {ar mar : Nat → Nat → Int32} {msc : Nat → Int32} {sg : Bool} {o : Nat} (ho : o < n) : ∀ (r a kx km : Nat) (sc : Nat → Int32) (b : Int32) (lg ca : Nat), STR sl n fr str sc ar mar → a + r = sl + o → r < kx → r < km → sc 10 = nI lg → sc 11 = nI ca → o + lg ≤ n → (0 < lg → b = nI ca ∧ ca < sl + o) →
    ∃ (sc' : Nat → Int32) (b' : Int32) (lg' ca' : Nat), fX3_findCopy_L12 ar sg (nI (sl + o)) kx (nI a) sc = some sc' ∧ fX8_findInstructions_L28 msc mar (nI fr) (nI (fr + n)) (nI (fr + o)) (nI (sl + o)) km b (nI lg) (nI a) = some (b', nI lg') ∧ sc' 10 = nI lg' ∧ sc' 11 = nI ca' ∧ o + lg' ≤ n ∧ (0 < lg' → b' = nI ca' ∧ ca' < sl + o) ∧ ∀ k, k ≠ 10 → k ≠ 11 → sc' k = sc k := by
  intro r
  induction r with
  | zero =>
    intro a kx km sc b lg ca h ha hkx hkm h10 h11 hl hb
    obtain ⟨kx, rfl⟩ : ∃ q, kx = q + 1 := ⟨kx - 1, by omega⟩
    obtain ⟨km, rfl⟩ : ∃ q, km = q + 1 := ⟨km - 1, by omega⟩
    have h7 := h.2.2.2.2.2.2.1
    have h8 := h.2.2.2.2.2.2.2
    have hle : nI (sl + o) ≤ nI a := by rw [nI_leI (by omega) (by omega)]; omega
    refine ⟨sc, b, lg, ca, ?_, ?_, h10, h11, hl, hb, fun _ _ _ => rfl⟩
    · rw [fX3_findCopy_L12, if_pos hle]
    · rw [fX8_findInstructions_L28, if_pos hle]
  | succ r ih =>
    intro a kx km sc b lg ca h ha hkx hkm h10 h11 hl hb
    obtain ⟨kx, rfl⟩ : ∃ q, kx = q + 1 := ⟨kx - 1, by omega⟩
    obtain ⟨km, rfl⟩ : ∃ q, km = q + 1 := ⟨km - 1, by omega⟩
    have h7 := h.2.2.2.2.2.2.1
    have h8 := h.2.2.2.2.2.2.2
    have hle : ¬ nI (sl + o) ≤ nI a := by rw [nI_leI (by omega) (by omega)]; omega
    obtain ⟨w, w2, w3, w4⟩ := reach_L (msc := msc) (sg := sg) h (o := o) (a := a) (by omega) (n - o) 0 FU FU (by omega) (by rw [FUv]; omega) (by rw [FUv]; omega)
    rw [fX3_findCopy_L12, if_neg hle, L0, w3, Option.bind_some, fX8_findInstructions_L28, if_neg hle, fX8_reach, L0, w4, Option.bind_some, Option.bind_some, h10, nI_1]
    by_cases hq : nI w ≤ nI lg
    · rw [if_pos hq, if_pos hq, if_pos hq]
      exact ih (a + 1) kx km sc b lg ca h (by omega) (by omega) (by omega) h10 h11 hl hb
    · rw [if_neg hq, if_neg hq, if_neg hq]
      obtain ⟨sc', b', lg', ca', q1, q2, q3, q4, q5, q6, q7⟩ := ih (a + 1) kx km (va_up (va_up sc 10 (nI w)) 11 (nI a)) (nI a) w a (STR_sc h rfl) (by omega) (by omega) (by omega) rfl rfl w2 (fun _ => ⟨rfl, by omega⟩)
      exact ⟨sc', b', lg', ca', q1, q2, q3, q4, q5, q6, fun k k1 k2 => by rw [q7 k k1 k2, up_ap, if_neg k2, up_ap, if_neg k1]⟩
theorem copy_sim {sl n fr : Nat} {str : Nat → Int32} {sc : Nat → Int32} {ar mar : Nat → Nat → Int32} {msc : Nat → Int32} {sg : Bool} (h : STR sl n fr str sc ar mar) {o : Nat} (ho : o < n) :
    ∃ (sc' : Nat → Int32) (b' : Int32) (lg' ca' : Nat), fX3_findCopy sc ar sg (nI (sl + o)) = some sc' ∧ fX8_findInstructions_L28 msc mar (nI fr) (nI (fr + n)) (nI (fr + o)) (nI (sl + o)) FU (-1) 0 0 = some (b', nI lg') ∧ sc' 10 = nI lg' ∧ sc' 11 = nI ca' ∧ o + lg' ≤ n ∧ (0 < lg' → b' = nI ca' ∧ ca' < sl + o) ∧ ∀ k, k ≠ 10 → k ≠ 11 → sc' k = sc k := by
  have h7 := h.2.2.2.2.2.2.1
  have h8 := h.2.2.2.2.2.2.2
  obtain ⟨sc', b', lg', ca', q1, q2, q3, q4, q5, q6, q7⟩ := copy_L (str := str) (msc := msc) (sg := sg) (fr := fr) (mar := mar) (ar := ar) ho (sl + o) 0 FU FU (va_up (va_up sc 10 0) 11 0) (-1) 0 0 (STR_sc h rfl) (by omega) (by rw [FUv]; omega) (by rw [FUv]; omega) rfl rfl (by omega) (fun q => by omega)
  refine ⟨sc', b', lg', ca', ?_, q2, q3, q4, q5, q6, fun k k1 k2 => by rw [q7 k k1 k2, up_ap, if_neg k2, up_ap, if_neg k1]⟩
  rw [fX3_findCopy]
  have q1' : fX3_findCopy_L12 ar sg (nI (sl + o)) FU 0 (va_up (va_up sc 10 0) 11 0) = some sc' := q1
  rw [q1', Option.bind_some]
