/-! PURE: caches, both sides -/
theorem nx_xor (a b : Nat) : nI a ^^^ nI b = nI (a ^^^ b) := by
  apply Int32.toBitVec_inj.mp
  simp [nI, Int32.toBitVec_xor]
theorem fmod {x d : Nat} (hx : x < 2 ^ 31) (h0 : 0 < d) (hd : d < 2 ^ 31) : fJ9_floorMod_7cf53 (nI x) (nI d) = some (nI (x % d)) := by
  have hz : nz (nI d) = true := by
    unfold nz
    have : ¬ nI d = 0 := by rw [L0, nI_eq (by omega) (by omega)]; omega
    simp [this]
  have hxo : x ^^^ d < 2 ^ 31 := Nat.xor_lt_two_pow hx hd
  rw [fJ9_floorMod_7cf53, if_pos hz, nx_xor, if_pos (nI_pos' hxo), pk_rem hx h0 hd]
theorem fill_L {n : Nat} {f : Nat → Int32} {v : Int32} (hn : n < 2 ^ 30) : ∀ (r i k : Nat), i + r = n → r < k → fJ7_fill_53178_L5 n v (nI n) k (nI i) (apd f 0 i (fun _ => v)) = some (apd f 0 n (fun _ => v))
  | 0, i, k + 1, hi, _ => by
    have e : i = n := by omega
    rw [fJ7_fill_53178_L5, if_pos (by rw [nI_leI (by omega) (by omega)]; omega), e]
  | r + 1, i, k + 1, hi, hk => by
    rw [fJ7_fill_53178_L5, if_neg (by rw [nI_leI (by omega) (by omega)]; omega), if_pos (by rw [inb_nI (by omega)]; omega), nI_clamp (by omega), nI_1]
    have h := fill_L (f := f) (v := v) hn r (i + 1) k (by omega) (by omega)
    rw [apd_s, Nat.zero_add] at h
    exact h
  | r, i, 0, hi, hk => by omega
theorem fill_all {n : Nat} {f : Nat → Int32} {v : Int32} (hn : n < 5000) : fJ7_fill_53178 n f v = some (apd f 0 n (fun _ => v)) := by
  have h := fill_L (f := f) (v := v) (n := n) (by omega) n 0 FU (by omega) (by rw [FUv]; omega)
  rw [apd_0] at h
  rw [fJ7_fill_53178, L0, h, Option.bind_some]
/-- n zeros in front -/
def zf (f : Nat → Int32) (n : Nat) : Nat → Int32 := apd f 0 n (fun _ => 0)
theorem zf_in {f : Nat → Int32} {n j : Nat} (h : j < n) : zf f n j = nI 0 := by
  simp only [zf, apd]; rw [if_pos (by omega)]; rfl
theorem x_clear {fn fs : Nat → Int32} {cp : Int32} : fX0_clear fn fs cp = some (zf fn 4, zf fs 768, nI 0) := by
  rw [fX0_clear, fill_all (by omega), Option.bind_some, fill_all (by omega), Option.bind_some]
  rfl
theorem m_forget_L2 {sc : Nat → Int32} {ar : Nat → Nat → Int32} : ∀ (r i k : Nat), i + r = 4 → r < k → fX8_forget_L2 sc k (nI i) (va_up ar 2 (apd (ar 2) 0 i (fun _ => 0))) = some (va_up ar 2 (zf (ar 2) 4))
  | 0, i, k + 1, hi, _ => by
    have e : i = 4 := by omega
    subst e
    rw [fX8_forget_L2, if_pos (by decide)]; rfl
  | r + 1, i, k + 1, hi, hk => by
    rw [fX8_forget_L2, if_neg (by rw [L4, nI_leI (by omega) (by omega)]; omega), if_pos (by rw [inb_nI (by omega)]; omega), nI_clamp (by omega), nI_1]
    have h := m_forget_L2 (sc := sc) (ar := ar) r (i + 1) k (by omega) (by omega)
    rw [apd_s, Nat.zero_add] at h
    rw [← h]
    congr 1
    funext j; simp only [up_ap]; split <;> rfl
  | r, i, 0, hi, hk => by omega
theorem m_forget_L22 {sc : Nat → Int32} {ar : Nat → Nat → Int32} : ∀ (r i k : Nat), i + r = 768 → r < k → fX8_forget_L22 sc k (nI i) (va_up ar 3 (apd (ar 3) 0 i (fun _ => 0))) = some (va_up ar 3 (zf (ar 3) 768))
  | 0, i, k + 1, hi, _ => by
    have e : i = 768 := by omega
    subst e
    rw [fX8_forget_L22, if_pos (by decide)]; rfl
  | r + 1, i, k + 1, hi, hk => by
    rw [fX8_forget_L22, if_neg (by rw [L768, nI_leI (by omega) (by omega)]; omega), if_pos (by rw [inb_nI (by omega)]; omega), nI_clamp (by omega), nI_1]
    have h := m_forget_L22 (sc := sc) (ar := ar) r (i + 1) k (by omega) (by omega)
    rw [apd_s, Nat.zero_add] at h
    rw [← h]
    congr 1
    funext j; simp only [up_ap]; split <;> rfl
  | r, i, 0, hi, hk => by omega
theorem m_forget {sc : Nat → Int32} {ar : Nat → Nat → Int32} : fX8_forget sc ar = some (va_up sc 1 (nI 0), va_up (va_up ar 2 (zf (ar 2) 4)) 3 (zf (ar 3) 768)) := by
  have h1 := m_forget_L2 (sc := sc) (ar := ar) 4 0 FU (by omega) (by rw [FUv]; omega)
  rw [apd_0, up_id rfl] at h1
  have h2 := m_forget_L22 (sc := sc) (ar := va_up ar 2 (zf (ar 2) 4)) 768 0 FU (by omega) (by rw [FUv]; omega)
  rw [apd_0, up_id rfl] at h2
  rw [fX8_forget, L0, h1, Option.bind_some, h2, Option.bind_some]
  rfl
theorem x_learn {fn fs : Nat → Int32} {c x : Nat} (hc : c < 2 ^ 30) (hx : x < 2 ^ 30) : fX0_learn fn fs (nI c) (nI x) = some (upd fn (c % 4) (nI x), upd fs (x % 768) (nI x), nI (c + 1)) := by
  rw [fX0_learn, L4, fmod (by omega) (by omega) (by omega), Option.bind_some, if_pos (by rw [inb_nI (by omega)]; omega), L768, fmod (by omega) (by omega) (by omega), Option.bind_some, if_pos (by rw [inb_nI (by omega)]; omega), nI_clamp (by omega), nI_clamp (by omega), nI_1]
theorem m_note {sc : Nat → Int32} {ar : Nat → Nat → Int32} {t x : Nat} (ht : sc 1 = nI t) (h4 : t < 4) (hx : x < 2 ^ 30) : fX8_note sc ar (nI x) = some (va_up sc 1 (nI ((t + 1) % 4)), va_up (va_up ar 2 (upd (ar 2) t (nI x))) 3 (upd (ar 3) (x % 768) (nI x))) := by
  rw [fX8_note, ht, L768, pk_rem (by omega) (by omega) (by omega), if_pos (by rw [inb_nI (by omega)]; omega), if_pos (by rw [inb_nI (by omega)]; omega), nI_1, L4, pk_rem (by omega) (by omega) (by omega), nI_clamp (by omega), nI_clamp (by omega)]
/-- the integer of an address in a mode 0 .. 5 -/
def dst (fn : Nat → Int32) (m a h : Nat) : Int32 := if m = 0 then nI a else if m = 1 then nI h - nI a else nI a - fn (m - 2)
theorem x_int {fn fs : Nat → Int32} {cp : Int32} {m a h : Nat} (hm : m < 6) : fX0_integerFor fn fs cp (nI m) (nI a) (nI h) = some (dst fn m a h) := by
  unfold dst
  rcases (show m = 0 ∨ m = 1 ∨ 2 ≤ m by omega) with rfl | rfl | h2
  · rw [fX0_integerFor, if_pos (by decide), if_neg (by decide), if_pos rfl]
  · rw [fX0_integerFor, if_pos (by decide), if_pos (by decide), if_neg (by decide), if_pos rfl]
  · rw [fX0_integerFor, if_neg (by rw [L2, nI_ltI (by omega) (by omega)]; omega), if_neg (by rw [L6, nI_leI (by omega) (by omega)]; omega), L2, pk_sub h2, if_pos (by rw [inb_nI (by omega)]; omega), nI_clamp (by omega), if_neg (by omega), if_neg (by omega)]
theorem m_int {sc : Nat → Int32} {ar : Nat → Nat → Int32} {m a h : Nat} (hm : m < 6) : fX8_distance sc ar (nI m) (nI a) (nI h) = some (dst (ar 2) m a h) := by
  unfold dst
  rcases (show m = 0 ∨ m = 1 ∨ 2 ≤ m by omega) with rfl | rfl | h2
  · rw [fX8_distance, if_pos (by decide), if_pos rfl]
  · rw [fX8_distance, if_neg (by decide), if_pos (by decide), if_neg (by decide), if_pos rfl]
  · rw [fX8_distance, if_neg (by rw [L0, nI_eq (by omega) (by omega)]; omega), if_neg (by rw [L1, nI_eq (by omega) (by omega)]; omega), L2, pk_sub h2, if_pos (by rw [inb_nI (by omega)]; omega), nI_clamp (by omega), if_neg (by omega), if_neg (by omega)]
theorem dst_eq {f g : Nat → Int32} {m a h : Nat} (hm : m < 6) (e : ∀ i, i < 4 → f i = g i) : dst f m a h = dst g m a h := by
  unfold dst
  by_cases h0 : m = 0
  · rw [if_pos h0, if_pos h0]
  · by_cases h1 : m = 1
    · rw [if_neg h0, if_neg h0, if_pos h1, if_pos h1]
    · rw [if_neg h0, if_neg h0, if_neg h1, if_neg h1, e _ (by omega)]
theorem least_sim {fn fs : Nat → Int32} {cp : Int32} {sc : Nat → Int32} {ar : Nat → Nat → Int32} {a h : Nat} {n : Int32} (ha : a < 2 ^ 30) (e : ∀ i, i < 4 → fn i = ar 2 i) :
    ∀ (r m b d k k2 : Nat), m + r = 6 → r < k → r < k2 → b < 6 → dst fn b a h = nI d → d ≤ a → ∃ b' d' : Nat, b' < 6 ∧ dst fn b' a h = nI d' ∧ d' ≤ a ∧ fX0_leastMode_L5 fn fs cp (nI a) (nI h) k (nI b) (nI m) = some (nI b') ∧ fX8_copy_L6 sc ar (nI a) n (nI h) k2 (nI b) (nI m) = some (nI b')
  | 0, m, b, d, k + 1, k2 + 1, hm, _, _, hb, hd, hda => by
    have e6 : m = 6 := by omega
    subst e6
    refine ⟨b, d, hb, hd, hda, ?_, ?_⟩
    · rw [fX0_leastMode_L5, if_pos (by decide)]
    · rw [fX8_copy_L6, if_pos (by decide)]
  | r + 1, m, b, d, k + 1, k2 + 1, hm, hk, hk2, hb, hd, hda => by
    have hm6 : m < 6 := by omega
    have n6 : ¬ (6 : Int32) ≤ nI m := by rw [L6, nI_leI (by omega) (by omega)]; omega
    rw [fX0_leastMode_L5, if_neg n6, x_int hm6, Option.bind_some, x_int hb, Option.bind_some, fX8_copy_L6, if_neg n6, m_int hm6, Option.bind_some, Option.bind_some, m_int hb, Option.bind_some, ← dst_eq hm6 e, ← dst_eq hb e, hd, nI_1]
    by_cases hneg : dst fn m a h < 0
    · rw [if_pos hneg, if_pos hneg]
      exact least_sim ha e r (m + 1) b d k k2 (by omega) (by omega) (by omega) hb hd hda
    · rw [if_neg hneg, if_neg hneg]
      obtain ⟨j, hj, ej⟩ := nI_of hneg
      rw [ej]
      by_cases hle : nI d ≤ nI j
      · rw [if_pos hle, if_pos hle]
        exact least_sim ha e r (m + 1) b d k k2 (by omega) (by omega) (by omega) hb hd hda
      · rw [if_neg hle, if_neg hle]
        rw [nI_leI (by omega) hj] at hle
        exact least_sim ha e r (m + 1) m j k k2 (by omega) (by omega) (by omega) hm6 ej (by omega)
  | r, m, b, d, 0, k2, hm, hk, _, _, _, _ => by omega
  | r, m, b, d, k + 1, 0, hm, hk, hk2, _, _, _ => by omega
