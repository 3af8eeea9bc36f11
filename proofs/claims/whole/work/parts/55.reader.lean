/-! PURE: the readers, both sides -/
/-- an integer read from place p on, with j bytes left to it: its value and the place behind it -/
def ri (db : Nat → Nat) (e : Nat) : Nat → Nat → Nat → Option (Nat × Nat)
  | 0, _, _ => none
  | j + 1, v, p => if p < e then (if 128 ≤ db p then ri db e j (v * 128 + db p % 128) (p + 1) else if v * 128 + db p % 128 ≤ 2147483647 then some (v * 128 + db p % 128, p + 1) else none) else none
theorem ri_b {db : Nat → Nat} {e : Nat} : ∀ {j v p v' q : Nat}, ri db e j v p = some (v', q) → v' ≤ 2147483647 ∧ p < q ∧ q ≤ e
  | 0, _, _, _, _, h => by simp [ri] at h
  | j + 1, v, p, v', q, h => by
    rw [ri] at h
    by_cases h1 : p < e
    · rw [if_pos h1] at h
      by_cases h2 : 128 ≤ db p
      · rw [if_pos h2] at h
        have := ri_b h
        omega
      · rw [if_neg h2] at h
        by_cases h3 : v * 128 + db p % 128 ≤ 2147483647
        · rw [if_pos h3] at h
          have := Option.some.inj h
          simp only [Prod.mk.injEq] at this
          omega
        · rw [if_neg h3] at h; simp at h
    · rw [if_neg h1] at h; simp at h
/-- the delta, both sides -/
def DLT (dl : Nat) (db : Nat → Nat) (f : Nat → Int32) (g : Nat → Int32) : Prop := dl ≤ 1000 ∧ ∀ i, i < dl → f i = nI (db i) ∧ g (2000 + i) = nI (db i) ∧ db i < 256
theorem x_byte {dl : Nat} {db : Nat → Nat} {f g : Nat → Int32} {ct : Int32} {p e : Nat} (h : DLT dl db f g) (he : e ≤ dl) (hp : p < e) : fX5_nextByte 1000 (nI p) (nI e) f ct = some (nI (db p), nI (p + 1)) := by
  obtain ⟨h1, h2⟩ := h
  rw [fX5_nextByte, if_neg (nI_pos (by omega)), if_neg (by rw [nI_leI (by omega) (by omega)]; omega), if_pos (by rw [nI_ltI (by omega) (by omega)]; omega), if_pos (by rw [inb_nI (by omega)]; omega), nI_clamp (by omega), nI_1, (h2 p (by omega)).1]
theorem x_byte_no {f : Nat → Int32} {ct : Int32} {p e : Nat} (hp : e ≤ p) (h : p < 2 ^ 30) : fX5_nextByte 1000 (nI p) (nI e) f ct = some (-1, nI p) := by
  rw [fX5_nextByte, if_neg (nI_pos (by omega)), if_pos (by rw [nI_leI (by omega) (by omega)]; omega)]
theorem lt_nI {a b : Nat} (h : a < b) : ¬ b ≤ a := by omega
theorem x_int_L {dl : Nat} {db : Nat → Nat} {f g : Nat → Int32} {ct : Int32} {e : Nat} (h : DLT dl db f g) (he : e ≤ dl) : ∀ (j i v p k : Nat), i + j = 5 → j < k → v < 128 ^ i → p ≤ dl →
    ∃ q : Int32, (∀ v' q', ri db e j v p = some (v', q') → fX5_nextInteger_L4 1000 (nI e) f ct k (lN v) (nI i) (nI p) = some (Sum.inr (nI v', nI q'))) ∧ (ri db e j v p = none → fX5_nextInteger_L4 1000 (nI e) f ct k (lN v) (nI i) (nI p) = some (Sum.inl q) ∨ fX5_nextInteger_L4 1000 (nI e) f ct k (lN v) (nI i) (nI p) = some (Sum.inr (-1, q)))
  | 0, i, v, p, k + 1, hi, _, _, _ => by
    have e5 : i = 5 := by omega
    subst e5
    refine ⟨nI p, fun v' q' hr => by simp [ri] at hr, fun _ => Or.inl ?_⟩
    rw [fX5_nextInteger_L4, if_pos (by decide)]
  | j + 1, i, v, p, k + 1, hi, hk, hv, hp => by
    have h1 := h.1
    have hi5 : i ≤ 4 := by omega
    have hv5 : v < 128 ^ 4 := Nat.lt_of_lt_of_le hv (Nat.pow_le_pow_right (by omega) hi5)
    have hv6 : v < 268435456 := hv5
    have n5 : ¬ (5 : Int32) ≤ nI i := by rw [L5, nI_leI (by omega) (by omega)]; omega
    by_cases hpe : p < e
    · obtain ⟨b1, b2, b3⟩ := h.2 p (by omega)
      have ea : (nI (db p) &&& (127 : Int32)).toInt64 = lN (db p % 128) := by rw [L127, and127 (by omega), nI_l (by omega)]
      have ev : lN v * (128 : Int64) + lN (db p % 128) = lN (v * 128 + db p % 128) := by
        rw [show (128 : Int64) = lN 128 from rfl, lN_mul, lN_add]
      have step : fX5_nextInteger_L4 1000 (nI e) f ct (k + 1) (lN v) (nI i) (nI p) = if (128 : Int32) ≤ nI (db p) then fX5_nextInteger_L4 1000 (nI e) f ct k (lN (v * 128 + db p % 128)) (nI (i + 1)) (nI (p + 1)) else if (lg_cmp (lN (v * 128 + db p % 128)) (2147483647 : Int64)) ≤ 0 then some (Sum.inr ((lN (v * 128 + db p % 128)).toInt32, nI (p + 1))) else some (Sum.inr ((-1 : Int32), nI (p + 1))) := by
        rw [fX5_nextInteger_L4, if_neg n5, x_byte h he hpe, Option.bind_some]
        dsimp only
        rw [if_neg (nI_ne_m1 (by omega)), ea, ev, nI_1]
      rw [step, ri, if_pos hpe]
      by_cases h8 : 128 ≤ db p
      · have hc : (128 : Int32) ≤ nI (db p) := by rw [L128, nI_leI (by omega) (by omega)]; exact h8
        rw [if_pos hc, if_pos h8]
        exact x_int_L h he j (i + 1) (v * 128 + db p % 128) (p + 1) k (by omega) (by omega) (by rw [Nat.pow_succ]; omega) (by omega)
      · have hc : ¬ (128 : Int32) ≤ nI (db p) := by rw [L128, nI_leI (by omega) (by omega)]; exact h8
        rw [if_neg hc, if_neg h8]
        have hle : (lg_cmp (lN (v * 128 + db p % 128)) (2147483647 : Int64)) ≤ 0 ↔ v * 128 + db p % 128 ≤ 2147483647 := by
          rw [lg_cmp_le, show (2147483647 : Int64) = lN 2147483647 from rfl, pk_lLE (by omega) (by omega)]
        by_cases h9 : v * 128 + db p % 128 ≤ 2147483647
        · rw [if_pos (hle.mpr h9), if_pos h9, lN_i]
          refine ⟨0, fun v' q' hr => ?_, fun hr => by simp at hr⟩
          have := Option.some.inj hr
          simp only [Prod.mk.injEq] at this
          rw [this.1, this.2]
        · rw [if_neg (fun q => h9 (hle.mp q)), if_neg h9]
          exact ⟨nI (p + 1), fun v' q' hr => by simp at hr, fun _ => Or.inr rfl⟩
    · refine ⟨nI p, fun v' q' hr => by rw [ri, if_neg hpe] at hr; simp at hr, fun _ => Or.inr ?_⟩
      rw [fX5_nextInteger_L4, if_neg n5, x_byte_no (by omega) (by omega), Option.bind_some]
      dsimp only
      rw [if_pos rfl]
  | j, i, v, p, 0, hi, hk, _, _ => by omega
/-- X: an integer -/
theorem x_integer {dl : Nat} {db : Nat → Nat} {f g : Nat → Int32} {ct : Int32} {p e : Nat} (h : DLT dl db f g) (he : e ≤ dl) (hp : p ≤ dl) :
    (∀ v q, ri db e 5 0 p = some (v, q) → fX5_nextInteger 1000 (nI p) (nI e) f ct = some (nI v, nI q)) ∧ (ri db e 5 0 p = none → ∃ q : Int32, fX5_nextInteger 1000 (nI p) (nI e) f ct = some (-1, q)) := by
  obtain ⟨q0, h1, h2⟩ := x_int_L (ct := ct) h he 5 0 0 p FU (by omega) (by rw [FUv]; omega) (by omega) hp
  have e0 : fX5_nextInteger 1000 (nI p) (nI e) f ct = (fX5_nextInteger_L4 1000 (nI e) f ct FU (lN 0) (nI 0) (nI p)).bind fun R7o => Sum.elim (fun R7 => some ((-1 : Int32), R7)) (fun r => some r) R7o := by
    rw [fX5_nextInteger]; rfl
  refine ⟨fun v q hr => ?_, fun hr => ?_⟩
  · rw [e0, h1 v q hr, Option.bind_some]; rfl
  · rcases h2 hr with h3 | h3
    · exact ⟨q0, by rw [e0, h3, Option.bind_some]; rfl⟩
    · exact ⟨q0, by rw [e0, h3, Option.bind_some]; rfl⟩
/-- M: the next byte of part s -/
theorem m_byte {dl : Nat} {db : Nat → Nat} {f : Nat → Int32} {msc : Nat → Int32} {mar : Nat → Nat → Int32} {s p e : Nat} (h : DLT dl db f (mar 0)) (he : e ≤ dl) (hs : s < 4) (h10 : mar 10 s = nI p) (h11 : mar 11 s = nI e) (hp : p < e) : fX8_next msc mar (nI s) = some (nI (db p), msc, va_up mar 10 (upd (mar 10) s (nI (p + 1)))) := by
  obtain ⟨h1, h2⟩ := h
  have i4 : inb (nI s) 4 = true := by rw [inb_nI (by omega)]; exact hs
  have e1 : (2000 : Int32) + nI (p + 1) - (1 : Int32) = nI (2000 + p) := by
    rw [show (2000 : Int32) = nI 2000 from rfl, L1, nI_add, pk_sub (by omega)]; rfl
  rw [fX8_next, if_pos i4, if_pos i4, nI_clamp (by omega), h10, h11, if_pos (by rw [nI_ltI (by omega) (by omega)]; exact hp), if_pos i4, if_pos i4, if_pos i4, nI_1, upd_s, e1, if_pos (by rw [inb_nI (by omega)]; omega), nI_clamp (by omega), (h2 p (by omega)).2.1]
theorem m_byte_no {msc : Nat → Int32} {mar : Nat → Nat → Int32} {s p e : Nat} (hs : s < 4) (h10 : mar 10 s = nI p) (h11 : mar 11 s = nI e) (hp : e ≤ p) (hb : p < 2 ^ 30) : fX8_next msc mar (nI s) = some (0, va_up msc 3 1, mar) := by
  have i4 : inb (nI s) 4 = true := by rw [inb_nI (by omega)]; exact hs
  rw [fX8_next, if_pos i4, if_pos i4, nI_clamp (by omega), h10, h11, if_neg (by rw [nI_ltI (by omega) (by omega)]; omega)]
/-- what reading changes -/
def RdF (s : Nat) (mar mar' : Nat → Nat → Int32) : Prop := (∀ k, k ≠ 10 → mar' k = mar k) ∧ (∀ j, j ≠ s → mar' 10 j = mar 10 j) ∧ ∃ p : Nat, p ≤ 1000 ∧ mar' 10 s = nI p
theorem m_int_L {dl : Nat} {db : Nat → Nat} {f : Nat → Int32} {s e : Nat} (he : e ≤ dl) (hs : s < 4) : ∀ (j i v p k : Nat) (msc : Nat → Int32) (mar : Nat → Nat → Int32), DLT dl db f (mar 0) → mar 10 s = nI p → mar 11 s = nI e → msc 3 = 0 → i + j = 5 → j < k → v < 128 ^ i → p ≤ dl →
    (∀ v' q', ri db e j v p = some (v', q') → fX8_nextInteger_L5 (nI s) k (lN v) (nI i) msc mar = some (Sum.inr (nI v', va_up msc 3 0, va_up mar 10 (upd (mar 10) s (nI q'))))) ∧
    (ri db e j v p = none → ∃ mar', RdF s mar mar' ∧ ((∃ m', fX8_nextInteger_L5 (nI s) k (lN v) (nI i) msc mar = some (Sum.inl (m', mar')) ∧ va_up m' 3 1 = va_up msc 3 1) ∨ fX8_nextInteger_L5 (nI s) k (lN v) (nI i) msc mar = some (Sum.inr (0, va_up msc 3 1, mar'))))
  | 0, i, v, p, k + 1, msc, mar, h, h10, h11, h3, hi, _, _, hp => by
    have e5 : i = 5 := by omega
    subst e5
    refine ⟨fun v' q' hr => by simp [ri] at hr, fun _ => ⟨mar, ⟨fun _ _ => rfl, fun _ _ => rfl, p, by have := h.1; omega, h10⟩, Or.inl ⟨msc, ?_, rfl⟩⟩⟩
    rw [fX8_nextInteger_L5, if_pos (by decide)]
  | j + 1, i, v, p, k + 1, msc, mar, h, h10, h11, h3, hi, hk, hv, hp => by
    have h1 := h.1
    have hi5 : i ≤ 4 := by omega
    have hv5 : v < 128 ^ 4 := Nat.lt_of_lt_of_le hv (Nat.pow_le_pow_right (by omega) hi5)
    have hv6 : v < 268435456 := hv5
    have n5 : ¬ (5 : Int32) ≤ nI i := by rw [L5, nI_leI (by omega) (by omega)]; omega
    by_cases hpe : p < e
    · obtain ⟨b1, b2, b3⟩ := h.2 p (by omega)
      have ea : (nI (db p) - nI (db p) / (128 : Int32) * (128 : Int32)).toInt64 = lN (db p % 128) := by rw [L128, pk_rem (by omega) (by omega) (by omega), nI_l (by omega)]
      have ev : lN v * (128 : Int64) + lN (db p % 128) = lN (v * 128 + db p % 128) := by
        rw [show (128 : Int64) = lN 128 from rfl, lN_mul, lN_add]
      have step : fX8_nextInteger_L5 (nI s) (k + 1) (lN v) (nI i) msc mar = if (128 : Int32) ≤ nI (db p) then fX8_nextInteger_L5 (nI s) k (lN (v * 128 + db p % 128)) (nI (i + 1)) msc (va_up mar 10 (upd (mar 10) s (nI (p + 1)))) else if (lg_cmp (lN (v * 128 + db p % 128)) (2147483647 : Int64)) ≤ 0 then some (Sum.inr ((lN (v * 128 + db p % 128)).toInt32, va_up msc 3 0, va_up mar 10 (upd (mar 10) s (nI (p + 1))))) else some (Sum.inr (0, va_up msc 3 1, va_up mar 10 (upd (mar 10) s (nI (p + 1))))) := by
        rw [fX8_nextInteger_L5, if_neg n5, if_pos h3, m_byte h he hs h10 h11 hpe, Option.bind_some]
        dsimp only
        rw [ea, ev, nI_1, if_pos h3]
      rw [step, ri, if_pos hpe]
      by_cases h8 : 128 ≤ db p
      · have hc : (128 : Int32) ≤ nI (db p) := by rw [L128, nI_leI (by omega) (by omega)]; exact h8
        rw [if_pos hc, if_pos h8]
        obtain ⟨r1, r2⟩ := m_int_L he hs j (i + 1) (v * 128 + db p % 128) (p + 1) k msc (va_up mar 10 (upd (mar 10) s (nI (p + 1)))) h (by show upd (mar 10) s (nI (p + 1)) s = _; rw [upd_s]) h11 h3 (by omega) (by omega) (by rw [Nat.pow_succ]; omega) (by omega)
        refine ⟨fun v' q' hr => ?_, fun hr => ?_⟩
        · rw [r1 v' q' hr, up_up]
          show some (Sum.inr (nI v', va_up msc 3 0, va_up mar 10 (upd (upd (mar 10) s (nI (p + 1))) s (nI q')))) = _
          rw [upd_upd]
        · obtain ⟨mar', ⟨f1, f2, f3⟩, r3⟩ := r2 hr
          exact ⟨mar', ⟨fun k hk => by rw [f1 k hk, up_ap, if_neg hk], fun j hj => by rw [f2 j hj]; show upd (mar 10) s (nI (p + 1)) j = _; rw [upd_n hj], f3⟩, r3⟩
      · have hc : ¬ (128 : Int32) ≤ nI (db p) := by rw [L128, nI_leI (by omega) (by omega)]; exact h8
        rw [if_neg hc, if_neg h8]
        have hle : (lg_cmp (lN (v * 128 + db p % 128)) (2147483647 : Int64)) ≤ 0 ↔ v * 128 + db p % 128 ≤ 2147483647 := by
          rw [lg_cmp_le, show (2147483647 : Int64) = lN 2147483647 from rfl, pk_lLE (by omega) (by omega)]
        by_cases h9 : v * 128 + db p % 128 ≤ 2147483647
        · rw [if_pos (hle.mpr h9), if_pos h9, lN_i]
          refine ⟨fun v' q' hr => ?_, fun hr => by simp at hr⟩
          have := Option.some.inj hr
          simp only [Prod.mk.injEq] at this
          rw [this.1, this.2]
        · rw [if_neg (fun q => h9 (hle.mp q)), if_neg h9]
          refine ⟨fun v' q' hr => by simp at hr, fun _ => ⟨_, ⟨fun k hk => by rw [up_ap, if_neg hk], fun j hj => by show upd (mar 10) s (nI (p + 1)) j = _; rw [upd_n hj], p + 1, by omega, by show upd (mar 10) s (nI (p + 1)) s = _; rw [upd_s]⟩, Or.inr rfl⟩⟩
    · have key : fX8_nextInteger_L5 (nI s) (k + 1) (lN v) (nI i) msc mar = some (Sum.inr (0, va_up msc 3 1, mar)) := by
        rw [fX8_nextInteger_L5, if_neg n5, if_pos h3, m_byte_no hs h10 h11 (by omega) (by omega), Option.bind_some]
        dsimp only
        rw [if_neg (show ¬ (128 : Int32) ≤ 0 by decide), if_neg (show ¬ (va_up msc 3 1) 3 = 0 by show ¬ (1 : Int32) = 0; decide), up_up]
      rw [key]
      refine ⟨fun v' q' hr => by rw [ri, if_neg hpe] at hr; simp at hr, fun _ => ⟨mar, ⟨fun _ _ => rfl, fun _ _ => rfl, p, by omega, h10⟩, Or.inr rfl⟩⟩
  | j, i, v, p, 0, msc, mar, _, _, _, _, hi, hk, _, _ => by omega
/-- M: an integer -/
theorem m_integer {dl : Nat} {db : Nat → Nat} {f : Nat → Int32} {msc : Nat → Int32} {mar : Nat → Nat → Int32} {s p e : Nat} (h : DLT dl db f (mar 0)) (he : e ≤ dl) (hs : s < 4) (h10 : mar 10 s = nI p) (h11 : mar 11 s = nI e) (h3 : msc 3 = 0) (hp : p ≤ dl) :
    (∀ v q, ri db e 5 0 p = some (v, q) → fX8_nextInteger msc mar (nI s) = some (nI v, msc, va_up mar 10 (upd (mar 10) s (nI q)))) ∧ (ri db e 5 0 p = none → ∃ mar', RdF s mar mar' ∧ fX8_nextInteger msc mar (nI s) = some (0, va_up msc 3 1, mar')) := by
  obtain ⟨h1, h2⟩ := m_int_L (db := db) (f := f) he hs 5 0 0 p FU msc mar h h10 h11 h3 (by omega) (by rw [FUv]; omega) (by omega) hp
  have e0 : fX8_nextInteger msc mar (nI s) = (fX8_nextInteger_L5 (nI s) FU (lN 0) (nI 0) msc mar).bind fun R11o => Sum.elim (fun R11 => some ((0 : Int32), (va_up R11.1 3 (1 : Int32)), R11.2)) (fun r => some r) R11o := by
    rw [fX8_nextInteger]; rfl
  refine ⟨fun v q hr => ?_, fun hr => ?_⟩
  · rw [e0, h1 v q hr, Option.bind_some, up_id h3]; rfl
  · obtain ⟨mar', hf, h4⟩ := h2 hr
    rcases h4 with ⟨m', h5, h6⟩ | h5
    · exact ⟨mar', hf, by rw [e0, h5, Option.bind_some]; show some (0, va_up m' 3 1, mar') = _; rw [h6]⟩
    · exact ⟨mar', hf, by rw [e0, h5, Option.bind_some]; rfl⟩
/-- M: an integer after something went wrong -/
theorem m_integer_bad {msc : Nat → Int32} {mar : Nat → Nat → Int32} {x : Int32} (h3 : msc 3 = 1) : fX8_nextInteger msc mar x = some (0, msc, mar) := by
  have s0 : FU = 5999 + 1 := rfl
  rw [fX8_nextInteger, s0, fX8_nextInteger_L5, if_neg (by decide), if_neg (by rw [h3]; decide), Option.bind_some]
  show some ((0 : Int32), va_up msc 3 1, mar) = _
  rw [up_id h3]
