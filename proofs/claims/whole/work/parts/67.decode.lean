/-! PURE: decode, both sides -/
theorem HDf_b : ∀ k, k < 5 → ¬ (-1 : Int32) = HDf k := by decide
theorem m_head_bad {dl : Nat} {db : Nat → Nat} {f : Nat → Int32} {x y : Int32} {msc : Nat → Int32} {mar : Nat → Nat → Int32} (hd : DLT dl db f (mar 0)) (h11 : mar 11 3 = nI dl) (h3 : msc 3 = 1) : ∀ (r i k p : Nat), i + r = 5 → r < k → p ≤ dl → ∃ Q : Int32, fX8_decode_L52 x y k (nI i) msc (pl mar (nI p)) = some (msc, pl mar Q)
  | 0, i, k + 1, p, hi, _, _ => by
    have e : i = 5 := by omega
    subst e
    rw [fX8_decode_L52, if_pos (by decide)]; exact ⟨_, rfl⟩
  | r + 1, i, k + 1, p, hi, hk, hp => by
    have h1 := hd.1
    rw [fX8_decode_L52, if_neg (by rw [L5, nI_leI (by omega) (by omega)]; omega)]
    by_cases hq : p < dl
    · rw [m3_byte hd h11 hq, Option.bind_some]
      dsimp only
      rw [if_neg (show ¬ msc 3 = 0 by rw [h3]; decide), up_id h3, nI_1]
      exact m_head_bad hd h11 h3 r (i + 1) k (p + 1) (by omega) (by omega) (by omega)
    · rw [m3_byte_no hd h11 (by omega) (by omega), Option.bind_some]
      dsimp only
      rw [if_neg bad_ne, up_up, up_id h3, nI_1]
      exact m_head_bad hd h11 h3 r (i + 1) k p (by omega) (by omega) (by omega)
  | r, i, 0, p, hi, hk, _ => by omega
theorem head5 {dl : Nat} {db : Nat → Nat} {sg : Bool} {x y : Int32} {sc : Nat → Int32} {ar : Nat → Nat → Int32} {msc : Nat → Int32} {mar : Nat → Nat → Int32} (hd : DLT dl db (ar 2) (mar 0)) (h11 : mar 11 3 = nI dl) (h22 : sc 22 = nI dl) (h3 : msc 3 = 0) : ∀ (r i kx km : Nat), i + r = 5 → r < kx → r < km → i ≤ dl →
    (5 ≤ dl ∧ fX2_readHead_L9 ar sg (Int32.ofNat 5) kx (nI i) (va_up sc 21 (nI i)) = some (Sum.inl (va_up sc 21 (nI 5))) ∧ fX8_decode_L52 x y km (nI i) msc (pl mar (nI i)) = some (msc, pl mar (nI 5))) ∨
    (∃ P Q : Int32, fX2_readHead_L9 ar sg (Int32.ofNat 5) kx (nI i) (va_up sc 21 (nI i)) = some (Sum.inr (0, va_up sc 21 P)) ∧ fX8_decode_L52 x y km (nI i) msc (pl mar (nI i)) = some (va_up msc 3 1, pl mar Q))
  | 0, i, kx + 1, km + 1, hi, _, _, hl => by
    have e : i = 5 := by omega
    subst e
    rw [fX2_readHead_L9, if_pos (by decide), fX8_decode_L52, if_pos (by decide)]
    exact Or.inl ⟨hl, rfl, rfl⟩
  | r + 1, i, kx + 1, km + 1, hi, hkx, hkm, hl => by
    have h1 := hd.1
    have mh : fX8_head (nI i) = some (HDf i) := m_head i (by omega)
    rw [fX2_readHead_L9, show Int32.ofNat 5 = nI 5 from rfl, if_neg (show ¬ nI 5 ≤ nI i by rw [nI_leI (by omega) (by omega)]; omega), if_pos (show inb (nI i) 5 = true by rw [inb_nI (by omega)]; omega), nI_clamp (by omega), show (va_up sc 21 (nI i)) 21 = nI i from rfl, show (va_up sc 21 (nI i)) 22 = nI dl from h22, fX8_decode_L52, if_neg (show ¬ (5 : Int32) ≤ nI i by rw [L5, nI_leI (by omega) (by omega)]; omega)]
    by_cases hq : i < dl
    · rw [x_byte hd (Nat.le_refl _) hq, Option.bind_some, m3_byte hd h11 hq, Option.bind_some]
      dsimp only
      rw [if_pos h3, mh, Option.bind_some, up_up, nI_1, up_id h3]
      by_cases hh : nI (db i) = HDf i
      · rw [if_pos hh, if_pos hh]
        exact head5 hd h11 h22 h3 r (i + 1) kx km (by omega) (by omega) (by omega) (by omega)
      · rw [if_neg hh, if_neg hh]
        obtain ⟨Q, hQ⟩ := m_head_bad (x := x) (y := y) (msc := va_up msc 3 1) hd h11 rfl r (i + 1) km (i + 1) (by omega) (by omega) (by omega)
        exact Or.inr ⟨_, Q, rfl, hQ⟩
    · rw [x_byte_no (by omega) (by omega), Option.bind_some, m3_byte_no hd h11 (by omega) (by omega), Option.bind_some]
      dsimp only
      rw [if_neg (HDf_b i (by omega)), if_neg bad_ne, up_up, up_up, nI_1]
      obtain ⟨Q, hQ⟩ := m_head_bad (x := x) (y := y) (msc := va_up msc 3 1) hd h11 rfl r (i + 1) km i (by omega) (by omega) (by omega)
      exact Or.inr ⟨_, Q, rfl, hQ⟩
  | r, i, 0, km, hi, hk, _, _ => by omega
  | r, i, kx, 0, hi, _, hk, _ => by omega
/-- the model's output copied -/
theorem m_out_L {mm : Nat} {x : Int32} {msc : Nat → Int32} {mar : Nat → Nat → Int32} (hm : mm ≤ 400) (h4 : mar 1 4 = nI mm) : ∀ (r i k : Nat), i + r = mm → r < k → fX8_decode_L149 msc x k (nI i) (va_up mar 0 (apd (mar 0) 3000 i (fun j => mar 0 (4000 + j)))) = some (va_up mar 0 (apd (mar 0) 3000 mm (fun j => mar 0 (4000 + j))))
  | 0, i, k + 1, hi, _ => by
    have e : i = mm := by omega
    subst e
    rw [fX8_decode_L149, if_pos (by decide), show (4 : Int32).toNatClampNeg = 4 by decide, if_pos (show (va_up mar 0 (apd (mar 0) 3000 i fun j => mar 0 (4000 + j))) 1 4 ≤ nI i by show mar 1 4 ≤ _; rw [h4, nI_leI (by omega) (by omega)]; omega)]
  | r + 1, i, k + 1, hi, hk => by
    have h := m_out_L (x := x) (msc := msc) hm h4 r (i + 1) k (by omega) (by omega)
    rw [apd_s] at h
    rw [fX8_decode_L149, if_pos (by decide), show (4 : Int32).toNatClampNeg = 4 by decide, if_neg (show ¬ (va_up mar 0 (apd (mar 0) 3000 i fun j => mar 0 (4000 + j))) 1 4 ≤ nI i by show ¬ mar 1 4 ≤ _; rw [h4, nI_leI (by omega) (by omega)]; omega), L4000, L3000, nI_add, nI_add, if_pos (by rw [inb_nI (by omega)]; omega), if_pos (by rw [inb_nI (by omega)]; omega), nI_clamp (by omega), nI_clamp (by omega), nI_1, up_up, show (va_up mar 0 (apd (mar 0) 3000 i fun j => mar 0 (4000 + j))) 0 = apd (mar 0) 3000 i (fun j => mar 0 (4000 + j)) from rfl, apd_hi (show 3000 + i ≤ 4000 + i by omega)]
    exact h
  | r, i, 0, hi, hk => by omega
theorem m_out {mm : Nat} {x : Int32} {msc : Nat → Int32} {mar : Nat → Nat → Int32} (hm : mm ≤ 400) (h4 : mar 1 4 = nI mm) : fX8_decode_L149 msc x FU (0 : Int32) mar = some (va_up mar 0 (apd (mar 0) 3000 mm (fun j => mar 0 (4000 + j)))) := by
  have h := m_out_L (x := x) (msc := msc) hm h4 mm 0 FU (by omega) (by rw [FUv]; omega)
  rw [apd_0, up_id rfl] at h
  exact h
/-- a refused delta leaves the relation -/
theorem Rel_DF {sc sc' : Nat → Int32} {ar ar' : Nat → Nat → Int32} {msc msc' : Nat → Int32} {mar mar' : Nat → Nat → Int32} (h : Rel sc ar msc mar) (hf : DF sc sc' ar ar' msc msc' mar mar') (h9 : OK9 sc') : Rel sc' ar' msc' mar' := by
  obtain ⟨⟨L, hL⟩, hX, hc4, hc768, h29⟩ := h
  obtain ⟨f1, f2, f3, f4, f5, f6⟩ := hf
  refine ⟨⟨L, fun k hk => ?_⟩, fun k k4 k10 => ?_, fun i hi => ?_, fun i hi => ?_, ?_⟩
  · obtain ⟨a0, a1, a2, a3⟩ := hL k hk
    have hml : L k ≤ 1000 := by
      refine Nat.le_trans a0 ?_
      unfold mst; split
      · omega
      · split
        · omega
        · split <;> omega
    have hk9 : k ∉ [9, 12, 13, 14, 15, 16, 18, 21, 22, 23, 24, 25, 26, 27, 28] := by
      intro q; simp only [List.mem_cons, List.not_mem_nil, or_false] at q; omega
    have hk3 : k ∉ [9, 12, 13] := by
      intro q; simp only [List.mem_cons, List.not_mem_nil, or_false] at q; omega
    refine ⟨a0, by rw [f1 k hk9]; exact a1, by rw [f6 k (by omega)]; exact a2, ?_⟩
    rw [f2 k hk3]
    exact SR_eq a3 (fun _ _ => rfl) (fun j hj => f5 _ (by omega))
  · by_cases e : k = 9
    · subst e
      obtain ⟨m, m1, m2⟩ := h9
      exact ⟨m, by omega, m2⟩
    · have hk9 : k ∉ [9, 12, 13, 14, 15, 16, 18, 21, 22, 23, 24, 25, 26, 27, 28] := by
        intro q; simp only [List.mem_cons, List.not_mem_nil, or_false] at q; omega
      rw [f1 k hk9]; exact hX k k4 k10
  · rw [f2 10 (by decide), f2 14 (by decide), f4 4 (by decide)]; exact hc4 i hi
  · rw [f2 11 (by decide), f2 15 (by decide), f4 4 (by decide)]; exact hc768 i hi
  · rw [f1 29 (by decide), f3 0 (by decide)]; exact h29
