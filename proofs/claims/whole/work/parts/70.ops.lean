/-! PURE: cut, set, length, byteAt, code, cache, windows, agrees, both sides -/
theorem gt2 {x : Int32} (h : (3 : Int32) < x) : (2 : Int32) < x := by
  rw [Int32.lt_iff_toInt_lt] at h ⊢
  have e2 : (2 : Int32).toInt = 2 := by decide
  have e3 : (3 : Int32).toInt = 3 := by decide
  omega
theorem mst_le (k : Nat) : mst k ≤ 1000 := by
  unfold mst; split
  · omega
  · split
    · omega
    · split <;> omega
/-- an index into a row -/
theorem idx {x : Int32} {c : Nat} (hc : c < 2 ^ 30) (h0 : ¬ x < 0) (h : ¬ nI c ≤ x) : ∃ i : Nat, i < c ∧ x = nI i := by
  obtain ⟨i, hi, rfl⟩ := nI_of2 (x := x) (M := nI c) (n := c) (nI_toInt (by omega)) h0 (by rw [Int32.le_iff_toInt_le]; rw [Int32.le_iff_toInt_le] at h; omega)
  exact ⟨i, by rw [nI_leI (by omega) (by omega)] at h; omega, rfl⟩
theorem idx_le {x : Int32} {c : Nat} (hc : c < 2 ^ 30) (h0 : ¬ x < 0) (h : x ≤ nI c) : ∃ i : Nat, i ≤ c ∧ x = nI i := nI_of2 (nI_toInt (by omega)) h0 h
theorem not_le_lt {x y : Int32} : ¬ y ≤ x ↔ x < y := by rw [Int32.lt_iff_toInt_lt, Int32.le_iff_toInt_le]; omega
theorem cut_sim {sc : Nat → Int32} {ar : Nat → Nat → Int32} {msc : Nat → Int32} {mar : Nat → Nat → Int32} {sg : Bool} (h : Rel sc ar msc mar) (x1 x2 : Int32) :
    ∃ (r : Int32) (sc' : Nat → Int32) (mar' : Nat → Nat → Int32), fX7_cut sc ar sg x1 x2 = some (r, sc') ∧ fX8_cut msc mar x1 x2 = some (r, mar') ∧ Rel sc' ar msc mar' ∧ (r = 0 ∨ r = 1) := by
  rcases rowcase x1 with ho | ⟨k, hk, rfl⟩
  · refine ⟨0, sc, mar, ?_, ?_, h, Or.inl rfl⟩
    · rw [fX7_cut, inp_no ho, Option.bind_some, if_pos rfl]
    · rw [fX8_cut]
      rcases ho with ho | ho
      · rw [if_pos ho]
      · by_cases q : x1 < 0
        · rw [if_pos q]
        · rw [if_neg q, if_pos (gt2 ho)]
  · obtain ⟨⟨L, hL⟩, hX, hc4, hc768, h29⟩ := id h
    obtain ⟨a0, a1, a2, a3⟩ := hL k hk
    obtain ⟨p0, p1, p2, p3⟩ := inp_k (sc := sc) (ar := ar) (sg := sg)
    have hmk := mst_le k
    by_cases k3 : k = 3
    · subst k3
      refine ⟨0, sc, mar, ?_, ?_, h, Or.inl rfl⟩
      · rw [fX7_cut, p3, Option.bind_some, if_pos rfl]
      · rw [fX8_cut, if_neg (by decide), if_pos (by decide)]
    · have hM : fX8_cut msc mar (nI k) x2 = if x2 < 0 then some (0, mar) else if x2 ≤ nI (L k) then some (1, va_up mar 1 (upd (mar 1) k x2)) else some (0, mar) := by
        rw [fX8_cut, if_neg (nI_pos (by omega)), if_neg (by rw [L2, nI_ltI (by omega) (by omega)]; omega), if_pos (show inb (nI k) 5 = true by rw [inb_nI (by omega)]; omega), if_pos (show inb (nI k) 5 = true by rw [inb_nI (by omega)]; omega), nI_clamp (by omega), a2]
      have hX7 : fX7_cut sc ar sg (nI k) x2 = if x2 < 0 then some (0, sc) else if x2 ≤ nI (L k) then (fX6_keep (mst k) (ar k) (nI (L k)) x2).bind fun R9 => some (1, va_up sc k R9) else some (0, sc) := by
        rw [fX7_cut]
        rcases (show k = 0 ∨ k = 1 ∨ k = 2 by omega) with rfl | rfl | rfl
        · rw [p0, Option.bind_some, if_neg (by decide), if_pos rfl, fX6_count, Option.bind_some, a1]; rfl
        · rw [p1, Option.bind_some, if_neg (by decide), if_neg (by decide), if_pos rfl, fX6_count, Option.bind_some, a1]; rfl
        · rw [p2, Option.bind_some, if_neg (by decide), if_neg (by decide), if_neg (by decide), if_pos rfl, fX6_count, Option.bind_some, a1]; rfl
      by_cases c1 : x2 < 0
      · exact ⟨0, sc, mar, by rw [hX7, if_pos c1], by rw [hM, if_pos c1], h, Or.inl rfl⟩
      by_cases c2 : x2 ≤ nI (L k)
      · obtain ⟨i, hi, rfl⟩ := idx_le (by omega) c1 c2
        refine ⟨1, va_up sc k (nI i), va_up mar 1 (upd (mar 1) k (nI i)), ?_, ?_, ?_, Or.inr rfl⟩
        · rw [hX7, if_neg c1, if_pos c2, row_keep hi (by omega), Option.bind_some]
        · rw [hM, if_neg c1, if_pos c2]
        · have := Rel_row (mar' := va_up mar 1 (upd (mar 1) k (nI i))) h hk (Nat.le_trans hi a0) (ar k) rfl (fun j hj => a3 j (by omega)) (fun j _ => rfl) rfl
          rw [up_id (f := ar) rfl] at this; exact this
      · exact ⟨0, sc, mar, by rw [hX7, if_neg c1, if_neg c2], by rw [hM, if_neg c1, if_neg c2], h, Or.inl rfl⟩
theorem set_sim {sc : Nat → Int32} {ar : Nat → Nat → Int32} {msc : Nat → Int32} {mar : Nat → Nat → Int32} {sg : Bool} (h : Rel sc ar msc mar) (x1 x2 x3 : Int32) :
    ∃ (r : Int32) (ar' : Nat → Nat → Int32) (mar' : Nat → Nat → Int32), fX7_set sc ar sg x1 x2 x3 = some (r, ar') ∧ fX8_set msc mar x1 x2 x3 = some (r, mar') ∧ Rel sc ar' msc mar' ∧ (r = 0 ∨ r = 1) := by
  rcases rowcase x1 with ho | ⟨k, hk, rfl⟩
  · refine ⟨0, ar, mar, ?_, ?_, h, Or.inl rfl⟩
    · rw [fX7_set, inp_no ho, Option.bind_some, if_pos rfl]
    · rw [fX8_set]
      rcases ho with ho | ho
      · rw [if_pos ho]
      · by_cases q : x1 < 0
        · rw [if_pos q]
        · rw [if_neg q, if_pos (gt2 ho)]
  · obtain ⟨⟨L, hL⟩, hX, hc4, hc768, h29⟩ := id h
    obtain ⟨a0, a1, a2, a3⟩ := hL k hk
    obtain ⟨p0, p1, p2, p3⟩ := inp_k (sc := sc) (ar := ar) (sg := sg)
    have hmk := mst_le k
    by_cases k3 : k = 3
    · subst k3
      refine ⟨0, ar, mar, ?_, ?_, h, Or.inl rfl⟩
      · rw [fX7_set, p3, Option.bind_some, if_pos rfl]
      · rw [fX8_set, if_neg (by decide), if_pos (by decide)]
    · have hM : fX8_set msc mar (nI k) x2 x3 = if x2 < 0 then some (0, mar) else if nI (L k) ≤ x2 then some (0, mar) else (fX8_isByte x3).bind fun R6 => if R6 = 0 then some (0, mar) else if inb (((1000 : Int32) * nI k) + x2) 5000 = true then some ((1 : Int32), (va_up mar 0 (upd (mar 0) (((1000 : Int32) * nI k) + x2).toNatClampNeg x3))) else none := by
        rw [fX8_set, if_neg (nI_pos (by omega)), if_neg (by rw [L2, nI_ltI (by omega) (by omega)]; omega), if_pos (show inb (nI k) 5 = true by rw [inb_nI (by omega)]; omega), nI_clamp (by omega), a2]
      have hX7 : fX7_set sc ar sg (nI k) x2 x3 = if x2 < 0 then some (0, ar) else if nI (L k) ≤ x2 then some (0, ar) else (fX7_isByte x3).bind fun R9 => if R9 = 0 then some (0, ar) else (fX6_replace (mst k) (ar k) (nI (L k)) x2 x3).bind fun R12 => some (1, va_up ar k R12) := by
        rw [fX7_set]
        rcases (show k = 0 ∨ k = 1 ∨ k = 2 by omega) with rfl | rfl | rfl
        · rw [p0, Option.bind_some, if_neg (by decide), if_pos rfl, fX6_count, Option.bind_some, a1]; rfl
        · rw [p1, Option.bind_some, if_neg (by decide), if_neg (by decide), if_pos rfl, fX6_count, Option.bind_some, a1]; rfl
        · rw [p2, Option.bind_some, if_neg (by decide), if_neg (by decide), if_neg (by decide), if_pos rfl, fX6_count, Option.bind_some, a1]; rfl
      by_cases c1 : x2 < 0
      · exact ⟨0, ar, mar, by rw [hX7, if_pos c1], by rw [hM, if_pos c1], h, Or.inl rfl⟩
      by_cases c2 : nI (L k) ≤ x2
      · exact ⟨0, ar, mar, by rw [hX7, if_neg c1, if_pos c2], by rw [hM, if_neg c1, if_pos c2], h, Or.inl rfl⟩
      rcases byte_k x3 with ⟨y1, y2⟩ | ⟨b, hb, rfl, y1, y2⟩
      · exact ⟨0, ar, mar, by rw [hX7, if_neg c1, if_neg c2, y1, Option.bind_some, if_pos rfl], by rw [hM, if_neg c1, if_neg c2, y2, Option.bind_some, if_pos rfl], h, Or.inl rfl⟩
      · obtain ⟨i, hi, rfl⟩ := idx (by omega) c1 c2
        refine ⟨1, va_up ar k (upd (ar k) i (nI b)), va_up mar 0 (upd (mar 0) (1000 * k + i) (nI b)), ?_, ?_, ?_, Or.inr rfl⟩
        · rw [hX7, if_neg c1, if_neg c2, y1, Option.bind_some, if_neg (by decide), fX6_replace, if_neg c1, if_neg c2, if_pos (by rw [inb_nI (by omega)]; omega), nI_clamp (by omega), Option.bind_some]
        · rw [hM, if_neg c1, if_neg c2, y2, Option.bind_some, if_neg (by decide), L1000, pk_mul, nI_add, if_pos (by rw [inb_nI (by omega)]; omega), nI_clamp (by omega)]
        · have := Rel_row (mar' := va_up mar 0 (upd (mar 0) (1000 * k + i) (nI b))) h hk a0 (upd (ar k) i (nI b)) (by show mar 1 = upd (mar 1) k (nI (L k)); rw [upd_id a2]) (fun j hj => by
              show upd (ar k) i (nI b) j = upd (mar 0) (1000 * k + i) (nI b) (1000 * k + j) ∧ isb (upd (ar k) i (nI b) j)
              by_cases e : j = i
              · subst e; rw [upd_s, upd_s]; exact ⟨rfl, b, hb, rfl⟩
              · rw [upd_n e, upd_n (by omega)]; exact a3 j hj) (fun j hj => by show upd (mar 0) (1000 * k + i) (nI b) j = _; rw [upd_n (by omega)]) rfl
          rw [up_id (f := sc) a1] at this; exact this
theorem length_sim {sc : Nat → Int32} {ar : Nat → Nat → Int32} {msc : Nat → Int32} {mar : Nat → Nat → Int32} {sg : Bool} (h : Rel sc ar msc mar) (x1 : Int32) : ∃ r : Int32, fX7_length sc ar sg x1 = some r ∧ fX8_length msc mar x1 = some r := by
  rcases rowcase x1 with ho | ⟨k, hk, rfl⟩
  · refine ⟨-1, ?_, ?_⟩
    · rw [fX7_length, any_no ho, Option.bind_some, if_pos rfl]
    · rw [fX8_length]
      rcases ho with ho | ho
      · rw [if_pos ho]
      · by_cases q : x1 < 0
        · rw [if_pos q]
        · rw [if_neg q, if_neg (not_le_lt.mpr ho)]
  · obtain ⟨⟨L, hL⟩, hX, hc4, hc768, h29⟩ := id h
    obtain ⟨a0, a1, a2, a3⟩ := hL k hk
    obtain ⟨p0, p1, p2, p3⟩ := any_k (sc := sc) (ar := ar) (sg := sg)
    refine ⟨nI (L k), ?_, ?_⟩
    · rw [fX7_length]
      rcases (show k = 0 ∨ k = 1 ∨ k = 2 ∨ k = 3 by omega) with rfl | rfl | rfl | rfl
      · rw [p0, Option.bind_some, if_neg (by decide), if_pos rfl, fX6_count, Option.bind_some, a1]
      · rw [p1, Option.bind_some, if_neg (by decide), if_neg (by decide), if_pos rfl, fX6_count, Option.bind_some, a1]
      · rw [p2, Option.bind_some, if_neg (by decide), if_neg (by decide), if_neg (by decide), if_pos rfl, fX6_count, Option.bind_some, a1]
      · rw [p3, Option.bind_some, if_neg (by decide), if_neg (by decide), if_neg (by decide), if_neg (by decide), if_pos rfl, fX6_count, Option.bind_some, a1]
    · rw [fX8_length, if_neg (nI_pos (by omega)), if_pos (by rw [L3, nI_leI (by omega) (by omega)]; omega), if_pos (by rw [inb_nI (by omega)]; omega), nI_clamp (by omega), a2]
theorem byteAt_sim {sc : Nat → Int32} {ar : Nat → Nat → Int32} {msc : Nat → Int32} {mar : Nat → Nat → Int32} {sg : Bool} (h : Rel sc ar msc mar) (x1 x2 : Int32) : ∃ r : Int32, fX7_byteAt sc ar sg x1 x2 = some r ∧ fX8_byteAt msc mar x1 x2 = some r := by
  rcases rowcase x1 with ho | ⟨k, hk, rfl⟩
  · refine ⟨-1, ?_, ?_⟩
    · rw [fX7_byteAt, any_no ho, Option.bind_some, if_pos rfl]
    · rw [fX8_byteAt]
      rcases ho with ho | ho
      · rw [if_pos ho]
      · by_cases q : x1 < 0
        · rw [if_pos q]
        · rw [if_neg q, if_pos ho]
  · obtain ⟨⟨L, hL⟩, hX, hc4, hc768, h29⟩ := id h
    obtain ⟨a0, a1, a2, a3⟩ := hL k hk
    obtain ⟨p0, p1, p2, p3⟩ := any_k (sc := sc) (ar := ar) (sg := sg)
    have hmk := mst_le k
    have hM : fX8_byteAt msc mar (nI k) x2 = if x2 < 0 then some (-1) else if x2 < nI (L k) then (if inb (((1000 : Int32) * nI k) + x2) 5000 = true then some ((mar 0) (((1000 : Int32) * nI k) + x2).toNatClampNeg) else none) else some (-1) := by
      rw [fX8_byteAt, if_neg (nI_pos (by omega)), if_neg (by rw [L3, nI_ltI (by omega) (by omega)]; omega), if_pos (show inb (nI k) 5 = true by rw [inb_nI (by omega)]; omega), nI_clamp (by omega), a2]
    have hX7 : fX7_byteAt sc ar sg (nI k) x2 = if x2 < 0 then some (-1) else if x2 < nI (L k) then (fX6_at (mst k) (ar k) (nI (L k)) x2).bind fun R9 => some R9 else some (-1) := by
      rw [fX7_byteAt]
      rcases (show k = 0 ∨ k = 1 ∨ k = 2 ∨ k = 3 by omega) with rfl | rfl | rfl | rfl
      · rw [p0, Option.bind_some, if_neg (by decide), if_pos rfl, fX6_count, Option.bind_some, a1]; rfl
      · rw [p1, Option.bind_some, if_neg (by decide), if_neg (by decide), if_pos rfl, fX6_count, Option.bind_some, a1]; rfl
      · rw [p2, Option.bind_some, if_neg (by decide), if_neg (by decide), if_neg (by decide), if_pos rfl, fX6_count, Option.bind_some, a1]; rfl
      · rw [p3, Option.bind_some, if_neg (by decide), if_neg (by decide), if_neg (by decide), if_neg (by decide), if_pos rfl, fX6_count, Option.bind_some, a1]; rfl
    by_cases c1 : x2 < 0
    · exact ⟨-1, by rw [hX7, if_pos c1], by rw [hM, if_pos c1]⟩
    by_cases c2 : x2 < nI (L k)
    · obtain ⟨i, hi, rfl⟩ := idx (c := L k) (by omega) c1 (not_le_lt.mpr c2)
      refine ⟨ar k i, ?_, ?_⟩
      · rw [hX7, if_neg c1, if_pos c2, row_at hi a0 (by omega), Option.bind_some]
      · rw [hM, if_neg c1, if_pos c2, L1000, pk_mul, nI_add, if_pos (by rw [inb_nI (by omega)]; omega), nI_clamp (by omega), (a3 i hi).1]
    · exact ⟨-1, by rw [hX7, if_neg c1, if_neg c2], by rw [hM, if_neg c1, if_neg c2]⟩
theorem code_sim {sc : Nat → Int32} {ar : Nat → Nat → Int32} {msc : Nat → Int32} {mar : Nat → Nat → Int32} {sg : Bool} (x1 x2 : Int32) : ∃ r : Int32, fX7_code sc ar sg x1 x2 = some r ∧ fX8_code msc mar x1 x2 = some r := by
  rw [fX7_code, fX8_code, fX8_isByte]
  by_cases c1 : x1 < 0
  · rw [if_pos c1, if_pos c1, Option.bind_some, if_pos rfl]; exact ⟨_, rfl, rfl⟩
  by_cases c2 : (255 : Int32) < x1
  · rw [if_neg c1, if_neg c1, if_pos c2, if_pos c2, Option.bind_some, if_pos rfl]; exact ⟨_, rfl, rfl⟩
  rw [if_neg c1, if_neg c1, if_neg c2, if_neg c2, Option.bind_some, if_neg (show ¬ (1 : Int32) = 0 by decide)]
  by_cases c3 : x2 < 0
  · rw [if_pos c3, if_pos c3]; exact ⟨_, rfl, rfl⟩
  by_cases c4 : x2 ≤ (5 : Int32)
  · obtain ⟨k, hk, rfl⟩ := nI_of2 (x := x1) (M := 255) (n := 255) (by decide) c1 (by rw [Int32.le_iff_toInt_le]; rw [Int32.lt_iff_toInt_lt] at c2; omega)
    obtain ⟨j, hj, rfl⟩ := nI_of2 (x := x2) (M := 5) (n := 5) (by decide) c3 c4
    rw [if_neg c3, if_neg c3, if_pos c4, if_pos c4, x_part k (by omega) j (by omega), m_part k (by omega) j (by omega), Option.bind_some]; exact ⟨_, rfl, rfl⟩
  · rw [if_neg c3, if_neg c3, if_neg c4, if_neg c4]; exact ⟨_, rfl, rfl⟩
theorem cache_sim {sc : Nat → Int32} {ar : Nat → Nat → Int32} {msc : Nat → Int32} {mar : Nat → Nat → Int32} {sg : Bool} (h : Rel sc ar msc mar) (x1 x2 : Int32) : ∃ r : Int32, fX7_cache sc ar sg x1 x2 = some r ∧ fX8_cache msc mar x1 x2 = some r := by
  obtain ⟨⟨L, hL⟩, hX, hc4, hc768, h29⟩ := id h
  rw [fX7_cache, fX8_cache]
  by_cases c1 : x1 < 0
  · rw [if_pos c1, if_pos c1]; exact ⟨_, rfl, rfl⟩
  by_cases c2 : (1 : Int32) < x1
  · rw [if_neg c1, if_neg c1, if_pos c2, if_pos c2]; exact ⟨_, rfl, rfl⟩
  rw [if_neg c1, if_neg c1, if_neg c2, if_neg c2]
  by_cases c3 : x2 < 0
  · rw [if_pos c3, if_pos c3]; exact ⟨_, rfl, rfl⟩
  rw [if_neg c3, if_neg c3]
  have e7 : x2 < (772 : Int32) ↔ x2 ≤ (771 : Int32) := by
    rw [Int32.lt_iff_toInt_lt, Int32.le_iff_toInt_le]
    have q1 : (772 : Int32).toInt = 772 := by decide
    have q2 : (771 : Int32).toInt = 771 := by decide
    omega
  by_cases c4 : x2 ≤ (771 : Int32)
  · obtain ⟨k, hk, rfl⟩ := nI_of2 (x := x1) (M := 1) (n := 1) (by decide) c1 (by rw [Int32.le_iff_toInt_le]; rw [Int32.lt_iff_toInt_lt] at c2; omega)
    obtain ⟨i, hi, rfl⟩ := nI_of2 (x := x2) (M := 771) (n := 771) (by decide) c3 c4
    rw [if_pos (e7.mpr c4), if_pos c4, show (772 : Int32) * nI k + nI i = nI (772 * k + i) by rw [L772, pk_mul, nI_add], if_pos (show inb (nI (772 * k + i)) 1544 = true by rw [inb_nI (by omega)]; omega), nI_clamp (by omega)]
    by_cases q : 4 ≤ i
    · have s1 : ∀ fn fs : Nat → Int32, ∀ cp : Int32, fX0_same fn fs cp (nI (i - 4)) = some (fs (i - 4)) := fun fn fs cp => by
        rw [fX0_same, if_neg (nI_pos (by omega)), if_neg (by rw [L768, nI_leI (by omega) (by omega)]; omega), if_pos (by rw [inb_nI (by omega)]; omega), nI_clamp (by omega)]
      rw [if_pos (show (4 : Int32) ≤ nI i by rw [L4, nI_leI (by omega) (by omega)]; exact q), show nI i - (4 : Int32) = nI (i - 4) by rw [L4, pk_sub q], s1, s1, Option.bind_some, Option.bind_some]
      obtain ⟨w1, w2⟩ := hc768 (i - 4) (by omega)
      rcases (show k = 0 ∨ k = 1 by omega) with rfl | rfl
      · rw [if_pos (by decide), show 772 * 0 + i = 4 + (i - 4) by omega]; exact ⟨_, rfl, by rw [w1]⟩
      · rw [if_neg (show ¬ nI 1 = (0 : Int32) by decide), if_pos (show (4 : Int32) ≤ nI i by rw [L4, nI_leI (by omega) (by omega)]; exact q), show 772 * 1 + i = 776 + (i - 4) by omega]; exact ⟨_, rfl, by rw [w2]⟩
    · have s1 : ∀ fn fs : Nat → Int32, ∀ cp : Int32, fX0_near fn fs cp (nI i) = some (fn i) := fun fn fs cp => by
        rw [fX0_near, if_neg (nI_pos (by omega)), if_neg (by rw [L4, nI_leI (by omega) (by omega)]; omega), if_pos (by rw [inb_nI (by omega)]; omega), nI_clamp (by omega)]
      rw [if_neg (show ¬ (4 : Int32) ≤ nI i by rw [L4, nI_leI (by omega) (by omega)]; exact q), s1, s1, Option.bind_some, Option.bind_some]
      obtain ⟨w1, w2⟩ := hc4 i (by omega)
      rcases (show k = 0 ∨ k = 1 by omega) with rfl | rfl
      · rw [if_pos (by decide), show 772 * 0 + i = i by omega]; exact ⟨_, rfl, by rw [w1]⟩
      · rw [if_neg (show ¬ nI 1 = (0 : Int32) by decide), if_neg (show ¬ (4 : Int32) ≤ nI i by rw [L4, nI_leI (by omega) (by omega)]; exact q), show 772 * 1 + i = 772 + i by omega]; exact ⟨_, rfl, by rw [w2]⟩
  · rw [if_neg (fun q => c4 (e7.mp q)), if_neg c4]; exact ⟨_, rfl, rfl⟩
theorem windows_sim {sc : Nat → Int32} {ar : Nat → Nat → Int32} {msc : Nat → Int32} {mar : Nat → Nat → Int32} {sg : Bool} (h : Rel sc ar msc mar) : ∃ r : Int32, fX7_windows sc ar sg = some r ∧ fX8_windows msc mar = some r := ⟨sc 29, rfl, by rw [fX8_windows, h.2.2.2.2]⟩
theorem agr_L {sc : Nat → Int32} {ar : Nat → Nat → Int32} {msc : Nat → Int32} {mar : Nat → Nat → Int32} {sg : Bool} {n : Nat} (hn : n ≤ 64) (x1 : sc 1 = nI n) (x3 : sc 3 = nI n) (m1 : mar 1 1 = nI n) (s1 : SR (ar 1) n (mar 0) 1000) (s3 : SR (ar 3) n (mar 0) 3000) : ∀ (w i kx km : Nat), i + w = n → w < kx → w + 1 < km →
    (fX7_agrees_L21 sc ar sg kx (nI i) = some (Sum.inl ()) ∧ fX8_agrees_L23 msc mar km 1 (nI i) = some 1) ∨ (fX7_agrees_L21 sc ar sg kx (nI i) = some (Sum.inr 0) ∧ fX8_agrees_L23 msc mar km 1 (nI i) = some 0)
  | 0, i, kx + 1, km + 1, hi, _, _ => by
    have e : i = n := by omega
    subst e
    refine Or.inl ⟨?_, ?_⟩
    · rw [fX7_agrees_L21, fX6_count, Option.bind_some, x1, if_pos (by rw [nI_leI (by omega) (by omega)]; omega)]
    · rw [fX8_agrees_L23, if_pos (by decide), show (1 : Int32).toNatClampNeg = 1 by decide, m1, if_pos (by rw [nI_leI (by omega) (by omega)]; omega)]
  | w + 1, i, kx + 1, km + 1, hi, hkx, hkm => by
    have e1 := (s1 i (by omega)).1
    have e3 := (s3 i (by omega)).1
    rw [fX7_agrees_L21, fX6_count, Option.bind_some, x1, if_neg (show ¬ nI n ≤ nI i by rw [nI_leI (by omega) (by omega)]; omega), x3, row_at (by omega) (by omega) (by omega), Option.bind_some, row_at (by omega) (by omega) (by omega), Option.bind_some, fX8_agrees_L23, if_pos (show inb (1 : Int32) 5 = true by decide), show (1 : Int32).toNatClampNeg = 1 by decide, m1, if_neg (show ¬ nI n ≤ nI i by rw [nI_leI (by omega) (by omega)]; omega), if_neg (show ¬ (1 : Int32) = 0 by decide), L1000, L3000, nI_add, nI_add, if_pos (show inb (nI (1000 + i)) 5000 = true by rw [inb_nI (by omega)]; omega), if_pos (show inb (nI (3000 + i)) 5000 = true by rw [inb_nI (by omega)]; omega), nI_clamp (by omega), nI_clamp (by omega), ← e1, ← e3, nI_1]
    by_cases q : ar 3 i = ar 1 i
    · rw [if_pos q, if_pos q.symm]
      exact agr_L hn x1 x3 m1 s1 s3 w (i + 1) kx km (by omega) (by omega) (by omega)
    · rw [if_neg q, if_neg (fun z => q z.symm)]
      obtain ⟨km, rfl⟩ : ∃ z, km = z + 1 := ⟨km - 1, by omega⟩
      refine Or.inr ⟨rfl, ?_⟩
      rw [fX8_agrees_L23, if_pos (by decide), if_pos rfl]
      split <;> rfl
  | w, i, 0, km, hi, hk, _ => by omega
  | w, i, kx, 0, hi, _, hk => by omega
theorem agrees_sim {sc : Nat → Int32} {ar : Nat → Nat → Int32} {msc : Nat → Int32} {mar : Nat → Nat → Int32} {sg : Bool} (h : Rel sc ar msc mar) : ∃ r : Int32, fX7_agrees sc ar sg = some r ∧ fX8_agrees msc mar = some r ∧ (r = 0 ∨ r = 1) := by
  obtain ⟨⟨L, hL⟩, hX, hc4, hc768, h29⟩ := id h
  obtain ⟨a0, a1, a2, a3⟩ := hL 1 (by omega)
  obtain ⟨b0, b1, b2, b3⟩ := hL 3 (by omega)
  have l1 : L 1 ≤ 64 := a0
  have l3 : L 3 ≤ 400 := b0
  rw [fX7_agrees, fX6_count, Option.bind_some, fX6_count, Option.bind_some, a1, b1, fX8_agrees, if_pos (show inb (1 : Int32) 5 = true by decide), if_pos (show inb (3 : Int32) 5 = true by decide), show (1 : Int32).toNatClampNeg = 1 by decide, show (3 : Int32).toNatClampNeg = 3 by decide, a2, b2]
  by_cases q : L 3 = L 1
  · rw [if_pos (show nI (L 3) = nI (L 1) by rw [q]), if_pos (show nI (L 1) = nI (L 3) by rw [q]), Option.bind_some]
    rw [q] at b1 b3
    rcases agr_L (msc := msc) (sg := sg) l1 a1 b1 a2 a3 b3 (L 1) 0 FU FU (by omega) (by rw [FUv]; omega) (by rw [FUv]; omega) with ⟨y1, y2⟩ | ⟨y1, y2⟩
    · have y1' : fX7_agrees_L21 sc ar sg FU 0 = some (Sum.inl ()) := y1
      have y2' : fX8_agrees_L23 msc mar FU 1 0 = some 1 := y2
      rw [y1', y2', Option.bind_some, Option.bind_some, if_pos (by decide)]
      exact ⟨1, rfl, rfl, Or.inr rfl⟩
    · have y1' : fX7_agrees_L21 sc ar sg FU 0 = some (Sum.inr 0) := y1
      have y2' : fX8_agrees_L23 msc mar FU 1 0 = some 0 := y2
      rw [y1', y2', Option.bind_some, Option.bind_some, if_pos (by decide)]
      exact ⟨0, rfl, rfl, Or.inl rfl⟩
  · rw [if_neg (show ¬ nI (L 3) = nI (L 1) by rw [nI_eq (by omega) (by omega)]; exact q), if_neg (show ¬ nI (L 1) = nI (L 3) by rw [nI_eq (by omega) (by omega)]; exact fun z => q z.symm), Option.bind_some, show FU = 5999 + 1 from rfl, fX8_agrees_L23, if_pos (by decide), if_pos rfl]
    have : (if mar 1 (1 : Int32).toNatClampNeg ≤ (0 : Int32) then some (0 : Int32) else some (0 : Int32)) = some 0 := by split <;> rfl
    rw [this, Option.bind_some, if_pos (by decide)]
    exact ⟨0, rfl, rfl, Or.inl rfl⟩
/-- what stands at the start -/
theorem Rel_start : Rel (fun _ => 0) (fun _ _ => 0) (fun _ => 0) (fun _ _ => 0) :=
  ⟨⟨fun _ => 0, fun k _ => ⟨Nat.zero_le _, rfl, rfl, fun j hj => absurd hj (Nat.not_lt_zero j)⟩⟩, fun _ _ _ => ⟨0, by omega, rfl⟩, fun _ _ => ⟨rfl, rfl⟩, fun _ _ => ⟨rfl, rfl⟩, rfl⟩
