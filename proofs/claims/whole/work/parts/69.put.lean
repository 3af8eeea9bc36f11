/-! PURE: the smaller calls, both sides -/
theorem rowcase (x : Int32) : (x < 0 ∨ (3 : Int32) < x) ∨ ∃ k : Nat, k < 4 ∧ x = nI k := by
  by_cases h : x < 0
  · exact Or.inl (Or.inl h)
  by_cases h2 : x ≤ (3 : Int32)
  · obtain ⟨k, hk, e⟩ := nI_of2 (M := 3) (n := 3) (by decide) h h2
    exact Or.inr ⟨k, by omega, e⟩
  · exact Or.inl (Or.inr (by rw [Int32.lt_iff_toInt_lt]; rw [Int32.le_iff_toInt_le] at h2; omega))
theorem out_ne {x : Int32} (h : x < 0 ∨ (3 : Int32) < x) : ¬ x = 0 ∧ ¬ x = 1 ∧ ¬ x = 2 ∧ ¬ x = 3 := by
  refine ⟨?_, ?_, ?_, ?_⟩ <;> (rintro rfl; rcases h with h | h <;> exact absurd h (by decide))
theorem any_no {sc : Nat → Int32} {ar : Nat → Nat → Int32} {sg : Bool} {x : Int32} (h : x < 0 ∨ (3 : Int32) < x) : fX7_anyRow sc ar sg x = some none := by
  obtain ⟨h0, h1, h2, h3⟩ := out_ne h
  rw [fX7_anyRow, if_neg h0, if_neg h1, if_neg h2, if_neg h3]
theorem inp_no {sc : Nat → Int32} {ar : Nat → Nat → Int32} {sg : Bool} {x : Int32} (h : x < 0 ∨ (3 : Int32) < x) : fX7_inputRow sc ar sg x = some none := by
  obtain ⟨h0, h1, h2, h3⟩ := out_ne h
  rw [fX7_inputRow, if_neg h3, any_no h, Option.bind_some, if_pos rfl]
theorem any_k {sc : Nat → Int32} {ar : Nat → Nat → Int32} {sg : Bool} : fX7_anyRow sc ar sg (nI 0) = some (some 0) ∧ fX7_anyRow sc ar sg (nI 1) = some (some 1) ∧ fX7_anyRow sc ar sg (nI 2) = some (some 2) ∧ fX7_anyRow sc ar sg (nI 3) = some (some 3) := by
  refine ⟨?_, ?_, ?_, ?_⟩
  · rw [fX7_anyRow, if_pos (by decide)]
  · rw [fX7_anyRow, if_neg (by decide), if_pos (by decide)]
  · rw [fX7_anyRow, if_neg (by decide), if_neg (by decide), if_pos (by decide)]
  · rw [fX7_anyRow, if_neg (by decide), if_neg (by decide), if_neg (by decide), if_pos (by decide)]
theorem inp_k {sc : Nat → Int32} {ar : Nat → Nat → Int32} {sg : Bool} : fX7_inputRow sc ar sg (nI 0) = some (some 0) ∧ fX7_inputRow sc ar sg (nI 1) = some (some 1) ∧ fX7_inputRow sc ar sg (nI 2) = some (some 2) ∧ fX7_inputRow sc ar sg (nI 3) = some none := by
  obtain ⟨h0, h1, h2, h3⟩ := any_k (sc := sc) (ar := ar) (sg := sg)
  refine ⟨?_, ?_, ?_, ?_⟩
  · rw [fX7_inputRow, if_neg (by decide), h0, Option.bind_some, if_neg (by decide), if_pos rfl]
  · rw [fX7_inputRow, if_neg (by decide), h1, Option.bind_some, if_neg (by decide), if_neg (by decide), if_pos rfl]
  · rw [fX7_inputRow, if_neg (by decide), h2, Option.bind_some, if_neg (by decide), if_neg (by decide), if_neg (by decide), if_pos rfl]
  · rw [fX7_inputRow, if_pos (by decide)]
theorem byte_k (x : Int32) : (fX7_isByte x = some 0 ∧ fX8_isByte x = some 0) ∨ (∃ b : Nat, b < 256 ∧ x = nI b ∧ fX7_isByte x = some 1 ∧ fX8_isByte x = some 1) := by
  rw [fX7_isByte, fX8_isByte]
  by_cases h : x < 0
  · rw [if_pos h]; exact Or.inl ⟨rfl, rfl⟩
  by_cases h2 : (255 : Int32) < x
  · rw [if_neg h, if_pos h2]; exact Or.inl ⟨rfl, rfl⟩
  · obtain ⟨k, hk, e⟩ := nI_of2 (M := 255) (n := 255) (by decide) h (by rw [Int32.le_iff_toInt_le]; rw [Int32.lt_iff_toInt_lt] at h2; omega)
    rw [if_neg h, if_neg h2]; exact Or.inr ⟨k, by omega, e, rfl, rfl⟩
theorem Rel_row {sc : Nat → Int32} {ar : Nat → Nat → Int32} {msc : Nat → Int32} {mar mar' : Nat → Nat → Int32} (h : Rel sc ar msc mar) {k c' : Nat} (hk : k < 4) (hc : c' ≤ mst k) (f' : Nat → Int32) (h1 : mar' 1 = upd (mar 1) k (nI c')) (hs : SR f' c' (mar' 0) (1000 * k)) (ho : ∀ j, (j < 1000 * k ∨ 1000 * k + 1000 ≤ j) → mar' 0 j = mar 0 j) (h4 : mar' 4 = mar 4) : Rel (va_up sc k (nI c')) (va_up ar k f') msc mar' := by
  obtain ⟨⟨L, hL⟩, hX, hc4, hc768, h29⟩ := h
  refine ⟨⟨va_up L k c', fun j hj => ?_⟩, fun j j4 j10 => ?_, fun i hi => ?_, fun i hi => ?_, ?_⟩
  · by_cases e : j = k
    · subst e
      rw [show va_up L j c' j = c' by rw [up_ap, if_pos rfl], show va_up sc j (nI c') j = nI c' by rw [up_ap, if_pos rfl], show va_up ar j f' j = f' by rw [up_ap, if_pos rfl], h1, upd_s]
      exact ⟨hc, rfl, rfl, hs⟩
    · obtain ⟨a0, a1, a2, a3⟩ := hL j hj
      rw [show va_up L k c' j = L j by rw [up_ap, if_neg e], show va_up sc k (nI c') j = sc j by rw [up_ap, if_neg e], show va_up ar k f' j = ar j by rw [up_ap, if_neg e], h1, upd_n e]
      have hml : L j ≤ 1000 := by
        refine Nat.le_trans a0 ?_
        unfold mst; split
        · omega
        · split
          · omega
          · split <;> omega
      exact ⟨a0, a1, a2, SR_eq a3 (fun _ _ => rfl) (fun i hi => ho _ (by omega))⟩
  · rw [up_ap, if_neg (by omega)]; exact hX j j4 j10
  · rw [show va_up ar k f' 10 = ar 10 by rw [up_ap, if_neg (by omega)], show va_up ar k f' 14 = ar 14 by rw [up_ap, if_neg (by omega)], h4]; exact hc4 i hi
  · rw [show va_up ar k f' 11 = ar 11 by rw [up_ap, if_neg (by omega)], show va_up ar k f' 15 = ar 15 by rw [up_ap, if_neg (by omega)], h4]; exact hc768 i hi
  · rw [up_ap, if_neg (by omega)]; exact h29
theorem m_put_L {n c r : Nat} {b : Int32} {msc : Nat → Int32} {mar : Nat → Nat → Int32} (hr : r < 5) (hm : 1000 * r + c + n ≤ 5000) (hn : n ≤ 16) : ∀ (w i k : Nat), i + w = n → w < k → fX8_put_L47 msc (nI r) b (nI n) k (nI i) (rA mar r c i (fun _ => b)) = some (rA mar r c n (fun _ => b))
  | 0, i, k + 1, hi, _ => by
    have e : i = n := by omega
    subst e
    rw [fX8_put_L47, if_pos (by rw [nI_leI (by omega) (by omega)]; omega)]
  | w + 1, i, k + 1, hi, hk => by
    have ap : fX8_append msc (rA mar r c i (fun _ => b)) (nI r) b = some (rA mar r c (i + 1) (fun _ => b)) := m_app_s (g := fun _ => b) hr (by omega)
    rw [fX8_put_L47, if_neg (by rw [nI_leI (by omega) (by omega)]; omega), ap, Option.bind_some, nI_1]
    exact m_put_L hr hm hn w (i + 1) k (by omega) (by omega)
  | w, i, 0, hi, hk => by omega
theorem x_put_source {n c : Nat} {b : Int32} {sg : Bool} {sc : Nat → Int32} {ar : Nat → Nat → Int32} (hm : c + n ≤ 48) : ∀ (w i k : Nat), i + w = n → w < k → fX7_put_L44_source sg b (nI n) k (nI i) (va_up sc 0 (nI (c + i))) (va_up ar 0 (apd (ar 0) c i (fun _ => b))) = some (va_up sc 0 (nI (c + n)), va_up ar 0 (apd (ar 0) c n (fun _ => b)))
  | 0, i, k + 1, hi, _ => by
    have e : i = n := by omega
    subst e
    rw [fX7_put_L44_source, if_pos (by rw [nI_leI (by omega) (by omega)]; omega)]
  | w + 1, i, k + 1, hi, hk => by
    rw [fX7_put_L44_source, if_neg (by rw [nI_leI (by omega) (by omega)]; omega), show (va_up sc 0 (nI (c + i))) 0 = nI (c + i) from rfl, show (va_up ar 0 (apd (ar 0) c i fun _ => b)) 0 = apd (ar 0) c i (fun _ => b) from rfl, row_app (by omega) (by omega), Option.bind_some, up_up, up_up, nI_1]
    have h := x_put_source (sg := sg) (sc := sc) (ar := ar) (b := b) hm w (i + 1) k (by omega) (by omega)
    rw [apd_s] at h
    exact h
  | w, i, 0, hi, hk => by omega
theorem x_put_target {n c : Nat} {b : Int32} {sg : Bool} {sc : Nat → Int32} {ar : Nat → Nat → Int32} (hm : c + n ≤ 64) : ∀ (w i k : Nat), i + w = n → w < k → fX7_put_L44_target sg b (nI n) k (nI i) (va_up sc 1 (nI (c + i))) (va_up ar 1 (apd (ar 1) c i (fun _ => b))) = some (va_up sc 1 (nI (c + n)), va_up ar 1 (apd (ar 1) c n (fun _ => b)))
  | 0, i, k + 1, hi, _ => by
    have e : i = n := by omega
    subst e
    rw [fX7_put_L44_target, if_pos (by rw [nI_leI (by omega) (by omega)]; omega)]
  | w + 1, i, k + 1, hi, hk => by
    rw [fX7_put_L44_target, if_neg (by rw [nI_leI (by omega) (by omega)]; omega), show (va_up sc 1 (nI (c + i))) 1 = nI (c + i) from rfl, show (va_up ar 1 (apd (ar 1) c i fun _ => b)) 1 = apd (ar 1) c i (fun _ => b) from rfl, row_app (by omega) (by omega), Option.bind_some, up_up, up_up, nI_1]
    have h := x_put_target (sg := sg) (sc := sc) (ar := ar) (b := b) hm w (i + 1) k (by omega) (by omega)
    rw [apd_s] at h
    exact h
  | w, i, 0, hi, hk => by omega
theorem x_put_delta {n c : Nat} {b : Int32} {sg : Bool} {sc : Nat → Int32} {ar : Nat → Nat → Int32} (hm : c + n ≤ 1000) : ∀ (w i k : Nat), i + w = n → w < k → fX7_put_L44_delta sg b (nI n) k (nI i) (va_up sc 2 (nI (c + i))) (va_up ar 2 (apd (ar 2) c i (fun _ => b))) = some (va_up sc 2 (nI (c + n)), va_up ar 2 (apd (ar 2) c n (fun _ => b)))
  | 0, i, k + 1, hi, _ => by
    have e : i = n := by omega
    subst e
    rw [fX7_put_L44_delta, if_pos (by rw [nI_leI (by omega) (by omega)]; omega)]
  | w + 1, i, k + 1, hi, hk => by
    rw [fX7_put_L44_delta, if_neg (by rw [nI_leI (by omega) (by omega)]; omega), show (va_up sc 2 (nI (c + i))) 2 = nI (c + i) from rfl, show (va_up ar 2 (apd (ar 2) c i fun _ => b)) 2 = apd (ar 2) c i (fun _ => b) from rfl, row_app (by omega) (by omega), Option.bind_some, up_up, up_up, nI_1]
    have h := x_put_delta (sg := sg) (sc := sc) (ar := ar) (b := b) hm w (i + 1) k (by omega) (by omega)
    rw [apd_s] at h
    exact h
  | w, i, 0, hi, hk => by omega
theorem apd_put {ar mar : Nat → Nat → Int32} {c n k b : Nat} (hb : b < 256) (h : SR (ar k) c (mar 0) (1000 * k)) : SR (apd (ar k) c n (fun _ => nI b)) (c + n) (apd (mar 0) (1000 * k + c) n (fun _ => nI b)) (1000 * k) := SR_apd h (fun _ _ => ⟨b, hb, rfl⟩)
theorem put_sim {sc : Nat → Int32} {ar : Nat → Nat → Int32} {msc : Nat → Int32} {mar : Nat → Nat → Int32} {sg : Bool} (h : Rel sc ar msc mar) (x1 x2 x3 : Int32) :
    ∃ (r : Int32) (sc' : Nat → Int32) (ar' : Nat → Nat → Int32) (mar' : Nat → Nat → Int32), fX7_put sc ar sg x1 x2 x3 = some (r, sc', ar') ∧ fX8_put msc mar x1 x2 x3 = some (r, mar') ∧ Rel sc' ar' msc mar' ∧ (r = 0 ∨ r = 1) := by
  have no : ∀ q1 : fX7_put sc ar sg x1 x2 x3 = some (0, sc, ar), fX8_put msc mar x1 x2 x3 = some (0, mar) → ∃ (r : Int32) (sc' : Nat → Int32) (ar' : Nat → Nat → Int32) (mar' : Nat → Nat → Int32), fX7_put sc ar sg x1 x2 x3 = some (r, sc', ar') ∧ fX8_put msc mar x1 x2 x3 = some (r, mar') ∧ Rel sc' ar' msc mar' ∧ (r = 0 ∨ r = 1) := fun q1 q2 => ⟨0, sc, ar, mar, q1, q2, h, Or.inl rfl⟩
  rcases rowcase x1 with ho | ⟨k, hk, rfl⟩
  · refine no ?_ ?_
    · rw [fX7_put, inp_no ho, Option.bind_some, if_pos rfl]
    · rw [fX8_put]
      rcases ho with ho | ho
      · rw [if_pos ho]
      · by_cases q : x1 < 0
        · rw [if_pos q]
        · rw [if_neg q, if_pos (by rw [Int32.lt_iff_toInt_lt] at ho ⊢; have e2 : (2 : Int32).toInt = 2 := by decide
                                   have e3 : (3 : Int32).toInt = 3 := by decide
                                   omega)]
  · obtain ⟨⟨L, hL⟩, hX, hc4, hc768, h29⟩ := id h
    obtain ⟨a0, a1, a2, a3⟩ := hL k hk
    obtain ⟨p0, p1, p2, p3⟩ := inp_k (sc := sc) (ar := ar) (sg := sg)
    rcases byte_k x2 with ⟨y1, y2⟩ | ⟨b, hb, rfl, y1, y2⟩
    · refine no ?_ ?_
      · rw [fX7_put]
        rcases (show k = 0 ∨ k = 1 ∨ k = 2 ∨ k = 3 by omega) with rfl | rfl | rfl | rfl
        · rw [p0, Option.bind_some, if_neg (by decide), if_pos rfl, y1, Option.bind_some, if_pos rfl]
        · rw [p1, Option.bind_some, if_neg (by decide), if_neg (by decide), if_pos rfl, y1, Option.bind_some, if_pos rfl]
        · rw [p2, Option.bind_some, if_neg (by decide), if_neg (by decide), if_neg (by decide), if_pos rfl, y1, Option.bind_some, if_pos rfl]
        · rw [p3, Option.bind_some, if_pos rfl]
      · rw [fX8_put, if_neg (nI_pos (by omega)), y2, Option.bind_some, if_pos rfl]
        split <;> rfl
    · by_cases c1 : x3 < (1 : Int32)
      · refine no ?_ ?_
        · rw [fX7_put]
          rcases (show k = 0 ∨ k = 1 ∨ k = 2 ∨ k = 3 by omega) with rfl | rfl | rfl | rfl
          · rw [p0, Option.bind_some, if_neg (by decide), if_pos rfl, y1, Option.bind_some, if_neg (by decide), if_pos c1]
          · rw [p1, Option.bind_some, if_neg (by decide), if_neg (by decide), if_pos rfl, y1, Option.bind_some, if_neg (by decide), if_pos c1]
          · rw [p2, Option.bind_some, if_neg (by decide), if_neg (by decide), if_neg (by decide), if_pos rfl, y1, Option.bind_some, if_neg (by decide), if_pos c1]
          · rw [p3, Option.bind_some, if_pos rfl]
        · rw [fX8_put, if_neg (nI_pos (by omega)), y2, Option.bind_some, if_neg (show ¬ (1 : Int32) = 0 by decide), if_pos c1]
          split <;> rfl
      · by_cases c2 : (16 : Int32) < x3
        · refine no ?_ ?_
          · rw [fX7_put]
            rcases (show k = 0 ∨ k = 1 ∨ k = 2 ∨ k = 3 by omega) with rfl | rfl | rfl | rfl
            · rw [p0, Option.bind_some, if_neg (by decide), if_pos rfl, y1, Option.bind_some, if_neg (by decide), if_neg c1, if_pos c2]
            · rw [p1, Option.bind_some, if_neg (by decide), if_neg (by decide), if_pos rfl, y1, Option.bind_some, if_neg (by decide), if_neg c1, if_pos c2]
            · rw [p2, Option.bind_some, if_neg (by decide), if_neg (by decide), if_neg (by decide), if_pos rfl, y1, Option.bind_some, if_neg (by decide), if_neg c1, if_pos c2]
            · rw [p3, Option.bind_some, if_pos rfl]
          · rw [fX8_put, if_neg (nI_pos (by omega)), y2, Option.bind_some, if_neg (show ¬ (1 : Int32) = 0 by decide), if_neg c1, if_pos c2]
            split <;> rfl
        · obtain ⟨n, hn, rfl⟩ := nI_of2 (x := x3) (M := 16) (n := 16) (by decide) (fun q => c1 (by
            rw [Int32.lt_iff_toInt_lt] at q ⊢
            have e0 : (0 : Int32).toInt = 0 := by decide
            have e1 : (1 : Int32).toInt = 1 := by decide
            omega)) (by rw [Int32.le_iff_toInt_le]; rw [Int32.lt_iff_toInt_lt] at c2; omega)
          by_cases k3 : k = 3
          · subst k3
            refine no ?_ ?_
            · rw [fX7_put, p3, Option.bind_some, if_pos rfl]
            · rw [fX8_put, if_neg (by decide), if_pos (by decide)]
          · have hk3 : k < 3 := by omega
            have hmk : mst k ≤ 1000 := by
              unfold mst; split
              · omega
              · split
                · omega
                · split <;> omega
            have hM : fX8_put msc mar (nI k) (nI b) (nI n) = if L k + n ≤ mst k then some (1, rA mar k (L k) n (fun _ => nI b)) else some (0, mar) := by
              have hmo : fX8_most (nI k) = some (nI (mst k)) := by
                rcases (show k = 0 ∨ k = 1 ∨ k = 2 by omega) with rfl | rfl | rfl <;> rfl
              rw [fX8_put, if_neg (nI_pos (by omega)), if_neg (by rw [L2, nI_ltI (by omega) (by omega)]; omega), y2, Option.bind_some, if_neg (show ¬ (1 : Int32) = 0 by decide), if_neg c1, if_neg c2, if_pos (by rw [inb_nI (by omega)]; omega), hmo, Option.bind_some, nI_clamp (by omega), a2, nI_add]
              by_cases q : L k + n ≤ mst k
              · have hl := m_put_L (b := nI b) (msc := msc) (mar := mar) (r := k) (c := L k) (n := n) (by omega) (by omega) (by omega) n 0 FU (by omega) (by rw [FUv]; omega)
                rw [rA_0 a2] at hl
                rw [if_pos (by rw [nI_leI (by omega) (by omega)]; exact q), if_pos q, L0, hl, Option.bind_some]
              · rw [if_neg (by rw [nI_leI (by omega) (by omega)]; exact q), if_neg q]
            have hX7 : fX7_put sc ar sg (nI k) (nI b) (nI n) = if L k + n ≤ mst k then some (1, va_up sc k (nI (L k + n)), va_up ar k (apd (ar k) (L k) n (fun _ => nI b))) else some (0, sc, ar) := by
              rw [fX7_put]
              rcases (show k = 0 ∨ k = 1 ∨ k = 2 by omega) with rfl | rfl | rfl
              · have hl := x_put_source (b := nI b) (sg := sg) (sc := sc) (ar := ar) (c := L 0) (n := n)
                have a0' : L 0 ≤ 48 := a0
                rw [p0, Option.bind_some, if_neg (by decide), if_pos rfl, y1, Option.bind_some, if_neg (by decide), if_neg c1, if_neg c2, fX6_room, Option.bind_some, a1, pk_sub a0', show mst 0 = 48 from rfl]
                by_cases q : L 0 + n ≤ 48
                · have hl2 := hl q n 0 FU (by omega) (by rw [FUv]; omega)
                  rw [apd_0, up_id (f := ar) rfl, Nat.add_zero (L 0), up_id (f := sc) a1] at hl2
                  rw [if_pos (by rw [nI_leI (by omega) (by omega)]; omega), if_pos q, L0, hl2, Option.bind_some]
                · rw [if_neg (by rw [nI_leI (by omega) (by omega)]; omega), if_neg q]
              · have hl := x_put_target (b := nI b) (sg := sg) (sc := sc) (ar := ar) (c := L 1) (n := n)
                have a0' : L 1 ≤ 64 := a0
                rw [p1, Option.bind_some, if_neg (by decide), if_neg (by decide), if_pos rfl, y1, Option.bind_some, if_neg (by decide), if_neg c1, if_neg c2, fX6_room, Option.bind_some, a1, pk_sub a0', show mst 1 = 64 from rfl]
                by_cases q : L 1 + n ≤ 64
                · have hl2 := hl q n 0 FU (by omega) (by rw [FUv]; omega)
                  rw [apd_0, up_id (f := ar) rfl, Nat.add_zero (L 1), up_id (f := sc) a1] at hl2
                  rw [if_pos (by rw [nI_leI (by omega) (by omega)]; omega), if_pos q, L0, hl2, Option.bind_some]
                · rw [if_neg (by rw [nI_leI (by omega) (by omega)]; omega), if_neg q]
              · have hl := x_put_delta (b := nI b) (sg := sg) (sc := sc) (ar := ar) (c := L 2) (n := n)
                have a0' : L 2 ≤ 1000 := a0
                rw [p2, Option.bind_some, if_neg (by decide), if_neg (by decide), if_neg (by decide), if_pos rfl, y1, Option.bind_some, if_neg (by decide), if_neg c1, if_neg c2, fX6_room, Option.bind_some, a1, pk_sub a0', show mst 2 = 1000 from rfl]
                by_cases q : L 2 + n ≤ 1000
                · have hl2 := hl q n 0 FU (by omega) (by rw [FUv]; omega)
                  rw [apd_0, up_id (f := ar) rfl, Nat.add_zero (L 2), up_id (f := sc) a1] at hl2
                  rw [if_pos (by rw [nI_leI (by omega) (by omega)]; omega), if_pos q, L0, hl2, Option.bind_some]
                · rw [if_neg (by rw [nI_leI (by omega) (by omega)]; omega), if_neg q]
            by_cases q : L k + n ≤ mst k
            · rw [hX7, hM, if_pos q, if_pos q]
              refine ⟨1, _, _, _, rfl, rfl, Rel_row h hk q _ rfl (apd_put hb a3) (fun j hj => ?_) rfl, Or.inr rfl⟩
              show apd (mar 0) (1000 * k + L k) n (fun _ => nI b) j = _
              rcases hj with hj | hj
              · rw [apd_lo (by omega)]
              · rw [apd_hi (by omega)]
            · rw [hX7, hM, if_neg q, if_neg q]
              exact ⟨0, _, _, _, rfl, rfl, h, Or.inl rfl⟩
