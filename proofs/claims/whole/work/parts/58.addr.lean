/-! PURE: addresses, both sides -/
theorem toI64_sub {a v : Nat} (ha : a < 2 ^ 30) (hv : v < 2 ^ 31) : (nI a - nI v).toInt64 = (nI a).toInt64 - (nI v).toInt64 := by
  have ea : (nI a).toInt = (a : Int) := nI_toInt (by omega)
  have ev : (nI v).toInt = (v : Int) := nI_toInt hv
  apply Int64.toInt_inj.mp
  rw [Int32.toInt_toInt64, Int64.toInt_sub, Int32.toInt_toInt64, Int32.toInt_toInt64, Int32.toInt_sub, ea, ev]
  rw [Int.bmod_eq_of_le (by omega) (by omega), Int.bmod_eq_of_le (by omega) (by omega)]
theorem x_here {sl b ss sp ws we mk : Nat} {sg : Bool} {sc sc1 : Nat → Int32} {ar : Nat → Nat → Int32} {msc : Nat → Int32} {mar : Nat → Nat → Int32} (h : MS sl b ss sp ws we mk sg sc ar msc mar) (e9 : sc1 9 = sc 9) (e14 : sc1 14 = sc 14) (e15 : sc1 15 = sc 15) : fX2_here sc1 ar sg = some (nI (ss + (mk - ws))) := by
  obtain ⟨_, ⟨b1, b2, b3⟩, ⟨c1, c2, c3, c4⟩, ⟨d1, d2, d3, d4, d5⟩, hb, w1, w2, w3⟩ := h
  rw [fX2_here, fX6_count, Option.bind_some, e9, e14, e15, b1, c2, c3, nI_add, pk_sub (by omega)]
  congr 2; omega
theorem m_here {sl b ss sp ws we mk : Nat} {sg : Bool} {sc : Nat → Int32} {ar : Nat → Nat → Int32} {msc msc1 : Nat → Int32} {mar mar1 : Nat → Nat → Int32} (h : MS sl b ss sp ws we mk sg sc ar msc mar) (e1 : mar1 1 = mar 1) (e5 : msc1 5 = msc 5) (e7 : msc1 7 = msc 7) : fX8_here msc1 mar1 = some (nI (ss + (mk - ws))) := by
  obtain ⟨_, ⟨b1, b2, b3⟩, _, ⟨d1, d2, d3, d4, d5⟩, hb, w1, w2, w3⟩ := h
  rw [fX8_here, fX8_made, if_pos (by decide), show (4 : Int32).toNatClampNeg = 4 by decide, Option.bind_some, e1, e5, e7, b2, d2, d4, pk_sub w1, nI_add]
theorem adr_end {A : Int64} {H : Nat} {msc : Nat → Int32} {mar : Nat → Nat → Int32} (hH : H < 2 ^ 30) (h3 : msc 3 = 0) (hh : fX8_here msc mar = some (nI H)) :
    (∃ a : Nat, a < H ∧ A = lN a ∧ (if (msc 3) = 0 then if (lg_cmp A (0 : Int64)) < 0 then some ((0 : Int32), (va_up msc 3 (1 : Int32)), mar) else (fX8_here msc mar).bind fun R18 => if (lg_cmp A R18.toInt64) < 0 then some (A.toInt32, (va_up msc 3 (0 : Int32)), mar) else some ((0 : Int32), (va_up msc 3 (1 : Int32)), mar) else some ((0 : Int32), (va_up msc 3 (1 : Int32)), mar)) = some (nI a, msc, mar)) ∨
    ((A < 0 ∨ ¬ A < lN H) ∧ (if (msc 3) = 0 then if (lg_cmp A (0 : Int64)) < 0 then some ((0 : Int32), (va_up msc 3 (1 : Int32)), mar) else (fX8_here msc mar).bind fun R18 => if (lg_cmp A R18.toInt64) < 0 then some (A.toInt32, (va_up msc 3 (0 : Int32)), mar) else some ((0 : Int32), (va_up msc 3 (1 : Int32)), mar) else some ((0 : Int32), (va_up msc 3 (1 : Int32)), mar)) = some (0, va_up msc 3 1, mar)) := by
  rw [if_pos h3]
  by_cases hA : A < 0
  · rw [if_pos ((lg_cmp_lt _ _).mpr hA)]
    exact Or.inr ⟨Or.inl hA, rfl⟩
  · rw [if_neg (fun q => hA ((lg_cmp_lt _ _).mp q)), hh, Option.bind_some, nI_l (by omega)]
    by_cases hB : A < lN H
    · obtain ⟨a, a1, a2⟩ := pk_lOf hA
      subst a2
      rw [if_pos ((lg_cmp_lt _ _).mpr hB), lN_i, up_id h3]
      rw [pk_lLT a1 (by omega)] at hB
      exact Or.inl ⟨a, hB, rfl, rfl⟩
    · rw [if_neg (fun q => hB ((lg_cmp_lt _ _).mp q))]
      exact Or.inr ⟨Or.inr hB, rfl⟩
/-- an address read, both sides -/
theorem rd_address {dl sl b ss sp ws we e0 e1 e2 mk p0 p1 p2 cp m : Nat} {db : Nat → Nat} {sg : Bool} {sc : Nat → Int32} {ar : Nat → Nat → Int32} {msc : Nat → Int32} {mar : Nat → Nat → Int32} (h : DW dl db sl b ss sp ws we e0 e1 e2 mk p0 p1 p2 cp sg sc ar msc mar) (hm : m ≤ 8) :
    (∃ (a q : Nat), a < ss + (mk - ws) ∧ q ≤ e2 ∧ fX2_readAddress sc ar sg (nI m) = some (lN a, va_up sc 27 (nI q)) ∧ fX8_address msc mar (nI m) = some (nI a, msc, va_up mar 10 (upd (mar 10) 2 (nI q)))) ∨
    (∃ (A : Int64) (P : Int32) (mar' : Nat → Nat → Int32), fX2_readAddress sc ar sg (nI m) = some (A, va_up sc 27 P) ∧ (A < 0 ∨ ¬ A < lN (ss + (mk - ws))) ∧ RdF 2 mar mar' ∧ fX8_address msc mar (nI m) = some (0, va_up msc 3 1, mar')) := by
  obtain ⟨hd, hM, hR, hC, hcp, h3⟩ := h
  obtain ⟨hR0, hR1, ⟨r1, r2, r3, r4, r5, r6⟩⟩ := id hR
  have h1 := hd.1
  have hw := hM.2.2.2.2.2.2.2
  have hwm := hM.2.2.2.2.2.2.1
  have hws := hM.2.2.2.2.2.1
  have hH : ss + (mk - ws) < 2 ^ 30 := by
    obtain ⟨⟨a1, a2, a3⟩, _, _, _, ⟨hb, hb0, hb1, hb2⟩, _, _, _⟩ := hM
    rcases (show b = 0 ∨ b = 1 ∨ b = 2 by omega) with q | q | q
    · have := hb0 q; omega
    · have := (hb1 q).1; omega
    · have := (hb2 q).1; omega
  by_cases hm6 : m < 6
  · have c6 : nI m < (6 : Int32) := by rw [L6, nI_ltI (by omega) (by omega)]; exact hm6
    have c5 : nI m ≤ (5 : Int32) := by rw [L5, nI_leI (by omega) (by omega)]; omega
    rcases hri : ri db e2 5 0 p2 with _ | ⟨v, q⟩
    · obtain ⟨P, hP⟩ := (x_integer (ct := sc 2) hd r6 (by omega)).2 hri
      obtain ⟨mar', hf, hy⟩ := (m_integer (msc := msc) (s := 2) hd r6 (by omega) r3 r4 h3 (by omega)).2 hri
      have hy' : fX8_nextInteger msc mar (2 : Int32) = some (0, va_up msc 3 1, mar') := hy
      refine Or.inr ⟨-1, P, mar', ?_, Or.inl (by decide), hf, ?_⟩
      · rw [fX2_readAddress, if_pos c6, r1, r2, hP, Option.bind_some]
        dsimp only
        rw [if_pos rfl]
      · rw [fX8_address, if_pos c5, hy', Option.bind_some]
        dsimp only
        have key : ∀ B : Int64, ((some (B, va_up msc 3 1, mar') : Option (Int64 × (Nat → Int32) × (Nat → Nat → Int32))).bind fun R13 => if (R13.2.1 3) = 0 then if (lg_cmp R13.1 (0 : Int64)) < 0 then some ((0 : Int32), (va_up R13.2.1 3 (1 : Int32)), R13.2.2) else (fX8_here R13.2.1 R13.2.2).bind fun R18 => if (lg_cmp R13.1 R18.toInt64) < 0 then some (R13.1.toInt32, (va_up R13.2.1 3 (0 : Int32)), R13.2.2) else some ((0 : Int32), (va_up R13.2.1 3 (1 : Int32)), R13.2.2) else some ((0 : Int32), (va_up R13.2.1 3 (1 : Int32)), R13.2.2)) = some (0, va_up msc 3 1, mar') := by
          intro B
          rw [Option.bind_some]
          dsimp only
          rw [if_neg bad_ne, up_up]
        by_cases m0 : m = 0
        · subst m0; rw [if_pos (show nI 0 = (0 : Int32) from rfl)]; exact key _
        · rw [if_neg (show ¬ nI m = (0 : Int32) by rw [L0, nI_eq (by omega) (by omega)]; exact m0)]
          by_cases m1 : m = 1
          · subst m1
            rw [if_pos (show nI 1 = (1 : Int32) from rfl), m_here (msc1 := va_up msc 3 1) hM (hf.1 1 (by decide)) rfl rfl, Option.bind_some]; exact key _
          · rw [if_neg (show ¬ nI m = (1 : Int32) by rw [L1, nI_eq (by omega) (by omega)]; exact m1), if_pos (by rw [L2, pk_sub (by omega), inb_nI (by omega)]; omega)]; exact key _
    · obtain ⟨v1, v2, v3⟩ := ri_b hri
      have hP := (x_integer (ct := sc 2) hd r6 (by omega)).1 v q hri
      have hy := (m_integer (msc := msc) (s := 2) hd r6 (by omega) r3 r4 h3 (by omega)).1 v q hri
      have hy' : fX8_nextInteger msc mar (2 : Int32) = some (nI v, msc, va_up mar 10 (upd (mar 10) 2 (nI q))) := hy
      have hX : ∀ A : Int64, fX0_addressFor (ar 12) (ar 13) (sc 18) (nI m) (nI v) (nI (ss + (mk - ws))) = some A → fX2_readAddress sc ar sg (nI m) = some (A, va_up sc 27 (nI q)) := by
        intro A hA
        rw [fX2_readAddress, if_pos c6, r1, r2, hP, Option.bind_some]
        dsimp only
        rw [if_neg (nI_ne_m1 (by omega)), x_here (sc1 := va_up sc 27 (nI q)) hM rfl rfl rfl, Option.bind_some, hA, Option.bind_some]
      have hhm : fX8_here msc (va_up mar 10 (upd (mar 10) 2 (nI q))) = some (nI (ss + (mk - ws))) := m_here hM rfl rfl rfl
      have hA : ∃ A : Int64, fX0_addressFor (ar 12) (ar 13) (sc 18) (nI m) (nI v) (nI (ss + (mk - ws))) = some A ∧ (if nI m = (0 : Int32) then some ((nI v).toInt64, msc, va_up mar 10 (upd (mar 10) 2 (nI q))) else if nI m = (1 : Int32) then (fX8_here msc (va_up mar 10 (upd (mar 10) 2 (nI q)))).bind fun R8 => some (R8.toInt64 - (nI v).toInt64, msc, va_up mar 10 (upd (mar 10) 2 (nI q))) else if inb (nI m - (2 : Int32)) 4 = true then some ((((va_up mar 10 (upd (mar 10) 2 (nI q))) 2) (nI m - (2 : Int32)).toNatClampNeg).toInt64 + (nI v).toInt64, msc, va_up mar 10 (upd (mar 10) 2 (nI q))) else none) = some (A, msc, va_up mar 10 (upd (mar 10) 2 (nI q))) := by
        by_cases m0 : m = 0
        · subst m0
          refine ⟨(nI v).toInt64, ?_, ?_⟩
          · rw [fX0_addressFor, if_pos (by decide), if_neg (by decide)]
          · rw [if_pos (show nI 0 = (0 : Int32) from rfl)]
        · rw [if_neg (show ¬ nI m = (0 : Int32) by rw [L0, nI_eq (by omega) (by omega)]; exact m0)]
          by_cases m1 : m = 1
          · subst m1
            refine ⟨(nI (ss + (mk - ws)) - nI v).toInt64, ?_, ?_⟩
            · rw [fX0_addressFor, if_pos (by decide), if_pos (by decide)]
            · rw [if_pos (show nI 1 = (1 : Int32) from rfl), hhm, Option.bind_some, toI64_sub hH (by omega)]
          · rw [if_neg (show ¬ nI m = (1 : Int32) by rw [L1, nI_eq (by omega) (by omega)]; exact m1), if_pos (by rw [L2, pk_sub (by omega), inb_nI (by omega)]; omega)]
            refine ⟨(ar 12 (m - 2)).toInt64 + (nI v).toInt64, ?_, ?_⟩
            · rw [fX0_addressFor, if_neg (by rw [L2, nI_ltI (by omega) (by omega)]; omega), if_neg (by rw [L6, nI_leI (by omega) (by omega)]; omega), if_pos (by rw [L2, pk_sub (by omega), inb_nI (by omega)]; omega), L2, pk_sub (by omega), nI_clamp (by omega)]
            · rw [L2, pk_sub (by omega), nI_clamp (by omega), hC.1 (m - 2) (by omega)]; rfl
      obtain ⟨A, hA1, hA2⟩ := hA
      have hM8 : fX8_address msc mar (nI m) = (if (msc 3) = 0 then if (lg_cmp A (0 : Int64)) < 0 then some ((0 : Int32), (va_up msc 3 (1 : Int32)), va_up mar 10 (upd (mar 10) 2 (nI q))) else (fX8_here msc (va_up mar 10 (upd (mar 10) 2 (nI q)))).bind fun R18 => if (lg_cmp A R18.toInt64) < 0 then some (A.toInt32, (va_up msc 3 (0 : Int32)), va_up mar 10 (upd (mar 10) 2 (nI q))) else some ((0 : Int32), (va_up msc 3 (1 : Int32)), va_up mar 10 (upd (mar 10) 2 (nI q))) else some ((0 : Int32), (va_up msc 3 (1 : Int32)), va_up mar 10 (upd (mar 10) 2 (nI q)))) := by
        rw [fX8_address, if_pos c5, hy', Option.bind_some]
        dsimp only
        rw [hA2, Option.bind_some]
      rcases adr_end (A := A) hH h3 hhm with ⟨a, k1, k2, k3⟩ | ⟨k1, k2⟩
      · subst k2
        exact Or.inl ⟨a, q, k1, v3, hX _ hA1, by rw [hM8, k3]⟩
      · refine Or.inr ⟨A, nI q, va_up mar 10 (upd (mar 10) 2 (nI q)), hX _ hA1, k1, ⟨fun k hk => by rw [up_ap, if_neg hk], fun j hj => by show upd (mar 10) 2 (nI q) j = _; rw [upd_n hj], q, by omega, by show upd (mar 10) 2 (nI q) 2 = _; rw [upd_s]⟩, by rw [hM8, k2]⟩
  · have c6 : ¬ nI m < (6 : Int32) := by rw [L6, nI_ltI (by omega) (by omega)]; exact hm6
    have c5 : ¬ nI m ≤ (5 : Int32) := by rw [L5, nI_leI (by omega) (by omega)]; omega
    by_cases hq : p2 < e2
    · have hdb := (hd.2 p2 (by omega)).2.2
      have nx : fX8_next msc mar (2 : Int32) = some (nI (db p2), msc, va_up mar 10 (upd (mar 10) 2 (nI (p2 + 1)))) := m_byte (s := 2) hd r6 (by omega) r3 r4 hq
      have ei : (256 : Int32) * (nI m - (6 : Int32)) + nI (db p2) = nI (256 * (m - 6) + db p2) := by rw [L6, pk_sub (by omega), L256, pk_mul, nI_add]
      have hlt : 256 * (m - 6) + db p2 < 768 := by omega
      have hhm : fX8_here msc (va_up mar 10 (upd (mar 10) 2 (nI (p2 + 1)))) = some (nI (ss + (mk - ws))) := m_here hM rfl rfl rfl
      have hX : fX2_readAddress sc ar sg (nI m) = some ((ar 13 (256 * (m - 6) + db p2)).toInt64, va_up sc 27 (nI (p2 + 1))) := by
        rw [fX2_readAddress, if_neg c6, r1, r2, x_byte hd r6 hq, Option.bind_some]
        dsimp only
        rw [if_neg (nI_ne_m1 (by omega)), ei, fX0_same, if_neg (nI_pos (by omega)), if_neg (by rw [L768, nI_leI (by omega) (by omega)]; omega), if_pos (by rw [inb_nI (by omega)]; exact hlt), nI_clamp (by omega), Option.bind_some]
      have hM8 : fX8_address msc mar (nI m) = (if (msc 3) = 0 then if (lg_cmp (ar 13 (256 * (m - 6) + db p2)).toInt64 (0 : Int64)) < 0 then some ((0 : Int32), (va_up msc 3 (1 : Int32)), va_up mar 10 (upd (mar 10) 2 (nI (p2 + 1)))) else (fX8_here msc (va_up mar 10 (upd (mar 10) 2 (nI (p2 + 1))))).bind fun R18 => if (lg_cmp (ar 13 (256 * (m - 6) + db p2)).toInt64 R18.toInt64) < 0 then some ((ar 13 (256 * (m - 6) + db p2)).toInt64.toInt32, (va_up msc 3 (0 : Int32)), va_up mar 10 (upd (mar 10) 2 (nI (p2 + 1)))) else some ((0 : Int32), (va_up msc 3 (1 : Int32)), va_up mar 10 (upd (mar 10) 2 (nI (p2 + 1)))) else some ((0 : Int32), (va_up msc 3 (1 : Int32)), va_up mar 10 (upd (mar 10) 2 (nI (p2 + 1))))) := by
        rw [fX8_address, if_neg c5, nx, Option.bind_some]
        dsimp only
        rw [ei, if_pos (by rw [inb_nI (by omega)]; exact hlt), nI_clamp (by omega), Option.bind_some, hC.2.1 _ hlt]
        rfl
      rcases adr_end (A := (ar 13 (256 * (m - 6) + db p2)).toInt64) hH h3 hhm with ⟨a, k1, k2, k3⟩ | ⟨k1, k2⟩
      · exact Or.inl ⟨a, p2 + 1, k1, hq, by rw [hX, k2], by rw [hM8, k3]⟩
      · refine Or.inr ⟨_, nI (p2 + 1), va_up mar 10 (upd (mar 10) 2 (nI (p2 + 1))), hX, k1, ⟨fun k hk => by rw [up_ap, if_neg hk], fun j hj => by show upd (mar 10) 2 (nI (p2 + 1)) j = _; rw [upd_n hj], p2 + 1, by omega, by show upd (mar 10) 2 (nI (p2 + 1)) 2 = _; rw [upd_s]⟩, by rw [hM8, k2]⟩
    · have nx : fX8_next msc mar (2 : Int32) = some (0, va_up msc 3 1, mar) := m_byte_no (s := 2) (by omega) r3 r4 (by omega) (by omega)
      have ei : (256 : Int32) * (nI m - (6 : Int32)) + 0 = nI (256 * (m - 6) + 0) := by rw [L6, pk_sub (by omega), L256, pk_mul, L0, nI_add]
      refine Or.inr ⟨-1, nI p2, mar, ?_, Or.inl (by decide), ⟨fun _ _ => rfl, fun _ _ => rfl, p2, by omega, r3⟩, ?_⟩
      · rw [fX2_readAddress, if_neg c6, r1, r2, x_byte_no (by omega) (by omega), Option.bind_some]
        dsimp only
        rw [if_pos rfl]
      · rw [fX8_address, if_neg c5, nx, Option.bind_some]
        dsimp only
        rw [ei, if_pos (by rw [inb_nI (by omega)]; omega), Option.bind_some]
        dsimp only
        rw [if_neg bad_ne, up_up]
