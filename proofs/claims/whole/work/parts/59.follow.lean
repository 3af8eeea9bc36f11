/-! PURE: an instruction followed, both sides -/
theorem MS_fr {sl b ss sp ws we mk : Nat} {sg : Bool} {sc sc1 : Nat → Int32} {ar ar1 : Nat → Nat → Int32} {msc msc1 : Nat → Int32} {mar mar1 : Nat → Nat → Int32} (h : MS sl b ss sp ws we mk sg sc ar msc mar) (hs : ∀ k, k ∉ [18, 23, 25, 27] → sc1 k = sc k) (ha : ∀ k, k ∉ [12, 13] → ar1 k = ar k) (hm : ∀ k, k ∉ [1, 3] → msc1 k = msc k) (hr : ∀ k, k ∉ [2, 3, 10] → mar1 k = mar k) : MS sl b ss sp ws we mk sg sc1 ar1 msc1 mar1 := by
  obtain ⟨⟨a1, a2, a3⟩, ⟨b1, b2, b3⟩, ⟨c1, c2, c3, c4⟩, ⟨d1, d2, d3, d4, d5⟩, hb, w1, w2, w3⟩ := h
  refine ⟨⟨by rw [hs 0 (by decide)]; exact a1, a2, by rw [ha 0 (by decide), hr 0 (by decide)]; exact a3⟩, ⟨by rw [hs 9 (by decide)]; exact b1, by rw [hr 1 (by decide)]; exact b2, by rw [ha 9 (by decide), hr 0 (by decide)]; exact b3⟩, ⟨by rw [hs 13 (by decide)]; exact c1, by rw [hs 14 (by decide)]; exact c2, by rw [hs 15 (by decide)]; exact c3, by rw [hs 16 (by decide)]; exact c4⟩, ⟨by rw [hm 4 (by decide)]; exact d1, by rw [hm 5 (by decide)]; exact d2, by rw [hm 6 (by decide)]; exact d3, by rw [hm 7 (by decide)]; exact d4, by rw [hm 8 (by decide)]; exact d5⟩, hb, w1, w2, w3⟩
/-- COPY, both sides -/
theorem copy_exec {dl sl b ss sp ws we e0 e1 e2 mk p0 p1 p2 cp n m : Nat} {db : Nat → Nat} {sg : Bool} {sc : Nat → Int32} {ar : Nat → Nat → Int32} {msc : Nat → Int32} {mar : Nat → Nat → Int32} (h : DW dl db sl b ss sp ws we e0 e1 e2 mk p0 p1 p2 cp sg sc ar msc mar) (hmd : m ≤ 8) (hn : 1 ≤ n) (hm : mk + n ≤ we) :
    ∃ (r : Int32) (sc' : Nat → Int32) (ar' : Nat → Nat → Int32) (msc' : Nat → Int32) (mar' : Nat → Nat → Int32), ((fX2_readAddress sc ar sg (nI m)).bind fun R24 => fX2_copy R24.2 ar sg (nI n) R24.1) = some (r, sc', ar') ∧ ((fX8_address msc mar (nI m)).bind fun R22 => (fX8_perform_L38 R22.2.1 (nI n) R22.1 FU (0 : Int32) R22.2.2).bind fun R30 => if (R22.2.1 3) = 0 then (fX8_note R22.2.1 R30 R22.1).bind fun R33 => some (R33.1, R33.2) else some (R22.2.1, R30)) = some (msc', mar') ∧ EF sc sc' ar ar' msc msc' mar mar' ∧ OK9 sc' ∧
      ((r = 1 ∧ ∃ p2' cp', DW dl db sl b ss sp ws we e0 e1 e2 (mk + n) p0 p1 p2' cp' sg sc' ar' msc' mar') ∨ (r = 0 ∧ msc' 3 = 1)) := by
  obtain ⟨hd, hM, hR, hC, hcp, h3⟩ := id h
  obtain ⟨hR0, hR1, ⟨r1, r2, r3, r4, r5, r6⟩⟩ := id hR
  have h1 := hd.1
  have hw := hM.2.2.2.2.2.2.2
  have hwm := hM.2.2.2.2.2.2.1
  have hws := hM.2.2.2.2.2.1
  have s0 : FU = 5999 + 1 := rfl
  have hH : ss + (mk - ws) < 1000 := by
    obtain ⟨⟨a1, a2, a3⟩, _, _, _, ⟨hb, hb0, hb1, hb2⟩, _, _, _⟩ := hM
    rcases (show b = 0 ∨ b = 1 ∨ b = 2 by omega) with q | q | q
    · have := hb0 q; omega
    · have := (hb1 q).1; omega
    · have := (hb2 q).1; omega
  rcases rd_address h hmd with ⟨a, q, k1, k2, k3, k4⟩ | ⟨A, P, mar', k1, k2, k3, k4⟩
  · have hM1 : MS sl b ss sp ws we mk sg (va_up sc 27 (nI q)) ar msc (va_up mar 10 (upd (mar 10) 2 (nI q))) := MS_fr hM (fun k hk => up_nin (by decide) hk) (fun _ _ => rfl) (fun _ _ => rfl) (fun k hk => up_nin (by decide) hk)
    obtain ⟨v, v1, v2, v3⟩ := copy_both (n := n) h3 (show a < 2 ^ 29 by omega) (by omega) n 0 mk FU FU _ _ _ hM1 (by omega) (by rw [FUv]; omega) (by rw [FUv]; omega) (by omega) (by omega)
    have v2' : fX2_copy_L21 sg (nI n) (lN a) FU 0 (va_up sc 27 (nI q)) ar = some (va_up (va_up sc 27 (nI q)) 9 (nI (mk + n)), va_up ar 9 (apd (ar 9) mk n v)) := v2
    have v3' : fX8_perform_L38 msc (nI n) (nI a) FU 0 (va_up mar 10 (upd (mar 10) 2 (nI q))) = some (rA (va_up mar 10 (upd (mar 10) 2 (nI q))) 4 mk n v) := v3
    obtain ⟨c1, c2, c3, c4⟩ := id hC
    have xl := x_learn (fn := ar 12) (fs := ar 13) (c := cp) (x := a) (by omega) (by omega)
    have ml := m_note (ar := rA (va_up mar 10 (upd (mar 10) 2 (nI q))) 4 mk n v) (x := a) c4 (Nat.mod_lt _ (by omega)) (by omega)
    have hM2 := MS_add (m := n) (v := v) (mar1 := va_up mar 10 (upd (mar 10) 2 (nI q))) (sc1 := va_up (va_up sc 27 (nI q)) 9 (nI (mk + n))) (msc1 := msc) hM v1 hm rfl rfl (fun k hk => by rw [up_nin (by decide) hk, up_nin (by decide) hk]) rfl (fun _ _ => rfl)
    refine ⟨1, va_up (va_up (va_up sc 27 (nI q)) 9 (nI (mk + n))) 18 (nI (cp + 1)), va_up (va_up (va_up ar 9 (apd (ar 9) mk n v)) 12 (upd (ar 12) (cp % 4) (nI a))) 13 (upd (ar 13) (a % 768) (nI a)), va_up msc 1 (nI ((cp % 4 + 1) % 4)), va_up (va_up (rA (va_up mar 10 (upd (mar 10) 2 (nI q))) 4 mk n v) 2 (upd (mar 2) (cp % 4) (nI a))) 3 (upd (mar 3) (a % 768) (nI a)), ?_, ?_, ?_, ⟨mk + n, by omega, rfl⟩, Or.inl ⟨rfl, q, cp + 1, ?_⟩⟩
    · rw [k3, Option.bind_some, fX2_copy, if_neg (by rw [lg_cmp_lt, show (0 : Int64) = lN 0 from rfl, pk_lLT (by omega) (by omega)]; omega), x_here (sc1 := va_up sc 27 (nI q)) hM rfl rfl rfl, Option.bind_some, nI_l (by omega), if_pos (by rw [lg_cmp_lt, pk_lLT (by omega) (by omega)]; exact k1)]
      dsimp only
      rw [v2', Option.bind_some]
      dsimp only
      rw [show (va_up ar 9 (apd (ar 9) mk n v)) 12 = ar 12 from rfl, show (va_up ar 9 (apd (ar 9) mk n v)) 13 = ar 13 from rfl, show (va_up (va_up sc 27 (nI q)) 9 (nI (mk + n))) 18 = nI cp from c3, lN_i, xl, Option.bind_some]
    · rw [k4, Option.bind_some]
      dsimp only
      rw [v3', Option.bind_some, if_pos h3, ml, Option.bind_some]
      rfl
    · have := EF_add (sc := sc) (sc1 := va_up (va_up (va_up sc 27 (nI q)) 9 (nI (mk + n))) 18 (nI (cp + 1))) (ar := ar) (msc := msc) (msc1 := va_up msc 1 (nI ((cp % 4 + 1) % 4))) (mar := mar) (mar1 := va_up mar 10 (upd (mar 10) 2 (nI q))) (mk := mk) (m := n) (v := v) (v' := v) (fun k hk => by rw [up_nin (by decide) hk, up_nin (by decide) hk, up_nin (by decide) hk]) (fun k hk => up_nin (by decide) hk) (fun k hk => up_nin (by decide) hk) (by show upd (mar 10) 2 (nI q) 3 = _; rw [upd_n (by decide)])
      obtain ⟨f1, f2, f3, f4, f5, f6, f7⟩ := this
      refine ⟨f1, fun k hk => ?_, f3, fun k hk => ?_, fun j hj => ?_, fun j hj => ?_, ?_⟩
      · rw [up_nin (by decide) hk, up_nin (by decide) hk]; exact f2 k hk
      · rw [up_nin (by decide) hk, up_nin (by decide) hk]; exact f4 k hk
      · exact f5 j hj
      · exact f6 j hj
      · exact f7
    · refine ⟨DLT_kept hd rfl (fun j hj => ?_), MS_fr hM2 (fun k hk => up_nin (by decide) hk) (fun k hk => by rw [up_nin (by decide) hk, up_nin (by decide) hk]) (fun k hk => up_nin (by decide) hk) (fun k hk => by rw [up_nin (by decide) hk, up_nin (by decide) hk]), ⟨?_, ?_, ⟨rfl, r2, ?_, r4, k2, r6⟩⟩, ?_, by omega, h3⟩
      · show apd (mar 0) (1000 * 4 + mk) n v j = _; rw [apd_lo (by omega)]
      · exact ⟨hR0.1, hR0.2.1, by show upd (mar 10) 2 (nI q) 0 = _; rw [upd_n (by decide)]; exact hR0.2.2.1, hR0.2.2.2⟩
      · exact ⟨hR1.1, hR1.2.1, by show upd (mar 10) 2 (nI q) 1 = _; rw [upd_n (by decide)]; exact hR1.2.2.1, hR1.2.2.2⟩
      · show upd (mar 10) 2 (nI q) 2 = _; rw [upd_s]
      · exact CA_add hC
  · refine ⟨0, va_up sc 27 P, ar, va_up msc 3 1, mar', ?_, ?_, ?_, ⟨mk, by omega, hM.2.1.1⟩, Or.inr ⟨rfl, rfl⟩⟩
    · rw [k1, Option.bind_some, fX2_copy]
      by_cases hA : A < 0
      · rw [if_pos ((lg_cmp_lt _ _).mpr hA)]
      · rcases k2 with k2 | k2
        · exact absurd k2 hA
        · rw [if_neg (fun q => hA ((lg_cmp_lt _ _).mp q)), x_here (sc1 := va_up sc 27 P) hM rfl rfl rfl, Option.bind_some, nI_l (by omega), if_neg (fun q => k2 ((lg_cmp_lt _ _).mp q))]
    · rw [k4, Option.bind_some]
      dsimp only
      rw [s0, fX8_perform_L38, if_neg (show ¬ nI n ≤ (0 : Int32) by rw [L0, nI_leI (by omega) (by omega)]; omega), if_neg bad_ne, Option.bind_some, if_neg bad_ne]
    · refine ⟨fun k hk => up_nin (by decide) hk, fun _ _ => rfl, fun k hk => up_nin (by decide) hk, fun k hk => k3.1 k (fun e => hk (by subst e; decide)), fun j _ => by rw [k3.1 0 (by decide)], fun j _ => by rw [k3.1 1 (by decide)], k3.2.1 3 (by decide)⟩
theorem tb_cop : ∀ k, k < 256 → ∀ j, j < 4 → tb k j = 3 → j ≠ 1 → tb k (j + 2) ≤ 8 := by decide +kernel
theorem tb_k : ∀ k, k < 256 → 1 ≤ tb k 0 ∧ tb k 0 ≤ 3 ∧ tb k 3 ≤ 3 := by decide +kernel
/-- an instruction with its size, both sides -/
theorem perf_exec {dl sl b ss sp ws we e0 e1 e2 mk p0 p1 p2 cp n kd md : Nat} {db : Nat → Nat} {sg : Bool} {sc : Nat → Int32} {ar : Nat → Nat → Int32} {msc : Nat → Int32} {mar : Nat → Nat → Int32} (h : DW dl db sl b ss sp ws we e0 e1 e2 mk p0 p1 p2 cp sg sc ar msc mar) (hn : n < 2 ^ 31) (hk1 : 1 ≤ kd) (hk3 : kd ≤ 3) (hmd : kd = 3 → md ≤ 8) (hmb : md < 256) (gX : Int32 → Option (Int32))
    (gX0 : gX 2 = some (nI md)) :
    ∃ (r : Int32) (sc' : Nat → Int32) (ar' : Nat → Nat → Int32) (msc' : Nat → Int32) (mar' : Nat → Nat → Int32),
      (if nI n < (1 : Int32) then some ((0 : Int32), sc, ar) else (fX6_count 400 (ar 9) (sc 9)).bind fun R9 => if nI n ≤ ((sc 16) - R9) then (some (nI kd) : Option Int32).bind fun R12 => if R12 = (1 : Int32) then (fX2_add sc ar sg (nI n)).bind fun R16 => if b01 R16.1 = true then some (R16.1, R16.2.1, R16.2.2) else none else if R12 = (2 : Int32) then (fX2_run sc ar sg (nI n)).bind fun R19 => if b01 R19.1 = true then some (R19.1, R19.2.1, R19.2.2) else none else (gX 2).bind fun R22 => (fX2_readAddress sc ar sg R22).bind fun R24 => (fX2_copy R24.2 ar sg (nI n) R24.1).bind fun R26 => if b01 R26.1 = true then some (R26.1, R26.2.1, R26.2.2) else none else some ((0 : Int32), sc, ar)) = some (r, sc', ar') ∧
      fX8_perform msc mar (nI kd) (nI n) (nI md) = some (msc', mar') ∧ EF sc sc' ar ar' msc msc' mar mar' ∧ OK9 sc' ∧
      ((r = 1 ∧ ∃ mk' p0' p2' cp', DW dl db sl b ss sp ws we e0 e1 e2 mk' p0' p1 p2' cp' sg sc' ar' msc' mar') ∨ (r = 0 ∧ msc' 3 = 1)) := by
  obtain ⟨hd, hM, hR, hC, hcp, h3⟩ := id h
  have h1 := hd.1
  obtain ⟨⟨a1, a2, a3⟩, ⟨b1, b2, b3⟩, ⟨c1, c2, c3, c4⟩, ⟨d1, d2, d3, d4, d5⟩, hb, w1, w2, w3⟩ := id hM
  have hmade : fX8_made msc mar = some (nI (mk - ws)) := by
    rw [fX8_made, if_pos (by decide), show (4 : Int32).toNatClampNeg = 4 by decide, b2, d4, pk_sub w1]
  have hf1 : EF sc sc ar ar msc (va_up msc 3 1) mar mar := ⟨fun _ _ => rfl, fun _ _ => rfl, fun k hk => up_nin (by decide) hk, fun _ _ => rfl, fun _ _ => rfl, fun _ _ => rfl, rfl⟩
  rw [fX8_perform]
  by_cases hn0 : n = 0
  · subst hn0
    rw [if_pos (show nI 0 < (1 : Int32) by decide), if_pos (show nI 0 = (0 : Int32) from rfl)]
    exact ⟨0, sc, ar, _, _, rfl, rfl, hf1, ⟨mk, by omega, b1⟩, Or.inr ⟨rfl, rfl⟩⟩
  · rw [if_neg (show ¬ nI n < (1 : Int32) by rw [L1, nI_ltI (by omega) (by omega)]; omega), if_neg (show ¬ nI n = (0 : Int32) by rw [L0, nI_eq (by omega) (by omega)]; omega), fX6_count, Option.bind_some, hmade, Option.bind_some, Option.bind_some, b1, c4, d5, pk_sub w2, pk_sub (show mk - ws ≤ we - ws by omega), show we - ws - (mk - ws) = we - mk by omega]
    by_cases hle : n ≤ we - mk
    · have hl : nI n ≤ nI (we - mk) := by rw [nI_leI (by omega) (by omega)]; exact hle
      rw [if_pos hl, if_pos hl]
      rcases (show kd = 1 ∨ kd = 2 ∨ kd = 3 by omega) with e | e | e
      · subst e
        rw [if_pos (show nI 1 = (1 : Int32) from rfl), if_neg (show ¬ nI 1 = (3 : Int32) by decide)]
        obtain ⟨r, sc', ar', msc', mar', x1, x2, x3, x4, x5⟩ := add_exec h (n := n) (by omega) (by omega)
        have x2' : fX8_perform_L91 (nI 1) (nI n) FU 0 0 msc mar = some (msc', mar') := x2
        rw [x1, Option.bind_some, x2', Option.bind_some]
        dsimp only
        refine ⟨r, sc', ar', msc', mar', ?_, rfl, x3, x4, ?_⟩
        · rcases x5 with ⟨rfl, _⟩ | ⟨rfl, _⟩ <;> rw [if_pos (by decide)]
        · rcases x5 with ⟨q, q2⟩ | q
          · exact Or.inl ⟨q, _, _, _, _, q2⟩
          · exact Or.inr q
      · subst e
        rw [if_neg (show ¬ nI 2 = (1 : Int32) by decide), if_pos (show nI 2 = (2 : Int32) from rfl), if_neg (show ¬ nI 2 = (3 : Int32) by decide)]
        obtain ⟨r, sc', ar', msc', mar', x1, x2, x3, x4, x5⟩ := run_exec h (n := n) (by omega) (by omega)
        have x2' : fX8_perform_L91 (nI 2) (nI n) FU 0 0 msc mar = some (msc', mar') := x2
        rw [x1, Option.bind_some, x2', Option.bind_some]
        dsimp only
        refine ⟨r, sc', ar', msc', mar', ?_, rfl, x3, x4, ?_⟩
        · rcases x5 with ⟨rfl, _⟩ | ⟨rfl, _⟩ <;> rw [if_pos (by decide)]
        · rcases x5 with ⟨q, q2⟩ | q
          · exact Or.inl ⟨q, _, _, _, _, q2⟩
          · exact Or.inr q
      · subst e
        rw [if_neg (show ¬ nI 3 = (1 : Int32) by decide), if_neg (show ¬ nI 3 = (2 : Int32) by decide), if_pos (show nI 3 = (3 : Int32) from rfl), gX0, Option.bind_some]
        obtain ⟨r, sc', ar', msc', mar', x1, x2, x3, x4, x5⟩ := copy_exec h (n := n) (m := md) (hmd rfl) (by omega) (by omega)
        refine ⟨r, sc', ar', msc', mar', ?_, x2, x3, x4, ?_⟩
        · rcases hx : fX2_readAddress sc ar sg (nI md) with _ | R24
          · rw [hx, Option.bind_none] at x1; simp at x1
          · rw [hx, Option.bind_some] at x1
            rw [Option.bind_some, x1, Option.bind_some]
            dsimp only
            rcases x5 with ⟨rfl, _⟩ | ⟨rfl, _⟩ <;> rw [if_pos (by decide)]
        · rcases x5 with ⟨q, p2', cp', q2⟩ | q
          · exact Or.inl ⟨q, _, _, _, _, q2⟩
          · exact Or.inr q
    · have hl : ¬ nI n ≤ nI (we - mk) := by rw [nI_leI (by omega) (by omega)]; exact hle
      rw [if_neg hl, if_neg hl]
      exact ⟨0, sc, ar, _, _, rfl, rfl, hf1, ⟨mk, by omega, b1⟩, Or.inr ⟨rfl, rfl⟩⟩
