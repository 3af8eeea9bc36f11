/-! PURE: a window made, and the windows of a delta -/
theorem make_sim {dl sl b ss sp ws we e0 e1 e2 mm p0 p1 p2 cp : Nat} {db : Nat → Nat} {sg : Bool} {sc : Nat → Int32} {ar : Nat → Nat → Int32} {msc : Nat → Int32} {mar : Nat → Nat → Int32} (h : DW dl db sl b ss sp ws we e0 e1 e2 mm p0 p1 p2 cp sg (va_up sc 18 (nI 0)) (va_up (va_up ar 12 (zf (ar 12) 4)) 13 (zf (ar 13) 768)) msc mar) :
    ∃ (r : Int32) (sc' : Nat → Int32) (ar' : Nat → Nat → Int32) (msc' : Nat → Int32) (mar' : Nat → Nat → Int32), fX2_makeWindow sc ar sg = some (r, sc', ar') ∧ fX8_performAll msc mar = some (msc', mar') ∧ EF (va_up sc 18 (nI 0)) sc' (va_up (va_up ar 12 (zf (ar 12) 4)) 13 (zf (ar 13) 768)) ar' msc msc' mar mar' ∧ OK9 sc' ∧
      ((r = 1 ∧ ∃ p0' p2' cp', DW dl db sl b ss sp ws we e0 e1 e2 we p0' e1 p2' cp' sg sc' ar' msc' mar') ∨ (r = 0 ∧ msc' 3 = 1)) := by
  have hdl := h.1.1
  have he1 := h.2.2.1.2.1.2.2.2.2.2
  obtain ⟨sc', ar', msc', mar', x1, x2, x3, x4⟩ := win_loop (e1 - p1) 0 mm p0 p1 p2 cp FU FU _ _ _ _ h (by omega) (by omega) (by rw [FUv]; omega) (by rw [FUv]; omega)
  have i0 : inb (0 : Int32) 4 = true := by decide
  have i2 : inb (2 : Int32) 4 = true := by decide
  have z0 : (0 : Int32).toNatClampNeg = 0 := by decide
  have z2 : (2 : Int32).toNatClampNeg = 2 := by decide
  rcases x4 with ⟨y1, mm', p0', p2', cp', hD⟩ | ⟨y1, y2⟩
  · have y1' : fX2_makeWindow_L9 sg FU 0 (va_up sc 18 (nI 0)) (va_up (va_up ar 12 (zf (ar 12) 4)) 13 (zf (ar 13) 768)) = some (Sum.inl (sc', ar')) := y1
    obtain ⟨hd, hM, ⟨⟨r1, r2, r3, r4, r5, r6⟩, hR1, ⟨t1, t2, t3, t4, t5, t6⟩⟩, hC, hcp, h3⟩ := id hD
    obtain ⟨⟨a1, a2, a3⟩, ⟨b1, b2, b3⟩, ⟨c1, c2, c3, c4⟩, ⟨d1, d2, d3, d4, d5⟩, hb, w1, w2, w3⟩ := id hM
    have hmade : fX8_made msc' mar' = some (nI (mm' - ws)) := by
      rw [fX8_made, if_pos (by decide), show (4 : Int32).toNatClampNeg = 4 by decide, b2, d4, pk_sub w1]
    have hEF : EF (va_up sc 18 (nI 0)) sc' (va_up (va_up ar 12 (zf (ar 12) 4)) 13 (zf (ar 13) 768)) ar' msc (va_up msc' 3 1) mar mar' := ⟨x2.1, x2.2.1, fun k hk => by rw [up_nin (by decide) hk]; exact x2.2.2.1 k hk, x2.2.2.2⟩
    have hXm : fX2_makeWindow sc ar sg = (if nI mm' = nI we then (if nI (e0 - p0') = 0 then (if nI (e2 - p2') = 0 then some ((1 : Int32), sc', ar') else some ((0 : Int32), sc', ar')) else some ((0 : Int32), sc', ar')) else some ((0 : Int32), sc', ar')) := by
      rw [fX2_makeWindow, x_clear, Option.bind_some]
      dsimp only
      rw [y1', Option.bind_some]
      show ((fX6_count 400 (ar' 9) (sc' 9)).bind fun R20 => if R20 = sc' 16 then (fX5_left 1000 (sc' 23) (sc' 24) (ar' 2) (sc' 2)).bind fun R23 => if R23 = 0 then (fX5_left 1000 (sc' 27) (sc' 28) (ar' 2) (sc' 2)).bind fun R26 => if R26 = 0 then some ((1 : Int32), sc', ar') else some ((0 : Int32), sc', ar') else some ((0 : Int32), sc', ar') else some ((0 : Int32), sc', ar')) = _
      rw [fX6_count, Option.bind_some, b1, c4, fX5_left, Option.bind_some, r1, r2, fX5_left, Option.bind_some, t1, t2, pk_sub r5, pk_sub t5]
    have hMm : fX8_performAll msc mar = (if nI (mm' - ws) = nI (we - ws) then (if nI p0' = nI e0 then (if nI p2' = nI e2 then some (va_up msc' 3 0, mar') else some (va_up msc' 3 1, mar')) else some (va_up msc' 3 1, mar')) else some (va_up msc' 3 1, mar')) := by
      rw [fX8_performAll, x1, Option.bind_some, if_pos h3]
      show ((fX8_made msc' mar').bind fun R30 => if R30 = msc' 8 then (if inb (0 : Int32) 4 = true then if inb (0 : Int32) 4 = true then if mar' 10 (0 : Int32).toNatClampNeg = mar' 11 (0 : Int32).toNatClampNeg then (if inb (2 : Int32) 4 = true then if inb (2 : Int32) 4 = true then if mar' 10 (2 : Int32).toNatClampNeg = mar' 11 (2 : Int32).toNatClampNeg then some (va_up msc' 3 0, mar') else some (va_up msc' 3 1, mar') else none else none) else some (va_up msc' 3 1, mar') else none else none) else some (va_up msc' 3 1, mar')) = _
      rw [hmade, Option.bind_some, d5, z0, z2, r3, r4, t3, t4, if_pos i0, if_pos i0, if_pos i2, if_pos i2]
    rw [hXm, hMm]
    by_cases q1 : mm' = we
    · subst q1
      rw [if_pos rfl, if_pos (show nI (mm' - ws) = nI (mm' - ws) from rfl)]
      by_cases q2 : p0' = e0
      · rw [if_pos (show nI (e0 - p0') = 0 by rw [q2, Nat.sub_self]; rfl), if_pos (show nI p0' = nI e0 by rw [q2])]
        by_cases q3 : p2' = e2
        · rw [if_pos (show nI (e2 - p2') = 0 by rw [q3, Nat.sub_self]; rfl), if_pos (show nI p2' = nI e2 by rw [q3]), up_id h3]
          exact ⟨1, sc', ar', msc', mar', rfl, rfl, x2, x3, Or.inl ⟨rfl, _, _, _, hD⟩⟩
        · rw [if_neg (show ¬ nI (e2 - p2') = 0 by rw [L0, nI_eq (by omega) (by omega)]; omega), if_neg (show ¬ nI p2' = nI e2 by rw [nI_eq (by omega) (by omega)]; exact q3)]
          exact ⟨0, sc', ar', _, mar', rfl, rfl, hEF, x3, Or.inr ⟨rfl, rfl⟩⟩
      · rw [if_neg (show ¬ nI (e0 - p0') = 0 by rw [L0, nI_eq (by omega) (by omega)]; omega), if_neg (show ¬ nI p0' = nI e0 by rw [nI_eq (by omega) (by omega)]; exact q2)]
        exact ⟨0, sc', ar', _, mar', rfl, rfl, hEF, x3, Or.inr ⟨rfl, rfl⟩⟩
    · rw [if_neg (show ¬ nI mm' = nI we by rw [nI_eq (by omega) (by omega)]; exact q1), if_neg (show ¬ nI (mm' - ws) = nI (we - ws) by rw [nI_eq (by omega) (by omega)]; omega)]
      exact ⟨0, sc', ar', _, mar', rfl, rfl, hEF, x3, Or.inr ⟨rfl, rfl⟩⟩
  · have y1' : fX2_makeWindow_L9 sg FU 0 (va_up sc 18 (nI 0)) (va_up (va_up ar 12 (zf (ar 12) 4)) 13 (zf (ar 13) 768)) = some (Sum.inr (0, sc', ar')) := y1
    rw [fX2_makeWindow, x_clear, Option.bind_some, fX8_performAll, x1, Option.bind_some]
    dsimp only
    rw [y1', Option.bind_some, if_neg (show ¬ msc' 3 = 0 by rw [y2]; decide), up_id y2]
    exact ⟨0, sc', ar', msc', mar', rfl, rfl, x2, x3, Or.inr ⟨rfl, y2⟩⟩
/-- the decoder's caches, both sides -/
def CQ (ar mar : Nat → Nat → Int32) : Prop := (∀ i, i < 4 → ar 12 i = mar 2 i) ∧ (∀ i, i < 768 → ar 13 i = mar 3 i)
/-- all windows of a delta, both sides -/
theorem delta_loop {dl sl bd : Nat} {db : Nat → Nat} : ∀ (r v p mm kx km : Nat) (sc : Nat → Int32) (ar : Nat → Nat → Int32) (sg : Bool) (msc : Nat → Int32) (mar : Nat → Nat → Int32), BW dl db sl mm p bd sc ar msc mar → CQ ar mar → sc 12 = nI v → dl - p ≤ r → v + (dl - p) ≤ 1000 → r < kx → r + 1 < km →
    ∃ (sc' : Nat → Int32) (ar' : Nat → Nat → Int32) (sg' : Bool) (msc' : Nat → Int32) (mar' : Nat → Nat → Int32) (v' : Int32), DF sc sc' ar ar' msc msc' mar mar' ∧ OK9 sc' ∧
      ((∃ mm', fX2_readDelta_L43 (nI bd) kx (nI v) sc ar sg = some (Sum.inl (sc', ar', sg')) ∧ fX8_decode_L109 (nI bd) km (nI v) 0 msc mar = some (v', 0, msc', mar') ∧ sc' 12 = v' ∧ BW dl db sl mm' dl bd sc' ar' msc' mar' ∧ CQ ar' mar') ∨
       (∃ e : Int32, (e = -2 ∨ e = -3) ∧ fX2_readDelta_L43 (nI bd) kx (nI v) sc ar sg = some (Sum.inr (e, sc', ar', sg')) ∧ fX8_decode_L109 (nI bd) km (nI v) 0 msc mar = some (v', e, msc', mar'))) := by
  intro r
  induction r using Nat.strongRecOn with
  | ind r ih =>
    intro v p mm kx km sc ar sg msc mar h hQ h12 hr hv hkx hkm
    obtain ⟨kx, rfl⟩ : ∃ q, kx = q + 1 := ⟨kx - 1, by omega⟩
    obtain ⟨km, rfl⟩ : ∃ q, km = q + 1 := ⟨km - 1, by omega⟩
    obtain ⟨hd, ⟨a1, a2, a3, a4⟩, ⟨b1, b2, b3, b4, b5⟩, ⟨c1, c2, c3, c4, c5⟩, d1, h3⟩ := id h
    have h1 := hd.1
    have i3 : inb (3 : Int32) 4 = true := by decide
    have z3 : (3 : Int32).toNatClampNeg = 3 := by decide
    rw [fX2_readDelta_L43, fX8_decode_L109, if_pos (show (0 : Int32) = 0 from rfl), if_pos i3, z3, c3, c4, fX5_left, Option.bind_some, c1, c2, pk_sub c5]
    by_cases hend : dl ≤ p
    · have ee : p = dl := by omega
      subst ee
      rw [if_pos (show nI p ≤ nI p by rw [nI_leI (by omega) (by omega)]; omega), if_pos (show nI (p - p) ≤ (0 : Int32) by rw [L0, nI_leI (by omega) (by omega)]; omega)]
      refine ⟨sc, ar, sg, msc, mar, nI v, DF.rf, ⟨mm, by omega, b1⟩, Or.inl ⟨mm, ?_, by rw [if_pos i3], h12, h, hQ⟩⟩
      split <;> rfl
    · rw [if_neg (show ¬ nI dl ≤ nI p by rw [nI_leI (by omega) (by omega)]; omega), if_neg (show ¬ (1000 : Int32) ≤ nI v by rw [L1000, nI_leI (by omega) (by omega)]; omega), if_neg (show ¬ nI (dl - p) ≤ (0 : Int32) by rw [L0, nI_leI (by omega) (by omega)]; omega), nI_1, if_pos i3]
      have mstop : ∀ (e : Int32) (m' : Nat → Int32) (r' : Nat → Nat → Int32), (e = -2 ∨ e = -3) → fX8_decode_L109 (nI bd) km (nI (v + 1)) e m' r' = some (nI (v + 1), e, m', r') := by
        intro e m' r' he
        obtain ⟨km, rfl⟩ : ∃ q, km = q + 1 := ⟨km - 1, by omega⟩
        rw [fX8_decode_L109, if_neg (by rcases he with rfl | rfl <;> decide)]
      rcases head_sim (sg := sg) h (show p < dl by omega) with ⟨e, s1, sg1, m1, r1, x1, x2, x3, x4, x5⟩ | ⟨s1, sg1, m1, r1, b, ss, sp, we, e0, e1, e2, q0, q1, q2, q, x1, x2, x3, x4, x5, x6, x7, x8, x9, x10, x11, x12⟩
      · rw [x1, Option.bind_some, x3, Option.bind_some]
        dsimp only
        rw [if_neg (show ¬ e = 0 by rcases x2 with rfl | rfl <;> decide), mstop e m1 r1 x2]
        exact ⟨s1, ar, sg1, m1, r1, nI (v + 1), x4, ⟨mm, by omega, by rw [x5]; exact b1⟩, Or.inr ⟨e, x2, rfl, rfl⟩⟩
      · obtain ⟨rr, s2, a2', m2, r2, y1, y2, y3, y4, y5⟩ := make_sim x12
        have hDF : DF s1 s2 ar a2' m1 m2 r1 r2 := by
          obtain ⟨f1, f2, f3, f4, f5, f6, f7⟩ := y3
          refine ⟨fun k hk => ?_, fun k hk => ?_, fun k hk => f3 k (nin_sub (by decide) hk), fun k hk => f4 k (nin_sub (by decide) hk), f5, f6⟩
          · rw [f1 k (nin_sub (by decide) hk), up_nin (by decide) hk]
          · rw [f2 k hk, up_nin (by decide) hk, up_nin (by decide) hk]
        rw [x1, Option.bind_some, if_pos rfl]
        dsimp only
        rw [y1, Option.bind_some, x2, y2, Option.bind_some]
        dsimp only
        rcases y5 with ⟨e, p0', p2', cp', hD⟩ | ⟨e, hbad⟩
        · subst e
          obtain ⟨hd2, hM2, hR2, hC2, hcp2, h32⟩ := id hD
          rw [if_neg (show ¬ (1 : Int32) = 0 by decide), if_pos h32, Option.bind_some]
          dsimp only
          have g12 : s2 12 = nI v := by rw [y3.1 12 (by decide)]; show s1 12 = _; rw [x8]; exact h12
          rw [g12, nI_1]
          have hBW : BW dl db sl we q bd (va_up s2 12 (nI (v + 1))) a2' m2 r2 := by
            refine ⟨hd2, ⟨hM2.1.1, a2, hM2.1.2.2, ?_⟩, ⟨hM2.2.1.1, hM2.2.1.2.1, hM2.2.1.2.2, x11, b5⟩, ⟨?_, ?_, ?_, ?_, x5⟩, ?_, h32⟩
            · rw [y3.2.2.2.2.2.1 0 (by decide), x3.2.2.2.2.2 0 (by decide)]; exact a4
            · show s2 21 = _; rw [y3.1 21 (by decide)]; exact x6
            · show s2 22 = _; rw [y3.1 22 (by decide)]; exact x7
            · rw [y3.2.2.2.2.2.2]; exact x9
            · rw [y3.2.2.2.1 11 (by decide)]; exact x10
            · show s2 2 = _; rw [hDF.1 2 (by decide), x3.1 2 (by decide)]; exact d1
          have hCQ : CQ a2' r2 := ⟨hC2.1, hC2.2.1⟩
          obtain ⟨sc', ar', sg', msc', mar', v', i1, i2, i3⟩ := ih (r - 1) (by omega) (v + 1) q we kx km (va_up s2 12 (nI (v + 1))) a2' sg1 m2 r2 hBW hCQ rfl (by omega) (by omega) (by omega) (by omega)
          refine ⟨sc', ar', sg', msc', mar', v', (x3.trans hDF).trans ?_, i2, i3⟩
          exact ⟨fun k hk => by rw [i1.1 k hk, up_nin (by decide) hk], i1.2⟩
        · subst e
          rw [if_pos rfl, if_neg (show ¬ m2 3 = 0 by rw [hbad]; decide), Option.bind_some]
          dsimp only
          rw [mstop (-2) m2 r2 (Or.inl rfl)]
          exact ⟨s2, a2', sg1, m2, r2, nI (v + 1), x3.trans hDF, y4, Or.inr ⟨-2, Or.inl rfl, rfl, rfl⟩⟩
