/-! PURE: decode, both sides together -/
theorem decode_sim {sc : Nat → Int32} {ar : Nat → Nat → Int32} {msc : Nat → Int32} {mar : Nat → Nat → Int32} {sg : Bool} (h : Rel sc ar msc mar) (x : Int32) :
    ∃ (r : Int32) (sc' : Nat → Int32) (ar' : Nat → Nat → Int32) (sg' : Bool) (msc' : Nat → Int32) (mar' : Nat → Nat → Int32), fX7_decode sc ar sg x = some (r, sc', ar', sg') ∧ fX8_decode msc mar x = some (r, msc', mar') ∧ Rel sc' ar' msc' mar' := by
  rw [fX7_decode, fX8_decode]
  by_cases c1 : x < (0 : Int32)
  · rw [if_pos c1, if_pos c1]; exact ⟨_, _, _, _, _, _, rfl, rfl, h⟩
  rw [if_neg c1, if_neg c1]
  by_cases c2 : ¬ x ≤ (400 : Int32)
  · rw [if_neg c2, if_neg c2]; exact ⟨_, _, _, _, _, _, rfl, rfl, h⟩
  have c2 : x ≤ (400 : Int32) := Classical.not_not.mp c2
  rw [if_pos c2, if_pos c2]
  obtain ⟨bd, hbd, rfl⟩ : ∃ w : Nat, w ≤ 400 ∧ x = nI w := nI_of2 (M := 400) (n := 400) (by decide) c1 c2
  obtain ⟨⟨L, hL⟩, hX, hc4, hc768, h29⟩ := id h
  obtain ⟨a0, a1, a2, a3⟩ := hL 0 (by omega)
  obtain ⟨b0, b1, b2, b3⟩ := hL 2 (by omega)
  obtain ⟨m9, hm9, e9⟩ := hX 9 (by omega) (by omega)
  have ml0 : L 0 ≤ 48 := a0
  have ml2 : L 2 ≤ 1000 := b0
  obtain ⟨dl, hdl⟩ : ∃ d, L 2 = d := ⟨_, rfl⟩
  obtain ⟨sl, hsl⟩ : ∃ d, L 0 = d := ⟨_, rfl⟩
  rw [hdl] at b1 b2 b3 ml2
  rw [hsl] at a1 a2 a3 ml0
  have z2 : (2 : Int32).toNatClampNeg = 2 := by decide
  have z3 : (3 : Int32).toNatClampNeg = 3 := by decide
  have z4 : (4 : Int32).toNatClampNeg = 4 := by decide
  have i34 : inb (3 : Int32) 4 = true := by decide
  have i25 : inb (2 : Int32) 5 = true := by decide
  have i35 : inb (3 : Int32) 5 = true := by decide
  have i45 : inb (4 : Int32) 5 = true := by decide
  -- the starting states
  let s0 : Nat → Int32 := va_up (va_up (va_up (va_up (va_up sc 9 (nI 0)) 18 (nI 0)) 12 (nI 0)) 21 (nI 0)) 22 (nI dl)
  let A0 : Nat → Nat → Int32 := va_up (va_up ar 12 (zf (ar 12) 4)) 13 (zf (ar 13) 768)
  let m0 : Nat → Int32 := va_up (va_up msc 3 0) 1 (nI 0)
  let B0 : Nat → Nat → Int32 := va_up (va_up (va_up mar 10 (upd (mar 10) 3 (nI 0))) 11 (upd (mar 11) 3 (nI dl))) 1 (upd (mar 1) 4 (nI 0))
  let r0 : Nat → Nat → Int32 := va_up (va_up B0 2 (zf (mar 2) 4)) 3 (zf (mar 3) 768)
  have hr0 : r0 10 3 = nI 0 := by show upd (mar 10) 3 (nI 0) 3 = _; rw [upd_s]
  have hr11 : r0 11 3 = nI dl := by show upd (mar 11) 3 (nI dl) 3 = _; rw [upd_s]
  have hDLT : DLT dl (fun i => (ar 2 i).toNatClampNeg) (ar 2) (mar 0) := by
    refine ⟨ml2, fun i hi => ?_⟩
    obtain ⟨k1, b, k2, k3⟩ := b3 i hi
    have e : (ar 2 i).toNatClampNeg = b := by rw [k3, nI_clamp (by omega)]
    refine ⟨by dsimp only; rw [e, k3], by dsimp only; rw [e, ← k3]; exact k1.symm, by dsimp only; rw [e]; exact k2⟩
  have hDF0 : ∀ P : Int32, DF sc (va_up s0 21 P) ar A0 msc m0 mar (pl r0 P) := fun P => by
    refine ⟨fun k hk => ?_, fun k hk => ?_, fun k hk => ?_, fun k hk => ?_, fun j hj => rfl, fun j hj => ?_⟩
    · rw [up_nin (by decide) hk]; show (va_up (va_up (va_up (va_up (va_up sc 9 (nI 0)) 18 (nI 0)) 12 (nI 0)) 21 (nI 0)) 22 (nI dl)) k = _
      rw [up_nin (by decide) hk, up_nin (by decide) hk, up_nin (by decide) hk, up_nin (by decide) hk, up_nin (by decide) hk]
    · show (va_up (va_up ar 12 (zf (ar 12) 4)) 13 (zf (ar 13) 768)) k = _; rw [up_nin (by decide) hk, up_nin (by decide) hk]
    · show (va_up (va_up msc 3 0) 1 (nI 0)) k = _; rw [up_nin (by decide) hk, up_nin (by decide) hk]
    · rw [pl_n (fun e => hk (by subst e; decide))]
      show (va_up (va_up (va_up (va_up (va_up mar 10 (upd (mar 10) 3 (nI 0))) 11 (upd (mar 11) 3 (nI dl))) 1 (upd (mar 1) 4 (nI 0))) 2 (zf (mar 2) 4)) 3 (zf (mar 3) 768)) k = _
      rw [up_nin (by decide) hk, up_nin (by decide) hk, up_nin (by decide) hk, up_nin (by decide) hk, up_nin (by decide) hk]
    · show upd (mar 1) 4 (nI 0) j = _; rw [upd_n hj]
  have hopen : fX5_open 1000 (sc 21) (sc 22) (ar 2) (nI dl) (0 : Int32) (1000 : Int32) = some (nI 0, nI dl) := x_open_all (fr := 0) (by omega) ml2
  have hpl0 : pl r0 (nI 0) = r0 := pl_id hr0
  have hs0 : va_up s0 21 (nI 0) = s0 := up_id rfl
  have hdlt0 : DLT dl (fun i => (ar 2 i).toNatClampNeg) (A0 2) (r0 0) := hDLT
  have h9 := head5 (x := nI bd) (y := 0) (sg := sg) (sc := s0) (ar := A0) (msc := m0) (mar := r0) hdlt0 hr11 rfl rfl 5 0 FU FU (by omega) (by rw [FUv]; omega) (by rw [FUv]; omega) (by omega)
  rw [hs0, hpl0] at h9
  have hfor : fX8_forget (va_up msc 3 0) B0 = some (m0, r0) := m_forget
  have hXd : fX2_readDelta sc ar sg (nI bd) = ((fX2_readHead_L9 A0 sg (Int32.ofNat 5) FU (nI 0) s0).bind fun R6o => Sum.elim (fun R6 => some ((1 : Int32), R6)) (fun r => some r) R6o).bind fun R7 => if R7.1 = 0 then some ((-2 : Int32), R7.2, A0, sg) else (fX2_readDelta_L43 (nI bd) FU (nI 0) R7.2 A0 sg).bind fun R20o => Sum.elim (fun R20 => (fX6_count 400 (R20.2.1 9) (R20.1 9)).bind fun R22 => some (R22, R20.1, R20.2.1, R20.2.2)) (fun r => some r) R20o := by
    rw [fX2_readDelta, e9, row_keep0 (by omega), Option.bind_some, x_clear, Option.bind_some, b1, hopen, Option.bind_some]
    rfl
  have hOK0 : ∀ P : Int32, OK9 (va_up s0 21 P) := fun P => ⟨0, by omega, rfl⟩
  rw [if_pos i34, if_pos i25, if_pos i34, if_pos i45, z2, z3, z4, b2]
  rw [show fX8_forget (va_up msc 3 (0 : Int32)) (va_up (va_up (va_up mar 10 (upd (mar 10) 3 (0 : Int32))) 11 (upd (mar 11) 3 (nI dl))) 1 (upd (mar 1) 4 (0 : Int32))) = some (m0, r0) from hfor, Option.bind_some]
  dsimp only
  rcases h9 with ⟨q1, q2, q3⟩ | ⟨P, Q, q2, q3⟩
  · have q3' : fX8_decode_L52 (nI bd) 0 FU 0 m0 r0 = some (m0, pl r0 (nI 5)) := q3
    rw [q3', Option.bind_some]
    dsimp only
    rw [if_pos (show m0 3 = 0 from rfl), Option.bind_some]
    have hBW : BW dl (fun i => (ar 2 i).toNatClampNeg) sl 0 5 bd (va_up s0 21 (nI 5)) A0 m0 (pl r0 (nI 5)) := by
      refine ⟨hDLT, ⟨a1, ml0, a3, ?_⟩, ⟨rfl, ?_, fun j hj => by omega, by omega, hbd⟩, ⟨rfl, rfl, pl_10 _ _, hr11, q1⟩, b1, rfl⟩
      · show upd (mar 1) 4 (nI 0) 0 = _; rw [upd_n (by decide)]; exact a2
      · show upd (mar 1) 4 (nI 0) 4 = _; rw [upd_s]
    have hCQ : CQ A0 (pl r0 (nI 5)) := ⟨fun i hi => by show zf (ar 12) 4 i = zf (mar 2) 4 i; rw [zf_in hi, zf_in hi], fun i hi => by show zf (ar 13) 768 i = zf (mar 3) 768 i; rw [zf_in hi, zf_in hi]⟩
    obtain ⟨sc', ar', sg', msc', mar', v', f1, f2, f3⟩ := delta_loop (dl - 5) 0 5 0 FU FU _ _ sg _ _ hBW hCQ rfl (by omega) (by omega) (by rw [FUv]; omega) (by rw [FUv]; omega)
    have hDF := (hDF0 (nI 5)).trans f1
    rw [hXd, q2, Option.bind_some]
    rw [show (Sum.elim (fun R6 => some ((1 : Int32), R6)) (fun r => some r) (Sum.inl (va_up s0 21 (nI 5))) : Option (Int32 × (Nat → Int32))) = some (1, va_up s0 21 (nI 5)) from rfl, Option.bind_some, if_neg (show ¬ (1 : Int32) = 0 by decide)]
    dsimp only
    rcases f3 with ⟨mm, g1, g2, g3, g4, g5⟩ | ⟨e, he, g1, g2⟩
    · have g2' : fX8_decode_L109 (nI bd) FU 0 0 m0 (pl r0 (nI 5)) = some (v', 0, msc', mar') := g2
      obtain ⟨hd4, ⟨u1, u2, u3, u4⟩, ⟨w1, w2, w3, w4, w5⟩, _, _, _⟩ := g4
      rw [g1, Option.bind_some, g2', Option.bind_some]
      dsimp only
      rw [if_pos (show (0 : Int32) ≤ 0 by decide), m_out (by omega) w2, Option.bind_some, if_pos i45, if_pos i35]
      rw [show (Sum.elim (fun R20 => (fX6_count 400 (R20.2.1 9) (R20.1 9)).bind fun R22 => some (R22, R20.1, R20.2.1, R20.2.2)) (fun r => some r) (Sum.inl (sc', ar', sg')) : Option (Int32 × (Nat → Int32) × (Nat → Nat → Int32) × Bool)) = some (sc' 9, sc', ar', sg') from rfl, Option.bind_some, w1]
      dsimp only
      rw [if_neg (nI_pos (by omega)), w1, row_become (by omega) (by omega) (by omega) (by omega), Option.bind_some, fX0_become, Option.bind_some]
      dsimp only
      have hsh := m_show (msc := va_up msc' 0 v') (mar := va_up (va_up mar' 0 (apd (mar' 0) 3000 mm fun j => mar' 0 (4000 + j))) 1 (upd (mar' 1) 3 (nI mm))) (s := 1) (by omega)
      have hsh' : fX8_show (va_up msc' 0 v') (va_up (va_up mar' 0 (apd (mar' 0) 3000 mm fun j => mar' 0 (4000 + j))) 1 (upd (mar' 1) 3 (nI mm))) (1 : Int32) = some (va_up (va_up (va_up mar' 0 (apd (mar' 0) 3000 mm fun j => mar' 0 (4000 + j))) 1 (upd (mar' 1) 3 (nI mm))) 4 (apd (mar' 4) 772 772 (shF mar'))) := hsh
      rw [show (va_up mar' 0 (apd (mar' 0) 3000 mm fun j => mar' 0 (4000 + j))) 1 = mar' 1 from rfl, w2, hsh', Option.bind_some, if_pos i35]
      refine ⟨nI mm, _, _, _, va_up msc' 0 v', va_up (va_up (va_up mar' 0 (apd (mar' 0) 3000 mm fun j => mar' 0 (4000 + j))) 1 (upd (mar' 1) 3 (nI mm))) 4 (apd (mar' 4) 772 772 (shF mar')), rfl, ?_, ?_⟩
      · show some (upd (mar' 1) 3 (nI mm) 3, _, _) = _; rw [upd_s]
      · obtain ⟨k1, k2, k3, k4, k5, k6⟩ := hDF
        refine ⟨⟨va_up L 3 mm, fun k hk => ?_⟩, fun k k4' k10 => ?_, fun i hi => ?_, fun i hi => ?_, ?_⟩
        · rcases (show k = 3 ∨ k < 3 by omega) with rfl | hk3
          · refine ⟨Nat.le_trans w4 hbd, rfl, by show upd (mar' 1) 3 (nI mm) 3 = _; rw [upd_s]; rfl, fun j hj => ?_⟩
            have hj : j < mm := hj
            obtain ⟨y1, y2⟩ := w3 j hj
            show apd (ar' 3) 0 mm (ar' 9) j = apd (mar' 0) 3000 mm (fun j => mar' 0 (4000 + j)) (3000 + j) ∧ isb (apd (ar' 3) 0 mm (ar' 9) j)
            have e1 : apd (ar' 3) 0 mm (ar' 9) j = ar' 9 j := by
              have := apd_in (f := ar' 3) (g := ar' 9) (c := 0) hj
              rw [Nat.zero_add] at this; exact this
            rw [e1, apd_in hj]; exact ⟨y1, y2⟩
          · obtain ⟨l0, l1, l2, l3⟩ := hL k hk
            have hml : L k ≤ 1000 := by
              refine Nat.le_trans l0 ?_
              unfold mst; split
              · omega
              · split
                · omega
                · split <;> omega
            have n1 : k ∉ [9, 12, 13, 14, 15, 16, 18, 21, 22, 23, 24, 25, 26, 27, 28] := by intro q; simp only [List.mem_cons, List.not_mem_nil, or_false] at q; omega
            have n2 : k ∉ [9, 12, 13] := by intro q; simp only [List.mem_cons, List.not_mem_nil, or_false] at q; omega
            have n3 : k ∉ [3, 9, 18, 19, 29] := by intro q; simp only [List.mem_cons, List.not_mem_nil, or_false] at q; omega
            have n4 : k ∉ [3, 14, 15] := by intro q; simp only [List.mem_cons, List.not_mem_nil, or_false] at q; omega
            have eL : va_up L 3 mm k = L k := by rw [up_ap, if_neg (by omega)]
            rw [eL]
            refine ⟨l0, ?_, ?_, ?_⟩
            · rw [up_nin (by decide) n3, up_nin (by decide) n3, up_nin (by decide) n3, up_nin (by decide) n3, up_nin (by decide) n3, k1 k n1]; exact l1
            · show upd (mar' 1) 3 (nI mm) k = _; rw [upd_n (by omega), k6 k (by omega)]; exact l2
            · rw [up_nin (by decide) n4, up_nin (by decide) n4, up_nin (by decide) n4, k2 k n2]
              refine SR_eq l3 (fun _ _ => rfl) (fun j hj => ?_)
              show apd (mar' 0) 3000 mm (fun j => mar' 0 (4000 + j)) _ = _
              have : 1000 * k + j < 3000 := by
                have l0' := l0
                rcases (show k = 0 ∨ k = 1 ∨ k = 2 by omega) with rfl | rfl | rfl
                · have : L 0 ≤ 48 := l0; omega
                · have : L 1 ≤ 64 := l0; omega
                · have : L 2 ≤ 1000 := l0; omega
              rw [apd_lo this, k5 _ (by omega)]
        · by_cases e : k = 9
          · subst e; exact ⟨mm, by omega, rfl⟩
          · have n1 : k ∉ [9, 12, 13, 14, 15, 16, 18, 21, 22, 23, 24, 25, 26, 27, 28] := by intro q; simp only [List.mem_cons, List.not_mem_nil, or_false] at q; omega
            have n3 : k ∉ [3, 9, 18, 19, 29] := by intro q; simp only [List.mem_cons, List.not_mem_nil, or_false] at q; omega
            rw [up_nin (by decide) n3, up_nin (by decide) n3, up_nin (by decide) n3, up_nin (by decide) n3, up_nin (by decide) n3, k1 k n1]; exact hX k k4' k10
        · refine ⟨?_, ?_⟩
          · show ar' 10 i = apd (mar' 4) 772 772 (shF mar') i
            rw [apd_lo (by omega), k2 10 (by decide), k4 4 (by decide)]; exact (hc4 i hi).1
          · show va_cpy (ar' 12) (ar' 14) (0 : Int32).toNatClampNeg (0 : Int32).toNatClampNeg (4 : Int32).toNatClampNeg i = apd (mar' 4) 772 772 (shF mar') (772 + i)
            rw [apd_in (by omega)]; unfold shF; rw [if_pos hi, ← g5.1 i hi]
            show va_cpy (ar' 12) (ar' 14) 0 0 4 i = _
            simp only [va_cpy]; simp [hi]
        · refine ⟨?_, ?_⟩
          · show ar' 11 i = apd (mar' 4) 772 772 (shF mar') (4 + i)
            rw [apd_lo (by omega), k2 11 (by decide), k4 4 (by decide)]; exact (hc768 i hi).1
          · show va_cpy (ar' 13) (ar' 15) (0 : Int32).toNatClampNeg (0 : Int32).toNatClampNeg (768 : Int32).toNatClampNeg i = apd (mar' 4) 772 772 (shF mar') (776 + i)
            rw [show 776 + i = 772 + (4 + i) by omega, apd_in (by omega)]; unfold shF; rw [if_neg (by omega), show 4 + i - 4 = i by omega, ← g5.2 i hi]
            show va_cpy (ar' 13) (ar' 15) 0 0 768 i = _
            simp only [va_cpy]; simp [hi]
        · exact g3
    · have g2' : fX8_decode_L109 (nI bd) FU 0 0 m0 (pl r0 (nI 5)) = some (v', e, msc', mar') := g2
      rw [g1, Option.bind_some, g2', Option.bind_some]
      dsimp only
      rw [if_neg (show ¬ (0 : Int32) ≤ e by rcases he with rfl | rfl <;> decide)]
      rw [Sum.elim_inr, Option.bind_some]
      dsimp only
      rw [if_pos (show e < 0 by rcases he with rfl | rfl <;> decide)]
      exact ⟨e, sc', ar', sg', msc', mar', rfl, rfl, Rel_DF h hDF f2⟩
  · have q3' : fX8_decode_L52 (nI bd) 0 FU 0 m0 r0 = some (va_up m0 3 1, pl r0 Q) := q3
    rw [q3', Option.bind_some]
    dsimp only
    rw [if_neg bad_ne, Option.bind_some, hXd, q2, Option.bind_some]
    rw [show (Sum.elim (fun R6 => some ((1 : Int32), R6)) (fun r => some r) (Sum.inr (0, va_up s0 21 P)) : Option (Int32 × (Nat → Int32))) = some (0, va_up s0 21 P) from rfl, Option.bind_some, if_pos rfl, Option.bind_some]
    dsimp only
    rw [if_pos (show (-2 : Int32) < 0 by decide), show FU = 5999 + 1 from rfl, fX8_decode_L109, if_neg (by decide), Option.bind_some]
    dsimp only
    rw [if_neg (show ¬ (0 : Int32) ≤ -2 by decide)]
    refine ⟨-2, _, _, _, _, _, rfl, rfl, Rel_DF h ?_ (hOK0 P)⟩
    obtain ⟨k1, k2, k3, k4, k5, k6⟩ := hDF0 P
    obtain ⟨_, _, _, j4, j5, j6⟩ := hDF0 Q
    exact ⟨k1, k2, fun k hk => by rw [up_nin (by decide) hk]; exact k3 k hk, j4, j5, j6⟩
