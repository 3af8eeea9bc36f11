/-! PURE: a delta read, both sides -/
theorem head_sim {dl sl mm p bd : Nat} {db : Nat → Nat} {sg : Bool} {sc : Nat → Int32} {ar : Nat → Nat → Int32} {msc : Nat → Int32} {mar : Nat → Nat → Int32} (h : BW dl db sl mm p bd sc ar msc mar) (hp : p < dl) :
    (∃ (r : Int32) (sc' : Nat → Int32) (sg' : Bool) (msc' : Nat → Int32) (mar' : Nat → Nat → Int32), fX2_readWindowHead sc ar sg (nI bd) = some (r, sc', sg') ∧ (r = -2 ∨ r = -3) ∧ fX8_readWindow msc mar (nI bd) = some (r, msc', mar') ∧ DF sc sc' ar ar msc msc' mar mar' ∧ sc' 9 = sc 9) ∨
    (∃ (sc' : Nat → Int32) (sg' : Bool) (msc1 : Nat → Int32) (mar1 : Nat → Nat → Int32) (b ss sp we e0 e1 e2 q0 q1 q2 q : Nat), fX2_readWindowHead sc ar sg (nI bd) = some (0, sc', sg') ∧ fX8_readWindow msc mar (nI bd) = ((fX8_performAll msc1 mar1).bind fun R38 => if (R38.1 3) = 0 then some ((0 : Int32), R38.1, R38.2) else some ((-2 : Int32), R38.1, R38.2)) ∧ DF sc sc' ar ar msc msc1 mar mar1 ∧ p < q ∧ q ≤ dl ∧ sc' 21 = nI q ∧ sc' 22 = nI dl ∧ sc' 12 = sc 12 ∧ mar1 10 3 = nI q ∧ mar1 11 3 = nI dl ∧ we ≤ bd ∧ DW dl db sl b ss sp mm we e0 e1 e2 mm q0 q1 q2 0 sg' (va_up sc' 18 (nI 0)) (va_up (va_up ar 12 (zf (ar 12) 4)) 13 (zf (ar 13) 768)) msc1 mar1) := by
  obtain ⟨hd, ⟨a1, a2, a3, a4⟩, ⟨b1, b2, b3, b4, b5⟩, ⟨c1, c2, c3, c4, c5⟩, d1, h3⟩ := id h
  have h1 := hd.1
  obtain ⟨r, s1, sg', m1, P, x1, x2, x3, x4, x5⟩ := seg_sim (sg := sg) h hp
  have f21 : s1 22 = nI dl := by rw [x3 22 (by decide)]; exact c2
  have f2 : s1 2 = nI dl := by rw [x3 2 (by decide)]; exact d1
  have f9 : s1 9 = nI mm := by rw [x3 9 (by decide)]; exact b1
  rcases x5 with ⟨e, b, ss, sp, q, hS, hpq, hq, hP, g21, g13, g14, k4, k5, k6, k3⟩ | ⟨e, hbad⟩
  · subst e; subst hP
    have hX : fX2_readWindowHead sc ar sg (nI bd) = ((fX5_nextInteger 1000 (nI q) (nI dl) (ar 2) (nI dl)).bind fun R4 => (fX5_place 1000 R4.2 (nI dl) (ar 2) (nI dl)).bind fun R6 => (fX5_nextInteger 1000 R4.2 (nI dl) (ar 2) (nI dl)).bind fun R8 => if R4.1 = (-1 : Int32) then some ((-2 : Int32), (va_up (va_up s1 21 R4.2) 21 R8.2), sg') else if R8.1 = (-1 : Int32) then some ((-2 : Int32), (va_up (va_up s1 21 R4.2) 21 R8.2), sg') else (fX6_count 400 (ar 9) (nI mm)).bind fun R12 => if R8.1 ≤ (nI bd - R12) then (fX6_count 400 (ar 9) (nI mm)).bind fun R15 => (fX2_readParts (va_up (va_up (va_up (va_up s1 21 R4.2) 21 R8.2) 15 R15) 16 (R15 + R8.1)) ar sg' R6 R4.1).bind fun R17 => if R17.1 = 0 then some ((-2 : Int32), R17.2, sg') else some ((0 : Int32), R17.2, sg') else some ((-3 : Int32), (va_up (va_up s1 21 R4.2) 21 R8.2), sg')) := by
      rw [fX2_readWindowHead, x1, Option.bind_some, if_neg (show ¬ (1 : Int32) = 0 by decide)]
      dsimp only
      rw [g21, f21, f2, f9]
    rcases two_rd (ct := nI dl) hd c4 hq with ⟨fo, qa, sz, qb, v1, w1, v2, v3, v4, y1, y2, y3⟩ | ⟨a, P, b', P', y1, y2, y3, y4⟩
    · obtain ⟨z1, z2⟩ := y3 m1 k3
      obtain ⟨t1, t2, t3, t4⟩ := mw_tail hd c4 b2 b4 b5 k3 x2 v4 (by omega) v1 w1 z1 z2
      have hX2 : fX2_readWindowHead sc ar sg (nI bd) = if sz ≤ bd - mm then (fX2_readParts (va_up (va_up (va_up (va_up s1 21 (nI qa)) 21 (nI qb)) 15 (nI mm)) 16 (nI (mm + sz))) ar sg' (nI qa) (nI fo)).bind fun R17 => if R17.1 = 0 then some ((-2 : Int32), R17.2, sg') else some ((0 : Int32), R17.2, sg') else some ((-3 : Int32), (va_up (va_up s1 21 (nI qa)) 21 (nI qb)), sg') := by
        rw [hX, y1, Option.bind_some, fX5_place, Option.bind_some]; dsimp only
        rw [y2, Option.bind_some, if_neg (nI_ne_m1 v1), if_neg (nI_ne_m1 w1), fX6_count, Option.bind_some, Option.bind_some]; dsimp only
        rw [pk_sub b4, nI_add]
        have hl : nI sz ≤ nI (bd - mm) ↔ sz ≤ bd - mm := nI_leI w1 (by omega)
        by_cases c : sz ≤ bd - mm
        · rw [if_pos (hl.mpr c), if_pos c]
        · rw [if_neg (fun z => c (hl.mp z)), if_neg c]
      by_cases hsz : sz ≤ bd - mm
      · rw [if_pos hsz] at hX2
        have hf1 : ∀ x y : Int32, ∀ k, k ∉ [9, 12, 13, 14, 15, 16, 18, 21, 22, 23, 24, 25, 26, 27, 28] → (va_up (va_up (va_up (va_up s1 21 (nI qa)) 21 (nI qb)) 15 (nI mm)) 16 (nI (mm + sz))) k = sc k := fun x y k hk => by
          rw [up_nin (by decide) hk, up_nin (by decide) hk, up_nin (by decide) hk, up_nin (by decide) hk, x3 k (nin_sub (by decide) hk)]
        have hf0 := hf1 0 0
        by_cases hqb : qb < dl
        · have hbyte := (hd.2 qb hqb).2.2
          by_cases hz : db qb = 0
          · obtain ⟨t5, t6⟩ := t4 hsz hqb hz
            rcases three_rd (ct := nI dl) hd c4 (show qb + 1 ≤ dl by omega) with ⟨v, q1, w, q2, u, q3, v1', w1', u1, v2', v3', y1', y2', y3', y4'⟩ | ⟨a, P, b', P', c, P'', y1', y2', y3', y4', y5'⟩
            · obtain ⟨g1, g2, g3⟩ := y4' (va_up (va_up m1 8 (nI sz)) 7 (nI mm)) k3
              have hM := t6 v w u q1 q2 q3 v1' w1' u1 (by omega) v3' g1 g2 g3
              have hXp := x_parts (sg := sg') (sc := va_up (va_up (va_up (va_up s1 21 (nI qa)) 21 (nI qb)) 15 (nI mm)) 16 (nI (mm + sz))) (fr := qa) (fo := fo) hd hqb rfl f21 f2 hz v1' w1' u1 (by omega) v1 v3' y1' y2' y3'
              by_cases hc : v + w + u + q3 - qa = fo ∧ v + w + u ≤ dl - q3
              · rw [if_pos hc] at hM hXp
                rw [hXp, Option.bind_some, if_neg (show ¬ (1 : Int32) = 0 by decide)] at hX2
                obtain ⟨hc1, hc2⟩ := hc
                refine Or.inr ⟨_, _, _, _, b, ss, sp, mm + sz, q3 + v, q3 + v + w, q3 + v + w + u, q3, q3 + v, q3 + v + w, q3 + (v + w + u), hX2, hM, ?_, by omega, by omega, rfl, rfl, ?_, ?_, ?_, by omega, ?_⟩
                · refine ⟨fun k hk => ?_, fun _ _ => rfl, fun k hk => ?_, fun k hk => ?_, fun j hj => rfl, fun j hj => rfl⟩
                  · dsimp only
                    rw [up_nin (by decide) hk, up_nin (by decide) hk, up_nin (by decide) hk, up_nin (by decide) hk, up_nin (by decide) hk, up_nin (by decide) hk, up_nin (by decide) hk, up_nin (by decide) hk, up_nin (by decide) hk, up_nin (by decide) hk, up_nin (by decide) hk, up_nin (by decide) hk]; exact hf0 k hk
                  · rw [up_nin (by decide) hk, up_nin (by decide) hk, up_nin (by decide) hk, x4 k (nin_sub (by decide) hk)]
                  · unfold opn; rw [up_nin (by decide) hk, up_nin (by decide) hk, up_nin (by decide) hk, up_nin (by decide) hk]; exact pl_n (fun e => hk (by subst e; decide))
                · show s1 12 = sc 12; exact x3 12 (by decide)
                · show upd (upd (upd (upd (upd (mar 10) 3 (nI q3)) 0 (nI q3)) 1 (nI (q3 + v))) 2 (nI (q3 + v + w))) 3 (nI (q3 + (v + w + u))) 3 = _; rw [upd_s]
                · show upd (upd (upd (mar 11) 0 (nI (q3 + v))) 1 (nI (q3 + v + w))) 2 (nI (q3 + (v + w + u))) 3 = _; rw [upd_n (by decide), upd_n (by decide), upd_n (by decide)]; exact c4
                · refine ⟨⟨hd.1, hd.2⟩, ⟨⟨?_, a2, a3⟩, ⟨?_, b2, b3⟩, ⟨?_, ?_, rfl, rfl⟩, ⟨k4, k5, k6, rfl, ?_⟩, ⟨hS.1, hS.2.1, hS.2.2.1, hS.2.2.2⟩, Nat.le_refl _, by omega, by omega⟩, ⟨⟨rfl, rfl, ?_, ?_, by omega, by omega⟩, ⟨rfl, rfl, ?_, ?_, by omega, by omega⟩, ⟨rfl, rfl, ?_, ?_, by omega, by omega⟩⟩, ⟨fun i hi => ?_, fun i hi => ?_, rfl, rfl⟩, by omega, k3⟩
                  · show s1 0 = _; rw [x3 0 (by decide)]; exact a1
                  · show s1 9 = _; exact f9
                  · show s1 13 = _; exact g13
                  · show s1 14 = _; exact g14
                  · show nI sz = nI (mm + sz - mm); congr 1; omega
                  · show upd (upd (upd (upd (upd (mar 10) 3 (nI q3)) 0 (nI q3)) 1 (nI (q3 + v))) 2 (nI (q3 + v + w))) 3 (nI (q3 + (v + w + u))) 0 = _; rw [upd_n (by decide), upd_n (by decide), upd_n (by decide), upd_s]
                  · show upd (upd (upd (mar 11) 0 (nI (q3 + v))) 1 (nI (q3 + v + w))) 2 (nI (q3 + (v + w + u))) 0 = _; rw [upd_n (by decide), upd_n (by decide), upd_s]
                  · show upd (upd (upd (upd (upd (mar 10) 3 (nI q3)) 0 (nI q3)) 1 (nI (q3 + v))) 2 (nI (q3 + v + w))) 3 (nI (q3 + (v + w + u))) 1 = _; rw [upd_n (by decide), upd_n (by decide), upd_s]
                  · show upd (upd (upd (mar 11) 0 (nI (q3 + v))) 1 (nI (q3 + v + w))) 2 (nI (q3 + (v + w + u))) 1 = _; rw [upd_n (by decide), upd_s]
                  · show upd (upd (upd (upd (upd (mar 10) 3 (nI q3)) 0 (nI q3)) 1 (nI (q3 + v))) 2 (nI (q3 + v + w))) 3 (nI (q3 + (v + w + u))) 2 = _; rw [upd_n (by decide), upd_s]
                  · show upd (upd (upd (mar 11) 0 (nI (q3 + v))) 1 (nI (q3 + v + w))) 2 (nI (q3 + (v + w + u))) 2 = _; rw [upd_s]; congr 1; omega
                  · show zf (ar 12) 4 i = zf (mar 2) 4 i; rw [zf_in hi, zf_in hi]
                  · show zf (ar 13) 768 i = zf (mar 3) 768 i; rw [zf_in hi, zf_in hi]
              · rw [if_neg hc] at hM hXp
                rw [hXp, Option.bind_some, if_pos rfl] at hX2
                refine Or.inl ⟨-2, _, _, _, _, hX2, Or.inl rfl, hM, DF_pl (fun k hk => ?_) (fun k hk => ?_), ?_⟩
                · dsimp only; rw [up_nin (by decide) hk, up_nin (by decide) hk, up_nin (by decide) hk, up_nin (by decide) hk]; exact hf0 k hk
                · rw [up_nin (by decide) hk, up_nin (by decide) hk, x4 k (nin_sub (by decide) hk)]
                · show s1 9 = _; exact x3 9 (by decide)
            · obtain ⟨x, y, z, m1', m2, m3, Q1, Q2, Q3, g1, g2, g3, g4, g5⟩ := y5' (va_up (va_up m1 8 (nI sz)) 7 (nI mm)) k3
              have hM := t5 x y z m1' m2 m3 Q1 Q2 Q3 g1 g2 g3 g4
              have hXp := x_parts_no (sg := sg') (sc := va_up (va_up (va_up (va_up s1 21 (nI qa)) 21 (nI qb)) 15 (nI mm)) 16 (nI (mm + sz))) (fr := qa) (fo := fo) hd hqb rfl f21 f2 hz y1' y2' y3' y4'
              rw [hXp, Option.bind_some, if_pos rfl] at hX2
              refine Or.inl ⟨-2, _, _, _, _, hX2, Or.inl rfl, hM, DF_pl (fun k hk => ?_) (fun k hk => ?_), ?_⟩
              · dsimp only; rw [up_nin (by decide) hk, up_nin (by decide) hk, up_nin (by decide) hk, up_nin (by decide) hk]; exact hf0 k hk
              · rw [g5 k (fun e => hk (by subst e; decide)), up_nin (by decide) hk, up_nin (by decide) hk, x4 k (nin_sub (by decide) hk)]
              · show s1 9 = _; exact x3 9 (by decide)
          · obtain ⟨m', P, hM, hm'⟩ := t3 hsz hqb hz
            have hXp : fX2_readParts (va_up (va_up (va_up (va_up s1 21 (nI qa)) 21 (nI qb)) 15 (nI mm)) 16 (nI (mm + sz))) ar sg' (nI qa) (nI fo) = some (0, va_up (va_up (va_up (va_up (va_up s1 21 (nI qa)) 21 (nI qb)) 15 (nI mm)) 16 (nI (mm + sz))) 21 (nI (qb + 1))) := by
              rw [fX2_readParts, show (va_up (va_up (va_up (va_up s1 21 (nI qa)) 21 (nI qb)) 15 (nI mm)) 16 (nI (mm + sz))) 21 = nI qb from rfl, show (va_up (va_up (va_up (va_up s1 21 (nI qa)) 21 (nI qb)) 15 (nI mm)) 16 (nI (mm + sz))) 22 = nI dl from f21, x_byte hd (Nat.le_refl _) hqb, Option.bind_some]
              dsimp only
              rw [if_neg (by rw [L0, nI_eq (by omega) (by omega)]; exact hz)]
            rw [hXp, Option.bind_some, if_pos rfl] at hX2
            refine Or.inl ⟨-2, _, _, _, _, hX2, Or.inl rfl, hM, DF_pl (fun k hk => ?_) (fun k hk => ?_), ?_⟩
            · dsimp only; rw [up_nin (by decide) hk]; exact hf0 k hk
            · rw [hm' k (nin_sub (by decide) hk), x4 k (nin_sub (by decide) hk)]
            · show s1 9 = _; exact x3 9 (by decide)
        · obtain ⟨m', P, hM, hm'⟩ := t2 hsz (by omega)
          have hXp : fX2_readParts (va_up (va_up (va_up (va_up s1 21 (nI qa)) 21 (nI qb)) 15 (nI mm)) 16 (nI (mm + sz))) ar sg' (nI qa) (nI fo) = some (0, va_up (va_up (va_up (va_up (va_up s1 21 (nI qa)) 21 (nI qb)) 15 (nI mm)) 16 (nI (mm + sz))) 21 (nI qb)) := by
            rw [fX2_readParts, show (va_up (va_up (va_up (va_up s1 21 (nI qa)) 21 (nI qb)) 15 (nI mm)) 16 (nI (mm + sz))) 21 = nI qb from rfl, show (va_up (va_up (va_up (va_up s1 21 (nI qa)) 21 (nI qb)) 15 (nI mm)) 16 (nI (mm + sz))) 22 = nI dl from f21, x_byte_no (by omega) (by omega), Option.bind_some]
            dsimp only
            rw [if_neg (by decide)]
          rw [hXp, Option.bind_some, if_pos rfl] at hX2
          refine Or.inl ⟨-2, _, _, _, _, hX2, Or.inl rfl, hM, DF_pl (fun k hk => ?_) (fun k hk => ?_), ?_⟩
          · dsimp only; rw [up_nin (by decide) hk]; exact hf0 k hk
          · rw [hm' k (nin_sub (by decide) hk), x4 k (nin_sub (by decide) hk)]
          · show s1 9 = _; exact x3 9 (by decide)
      · rw [if_neg hsz] at hX2
        obtain ⟨m', P, hM, hm'⟩ := t1 hsz
        refine Or.inl ⟨-3, _, _, _, _, hX2, Or.inr rfl, hM, DF_pl (fun k hk => ?_) (fun k hk => ?_), ?_⟩
        · rw [up_nin (by decide) hk, up_nin (by decide) hk, x3 k (nin_sub (by decide) hk)]
        · rw [hm' k (nin_sub (by decide) hk), x4 k (nin_sub (by decide) hk)]
        · show s1 9 = _; exact x3 9 (by decide)
    · obtain ⟨x, y, m1', m2, Q1, Q2, z1, z2, z3, z4, z5⟩ := y4 m1 (fun _ m => m) k3 (fun _ _ => rfl)
      have hX2 : fX2_readWindowHead sc ar sg (nI bd) = some (-2, va_up (va_up s1 21 P) 21 P', sg') := by
        rw [hX, y1, Option.bind_some, fX5_place, Option.bind_some]; dsimp only
        rw [y2, Option.bind_some]; dsimp only
        by_cases ha : a = -1
        · rw [if_pos ha]
        · rw [if_neg ha]
          rcases y3 with e | e
          · exact absurd e ha
          · rw [if_pos e]
      have hM : fX8_readWindow msc mar (nI bd) = some (-2, va_up m2 8 y, pl mar Q2) := by
        rw [fX8_readWindow, x2, Option.bind_some, if_pos k3, z1, Option.bind_some, if_pos (by decide)]; dsimp only
        rw [z2, Option.bind_some]; dsimp only
        rw [if_neg (show ¬ m2 3 = 0 by rw [z3]; decide)]
      refine Or.inl ⟨-2, _, _, _, _, hX2, Or.inl rfl, hM, DF_pl (fun k hk => ?_) (fun k hk => ?_), ?_⟩
      · rw [up_nin (by decide) hk, up_nin (by decide) hk, x3 k (nin_sub (by decide) hk)]
      · rw [up_nin (by decide) hk, z5 k (fun e => hk (by subst e; decide)), z4 k (fun e => hk (by subst e; decide)), x4 k (nin_sub (by decide) hk)]
      · show s1 9 = _; exact x3 9 (by decide)
  · subst e
    have hX2 : fX2_readWindowHead sc ar sg (nI bd) = some (-2, s1, sg') := by
      rw [fX2_readWindowHead, x1, Option.bind_some, if_pos rfl]
    have hM : fX8_readWindow msc mar (nI bd) = some (-2, m1, pl mar P) := by
      rw [fX8_readWindow, x2, Option.bind_some, if_neg (show ¬ m1 3 = 0 by rw [hbad]; decide)]
    exact Or.inl ⟨-2, _, _, _, _, hX2, Or.inl rfl, hM, DF_pl (fun k hk => x3 k (nin_sub (by decide) hk)) (fun k hk => x4 k (nin_sub (by decide) hk)), x3 9 (by decide)⟩
