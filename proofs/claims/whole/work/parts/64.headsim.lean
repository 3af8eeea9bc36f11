/-! PURE: a window's head, both sides together -/
theorem DF_pl {sc sc' : Nat → Int32} {ar : Nat → Nat → Int32} {msc msc' : Nat → Int32} {mar : Nat → Nat → Int32} {P : Int32} (hs : ∀ k, k ∉ [9, 12, 13, 14, 15, 16, 18, 21, 22, 23, 24, 25, 26, 27, 28] → sc' k = sc k) (hm : ∀ k, k ∉ [1, 3, 4, 5, 6, 7, 8] → msc' k = msc k) : DF sc sc' ar ar msc msc' mar (pl mar P) :=
  ⟨hs, fun _ _ => rfl, hm, fun k hk => pl_n (fun e => hk (by subst e; decide)), fun j hj => rfl, fun j hj => rfl⟩
/-- the model's rows when a window's parts are open -/
def opn (mar : Nat → Nat → Int32) (q v w u : Nat) : Nat → Nat → Int32 := va_up (va_up (va_up (va_up (pl mar (nI q)) 11 (upd (upd (upd (mar 11) 0 (nI (q + v))) 1 (nI (q + v + w))) 2 (nI (q + (v + w + u))))) 10 (upd (upd (upd (upd (upd (mar 10) 3 (nI q)) 0 (nI q)) 1 (nI (q + v))) 2 (nI (q + v + w))) 3 (nI (q + (v + w + u))))) 2 (zf (mar 2) 4)) 3 (zf (mar 3) 768)
/-- the model's readWindow behind a good segment -/
theorem mw_tail {dl mm bd qa qb fo sz : Nat} {d : Nat → Nat} {f : Nat → Int32} {msc m1 : Nat → Int32} {mar : Nat → Nat → Int32} {q : Nat} (hd : DLT dl d f (mar 0)) (h11 : mar 11 3 = nI dl) (b2 : mar 1 4 = nI mm) (hmb : mm ≤ bd) (hbd : bd ≤ 400) (h3 : m1 3 = 0) (hs : fX8_readSegment msc mar = some (m1, pl mar (nI q))) (hqb : qb ≤ dl) (hqa : qa ≤ qb) (hfo : fo < 2 ^ 31) (hsz : sz < 2 ^ 31)
    (y1 : fX8_nextInteger m1 (pl mar (nI q)) 3 = some (nI fo, m1, pl mar (nI qa))) (y2 : fX8_nextInteger m1 (pl mar (nI qa)) 3 = some (nI sz, m1, pl mar (nI qb))) :
    (¬ sz ≤ bd - mm → ∃ m' P, fX8_readWindow msc mar (nI bd) = some (-3, m', pl mar P) ∧ ∀ k, k ∉ [3, 7, 8] → m' k = m1 k) ∧
    (sz ≤ bd - mm → dl ≤ qb → ∃ m' P, fX8_readWindow msc mar (nI bd) = some (-2, m', pl mar P) ∧ ∀ k, k ∉ [3, 7, 8] → m' k = m1 k) ∧
    (sz ≤ bd - mm → qb < dl → d qb ≠ 0 → ∃ m' P, fX8_readWindow msc mar (nI bd) = some (-2, m', pl mar P) ∧ ∀ k, k ∉ [3, 7, 8] → m' k = m1 k) ∧
    (sz ≤ bd - mm → qb < dl → d qb = 0 → (∀ (x y z : Int32) (m1' m2 m3 : Nat → Int32) (Q1 Q2 Q3 : Int32), fX8_nextInteger (va_up (va_up m1 8 (nI sz)) 7 (nI mm)) (pl mar (nI (qb + 1))) 3 = some (x, m1', pl mar Q1) → fX8_nextInteger m1' (pl mar Q1) 3 = some (y, m2, pl mar Q2) → fX8_nextInteger m2 (pl mar Q2) 3 = some (z, m3, pl mar Q3) → m3 3 = 1 → fX8_readWindow msc mar (nI bd) = some (-2, m3, pl mar Q3)) ∧
      (∀ v w u q1 q2 q3 : Nat, v < 2 ^ 31 → w < 2 ^ 31 → u < 2 ^ 31 → qb < q3 → q3 ≤ dl → fX8_nextInteger (va_up (va_up m1 8 (nI sz)) 7 (nI mm)) (pl mar (nI (qb + 1))) 3 = some (nI v, va_up (va_up m1 8 (nI sz)) 7 (nI mm), pl mar (nI q1)) → fX8_nextInteger (va_up (va_up m1 8 (nI sz)) 7 (nI mm)) (pl mar (nI q1)) 3 = some (nI w, va_up (va_up m1 8 (nI sz)) 7 (nI mm), pl mar (nI q2)) → fX8_nextInteger (va_up (va_up m1 8 (nI sz)) 7 (nI mm)) (pl mar (nI q2)) 3 = some (nI u, va_up (va_up m1 8 (nI sz)) 7 (nI mm), pl mar (nI q3)) →
        fX8_readWindow msc mar (nI bd) = if v + w + u + q3 - qa = fo ∧ v + w + u ≤ dl - q3 then (fX8_performAll (va_up (va_up (va_up m1 8 (nI sz)) 7 (nI mm)) 1 (nI 0)) (opn mar q3 v w u)).bind fun R38 => if (R38.1 3) = 0 then some ((0 : Int32), R38.1, R38.2) else some ((-2 : Int32), R38.1, R38.2) else some (-2, va_up (va_up m1 8 (nI sz)) 7 (nI mm), pl mar (nI q3)))) := by
  have h1 := hd.1
  have z0 : (0 : Int32).toNatClampNeg = 0 := by decide
  have z1 : (1 : Int32).toNatClampNeg = 1 := by decide
  have z2 : (2 : Int32).toNatClampNeg = 2 := by decide
  have z3 : (3 : Int32).toNatClampNeg = 3 := by decide
  have z4 : (4 : Int32).toNatClampNeg = 4 := by decide
  have i0 : inb (0 : Int32) 4 = true := by decide
  have i1 : inb (1 : Int32) 4 = true := by decide
  have i2 : inb (2 : Int32) 4 = true := by decide
  have i3 : inb (3 : Int32) 4 = true := by decide
  have i45 : inb (4 : Int32) 5 = true := by decide
  have hcm : (lg_cmp ((pl mar (nI qb) 1 4).toInt64 + (nI sz).toInt64) (nI bd).toInt64) ≤ 0 ↔ sz ≤ bd - mm := by
    show (lg_cmp ((mar 1 4).toInt64 + (nI sz).toInt64) (nI bd).toInt64) ≤ 0 ↔ _
    rw [lg_cmp_le, b2, nI_l (by omega), nI_l hsz, nI_l (by omega), lN_add, pk_lLE (by omega) (by omega)]; omega
  rw [fX8_readWindow, hs, Option.bind_some, if_pos h3, y1, Option.bind_some, if_pos i3]
  dsimp only
  rw [y2, Option.bind_some]
  dsimp only
  rw [if_pos h3, if_pos i45, z4]
  refine ⟨fun hn => ?_, fun hy hq => ?_, fun hy hq hc => ?_, fun hy hq hc => ⟨fun x y z m1' m2 m3 Q1 Q2 Q3 e1 e2 e3 e4 => ?_, fun v w u q1 q2 q3 hv hw hu hq1 hq3 e1 e2 e3 => ?_⟩⟩
  · rw [if_neg (fun z => hn (hcm.mp z))]
    exact ⟨_, _, rfl, fun k hk => by rw [up_nin (by decide) hk, up_nin (by decide) hk]⟩
  · have e0 : pl mar (nI qb) 1 4 = nI mm := b2
    rw [if_pos (hcm.mpr hy), e0, m3_byte_no hd h11 hq (by omega), Option.bind_some]
    dsimp only
    rw [m3_bad rfl, Option.bind_some]; dsimp only
    rw [m3_bad rfl, Option.bind_some]; dsimp only
    rw [m3_bad rfl, Option.bind_some, if_pos i3]; dsimp only
    rw [if_neg bad_ne]
    exact ⟨_, _, rfl, fun k hk => by rw [up_nin (by decide) hk, up_nin (by decide) hk, up_nin (by decide) hk]⟩
  · have e0 : pl mar (nI qb) 1 4 = nI mm := b2
    have hdb := (hd.2 qb hq).2.2
    rw [if_pos (hcm.mpr hy), e0, m3_byte hd h11 hq, Option.bind_some]
    dsimp only
    rcases three_rd (ct := nI dl) hd h11 (show qb + 1 ≤ dl by omega) with ⟨v, q1, w, q2, u, q3, v1, w1, u1, v2, v3, x1, x2, x3, x4⟩ | ⟨a, P, b, P', c, P'', x1, x2, x3, x4, x5⟩
    · obtain ⟨g1, g2, g3⟩ := x4 (va_up (va_up m1 8 (nI sz)) 7 (nI mm)) h3
      rw [g1, Option.bind_some]; dsimp only
      rw [g2, Option.bind_some]; dsimp only
      rw [g3, Option.bind_some, if_pos i3]; dsimp only
      rw [if_pos (show (va_up (va_up m1 8 (nI sz)) 7 (nI mm)) 3 = 0 from h3), if_neg (show ¬ nI (d qb) = 0 by rw [L0, nI_eq (by omega) (by omega)]; exact hc)]
      exact ⟨_, _, rfl, fun k hk => by rw [up_nin (by decide) hk, up_nin (by decide) hk]⟩
    · obtain ⟨x, y, z, m1', m2, m3, Q1, Q2, Q3, g1, g2, g3, g4, g5⟩ := x5 (va_up (va_up m1 8 (nI sz)) 7 (nI mm)) h3
      rw [g1, Option.bind_some]; dsimp only
      rw [g2, Option.bind_some]; dsimp only
      rw [g3, Option.bind_some, if_pos i3]; dsimp only
      rw [if_neg (show ¬ m3 3 = 0 by rw [g4]; decide)]
      exact ⟨_, _, rfl, fun k hk => by rw [g5 k (fun e => hk (by subst e; decide)), up_nin (by decide) hk, up_nin (by decide) hk]⟩
  · have e0 : pl mar (nI qb) 1 4 = nI mm := b2
    rw [if_pos (hcm.mpr hy), e0, m3_byte hd h11 hq, Option.bind_some]
    dsimp only
    rw [e1, Option.bind_some]; dsimp only
    rw [e2, Option.bind_some]; dsimp only
    rw [e3, Option.bind_some, if_pos i3]; dsimp only
    rw [if_neg (show ¬ m3 3 = 0 by rw [e4]; decide)]
  · have e0 : pl mar (nI qb) 1 4 = nI mm := b2
    rw [if_pos (hcm.mpr hy), e0, m3_byte hd h11 hq, Option.bind_some]
    dsimp only
    rw [e1, Option.bind_some]; dsimp only
    rw [e2, Option.bind_some]; dsimp only
    rw [e3, Option.bind_some, if_pos i3]; dsimp only
    rw [if_pos (show (va_up (va_up m1 8 (nI sz)) 7 (nI mm)) 3 = 0 from h3), if_pos (show nI (d qb) = 0 by rw [hc]; rfl)]
    rw [z0, z1, z2, z3]
    have k1 : (lg_cmp (nI fo).toInt64 (((pl mar (nI q3) 10 3).toInt64 - (pl mar (nI qa) 10 3).toInt64) + (((nI v).toInt64 + (nI w).toInt64) + (nI u).toInt64))) = 0 ↔ v + w + u + q3 - qa = fo := by
      rw [pl_10, pl_10, lg_cmp_eq, nI_l hfo, nI_l hv, nI_l hw, nI_l hu, nI_l (show q3 < 2 ^ 31 by omega), nI_l (show qa < 2 ^ 31 by omega), lN_add, lN_add, lN_sub (by omega), lN_add, pk_lEQ (by omega) (by omega)]; omega
    have k2 : (lg_cmp ((pl mar (nI q3) 10 3).toInt64 + (((nI v).toInt64 + (nI w).toInt64) + (nI u).toInt64)) (pl mar (nI q3) 11 3).toInt64) ≤ 0 ↔ v + w + u ≤ dl - q3 := by
      rw [pl_10, show pl mar (nI q3) 11 3 = nI dl from h11, lg_cmp_le, nI_l hv, nI_l hw, nI_l hu, nI_l (by omega), nI_l (by omega), lN_add, lN_add, lN_add, pk_lLE (by omega) (by omega)]; omega
    by_cases c1 : v + w + u + q3 - qa = fo
    · rw [if_pos (k1.mpr c1), if_pos i3]
      by_cases c2 : v + w + u ≤ dl - q3
      · rw [if_pos (k2.mpr c2), if_pos (show v + w + u + q3 - qa = fo ∧ v + w + u ≤ dl - q3 from ⟨c1, c2⟩), if_pos i0, if_pos i0, if_pos i0, if_pos i1, if_pos i1, if_pos i1, if_pos i2, if_pos i2, if_pos i2, if_pos i3, nest7]
        simp only [upd_s, pl_10]
        rw [nI_l (by omega), nI_l hv, nI_l hw, nI_l hu, lN_add, lN_add, lN_add, lN_add, lN_add, lN_i, lN_i, lN_i, lN_i, m_forget, Option.bind_some]
        rfl
      · rw [if_neg (fun z => c2 (k2.mp z)), if_neg (fun z => c2 z.2)]
    · rw [if_neg (fun z => c1 (k1.mp z)), if_neg (fun z => c1 z.1)]
