/-! PURE: a window's codes followed, both sides -/
theorem DW_p1 {dl sl b ss sp ws we e0 e1 e2 mk p0 p1 p2 cp q : Nat} {db : Nat → Nat} {sg : Bool} {sc : Nat → Int32} {ar : Nat → Nat → Int32} {msc : Nat → Int32} {mar : Nat → Nat → Int32} (h : DW dl db sl b ss sp ws we e0 e1 e2 mk p0 p1 p2 cp sg sc ar msc mar) (hq : q ≤ e1) : DW dl db sl b ss sp ws we e0 e1 e2 mk p0 q p2 cp sg (va_up sc 25 (nI q)) ar msc (va_up mar 10 (upd (mar 10) 1 (nI q))) := by
  obtain ⟨hd, hM, ⟨hR0, ⟨r1, r2, r3, r4, r5, r6⟩, hR2⟩, hC, hcp, h3⟩ := h
  refine ⟨hd, MS_fr hM (fun k hk => up_nin (by decide) hk) (fun _ _ => rfl) (fun _ _ => rfl) (fun k hk => up_nin (by decide) hk), ⟨?_, ⟨rfl, r2, by show upd (mar 10) 1 (nI q) 1 = _; rw [upd_s], r4, hq, r6⟩, ?_⟩, hC, hcp, h3⟩
  · exact ⟨hR0.1, hR0.2.1, by show upd (mar 10) 1 (nI q) 0 = _; rw [upd_n (by decide)]; exact hR0.2.2.1, hR0.2.2.2⟩
  · exact ⟨hR2.1, hR2.2.1, by show upd (mar 10) 1 (nI q) 2 = _; rw [upd_n (by decide)]; exact hR2.2.2.1, hR2.2.2.2⟩
theorem EF_p1 {sc : Nat → Int32} {ar : Nat → Nat → Int32} {msc : Nat → Int32} {mar : Nat → Nat → Int32} {x y : Int32} : EF sc (va_up sc 25 x) ar ar msc msc mar (va_up mar 10 (upd (mar 10) 1 y)) := ⟨fun k hk => up_nin (by decide) hk, fun _ _ => rfl, fun _ _ => rfl, fun k hk => up_nin (by decide) hk, fun _ _ => rfl, fun _ _ => rfl, by show upd (mar 10) 1 y 3 = _; rw [upd_n (by decide)]⟩
theorem follow_sim {dl sl b ss sp ws we e0 e1 e2 mk p0 p1 p2 cp k j : Nat} {db : Nat → Nat} {sg : Bool} {sc : Nat → Int32} {ar : Nat → Nat → Int32} {msc : Nat → Int32} {mar : Nat → Nat → Int32} (h : DW dl db sl b ss sp ws we e0 e1 e2 mk p0 p1 p2 cp sg sc ar msc mar) (hk : k < 256) (hj : j = 0 ∨ j = 3) (hkd : 1 ≤ tb k j) :
    ∃ (r : Int32) (sc' : Nat → Int32) (ar' : Nat → Nat → Int32) (msc' : Nat → Int32) (mar' : Nat → Nat → Int32), fX2_follow sc ar sg (nI k) (nI j) = some (r, sc', ar') ∧
      (if nI (tb k (j + 1)) = 0 then (fX8_nextInteger msc mar (1 : Int32)).bind fun R19 => fX8_perform R19.2.1 R19.2.2 (nI (tb k j)) R19.1 (nI (tb k (j + 2))) else fX8_perform msc mar (nI (tb k j)) (nI (tb k (j + 1))) (nI (tb k (j + 2)))) = some (msc', mar') ∧ EF sc sc' ar ar' msc msc' mar mar' ∧ OK9 sc' ∧
      ((r = 1 ∧ ∃ mk' p0' p1' p2' cp', p1 ≤ p1' ∧ DW dl db sl b ss sp ws we e0 e1 e2 mk' p0' p1' p2' cp' sg sc' ar' msc' mar') ∨ (r = 0 ∧ msc' 3 = 1)) := by
  obtain ⟨hd, hM, ⟨hR0, ⟨r1, r2, r3, r4, r5, r6⟩, hR2⟩, hC, hcp, h3⟩ := id h
  have h1 := hd.1
  have hw := hM.2.2.2.2.2.2.2
  have hwm := hM.2.2.2.2.2.2.1
  have hj6 : j ≤ 3 := by omega
  have ht1 := tb_lt k hk (j + 1) (by omega)
  have ht2 := tb_lt k hk (j + 2) (by omega)
  have hk3 : tb k j ≤ 3 := by
    rcases hj with e | e
    · subst e; exact (tb_k k hk).2.1
    · subst e; exact (tb_k k hk).2.2
  have hmd : tb k j = 3 → tb k (j + 2) ≤ 8 := fun e => tb_cop k hk j (by omega) e (by omega)
  rw [fX2_follow, nI_1, nI_2, x_part k hk (j + 1) (by omega), Option.bind_some, x_part k hk j (by omega)]
  by_cases hz : tb k (j + 1) = 0
  · have hz' : nI (tb k (j + 1)) = (0 : Int32) := by rw [hz]; rfl
    rw [if_pos hz', if_pos hz', r1, r2]
    rcases hri : ri db e1 5 0 p1 with _ | ⟨v, q⟩
    · obtain ⟨P, hP⟩ := (x_integer (ct := sc 2) hd r6 (by omega)).2 hri
      obtain ⟨mar', hf, hy⟩ := (m_integer (msc := msc) (s := 1) hd r6 (by omega) r3 r4 h3 (by omega)).2 hri
      have hy' : fX8_nextInteger msc mar (1 : Int32) = some (0, va_up msc 3 1, mar') := hy
      refine ⟨0, va_up sc 25 P, ar, va_up msc 3 1, mar', ?_, ?_, ?_, ⟨mk, by omega, hM.2.1.1⟩, Or.inr ⟨rfl, rfl⟩⟩
      · rw [hP, Option.bind_some, Option.bind_some]
        dsimp only
        rw [if_pos (by decide)]
      · rw [hy', Option.bind_some]
        dsimp only
        rw [fX8_perform, if_pos rfl, up_up]
      · exact ⟨fun k hk => up_nin (by decide) hk, fun _ _ => rfl, fun k hk => up_nin (by decide) hk, fun k hk => hf.1 k (fun e => hk (by subst e; decide)), fun j _ => by rw [hf.1 0 (by decide)], fun j _ => by rw [hf.1 1 (by decide)], hf.2.1 3 (by decide)⟩
    · obtain ⟨v1, v2, v3⟩ := ri_b hri
      have hP := (x_integer (ct := sc 2) hd r6 (by omega)).1 v q hri
      have hy := (m_integer (msc := msc) (s := 1) hd r6 (by omega) r3 r4 h3 (by omega)).1 v q hri
      have hy' : fX8_nextInteger msc mar (1 : Int32) = some (nI v, msc, va_up mar 10 (upd (mar 10) 1 (nI q))) := hy
      obtain ⟨r, sc', ar', msc', mar', x1, x2, x3, x4, x5⟩ := perf_exec (DW_p1 h v3) (n := v) (kd := tb k j) (md := tb k (j + 2)) (by omega) hkd hk3 hmd ht2 (fun _ => fX1_partOf (nI k) (nI (j + 2))) (x_part k hk (j + 2) (by omega))
      refine ⟨r, sc', ar', msc', mar', ?_, ?_, EF_p1.trans x3, x4, ?_⟩
      · rw [hP, Option.bind_some, Option.bind_some]
        exact x1
      · rw [hy', Option.bind_some]; exact x2
      · rcases x5 with ⟨q1, mk', p0', p2', cp', q2⟩ | q1
        · exact Or.inl ⟨q1, mk', p0', q, p2', cp', by omega, q2⟩
        · exact Or.inr q1
  · have hz' : ¬ nI (tb k (j + 1)) = (0 : Int32) := by rw [L0, nI_eq (by omega) (by omega)]; exact hz
    rw [if_neg hz', if_neg hz', Option.bind_some]
    obtain ⟨r, sc', ar', msc', mar', x1, x2, x3, x4, x5⟩ := perf_exec h (n := tb k (j + 1)) (kd := tb k j) (md := tb k (j + 2)) (by omega) hkd hk3 hmd ht2 (fun _ => fX1_partOf (nI k) (nI (j + 2))) (x_part k hk (j + 2) (by omega))
    refine ⟨r, sc', ar', msc', mar', x1, x2, x3, x4, ?_⟩
    rcases x5 with ⟨q1, mk', p0', p2', cp', q2⟩ | q1
    · exact Or.inl ⟨q1, mk', p0', p1, p2', cp', by omega, q2⟩
    · exact Or.inr q1
theorem m_L0_bad {k : Nat} {msc : Nat → Int32} {mar : Nat → Nat → Int32} (h3 : msc 3 = 1) : fX8_performAll_L0 (k + 1) msc mar = some (msc, mar) := by
  rw [fX8_performAll_L0, if_pos (by decide), if_pos (by decide)]
  by_cases hc : mar 11 (1 : Int32).toNatClampNeg ≤ mar 10 (1 : Int32).toNatClampNeg
  · rw [if_pos hc]
  · rw [if_neg hc, if_neg (by rw [h3]; decide)]
/-- the model's step over a part -/
theorem m_L30_step {k t kk : Nat} {msc msc' : Nat → Int32} {mar mar' : Nat → Nat → Int32} (hk : k < 256) (ht : t < 2) (h3 : msc 3 = 0) (hkd : 1 ≤ tb k (3 * t)) (hs : (if nI (tb k (3 * t + 1)) = 0 then (fX8_nextInteger msc mar (1 : Int32)).bind fun R19 => fX8_perform R19.2.1 R19.2.2 (nI (tb k (3 * t))) R19.1 (nI (tb k (3 * t + 2))) else fX8_perform msc mar (nI (tb k (3 * t))) (nI (tb k (3 * t + 1))) (nI (tb k (3 * t + 2)))) = some (msc', mar')) : fX8_performAll_L30 (nI k) (kk + 1) (nI t) msc mar = fX8_performAll_L30 (nI k) kk (nI (t + 1)) msc' mar' := by
  have ht0 := tb_lt k hk (3 * t) (by omega)
  have e3 : (3 : Int32) * nI t = nI (3 * t) := by rw [L3, pk_mul]
  rw [fX8_performAll_L30, if_neg (by rw [L2, nI_leI (by omega) (by omega)]; omega), if_pos h3, e3, nI_1, nI_2, m_part k hk (3 * t) (by omega), Option.bind_some, m_part k hk (3 * t + 1) (by omega), Option.bind_some, if_neg (by rw [L0, nI_leI (by omega) (by omega)]; omega), m_part k hk (3 * t + 2) (by omega), nI_1]
  by_cases hz : nI (tb k (3 * t + 1)) = 0
  · rw [if_pos hz] at hs ⊢
    rcases hx : fX8_nextInteger msc mar 1 with _ | R
    · rw [hx, Option.bind_none] at hs; simp at hs
    · rw [hx, Option.bind_some] at hs
      rw [Option.bind_some, Option.bind_some, hs, Option.bind_some]
  · rw [if_neg hz] at hs ⊢
    rw [Option.bind_some, hs, Option.bind_some]
theorem m_L30_bad {k kk : Nat} {x : Int32} {msc : Nat → Int32} {mar : Nat → Nat → Int32} (h3 : msc 3 = 1) : fX8_performAll_L30 (nI k) (kk + 1) x msc mar = some (msc, mar) := by
  rw [fX8_performAll_L30]
  by_cases hc : (2 : Int32) ≤ x
  · rw [if_pos hc]
  · rw [if_neg hc, if_neg (by rw [h3]; decide)]
/-- all codes of a window, both sides -/
theorem win_loop {dl sl b ss sp ws we e0 e1 e2 : Nat} {db : Nat → Nat} {sg : Bool} : ∀ (r v mm p0 p1 p2 cp kx km : Nat) (sc : Nat → Int32) (ar : Nat → Nat → Int32) (msc : Nat → Int32) (mar : Nat → Nat → Int32), DW dl db sl b ss sp ws we e0 e1 e2 mm p0 p1 p2 cp sg sc ar msc mar → e1 - p1 ≤ r → v + (e1 - p1) ≤ 1000 → r < kx → r < km →
    ∃ (sc' : Nat → Int32) (ar' : Nat → Nat → Int32) (msc' : Nat → Int32) (mar' : Nat → Nat → Int32), fX8_performAll_L0 km msc mar = some (msc', mar') ∧ EF sc sc' ar ar' msc msc' mar mar' ∧ OK9 sc' ∧
      ((fX2_makeWindow_L9 sg kx (nI v) sc ar = some (Sum.inl (sc', ar')) ∧ ∃ mm' p0' p2' cp', DW dl db sl b ss sp ws we e0 e1 e2 mm' p0' e1 p2' cp' sg sc' ar' msc' mar') ∨ (fX2_makeWindow_L9 sg kx (nI v) sc ar = some (Sum.inr (0, sc', ar')) ∧ msc' 3 = 1)) := by
  intro r
  induction r using Nat.strongRecOn with
  | ind r ih =>
    intro v mm p0 p1 p2 cp kx km sc ar msc mar h hr hv hkx hkm
    obtain ⟨kx, rfl⟩ : ∃ q, kx = q + 1 := ⟨kx - 1, by omega⟩
    obtain ⟨km, rfl⟩ : ∃ q, km = q + 1 := ⟨km - 1, by omega⟩
    obtain ⟨hd, hM, ⟨hR0, ⟨r1, r2, r3, r4, r5, r6⟩, hR2⟩, hC, hcp, h3⟩ := id h
    have h1 := hd.1
    have hw := hM.2.2.2.2.2.2.2
    have hwm := hM.2.2.2.2.2.2.1
    have z1 : (1 : Int32).toNatClampNeg = 1 := by decide
    rw [fX2_makeWindow_L9, fX8_performAll_L0, if_pos (show inb (1 : Int32) 4 = true by decide), z1, r3, r4, fX5_left, Option.bind_some, r1, r2, pk_sub r5]
    by_cases hend : e1 ≤ p1
    · have ee : p1 = e1 := by omega
      subst ee
      rw [if_pos (show nI p1 ≤ nI p1 by rw [nI_leI (by omega) (by omega)]; omega), if_pos (show nI (p1 - p1) ≤ (0 : Int32) by rw [L0, nI_leI (by omega) (by omega)]; omega)]
      refine ⟨sc, ar, msc, mar, by rw [if_pos (show inb (1 : Int32) 4 = true by decide)], EF.rf, ⟨mm, by omega, hM.2.1.1⟩, Or.inl ⟨?_, _, _, _, _, h⟩⟩
      split <;> rfl
    · rw [if_neg (show ¬ nI e1 ≤ nI p1 by rw [nI_leI (by omega) (by omega)]; omega), if_pos h3, if_neg (show ¬ (1000 : Int32) ≤ nI v by rw [L1000, nI_leI (by omega) (by omega)]; omega), if_neg (show ¬ nI (e1 - p1) ≤ (0 : Int32) by rw [L0, nI_leI (by omega) (by omega)]; omega)]
      have hk := (hd.2 p1 (by omega)).2.2
      have nx : fX8_next msc mar (1 : Int32) = some (nI (db p1), msc, va_up mar 10 (upd (mar 10) 1 (nI (p1 + 1)))) := m_byte (s := 1) hd r6 (by omega) r3 r4 (by omega)
      rw [x_byte hd r6 (by omega), Option.bind_some, nx, Option.bind_some, if_pos (show inb (1 : Int32) 4 = true by decide)]
      dsimp only
      have hD1 := DW_p1 h (show p1 + 1 ≤ e1 by omega)
      obtain ⟨rr, s1, a1, m1, q1, x1, x2, x3, x4, x5⟩ := follow_sim hD1 hk (Or.inl rfl) (tb_k _ hk).1
      have x1' : fX2_follow (va_up sc 25 (nI (p1 + 1))) ar sg (nI (db p1)) (0 : Int32) = some (rr, s1, a1) := x1
      have s0 : FU = 5999 + 1 := rfl
      have s1' : (5999 : Nat) = 5998 + 1 := rfl
      have s2' : (5998 : Nat) = 5997 + 1 := rfl
      rw [x1', Option.bind_some]
      dsimp only
      have y1 : fX8_performAll_L30 (nI (db p1)) FU 0 msc (va_up mar 10 (upd (mar 10) 1 (nI (p1 + 1)))) = fX8_performAll_L30 (nI (db p1)) 5999 (nI 1) m1 q1 := m_L30_step (t := 0) hk (by omega) h3 (tb_k _ hk).1 x2
      rcases x5 with ⟨e, mk1, pp0, pp1, pp2, cp1, hpp, hD2⟩ | ⟨e, hbad⟩
      · subst e
        rw [if_neg (show ¬ (1 : Int32) = 0 by decide)]
        have xp : fX1_partOf (nI (db p1)) (3 : Int32) = some (nI (tb (db p1) 3)) := x_part _ hk 3 (by omega)
        have ht3 := tb_lt _ hk 3 (by omega)
        rw [xp, Option.bind_some]
        have hp1e := hD2.2.2.1.2.1.2.2.2.2.1
        have h31 := hD2.2.2.2.2.2
        by_cases hz : tb (db p1) 3 = 0
        · rw [if_pos (show nI (tb (db p1) 3) = 0 by rw [hz]; rfl), nI_1]
          have y2 : fX8_performAll_L30 (nI (db p1)) 5999 (nI 1) m1 q1 = some (m1, q1) := by
            have mp0 : fX8_part (nI (db p1)) (nI 3) = some (nI (tb (db p1) 3)) := m_part _ hk 3 (by omega)
            have mp1 : fX8_part (nI (db p1)) (nI 4) = some (nI (tb (db p1) 4)) := m_part _ hk 4 (by omega)
            rw [s1', fX8_performAll_L30, if_neg (by decide), if_pos h31, show (3 : Int32) * nI 1 = nI 3 from rfl, show nI 3 + (1 : Int32) = nI 4 from rfl, mp0, Option.bind_some, mp1, Option.bind_some, if_pos (by rw [hz]; decide), s2', fX8_performAll_L30, if_pos (by decide)]
          rw [y1, y2, Option.bind_some]
          obtain ⟨sc', ar', msc', mar', i1, i2, i3, i4⟩ := ih (r - 1) (by omega) (v + 1) mk1 pp0 pp1 pp2 cp1 kx km s1 a1 m1 q1 hD2 (by omega) (by omega) (by omega) (by omega)
          exact ⟨sc', ar', msc', mar', i1, (EF_p1.trans x3).trans i2, i3, i4⟩
        · rw [if_neg (show ¬ nI (tb (db p1) 3) = 0 by rw [L0, nI_eq (by omega) (by omega)]; exact hz), nI_1]
          obtain ⟨rr2, s2, a2, m2, q2, w1, w2, w3, w4, w5⟩ := follow_sim hD2 hk (Or.inr rfl) (by omega)
          have w1' : fX2_follow s1 a1 sg (nI (db p1)) (3 : Int32) = some (rr2, s2, a2) := w1
          rw [w1', Option.bind_some]
          dsimp only
          have y2 : fX8_performAll_L30 (nI (db p1)) 5999 (nI 1) m1 q1 = fX8_performAll_L30 (nI (db p1)) 5998 (nI 2) m2 q2 := m_L30_step (t := 1) hk (by omega) h31 (show 1 ≤ tb (db p1) 3 by omega) w2
          have y3 : fX8_performAll_L30 (nI (db p1)) 5998 (nI 2) m2 q2 = some (m2, q2) := by rw [s2', fX8_performAll_L30, if_pos (by decide)]
          rw [y1, y2, y3, Option.bind_some]
          rcases w5 with ⟨e, mk2, t0, t1, t2, cp2, htt, hD3⟩ | ⟨e, hbad⟩
          · subst e
            have ht1e := hD3.2.2.1.2.1.2.2.2.2.1
            rw [if_neg (show ¬ (1 : Int32) = 0 by decide)]
            obtain ⟨sc', ar', msc', mar', i1, i2, i3, i4⟩ := ih (r - 1) (by omega) (v + 1) mk2 t0 t1 t2 cp2 kx km s2 a2 m2 q2 hD3 (by omega) (by omega) (by omega) (by omega)
            exact ⟨sc', ar', msc', mar', i1, ((EF_p1.trans x3).trans w3).trans i2, i3, i4⟩
          · subst e
            rw [if_pos rfl]
            obtain ⟨km, rfl⟩ : ∃ q, km = q + 1 := ⟨km - 1, by omega⟩
            exact ⟨s2, a2, m2, q2, m_L0_bad hbad, (EF_p1.trans x3).trans w3, w4, Or.inr ⟨rfl, hbad⟩⟩
      · subst e
        rw [if_pos rfl]
        have y2 : fX8_performAll_L30 (nI (db p1)) 5999 (nI 1) m1 q1 = some (m1, q1) := m_L30_bad hbad
        rw [y1, y2, Option.bind_some]
        obtain ⟨km, rfl⟩ : ∃ q, km = q + 1 := ⟨km - 1, by omega⟩
        exact ⟨s1, a1, m1, q1, m_L0_bad hbad, EF_p1.trans x3, x4, Or.inr ⟨rfl, hbad⟩⟩
