/-! PURE: a window's head, both sides -/
theorem seg_sim {dl sl mm p bd : Nat} {db : Nat → Nat} {sg : Bool} {sc : Nat → Int32} {ar : Nat → Nat → Int32} {msc : Nat → Int32} {mar : Nat → Nat → Int32} (h : BW dl db sl mm p bd sc ar msc mar) (hp : p < dl) :
    ∃ (r : Int32) (sc' : Nat → Int32) (sg' : Bool) (msc' : Nat → Int32) (P : Int32), fX2_readSegment sc ar sg = some (r, sc', sg') ∧ fX8_readSegment msc mar = some (msc', pl mar P) ∧ (∀ k, k ∉ [13, 14, 21] → sc' k = sc k) ∧ (∀ k, k ∉ [3, 4, 5, 6] → msc' k = msc k) ∧
      ((r = 1 ∧ ∃ b ss sp q : Nat, SEG b ss sp sl mm sg' ∧ p < q ∧ q ≤ dl ∧ P = nI q ∧ sc' 21 = nI q ∧ sc' 13 = nI sp ∧ sc' 14 = nI ss ∧ msc' 4 = nI b ∧ msc' 5 = nI ss ∧ msc' 6 = nI sp ∧ msc' 3 = 0) ∨ (r = 0 ∧ msc' 3 = 1)) := by
  obtain ⟨hd, ⟨a1, a2, a3, a4⟩, ⟨b1, b2, b3, b4, b5⟩, ⟨c1, c2, c3, c4, c5⟩, d1, h3⟩ := h
  have h1 := hd.1
  have nx : fX8_next msc mar (3 : Int32) = some (nI (db p), msc, pl mar (nI (p + 1))) := by
    have := m3_byte (msc := msc) hd c4 hp
    rw [pl_id c3] at this; exact this
  have hb := (hd.2 p hp).2.2
  have z0 : (0 : Int32).toNatClampNeg = 0 := by decide
  have z4 : (4 : Int32).toNatClampNeg = 4 := by decide
  rw [fX2_readSegment, c1, c2, x_byte hd (Nat.le_refl _) hp, Option.bind_some, fX8_readSegment, nx, Option.bind_some]
  dsimp only
  rw [if_pos h3]
  obtain ⟨c, hc⟩ : ∃ c, db p = c := ⟨_, rfl⟩
  rw [hc] at hb ⊢
  have i0 : inb (0 : Int32) 5 = true := by decide
  have i4 : inb (4 : Int32) 5 = true := by decide
  rcases (show c = 0 ∨ c = 1 ∨ c = 2 ∨ 3 ≤ c by omega) with e | e | e | e
  · subst e
    rw [if_neg (show ¬ nI 0 = (2 : Int32) by decide), if_pos (show nI 0 = (0 : Int32) from rfl), if_pos (show nI 0 ≤ (2 : Int32) by decide), Option.bind_some, if_pos (show b01 (0 : Int32) = true by decide), if_pos (show nI 0 ≤ (0 : Int32) by decide)]
    exact ⟨1, _, _, _, _, rfl, rfl, fun k hk => by rw [up_nin (by decide) hk, up_nin (by decide) hk, up_nin (by decide) hk], fun k hk => by rw [up_nin (by decide) hk, up_nin (by decide) hk, up_nin (by decide) hk, up_nin (by decide) hk], Or.inl ⟨rfl, 0, 0, 0, p + 1, ⟨by omega, fun _ => rfl, fun q => by omega, fun q => by omega⟩, by omega, hp, rfl, rfl, rfl, rfl, rfl, rfl, rfl, rfl⟩⟩
  · subst e
    rw [if_neg (show ¬ nI 1 = (2 : Int32) by decide), if_neg (show ¬ nI 1 = (0 : Int32) by decide), if_pos (show nI 1 = (1 : Int32) from rfl), if_pos (show nI 1 ≤ (2 : Int32) by decide), Option.bind_some, if_pos (show b01 (0 : Int32) = true by decide), if_neg (show ¬ nI 1 ≤ (0 : Int32) by decide), if_pos (show (0 : Int32) = 0 from rfl)]
    rcases two_rd (ct := sc 2) hd c4 (show p + 1 ≤ dl by omega) with ⟨v, q1, w, q2, v1, w1, v2, v3, v4, x1, x2, x3⟩ | ⟨a, P, b, P', x1, x2, x3, x4⟩
    · obtain ⟨y1, _⟩ := x3 (va_up (va_up (va_up (va_up msc 4 (nI 1)) 5 0) 6 0) 3 0) rfl
      obtain ⟨_, y2⟩ := x3 (va_up (va_up (va_up (va_up (va_up msc 4 (nI 1)) 5 0) 6 0) 3 0) 5 (nI v)) rfl
      have hX : lg_cmp ((nI w).toInt64 + (nI v).toInt64) (sc 0).toInt64 ≤ 0 ↔ w + v ≤ sl := by
        rw [lg_cmp_le, a1, nI_l w1, nI_l v1, nI_l (by omega), lN_add, pk_lLE (by omega) (by omega)]
      have hM : lg_cmp (((va_up (va_up (va_up (va_up (va_up msc 4 (nI 1)) 5 0) 6 0) 3 0) 5 (nI v)) 5).toInt64 + (nI w).toInt64) ((pl mar (nI q2)) 1 0).toInt64 ≤ 0 ↔ w + v ≤ sl := by
        show lg_cmp ((nI v).toInt64 + (nI w).toInt64) (mar 1 0).toInt64 ≤ 0 ↔ _
        rw [lg_cmp_le, a4, nI_l w1, nI_l v1, nI_l (by omega), lN_add, pk_lLE (by omega) (by omega)]; omega
      rw [x1, Option.bind_some]; dsimp only
      rw [x2, Option.bind_some, y1, Option.bind_some]; dsimp only
      rw [y2, Option.bind_some, if_neg (nI_ne_m1 v1), if_neg (nI_ne_m1 w1), if_neg (show ¬ false = true by decide), fX6_count, Option.bind_some]
      dsimp only
      rw [if_pos (show (va_up (va_up (va_up (va_up (va_up msc 4 (nI 1)) 5 0) 6 0) 3 0) 5 (nI v)) 3 = 0 from rfl), if_pos (show (va_up (va_up (va_up (va_up (va_up msc 4 (nI 1)) 5 0) 6 0) 3 0) 5 (nI v)) 4 = (1 : Int32) from rfl), if_pos i0, z0]
      by_cases hle : w + v ≤ sl
      · rw [if_pos (hX.mpr hle), if_pos (hM.mpr hle)]
        exact ⟨1, _, _, _, _, rfl, rfl, fun k hk => by rw [up_nin (by decide) hk, up_nin (by decide) hk, up_nin (by decide) hk, up_nin (by decide) hk, up_nin (by decide) hk, up_nin (by decide) hk, up_nin (by decide) hk], fun k hk => by rw [up_nin (by decide) hk, up_nin (by decide) hk, up_nin (by decide) hk, up_nin (by decide) hk, up_nin (by decide) hk, up_nin (by decide) hk, up_nin (by decide) hk], Or.inl ⟨rfl, 1, v, w, q2, ⟨by omega, fun q => by omega, fun _ => ⟨hle, rfl⟩, fun q => by omega⟩, by omega, v4, rfl, rfl, rfl, rfl, rfl, rfl, rfl, rfl⟩⟩
      · rw [if_neg (fun q => hle (hX.mp q)), if_neg (fun q => hle (hM.mp q))]
        exact ⟨0, _, _, _, _, rfl, rfl, fun k hk => by rw [up_nin (by decide) hk, up_nin (by decide) hk, up_nin (by decide) hk, up_nin (by decide) hk, up_nin (by decide) hk], fun k hk => by rw [up_nin (by decide) hk, up_nin (by decide) hk, up_nin (by decide) hk, up_nin (by decide) hk, up_nin (by decide) hk, up_nin (by decide) hk, up_nin (by decide) hk], Or.inr ⟨rfl, rfl⟩⟩
    · obtain ⟨x, y, m1, m2, Q1, Q2, y1, y2, y3, y4, y5⟩ := x4 (va_up (va_up (va_up (va_up msc 4 (nI 1)) 5 0) 6 0) 3 0) (fun x m => va_up m 5 x) rfl (fun _ _ => rfl)
      rw [x1, Option.bind_some]; dsimp only
      rw [x2, Option.bind_some, y1, Option.bind_some]; dsimp only
      rw [y2, Option.bind_some]; dsimp only
      rw [if_neg (show ¬ m2 3 = 0 by rw [y3]; decide)]
      refine ⟨0, va_up (va_up (va_up (va_up (va_up sc 21 (nI (p + 1))) 13 0) 14 0) 21 P) 21 P', false, va_up (va_up m2 6 y) 3 1, Q2, ?_, rfl, ?_, fun k hk => ?_, Or.inr ⟨rfl, rfl⟩⟩
      · rcases x3 with e | e
        · rw [if_pos e]
        · by_cases ea : a = -1
          · rw [if_pos ea]
          · rw [if_neg ea, if_pos e]
      · exact fun k hk => by rw [up_nin (by decide) hk, up_nin (by decide) hk, up_nin (by decide) hk, up_nin (by decide) hk, up_nin (by decide) hk]
      · rw [up_nin (by decide) hk, up_nin (by decide) hk, y5 k (fun e => hk (by subst e; decide)), up_nin (by decide) hk, y4 k (fun e => hk (by subst e; decide)), up_nin (by decide) hk, up_nin (by decide) hk, up_nin (by decide) hk, up_nin (by decide) hk]
  · subst e
    rw [if_pos (show nI 2 = (2 : Int32) from rfl), if_neg (show ¬ nI 2 = (0 : Int32) by decide), if_neg (show ¬ nI 2 = (1 : Int32) by decide), if_pos (show nI 2 = (2 : Int32) from rfl), if_pos (show nI 2 ≤ (2 : Int32) by decide), Option.bind_some, if_pos (show b01 (0 : Int32) = true by decide), if_neg (show ¬ nI 2 ≤ (0 : Int32) by decide), if_pos (show (0 : Int32) = 0 from rfl)]
    rcases two_rd (ct := sc 2) hd c4 (show p + 1 ≤ dl by omega) with ⟨v, q1, w, q2, v1, w1, v2, v3, v4, x1, x2, x3⟩ | ⟨a, P, b, P', x1, x2, x3, x4⟩
    · obtain ⟨y1, _⟩ := x3 (va_up (va_up (va_up (va_up msc 4 (nI 2)) 5 0) 6 0) 3 0) rfl
      obtain ⟨_, y2⟩ := x3 (va_up (va_up (va_up (va_up (va_up msc 4 (nI 2)) 5 0) 6 0) 3 0) 5 (nI v)) rfl
      have hX : lg_cmp ((nI w).toInt64 + (nI v).toInt64) (sc 9).toInt64 ≤ 0 ↔ w + v ≤ mm := by
        rw [lg_cmp_le, b1, nI_l w1, nI_l v1, nI_l (by omega), lN_add, pk_lLE (by omega) (by omega)]
      have hM : lg_cmp (((va_up (va_up (va_up (va_up (va_up msc 4 (nI 2)) 5 0) 6 0) 3 0) 5 (nI v)) 5).toInt64 + (nI w).toInt64) ((pl mar (nI q2)) 1 4).toInt64 ≤ 0 ↔ w + v ≤ mm := by
        show lg_cmp ((nI v).toInt64 + (nI w).toInt64) (mar 1 4).toInt64 ≤ 0 ↔ _
        rw [lg_cmp_le, b2, nI_l w1, nI_l v1, nI_l (by omega), lN_add, pk_lLE (by omega) (by omega)]; omega
      rw [x1, Option.bind_some]; dsimp only
      rw [x2, Option.bind_some, y1, Option.bind_some]; dsimp only
      rw [y2, Option.bind_some, if_neg (nI_ne_m1 v1), if_neg (nI_ne_m1 w1), if_pos rfl, fX6_count, Option.bind_some]
      dsimp only
      rw [if_pos (show (va_up (va_up (va_up (va_up (va_up msc 4 (nI 2)) 5 0) 6 0) 3 0) 5 (nI v)) 3 = 0 from rfl), if_neg (show ¬ (va_up (va_up (va_up (va_up (va_up msc 4 (nI 2)) 5 0) 6 0) 3 0) 5 (nI v)) 4 = (1 : Int32) by show ¬ nI 2 = (1 : Int32); decide), if_pos i4, z4]
      by_cases hle : w + v ≤ mm
      · rw [if_pos (hX.mpr hle), if_pos (hM.mpr hle)]
        exact ⟨1, _, _, _, _, rfl, rfl, fun k hk => by rw [up_nin (by decide) hk, up_nin (by decide) hk, up_nin (by decide) hk, up_nin (by decide) hk, up_nin (by decide) hk, up_nin (by decide) hk, up_nin (by decide) hk], fun k hk => by rw [up_nin (by decide) hk, up_nin (by decide) hk, up_nin (by decide) hk, up_nin (by decide) hk, up_nin (by decide) hk, up_nin (by decide) hk, up_nin (by decide) hk], Or.inl ⟨rfl, 2, v, w, q2, ⟨by omega, fun q => by omega, fun q => by omega, fun _ => ⟨hle, rfl⟩⟩, by omega, v4, rfl, rfl, rfl, rfl, rfl, rfl, rfl, rfl⟩⟩
      · rw [if_neg (fun q => hle (hX.mp q)), if_neg (fun q => hle (hM.mp q))]
        exact ⟨0, _, _, _, _, rfl, rfl, fun k hk => by rw [up_nin (by decide) hk, up_nin (by decide) hk, up_nin (by decide) hk, up_nin (by decide) hk, up_nin (by decide) hk], fun k hk => by rw [up_nin (by decide) hk, up_nin (by decide) hk, up_nin (by decide) hk, up_nin (by decide) hk, up_nin (by decide) hk, up_nin (by decide) hk, up_nin (by decide) hk], Or.inr ⟨rfl, rfl⟩⟩
    · obtain ⟨x, y, m1, m2, Q1, Q2, y1, y2, y3, y4, y5⟩ := x4 (va_up (va_up (va_up (va_up msc 4 (nI 2)) 5 0) 6 0) 3 0) (fun x m => va_up m 5 x) rfl (fun _ _ => rfl)
      rw [x1, Option.bind_some]; dsimp only
      rw [x2, Option.bind_some, y1, Option.bind_some]; dsimp only
      rw [y2, Option.bind_some]; dsimp only
      rw [if_neg (show ¬ m2 3 = 0 by rw [y3]; decide)]
      refine ⟨0, va_up (va_up (va_up (va_up (va_up sc 21 (nI (p + 1))) 13 0) 14 0) 21 P) 21 P', true, va_up (va_up m2 6 y) 3 1, Q2, ?_, rfl, ?_, fun k hk => ?_, Or.inr ⟨rfl, rfl⟩⟩
      · rcases x3 with e | e
        · rw [if_pos e]
        · by_cases ea : a = -1
          · rw [if_pos ea]
          · rw [if_neg ea, if_pos e]
      · exact fun k hk => by rw [up_nin (by decide) hk, up_nin (by decide) hk, up_nin (by decide) hk, up_nin (by decide) hk, up_nin (by decide) hk]
      · rw [up_nin (by decide) hk, up_nin (by decide) hk, y5 k (fun e => hk (by subst e; decide)), up_nin (by decide) hk, y4 k (fun e => hk (by subst e; decide)), up_nin (by decide) hk, up_nin (by decide) hk, up_nin (by decide) hk, up_nin (by decide) hk]
  · rw [if_neg (show ¬ nI c = (2 : Int32) by rw [L2, nI_eq (by omega) (by omega)]; omega), if_neg (show ¬ nI c = (0 : Int32) by rw [L0, nI_eq (by omega) (by omega)]; omega), if_neg (show ¬ nI c = (1 : Int32) by rw [L1, nI_eq (by omega) (by omega)]; omega), if_neg (show ¬ nI c = (2 : Int32) by rw [L2, nI_eq (by omega) (by omega)]; omega), if_neg (show ¬ nI c ≤ (2 : Int32) by rw [L2, nI_leI (by omega) (by omega)]; omega), Option.bind_some, if_pos (show b01 (1 : Int32) = true by decide), if_neg (show ¬ nI c ≤ (0 : Int32) by rw [L0, nI_leI (by omega) (by omega)]; omega), if_neg (show ¬ (1 : Int32) = 0 by decide)]
    exact ⟨0, _, _, _, _, rfl, rfl, fun k hk => by rw [up_nin (by decide) hk, up_nin (by decide) hk, up_nin (by decide) hk], fun k hk => by rw [up_nin (by decide) hk, up_nin (by decide) hk, up_nin (by decide) hk, up_nin (by decide) hk], Or.inr ⟨rfl, rfl⟩⟩
