/-! PURE: a window's head, whole -/
theorem three_rd {dl q : Nat} {db : Nat → Nat} {f : Nat → Int32} {ct : Int32} {mar : Nat → Nat → Int32} (h : DLT dl db f (mar 0)) (h11 : mar 11 3 = nI dl) (hq : q ≤ dl) :
    (∃ v q1 w q2 u q3 : Nat, v < 2 ^ 31 ∧ w < 2 ^ 31 ∧ u < 2 ^ 31 ∧ q < q3 ∧ q3 ≤ dl ∧ fX5_nextInteger 1000 (nI q) (nI dl) f ct = some (nI v, nI q1) ∧ fX5_nextInteger 1000 (nI q1) (nI dl) f ct = some (nI w, nI q2) ∧ fX5_nextInteger 1000 (nI q2) (nI dl) f ct = some (nI u, nI q3) ∧ (∀ m : Nat → Int32, m 3 = 0 → fX8_nextInteger m (pl mar (nI q)) 3 = some (nI v, m, pl mar (nI q1)) ∧ fX8_nextInteger m (pl mar (nI q1)) 3 = some (nI w, m, pl mar (nI q2)) ∧ fX8_nextInteger m (pl mar (nI q2)) 3 = some (nI u, m, pl mar (nI q3)))) ∨
    (∃ a P b P' c P'' : Int32, fX5_nextInteger 1000 (nI q) (nI dl) f ct = some (a, P) ∧ fX5_nextInteger 1000 P (nI dl) f ct = some (b, P') ∧ fX5_nextInteger 1000 P' (nI dl) f ct = some (c, P'') ∧ (a = -1 ∨ b = -1 ∨ c = -1) ∧ (∀ (m : Nat → Int32), m 3 = 0 → ∃ (x y z : Int32) (m1 m2 m3 : Nat → Int32) (Q1 Q2 Q3 : Int32), fX8_nextInteger m (pl mar (nI q)) 3 = some (x, m1, pl mar Q1) ∧ fX8_nextInteger m1 (pl mar Q1) 3 = some (y, m2, pl mar Q2) ∧ fX8_nextInteger m2 (pl mar Q2) 3 = some (z, m3, pl mar Q3) ∧ m3 3 = 1 ∧ (∀ k, k ≠ 3 → m3 k = m k))) := by
  have h1 := h.1
  rcases two_rd (ct := ct) h h11 hq with ⟨v, q1, w, q2, v1, w1, v2, v3, v4, x1, x2, x3⟩ | ⟨a, P, b, P', x1, x2, x3, x4⟩
  · rcases hr : ri db dl 5 0 q2 with _ | ⟨u, q3⟩
    · obtain ⟨P, hP⟩ := (x_integer (ct := ct) h (Nat.le_refl _) v4).2 hr
      refine Or.inr ⟨_, _, _, _, -1, P, x1, x2, hP, Or.inr (Or.inr rfl), fun m m3 => ?_⟩
      obtain ⟨y1, y2⟩ := x3 m m3
      obtain ⟨Q, hQ⟩ := m3_int_no h h11 m3 v4 hr
      exact ⟨_, _, _, _, _, _, _, _, _, y1, y2, hQ, rfl, fun k hk => by rw [up_ap, if_neg hk]⟩
    · obtain ⟨u1, u2, u3⟩ := ri_b hr
      have hP := (x_integer (ct := ct) h (Nat.le_refl _) v4).1 u q3 hr
      exact Or.inl ⟨v, q1, w, q2, u, q3, v1, w1, by omega, by omega, u3, x1, x2, hP, fun m m3 => ⟨(x3 m m3).1, (x3 m m3).2, m3_int h h11 m3 v4 hr⟩⟩
  · obtain ⟨c, P'', hc⟩ := x_int_tot (P := P') (en := nI dl) (f := f) (ct := ct)
    refine Or.inr ⟨a, P, b, P', c, P'', x1, x2, hc, ?_, fun m m3 => ?_⟩
    · rcases x3 with e | e
      · exact Or.inl e
      · exact Or.inr (Or.inl e)
    · obtain ⟨x, y, m1, m2, Q1, Q2, y1, y2, y3, y4, y5⟩ := x4 m (fun _ m => m) m3 (fun _ _ => rfl)
      exact ⟨x, y, 0, m1, m2, m2, Q1, Q2, Q2, y1, y2, m3_bad y3, y3, fun k hk => by rw [y5 k hk, y4 k hk]⟩
theorem nest7 (A : Nat → Nat → Int32) (X1 Y1 X2 Y2 X3 Y3 X4 : Nat → Int32) : va_up (va_up (va_up (va_up (va_up (va_up (va_up A 10 X1) 11 Y1) 10 X2) 11 Y2) 10 X3) 11 Y3) 10 X4 = va_up (va_up A 11 Y3) 10 X4 := by
  funext k
  simp only [up_ap]
  by_cases h1 : k = 10
  · subst h1; rfl
  · by_cases h2 : k = 11
    · subst h2; rfl
    · simp only [h1, h2, if_false]
/-- X: the parts -/
theorem x_parts {dl q fr fo v w u q1 q2 q3 : Nat} {db : Nat → Nat} {sg : Bool} {sc : Nat → Int32} {ar : Nat → Nat → Int32} {g : Nat → Int32} (hd : DLT dl db (ar 2) g) (hq : q < dl) (h21 : sc 21 = nI q) (h22 : sc 22 = nI dl) (h2 : sc 2 = nI dl) (hb : db q = 0) (hv : v < 2 ^ 31) (hw : w < 2 ^ 31) (hu : u < 2 ^ 31) (hf : fr ≤ q3) (hfo : fo < 2 ^ 31) (h3 : q3 ≤ dl)
    (x1 : fX5_nextInteger 1000 (nI (q + 1)) (nI dl) (ar 2) (nI dl) = some (nI v, nI q1)) (x2 : fX5_nextInteger 1000 (nI q1) (nI dl) (ar 2) (nI dl) = some (nI w, nI q2)) (x3 : fX5_nextInteger 1000 (nI q2) (nI dl) (ar 2) (nI dl) = some (nI u, nI q3)) :
    fX2_readParts sc ar sg (nI fr) (nI fo) = if v + w + u + q3 - fr = fo ∧ v + w + u ≤ dl - q3 then some ((1 : Int32), (va_up (va_up (va_up (va_up (va_up (va_up (va_up (va_up (va_up (va_up (va_up (va_up sc 21 (nI (q + 1))) 21 (nI q1)) 21 (nI q2)) 21 (nI q3)) 23 (nI q3)) 24 (nI (q3 + v))) 25 (nI (q3 + v))) 26 (nI (q3 + v + w))) 27 (nI (q3 + v + w))) 28 (nI (q3 + v + w + u))) 21 (nI (q3 + (v + w + u)))) 22 (nI dl))) else some ((0 : Int32), (va_up (va_up (va_up (va_up sc 21 (nI (q + 1))) 21 (nI q1)) 21 (nI q2)) 21 (nI q3))) := by
  have h1 := hd.1
  rw [fX2_readParts, h21, h22, h2, x_byte hd (Nat.le_refl _) hq, Option.bind_some, hb, if_pos (show nI 0 = (0 : Int32) from rfl)]
  dsimp only
  rw [x1, Option.bind_some]; dsimp only
  rw [x2, Option.bind_some]; dsimp only
  rw [x3, Option.bind_some, if_neg (nI_ne_m1 hv), if_neg (nI_ne_m1 hw), if_neg (nI_ne_m1 hu), fX5_place, Option.bind_some]
  dsimp only
  have e1 : (lg_cmp (((((nI v).toInt64 + (nI w).toInt64) + (nI u).toInt64) + (nI q3).toInt64) - (nI fr).toInt64) (nI fo).toInt64) = 0 ↔ v + w + u + q3 - fr = fo := by
    rw [lg_cmp_eq, nI_l hv, nI_l hw, nI_l hu, nI_l (by omega), nI_l (by omega), nI_l hfo, lN_add, lN_add, lN_add, lN_sub (by omega), pk_lEQ (by omega) (by omega)]
  have e2 : (lg_cmp (((nI v).toInt64 + (nI w).toInt64) + (nI u).toInt64) (nI dl - nI q3).toInt64) ≤ 0 ↔ v + w + u ≤ dl - q3 := by
    rw [lg_cmp_le, pk_sub h3, nI_l hv, nI_l hw, nI_l hu, nI_l (by omega), lN_add, lN_add, pk_lLE (by omega) (by omega)]
  by_cases c1 : v + w + u + q3 - fr = fo
  · rw [if_pos (e1.mpr c1), fX5_left, Option.bind_some]
    by_cases c2 : v + w + u ≤ dl - q3
    · rw [if_pos (e2.mpr c2), if_pos ⟨c1, c2⟩, Option.bind_some, nI_add, nI_add, x_open (by omega) h1, Option.bind_some, x_open (by omega) h1, Option.bind_some, x_open (by omega) h1, Option.bind_some, nI_l hv, nI_l hw, nI_l hu, lN_add, lN_add, lN_i, nI_add, x_open_all (by omega) h1, Option.bind_some]
    · rw [if_neg (fun z => c2 (e2.mp z)), if_neg (fun z => c2 z.2)]
  · rw [if_neg (fun z => c1 (e1.mp z)), if_neg (fun z => c1 z.1)]
theorem x_parts_no {dl q fr fo : Nat} {db : Nat → Nat} {sg : Bool} {sc : Nat → Int32} {ar : Nat → Nat → Int32} {g : Nat → Int32} {a P b P' c P'' : Int32} (hd : DLT dl db (ar 2) g) (hq : q < dl) (h21 : sc 21 = nI q) (h22 : sc 22 = nI dl) (h2 : sc 2 = nI dl) (hb : db q = 0)
    (x1 : fX5_nextInteger 1000 (nI (q + 1)) (nI dl) (ar 2) (nI dl) = some (a, P)) (x2 : fX5_nextInteger 1000 P (nI dl) (ar 2) (nI dl) = some (b, P')) (x3 : fX5_nextInteger 1000 P' (nI dl) (ar 2) (nI dl) = some (c, P'')) (hn : a = -1 ∨ b = -1 ∨ c = -1) :
    fX2_readParts sc ar sg (nI fr) (nI fo) = some ((0 : Int32), (va_up (va_up (va_up (va_up sc 21 (nI (q + 1))) 21 P) 21 P') 21 P'')) := by
  rw [fX2_readParts, h21, h22, h2, x_byte hd (Nat.le_refl _) hq, Option.bind_some, hb, if_pos (show nI 0 = (0 : Int32) from rfl)]
  dsimp only
  rw [x1, Option.bind_some]; dsimp only
  rw [x2, Option.bind_some]; dsimp only
  rw [x3, Option.bind_some]; dsimp only
  by_cases ha : a = -1
  · rw [if_pos ha]
  · rw [if_neg ha]
    by_cases hb : b = -1
    · rw [if_pos hb]
    · rw [if_neg hb]
      by_cases hc : c = -1
      · rw [if_pos hc]
      · rcases hn with e | e | e
        · exact absurd e ha
        · exact absurd e hb
        · exact absurd e hc
