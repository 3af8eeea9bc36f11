/-! PURE: reading a window's head, both sides -/
theorem x_byte_tot {P en : Int32} {f : Nat → Int32} {ct : Int32} : ∃ a b : Int32, fX5_nextByte 1000 P en f ct = some (a, b) := by
  rw [fX5_nextByte]
  by_cases h1 : P < 0
  · rw [if_pos h1]; exact ⟨_, _, rfl⟩
  rw [if_neg h1]
  by_cases h2 : en ≤ P
  · rw [if_pos h2]; exact ⟨_, _, rfl⟩
  rw [if_neg h2]
  by_cases h3 : P < nI 1000
  · obtain ⟨j, hj, rfl⟩ := nI_of2 (M := nI 1000) (n := 1000) (by decide) h1 (by
      rw [Int32.le_iff_toInt_le]; rw [Int32.lt_iff_toInt_lt] at h3; omega)
    rw [if_pos h3, if_pos (by rw [nI_ltI (by omega) (by omega)] at h3; rw [inb_nI (by omega)]; exact h3)]; exact ⟨_, _, rfl⟩
  · rw [if_neg h3]; exact ⟨_, _, rfl⟩
theorem x_int_tot_L {en : Int32} {f : Nat → Int32} {ct : Int32} : ∀ (j i k : Nat) (v : Int64) (P : Int32), i + j = 5 → j < k → ∃ R, fX5_nextInteger_L4 1000 en f ct k v (nI i) P = some R
  | 0, i, k + 1, v, P, hi, _ => by
    have e : i = 5 := by omega
    subst e
    rw [fX5_nextInteger_L4, if_pos (by decide)]; exact ⟨_, rfl⟩
  | j + 1, i, k + 1, v, P, hi, hk => by
    obtain ⟨a, b, e⟩ := x_byte_tot (P := P) (en := en) (f := f) (ct := ct)
    rw [fX5_nextInteger_L4, if_neg (by rw [L5, nI_leI (by omega) (by omega)]; omega), e, Option.bind_some]
    dsimp only
    by_cases h1 : a = -1
    · rw [if_pos h1]; exact ⟨_, rfl⟩
    rw [if_neg h1]
    by_cases h2 : (128 : Int32) ≤ a
    · rw [if_pos h2, nI_1]
      exact x_int_tot_L j (i + 1) k _ _ (by omega) (by omega)
    rw [if_neg h2]
    split <;> exact ⟨_, rfl⟩
  | j, i, 0, v, P, hi, hk => by omega
theorem x_int_tot {P en : Int32} {f : Nat → Int32} {ct : Int32} : ∃ a b : Int32, fX5_nextInteger 1000 P en f ct = some (a, b) := by
  obtain ⟨R, e⟩ := x_int_tot_L (en := en) (f := f) (ct := ct) 5 0 FU 0 P (by omega) (by rw [FUv]; omega)
  have e' : fX5_nextInteger_L4 1000 en f ct FU 0 0 P = some R := e
  rw [fX5_nextInteger, e', Option.bind_some]
  rcases R with R | R
  · exact ⟨_, _, rfl⟩
  · exact ⟨_, _, rfl⟩
/-- the model's rows with the whole reader at a place -/
def pl (mar : Nat → Nat → Int32) (x : Int32) : Nat → Nat → Int32 := va_up mar 10 (upd (mar 10) 3 x)
theorem pl_id {mar : Nat → Nat → Int32} {x : Int32} (h : mar 10 3 = x) : pl mar x = mar := by unfold pl; rw [upd_id h, up_id rfl]
theorem pl_pl (mar : Nat → Nat → Int32) (x y : Int32) : va_up (pl mar x) 10 (upd (pl mar x 10) 3 y) = pl mar y := by
  unfold pl; rw [up_up, show (va_up mar 10 (upd (mar 10) 3 x)) 10 = upd (mar 10) 3 x from rfl, upd_upd]
theorem pl_10 (mar : Nat → Nat → Int32) (x : Int32) : pl mar x 10 3 = x := by show upd (mar 10) 3 x 3 = x; rw [upd_s]
theorem pl_n {mar : Nat → Nat → Int32} {x : Int32} {k : Nat} (h : k ≠ 10) : pl mar x k = mar k := by unfold pl; rw [up_ap, if_neg h]
theorem pl_10n {mar : Nat → Nat → Int32} {x : Int32} {j : Nat} (h : j ≠ 3) : pl mar x 10 j = mar 10 j := by show upd (mar 10) 3 x j = _; rw [upd_n h]
theorem m3_byte {dl q : Nat} {db : Nat → Nat} {f : Nat → Int32} {msc : Nat → Int32} {mar : Nat → Nat → Int32} (h : DLT dl db f (mar 0)) (h11 : mar 11 3 = nI dl) (hq : q < dl) : fX8_next msc (pl mar (nI q)) (3 : Int32) = some (nI (db q), msc, pl mar (nI (q + 1))) := by
  have := m_byte (msc := msc) (mar := pl mar (nI q)) (s := 3) (p := q) (e := dl) (dl := dl) (db := db) (f := f) h (by omega) (by omega) (pl_10 _ _) h11 hq
  rw [pl_pl] at this
  exact this
theorem m3_byte_no {dl q : Nat} {db : Nat → Nat} {f : Nat → Int32} {msc : Nat → Int32} {mar : Nat → Nat → Int32} (h : DLT dl db f (mar 0)) (h11 : mar 11 3 = nI dl) (hq : dl ≤ q) (hb : q < 2 ^ 30) : fX8_next msc (pl mar (nI q)) (3 : Int32) = some (0, va_up msc 3 1, pl mar (nI q)) :=
  m_byte_no (msc := msc) (mar := pl mar (nI q)) (s := 3) (p := q) (e := dl) (by omega) (pl_10 _ _) h11 hq hb
theorem m3_int {dl q v q' : Nat} {db : Nat → Nat} {f : Nat → Int32} {msc : Nat → Int32} {mar : Nat → Nat → Int32} (h : DLT dl db f (mar 0)) (h11 : mar 11 3 = nI dl) (h3 : msc 3 = 0) (hq : q ≤ dl) (hr : ri db dl 5 0 q = some (v, q')) : fX8_nextInteger msc (pl mar (nI q)) (3 : Int32) = some (nI v, msc, pl mar (nI q')) := by
  have := (m_integer (msc := msc) (mar := pl mar (nI q)) (s := 3) (p := q) (e := dl) (dl := dl) (db := db) (f := f) h (by omega) (by omega) (pl_10 _ _) h11 h3 hq).1 v q' hr
  rw [pl_pl] at this
  exact this
theorem m3_int_no {dl q : Nat} {db : Nat → Nat} {f : Nat → Int32} {msc : Nat → Int32} {mar : Nat → Nat → Int32} (h : DLT dl db f (mar 0)) (h11 : mar 11 3 = nI dl) (h3 : msc 3 = 0) (hq : q ≤ dl) (hr : ri db dl 5 0 q = none) : ∃ P : Int32, fX8_nextInteger msc (pl mar (nI q)) (3 : Int32) = some (0, va_up msc 3 1, pl mar P) := by
  obtain ⟨mar', ⟨f1, f2, p, f3, f4⟩, e⟩ := (m_integer (msc := msc) (mar := pl mar (nI q)) (s := 3) (p := q) (e := dl) (dl := dl) (db := db) (f := f) h (by omega) (by omega) (pl_10 _ _) h11 h3 hq).2 hr
  refine ⟨nI p, ?_⟩
  have e' : fX8_nextInteger msc (pl mar (nI q)) (3 : Int32) = some (0, va_up msc 3 1, mar') := e
  rw [e']
  congr 3
  funext k
  by_cases hk : k = 10
  · subst hk
    funext j
    by_cases hj : j = 3
    · subst hj; rw [f4, pl_10]
    · rw [f2 j hj, pl_10n hj, pl_10n hj]
  · rw [f1 k hk, pl_n hk, pl_n hk]
theorem m3_bad {msc : Nat → Int32} {mar : Nat → Nat → Int32} {x : Int32} (h3 : msc 3 = 1) : fX8_nextInteger msc mar x = some (0, msc, mar) := m_integer_bad h3
theorem x_open {dl fr sz : Nat} {p e : Int32} {f : Nat → Int32} (h : fr + sz ≤ dl) (hd : dl ≤ 1000) : fX5_open 1000 p e f (nI dl) (nI fr) (nI sz) = some (nI fr, nI (fr + sz)) := by
  rw [fX5_open]
  have e1 : (if nI dl < nI fr then nI dl else nI fr) = nI fr := by rw [if_neg (by rw [nI_ltI (by omega) (by omega)]; omega)]
  have e2 : (if (0 : Int32) < nI fr then nI fr else (0 : Int32)) = nI fr := by
    by_cases h0 : fr = 0
    · subst h0; rfl
    · rw [if_pos (by rw [L0, nI_ltI (by omega) (by omega)]; omega)]
  have e3 : (if nI (dl - fr) < nI sz then nI (dl - fr) else nI sz) = nI sz := by rw [if_neg (by rw [nI_ltI (by omega) (by omega)]; omega)]
  have e4 : (if (0 : Int32) < nI sz then nI sz else (0 : Int32)) = nI sz := by
    by_cases h0 : sz = 0
    · subst h0; rfl
    · rw [if_pos (by rw [L0, nI_ltI (by omega) (by omega)]; omega)]
  rw [e1, e2, pk_sub (by omega), e3, e4, nI_add]
theorem x_open_all {dl fr : Nat} {p e : Int32} {f : Nat → Int32} (h : fr ≤ dl) (hd : dl ≤ 1000) : fX5_open 1000 p e f (nI dl) (nI fr) (1000 : Int32) = some (nI fr, nI dl) := by
  rw [fX5_open, L1000]
  have e1 : (if nI dl < nI fr then nI dl else nI fr) = nI fr := by rw [if_neg (by rw [nI_ltI (by omega) (by omega)]; omega)]
  have e2 : (if (0 : Int32) < nI fr then nI fr else (0 : Int32)) = nI fr := by
    by_cases h0 : fr = 0
    · subst h0; rfl
    · rw [if_pos (by rw [L0, nI_ltI (by omega) (by omega)]; omega)]
  have e3 : (if nI (dl - fr) < nI 1000 then nI (dl - fr) else nI 1000) = nI (dl - fr) := by
    by_cases h0 : dl - fr = 1000
    · rw [h0]; rfl
    · rw [if_pos (by rw [nI_ltI (by omega) (by omega)]; omega)]
  have e4 : (if (0 : Int32) < nI (dl - fr) then nI (dl - fr) else (0 : Int32)) = nI (dl - fr) := by
    by_cases h0 : dl - fr = 0
    · rw [h0]; rfl
    · rw [if_pos (by rw [L0, nI_ltI (by omega) (by omega)]; omega)]
  rw [e1, e2, pk_sub (by omega), e3, e4, nI_add]
  congr 3; omega
/-- what decode leaves alone -/
def DF (sc sc' : Nat → Int32) (ar ar' : Nat → Nat → Int32) (msc msc' : Nat → Int32) (mar mar' : Nat → Nat → Int32) : Prop := (∀ k, k ∉ [9, 12, 13, 14, 15, 16, 18, 21, 22, 23, 24, 25, 26, 27, 28] → sc' k = sc k) ∧ (∀ k, k ∉ [9, 12, 13] → ar' k = ar k) ∧ (∀ k, k ∉ [1, 3, 4, 5, 6, 7, 8] → msc' k = msc k) ∧ (∀ k, k ∉ [0, 1, 2, 3, 10, 11] → mar' k = mar k) ∧ (∀ j, j < 4000 → mar' 0 j = mar 0 j) ∧ (∀ j, j ≠ 4 → mar' 1 j = mar 1 j)
theorem DF.rf {sc : Nat → Int32} {ar : Nat → Nat → Int32} {msc : Nat → Int32} {mar : Nat → Nat → Int32} : DF sc sc ar ar msc msc mar mar := ⟨fun _ _ => rfl, fun _ _ => rfl, fun _ _ => rfl, fun _ _ => rfl, fun _ _ => rfl, fun _ _ => rfl⟩
theorem DF.trans {sc s1 s2 : Nat → Int32} {ar a1 a2 : Nat → Nat → Int32} {msc m1 m2 : Nat → Int32} {mar r1 r2 : Nat → Nat → Int32} (h : DF sc s1 ar a1 msc m1 mar r1) (h2 : DF s1 s2 a1 a2 m1 m2 r1 r2) : DF sc s2 ar a2 msc m2 mar r2 :=
  ⟨fun k hk => (h2.1 k hk).trans (h.1 k hk), fun k hk => (h2.2.1 k hk).trans (h.2.1 k hk), fun k hk => (h2.2.2.1 k hk).trans (h.2.2.1 k hk), fun k hk => (h2.2.2.2.1 k hk).trans (h.2.2.2.1 k hk), fun j hj => (h2.2.2.2.2.1 j hj).trans (h.2.2.2.2.1 j hj), fun j hj => (h2.2.2.2.2.2 j hj).trans (h.2.2.2.2.2 j hj)⟩
theorem EF.df {sc sc' : Nat → Int32} {ar ar' : Nat → Nat → Int32} {msc msc' : Nat → Int32} {mar mar' : Nat → Nat → Int32} (h : EF sc sc' ar ar' msc msc' mar mar') : DF sc sc' ar ar' msc msc' mar mar' :=
  ⟨fun k hk => h.1 k (nin_sub (by decide) hk), fun k hk => h.2.1 k hk, fun k hk => h.2.2.1 k (nin_sub (by decide) hk), fun k hk => h.2.2.2.1 k (nin_sub (by decide) hk), h.2.2.2.2.1, h.2.2.2.2.2.1⟩
/-- between two windows -/
def BW (dl : Nat) (db : Nat → Nat) (sl mm p bd : Nat) (sc : Nat → Int32) (ar : Nat → Nat → Int32) (msc : Nat → Int32) (mar : Nat → Nat → Int32) : Prop :=
  DLT dl db (ar 2) (mar 0) ∧ (sc 0 = nI sl ∧ sl ≤ 48 ∧ SR (ar 0) sl (mar 0) 0 ∧ mar 1 0 = nI sl) ∧ (sc 9 = nI mm ∧ mar 1 4 = nI mm ∧ SR (ar 9) mm (mar 0) 4000 ∧ mm ≤ bd ∧ bd ≤ 400) ∧ (sc 21 = nI p ∧ sc 22 = nI dl ∧ mar 10 3 = nI p ∧ mar 11 3 = nI dl ∧ p ≤ dl) ∧ sc 2 = nI dl ∧ msc 3 = 0
def SEG (b ss sp sl mm : Nat) (sg : Bool) : Prop := b ≤ 2 ∧ (b = 0 → ss = 0) ∧ (b = 1 → sp + ss ≤ sl ∧ sg = false) ∧ (b = 2 → sp + ss ≤ mm ∧ sg = true)
/-- two integers, both sides -/
theorem two_rd {dl q : Nat} {db : Nat → Nat} {f : Nat → Int32} {ct : Int32} {mar : Nat → Nat → Int32} (h : DLT dl db f (mar 0)) (h11 : mar 11 3 = nI dl) (hq : q ≤ dl) :
    (∃ v q1 w q2 : Nat, v < 2 ^ 31 ∧ w < 2 ^ 31 ∧ q < q1 ∧ q1 < q2 ∧ q2 ≤ dl ∧ fX5_nextInteger 1000 (nI q) (nI dl) f ct = some (nI v, nI q1) ∧ fX5_nextInteger 1000 (nI q1) (nI dl) f ct = some (nI w, nI q2) ∧ (∀ m : Nat → Int32, m 3 = 0 → fX8_nextInteger m (pl mar (nI q)) 3 = some (nI v, m, pl mar (nI q1)) ∧ fX8_nextInteger m (pl mar (nI q1)) 3 = some (nI w, m, pl mar (nI q2)))) ∨
    (∃ a P b P' : Int32, fX5_nextInteger 1000 (nI q) (nI dl) f ct = some (a, P) ∧ fX5_nextInteger 1000 P (nI dl) f ct = some (b, P') ∧ (a = -1 ∨ b = -1) ∧ (∀ (m : Nat → Int32) (F : Int32 → (Nat → Int32) → Nat → Int32), m 3 = 0 → (∀ x m, F x m 3 = m 3) → ∃ (x y : Int32) (m1 m2 : Nat → Int32) (Q1 Q2 : Int32), fX8_nextInteger m (pl mar (nI q)) 3 = some (x, m1, pl mar Q1) ∧ fX8_nextInteger (F x m1) (pl mar Q1) 3 = some (y, m2, pl mar Q2) ∧ m2 3 = 1 ∧ (∀ k, k ≠ 3 → m1 k = m k) ∧ (∀ k, k ≠ 3 → m2 k = F x m1 k))) := by
  have h1 := h.1
  rcases hr : ri db dl 5 0 q with _ | ⟨v, q1⟩
  · obtain ⟨P, hP⟩ := (x_integer (ct := ct) h (Nat.le_refl _) hq).2 hr
    obtain ⟨b, P', hP'⟩ := x_int_tot (P := P) (en := nI dl) (f := f) (ct := ct)
    refine Or.inr ⟨-1, P, b, P', hP, hP', Or.inl rfl, fun m F m3 hF => ?_⟩
    obtain ⟨Q, hQ⟩ := m3_int_no h h11 m3 hq hr
    have hb : F 0 (va_up m 3 1) 3 = 1 := by rw [hF]; rfl
    exact ⟨0, 0, va_up m 3 1, F 0 (va_up m 3 1), Q, Q, hQ, m3_bad hb, hb, fun k hk => by rw [up_ap, if_neg hk], fun _ _ => rfl⟩
  · obtain ⟨v1, v2, v3⟩ := ri_b hr
    have hP := (x_integer (ct := ct) h (Nat.le_refl _) hq).1 v q1 hr
    rcases hr2 : ri db dl 5 0 q1 with _ | ⟨w, q2⟩
    · obtain ⟨P, hP'⟩ := (x_integer (ct := ct) h (Nat.le_refl _) v3).2 hr2
      refine Or.inr ⟨nI v, nI q1, -1, P, hP, hP', Or.inr rfl, fun m F m3 hF => ?_⟩
      obtain ⟨Q, hQ⟩ := m3_int_no (msc := F (nI v) m) h h11 (by rw [hF]; exact m3) v3 hr2
      exact ⟨nI v, 0, m, va_up (F (nI v) m) 3 1, nI q1, Q, m3_int h h11 m3 hq hr, hQ, rfl, fun _ _ => rfl, fun k hk => by rw [up_ap, if_neg hk]⟩
    · obtain ⟨w1, w2, w3⟩ := ri_b hr2
      have hP' := (x_integer (ct := ct) h (Nat.le_refl _) v3).1 w q2 hr2
      exact Or.inl ⟨v, q1, w, q2, by omega, by omega, v2, w2, w3, hP, hP', fun m m3 => ⟨m3_int h h11 m3 hq hr, m3_int h h11 m3 v3 hr2⟩⟩
