/-! PURE: the codes -/
def tb (k j : Nat) : Nat :=
  if k ≤ 18 then (if j = 0 then (if k = 0 then 2 else 1) else if j = 1 then k - 1 else 0)
  else if k ≤ 162 then (if j = 0 then 3 else if j = 1 then (if (k - 19) % 16 = 0 then 0 else 3 + (k - 19) % 16) else if j = 2 then (k - 19) / 16 else 0)
  else if k ≤ 234 then (if j = 0 then 1 else if j = 1 then (k - 163) % 12 / 3 + 1 else if j = 2 then 0 else if j = 3 then 3 else if j = 4 then (k - 163) % 3 + 4 else (k - 163) / 12)
  else if k ≤ 246 then (if j = 0 then 1 else if j = 1 then (k - 235) % 4 + 1 else if j = 2 then 0 else if j = 3 then 3 else if j = 4 then 4 else 6 + (k - 235) / 4)
  else (if j = 0 then 3 else if j = 1 then 4 else if j = 2 then k - 247 else if j = 3 then 1 else if j = 4 then 1 else 0)
set_option maxRecDepth 100000 in
theorem m_part : ∀ k, k < 256 → ∀ j, j < 6 → fX8_part (nI k) (nI j) = some (nI (tb k j)) := by decide +kernel
set_option maxRecDepth 100000 in
theorem x_part : ∀ k, k < 256 → ∀ j, j < 6 → fX1_partOf (nI k) (nI j) = some (nI (tb k j)) := by decide +kernel
theorem tb_lt : ∀ k, k < 256 → ∀ j, j < 6 → tb k j < 256 := by decide +kernel
/-- code k is for these instructions -/
def hit (a b c d e f k : Nat) : Bool := tb k 0 == a && tb k 1 == b && tb k 2 == c && tb k 3 == d && tb k 4 == e && tb k 5 == f
def fnd (P : Nat → Bool) : Nat → Int32 → Int32
  | 0, x => x
  | r + 1, x => fnd P r (if P r = true then nI r else x)
theorem fnd_none {P : Nat → Bool} : ∀ (n : Nat) (x : Int32), (∀ k, k < n → P k = false) → fnd P n x = x
  | 0, x, _ => rfl
  | n + 1, x, h => by rw [fnd, h n (by omega), if_neg (by decide), fnd_none n x (fun k hk => h k (by omega))]
theorem fnd_some {P : Nat → Bool} {k : Nat} (hP : P k = true) (hu : ∀ j, j < k → P j = false) : ∀ (n : Nat) (x : Int32), k < n → fnd P n x = nI k
  | 0, x, h => by omega
  | n + 1, x, h => by
    rw [fnd]
    by_cases e : k = n
    · subst e; rw [if_pos hP, fnd_none k _ hu]
    · exact fnd_some hP hu n _ (by omega)
theorem find_L {a b c d e f : Nat} (ha : a < 2 ^ 31) (hb : b < 2 ^ 31) (hc : c < 2 ^ 31) (hd : d < 2 ^ 31) (he : e < 2 ^ 31) (hf : f < 2 ^ 31) : ∀ (r k : Nat) (x v7 : Int32), r ≤ 256 → r < k → (v7 = if r = 0 then -1 else nI (r - 1)) → fX8_find_L8 (nI a) (nI b) (nI c) (nI d) (nI e) (nI f) k x v7 = some (fnd (hit a b c d e f) r x)
  | 0, k + 1, x, v7, _, _, hv => by
    rw [if_pos rfl] at hv; subst hv
    rw [fX8_find_L8, if_pos (by decide)]; rfl
  | r + 1, k + 1, x, v7, hr, hk, hv => by
    rw [if_neg (by omega), Nat.add_sub_cancel] at hv; subst hv
    have nx : nI r + (-1 : Int32) = if r = 0 then -1 else nI (r - 1) := by
      by_cases h0 : r = 0
      · subst h0; decide
      · rw [if_neg h0]; exact sb_m1 (by omega)
    have go : ∀ y : Int32, fX8_find_L8 (nI a) (nI b) (nI c) (nI d) (nI e) (nI f) k y (nI r + (-1 : Int32)) = some (fnd (hit a b c d e f) r y) := fun y => find_L ha hb hc hd he hf r k y _ (by omega) (by omega) nx
    have tl : ∀ j, j < 6 → tb r j < 2 ^ 31 := fun j hj => by have := tb_lt r (by omega) j hj; omega
    rw [fX8_find_L8, if_neg (nI_pos (by omega)), L0, m_part r (by omega) 0 (by omega), Option.bind_some, L1, m_part r (by omega) 1 (by omega), L2, m_part r (by omega) 2 (by omega), L3, m_part r (by omega) 3 (by omega), L4, m_part r (by omega) 4 (by omega), L5, m_part r (by omega) 5 (by omega), fnd]
    simp only [Option.bind_some, nI_eq (tl 0 (by omega)) ha, nI_eq (tl 1 (by omega)) hb, nI_eq (tl 2 (by omega)) hc, nI_eq (tl 3 (by omega)) hd, nI_eq (tl 4 (by omega)) he, nI_eq (tl 5 (by omega)) hf, hit, Bool.and_eq_true, beq_iff_eq]
    by_cases h0 : tb r 0 = a
    · by_cases h1 : tb r 1 = b
      · by_cases h2 : tb r 2 = c
        · simp only [h0, h1, h2, if_true, Option.bind_some]
          rw [if_neg (by decide)]
          by_cases h3 : tb r 3 = d
          · by_cases h4 : tb r 4 = e
            · by_cases h5 : tb r 5 = f
              · simp only [h3, h4, h5, if_true, and_self]; exact go _
              · simp only [h3, h4, h5, if_true, if_false, and_false]; exact go _
            · simp only [h3, h4, if_true, if_false, and_false, false_and]; exact go _
          · simp only [h3, if_false, and_false, false_and]; exact go _
        · simp only [h0, h1, h2, if_true, if_false, Option.bind_some, and_false, false_and]; exact go _
      · simp only [h0, h1, if_true, if_false, Option.bind_some, and_false, false_and]; exact go _
    · simp only [h0, if_false, Option.bind_some, false_and]; exact go _
  | r, 0, x, v7, hr, hk, hv => by omega
theorem find_eq {a b c d e f : Nat} (ha : a < 2 ^ 31) (hb : b < 2 ^ 31) (hc : c < 2 ^ 31) (hd : d < 2 ^ 31) (he : e < 2 ^ 31) (hf : f < 2 ^ 31) : fX8_find (nI a) (nI b) (nI c) (nI d) (nI e) (nI f) = some (fnd (hit a b c d e f) 256 (-1)) := by
  rw [fX8_find, find_L ha hb hc hd he hf 256 FU (-1) 255 (by omega) (by rw [FUv]; omega) rfl, Option.bind_some]
/-- the only code that can be for them -/
def cd (a b c d e f : Nat) : Nat :=
  if d = 0 then (if a = 2 then 0 else if a = 1 then 1 + b else 19 + 16 * c + (if b = 0 then 0 else b - 3))
  else if a = 1 then (if f < 6 then 163 + 12 * f + 3 * (b - 1) + (e - 4) else 235 + 4 * (f - 6) + (b - 1))
  else 247 + c
theorem cd_tb : ∀ k, k < 256 → cd (tb k 0) (tb k 1) (tb k 2) (tb k 3) (tb k 4) (tb k 5) = k := by decide +kernel
theorem hit_cd {a b c d e f k : Nat} (hk : k < 256) (h : hit a b c d e f k = true) : k = cd a b c d e f := by
  simp only [hit, Bool.and_eq_true, beq_iff_eq] at h
  obtain ⟨⟨⟨⟨⟨h0, h1⟩, h2⟩, h3⟩, h4⟩, h5⟩ := h
  rw [← h0, ← h1, ← h2, ← h3, ← h4, ← h5]
  exact (cd_tb k hk).symm
def fN (a b c d e f : Nat) : Nat := if cd a b c d e f < 256 ∧ hit a b c d e f (cd a b c d e f) = true then cd a b c d e f else 256
theorem find_yes {a b c d e f k : Nat} (ha : a < 2 ^ 31) (hb : b < 2 ^ 31) (hc : c < 2 ^ 31) (hd : d < 2 ^ 31) (he : e < 2 ^ 31) (hf : f < 2 ^ 31) (h : fN a b c d e f = k) (hk : k < 256) : fX8_find (nI a) (nI b) (nI c) (nI d) (nI e) (nI f) = some (nI k) := by
  unfold fN at h
  by_cases h1 : cd a b c d e f < 256 ∧ hit a b c d e f (cd a b c d e f) = true
  · rw [if_pos h1] at h
    rw [find_eq ha hb hc hd he hf, ← h]
    refine congrArg some (fnd_some h1.2 (fun j hj => ?_) 256 _ h1.1)
    cases hh : hit a b c d e f j with
    | false => rfl
    | true => have := hit_cd (by omega) hh; omega
  · rw [if_neg h1] at h; omega
theorem find_no {a b c d e f : Nat} (ha : a < 2 ^ 31) (hb : b < 2 ^ 31) (hc : c < 2 ^ 31) (hd : d < 2 ^ 31) (he : e < 2 ^ 31) (hf : f < 2 ^ 31) (h : fN a b c d e f = 256) : fX8_find (nI a) (nI b) (nI c) (nI d) (nI e) (nI f) = some (-1) := by
  unfold fN at h
  by_cases h1 : cd a b c d e f < 256 ∧ hit a b c d e f (cd a b c d e f) = true
  · rw [if_pos h1] at h; omega
  · rw [find_eq ha hb hc hd he hf]
    refine congrArg some (fnd_none 256 _ (fun k hk => ?_))
    cases hh : hit a b c d e f k with
    | false => rfl
    | true => have := hit_cd hk hh; exact absurd ⟨by omega, by rw [← this]; exact hh⟩ h1
