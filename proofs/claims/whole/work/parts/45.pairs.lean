/-! PURE: which code stands for an instruction, or for two -/
def okI (k s m : Nat) : Prop := (k = 1 ∧ 1 ≤ s ∧ s ≤ 64 ∧ m = 0) ∨ (k = 2 ∧ 1 ≤ s ∧ s ≤ 64 ∧ m = 0) ∨ (k = 3 ∧ 4 ≤ s ∧ s ≤ 64 ∧ m ≤ 8)
def fI (p : Nat) : Int32 := if p < 256 then nI p else -1
def sgc (k s m : Nat) : Nat := if k = 2 then 0 else if k = 1 then (if s ≤ 17 then 1 + s else 1) else 19 + 16 * m + (if s ≤ 18 then s - 3 else 0)
def sg_ok (k s m : Nat) : Prop := sgc k s m < 256 ∧ fX1_single (nI k) (nI s) (nI m) = some (nI (sgc k s m)) ∧ ((tb (sgc k s m) 1 = 0 ∧ fN k s m 0 0 0 = 256 ∧ fN k 0 m 0 0 0 = sgc k s m) ∨ (tb (sgc k s m) 1 ≠ 0 ∧ fN k s m 0 0 0 = sgc k s m))
theorem sg1 : ∀ s, s < 65 → 1 ≤ s → (sgc 1 s 0 < 256 ∧ fX1_single (nI 1) (nI s) (nI 0) = some (nI (sgc 1 s 0)) ∧ ((tb (sgc 1 s 0) 1 = 0 ∧ fN 1 s 0 0 0 0 = 256 ∧ fN 1 0 0 0 0 0 = sgc 1 s 0) ∨ (tb (sgc 1 s 0) 1 ≠ 0 ∧ fN 1 s 0 0 0 0 = sgc 1 s 0))) := by decide +kernel
theorem sg2 : ∀ s, s < 65 → 1 ≤ s → (sgc 2 s 0 < 256 ∧ fX1_single (nI 2) (nI s) (nI 0) = some (nI (sgc 2 s 0)) ∧ ((tb (sgc 2 s 0) 1 = 0 ∧ fN 2 s 0 0 0 0 = 256 ∧ fN 2 0 0 0 0 0 = sgc 2 s 0) ∨ (tb (sgc 2 s 0) 1 ≠ 0 ∧ fN 2 s 0 0 0 0 = sgc 2 s 0))) := by decide +kernel
noncomputable def sg3B (m s : Nat) : Bool := decide (sgc 3 s m < 256) && decide (fX1_single (nI 3) (nI s) (nI m) = some (nI (sgc 3 s m))) && ((decide (tb (sgc 3 s m) 1 = 0) && decide (fN 3 s m 0 0 0 = 256) && decide (fN 3 0 m 0 0 0 = sgc 3 s m)) || (decide (tb (sgc 3 s m) 1 ≠ 0) && decide (fN 3 s m 0 0 0 = sgc 3 s m)))
theorem sg3b : ∀ m, m < 9 → ∀ s, s < 61 → sg3B m (s + 4) = true := by decide +kernel
theorem sg3 (m : Nat) (hm : m < 9) (s : Nat) (h65 : s < 65) (h4 : 4 ≤ s) : sg_ok 3 s m := by
  have h := sg3b m hm (s - 4) (by omega)
  rw [Nat.sub_add_cancel h4] at h
  simp only [sg3B, Bool.and_eq_true, Bool.or_eq_true, decide_eq_true_eq, and_assoc] at h
  exact h
theorem single_sim {k s m : Nat} (h : okI k s m) : sg_ok k s m := by
  rcases h with ⟨rfl, h1, h2, rfl⟩ | ⟨rfl, h1, h2, rfl⟩ | ⟨rfl, h1, h2, h3⟩
  · exact sg1 s (by omega) h1
  · exact sg2 s (by omega) h1
  · exact sg3 m (by omega) s (by omega) h1
theorem tbP : ∀ k, k < 256 → tb k 3 ≠ 0 → (tb k 0 = 1 ∧ tb k 3 = 3 ∧ tb k 1 ≤ 4) ∨ (tb k 0 = 3 ∧ tb k 3 = 1 ∧ tb k 1 = 4 ∧ tb k 4 = 1) := by decide +kernel
theorem fN_no {a b c d e f : Nat} (h : ∀ k, k < 256 → hit a b c d e f k = true → False) : fN a b c d e f = 256 := by
  unfold fN
  rw [if_neg (fun q => h _ q.1 q.2)]
theorem hit_iff {a b c d e f k : Nat} : hit a b c d e f k = true ↔ tb k 0 = a ∧ tb k 1 = b ∧ tb k 2 = c ∧ tb k 3 = d ∧ tb k 4 = e ∧ tb k 5 = f := by
  simp only [hit, Bool.and_eq_true, beq_iff_eq, and_assoc]
noncomputable def acB (m s' s : Nat) : Bool := decide (fX1_addThenCopy (nI s) (nI s') (nI m) = some (fI (fN 1 s 0 3 s' m)))
theorem ac1b : ∀ m, m < 9 → ∀ s', s' < 61 → ∀ s, s < 4 → acB m (s' + 4) (s + 1) = true := by decide +kernel
theorem ac1 (m : Nat) (hm : m < 9) (s' : Nat) (h65 : s' < 65) (h4 : 4 ≤ s') (s : Nat) (h5 : s < 5) (h1 : 1 ≤ s) : fX1_addThenCopy (nI s) (nI s') (nI m) = some (fI (fN 1 s 0 3 s' m)) := by
  have h := ac1b m hm (s' - 4) (by omega) (s - 1) (by omega)
  rw [Nat.sub_add_cancel h4, Nat.sub_add_cancel h1] at h
  exact of_decide_eq_true h
theorem addCopy_sim {s s' m : Nat} (h1 : 1 ≤ s) (h2 : s ≤ 64) (h3 : 4 ≤ s') (h4 : s' ≤ 64) (hm : m ≤ 8) : fX1_addThenCopy (nI s) (nI s') (nI m) = some (fI (fN 1 s 0 3 s' m)) := by
  by_cases h : s < 5
  · exact ac1 m (by omega) s' (by omega) h3 s h h1
  · rw [fN_no (fun k hk hh => by
      obtain ⟨-, e1, -, e3, -, -⟩ := hit_iff.mp hh
      have := tbP k hk (by omega)
      omega)]
    rw [fX1_addThenCopy, if_neg (by rw [L1, nI_ltI (by omega) (by omega)]; omega), if_pos (by rw [L4, nI_ltI (by omega) (by omega)]; omega)]
    rfl
theorem ca1 : ∀ m, m < 9 → fN 3 4 m 1 1 0 = 247 + m := by decide +kernel
theorem copyAdd_sim {s s' m : Nat} (h1 : 4 ≤ s) (h2 : s ≤ 64) (h3 : 1 ≤ s') (h4 : s' ≤ 64) (hm : m ≤ 8) : fX1_copyThenAdd (nI s) (nI m) (nI s') = some (fI (fN 3 s m 1 s' 0)) := by
  by_cases h : s = 4 ∧ s' = 1
  · obtain ⟨rfl, rfl⟩ := h
    rw [ca1 m (by omega), fX1_copyThenAdd, if_pos (by decide), if_pos (by decide), L247, nI_add]
    unfold fI
    rw [if_pos (by omega)]
  · rw [fN_no (fun k hk hh => by
      obtain ⟨-, e1, -, e3, e4, -⟩ := hit_iff.mp hh
      have := tbP k hk (by omega)
      omega)]
    by_cases h5 : s = 4
    · rw [fX1_copyThenAdd, h5, if_pos (by decide), if_neg (by rw [L1, nI_eq (by omega) (by omega)]; omega)]; rfl
    · rw [fX1_copyThenAdd, if_neg (by rw [L4, nI_eq (by omega) (by omega)]; omega)]; rfl
/-- X: the code for instruction i and the next one -/
theorem pair_X {fk fz fm : Nat → Int32} {c i : Nat} {k s m k' s' m' : Nat} (hc : c ≤ 64) (hi : i + 1 < c) (ek : fk i = nI k) (es : fz i = nI s) (em : fm i = nI m) (ek' : fk (i + 1) = nI k') (es' : fz (i + 1) = nI s') (em' : fm (i + 1) = nI m') (h1 : okI k s m) (h2 : okI k' s' m') :
    fX4_pairCode fk fz fm (nI c) (nI i) = some (fI (fN k s m k' s' m')) := by
  have i1 : inb (nI i) 64 = true := by rw [inb_nI (by omega)]; omega
  have i2 : inb (nI (i + 1)) 64 = true := by rw [inb_nI (by omega)]; omega
  have lt : nI (i + 1) < nI c := by rw [nI_ltI (by omega) (by omega)]; omega
  have no : ∀ (kk kk' : Nat), kk = k → kk' = k' → ¬ (kk = 1 ∧ kk' = 3) → ¬ (kk = 3 ∧ kk' = 1) → fN k s m k' s' m' = 256 := fun kk kk' e1 e2 n1 n2 => fN_no (fun q hq hh => by
    obtain ⟨e0, -, -, e3, -, -⟩ := hit_iff.mp hh
    have h0 : k' ≠ 0 := by rcases h2 with ⟨rfl, _⟩ | ⟨rfl, _⟩ | ⟨rfl, _⟩ <;> omega
    have := tbP q hq (by omega)
    omega)
  rw [fX4_pairCode, if_neg (nI_pos (by omega)), nI_1, if_pos lt, if_pos i1, nI_clamp (by omega), nI_clamp (by omega), ek, ek', es, es', em, em']
  simp only [i1, i2, if_true]
  rcases h1 with ⟨rfl, p1, p2, rfl⟩ | ⟨rfl, p1, p2, rfl⟩ | ⟨rfl, p1, p2, p3⟩ <;> rcases h2 with ⟨rfl, q1, q2, rfl⟩ | ⟨rfl, q1, q2, rfl⟩ | ⟨rfl, q1, q2, q3⟩
  · rw [no 1 1 rfl rfl (by omega) (by omega)]; rfl
  · rw [no 1 2 rfl rfl (by omega) (by omega)]; rfl
  · rw [if_pos (by decide), if_pos (by decide), addCopy_sim p1 p2 q1 q2 q3, Option.bind_some]
  · rw [no 2 1 rfl rfl (by omega) (by omega)]; rfl
  · rw [no 2 2 rfl rfl (by omega) (by omega)]; rfl
  · rw [no 2 3 rfl rfl (by omega) (by omega)]; rfl
  · rw [if_neg (by decide), if_pos (by decide), if_pos (by decide), copyAdd_sim p1 p2 q1 q2 p3, Option.bind_some]
  · rw [no 3 2 rfl rfl (by omega) (by omega)]; rfl
  · rw [no 3 3 rfl rfl (by omega) (by omega)]; rfl
theorem find_fI {a b c d e f : Nat} (ha : a < 2 ^ 31) (hb : b < 2 ^ 31) (hc : c < 2 ^ 31) (hd : d < 2 ^ 31) (he : e < 2 ^ 31) (hf : f < 2 ^ 31) : fX8_find (nI a) (nI b) (nI c) (nI d) (nI e) (nI f) = some (fI (fN a b c d e f)) := by
  by_cases h : fN a b c d e f < 256
  · rw [find_yes ha hb hc hd he hf rfl h]; unfold fI; rw [if_pos h]
  · have h2 : fN a b c d e f = 256 := by
      unfold fN at h ⊢
      by_cases q : cd a b c d e f < 256 ∧ hit a b c d e f (cd a b c d e f) = true
      · rw [if_pos q] at h; omega
      · rw [if_neg q]
    rw [find_no ha hb hc hd he hf h2, h2]; rfl
