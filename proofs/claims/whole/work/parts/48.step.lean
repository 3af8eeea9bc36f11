/-! PURE: one instruction found, both sides -/
theorem x_ins {fk fz fm : Nat → Int32} {c : Nat} {k s m : Int32} (hc : c < 64) : fX4_append fk fz fm (nI c) k s m = some (upd fk c k, upd fz c s, upd fm c m, nI (c + 1)) := by
  have i1 : inb (nI c) 64 = true := by rw [inb_nI (by omega)]; omega
  rw [fX4_append, if_neg (by rw [L64, nI_leI (by omega) (by omega)]; omega), if_pos i1, if_pos i1, if_pos i1, nI_clamp (by omega), nI_1]
def mI (mar : Nat → Nat → Int32) (gk gz gm : Nat → Int32) : Nat → Nat → Int32 := va_up (va_up (va_up mar 5 gk) 6 gz) 7 gm
theorem m_ins {msc : Nat → Int32} {mar : Nat → Nat → Int32} {c : Nat} {k s m : Int32} (h2 : msc 2 = nI c) (hc : c < 64) : fX8_instruct msc mar k s m = some (va_up msc 2 (nI (c + 1)), mI mar (upd (mar 5) c k) (upd (mar 6) c s) (upd (mar 7) c m)) := by
  have i1 : inb (nI c) 64 = true := by rw [inb_nI (by omega)]; omega
  rw [fX8_instruct, h2, if_pos i1, if_pos i1, if_pos i1, nI_clamp (by omega), nI_1]; rfl
theorem mI_id (mar : Nat → Nat → Int32) : mI mar (mar 5) (mar 6) (mar 7) = mar := by
  unfold mI; rw [up_id rfl, up_id rfl, up_id rfl]
theorem FR_add {c : Nat} {K S M : Nat → Nat} {fk fz fm gk gz gm : Nat → Int32} {k s m : Nat} (h : FR c K S M fk fz fm gk gz gm) (hok : okI k s m) : FR (c + 1) (va_up K c k) (va_up S c s) (va_up M c m) (upd fk c (nI k)) (upd fz c (nI s)) (upd fm c (nI m)) (upd gk c (nI k)) (upd gz c (nI s)) (upd gm c (nI m)) := by
  intro i hi
  by_cases e : i = c
  · subst e
    refine ⟨?_, ?_, ?_, ?_, ?_, ?_, ?_⟩
    all_goals (try rw [upd_s])
    all_goals (try rw [va_up_self])
    all_goals (try rfl)
    rw [va_up_self, va_up_self]; exact hok
  · simp only [upd_n e, up_ap, if_neg e]
    exact h i (by omega)
/-- a byte more for the last ADD, or a new ADD -/
theorem add_sim {c o d : Nat} {K S M : Nat → Nat} {fk fz fm : Nat → Int32} {msc : Nat → Int32} {mar : Nat → Nat → Int32} {b : Int32} (h : FR c K S M fk fz fm (mar 5) (mar 6) (mar 7)) (hS : ∀ i, i < c → S i ≤ o) (ho : o < 64) (hc : c ≤ o) (h2 : msc 2 = nI c) (h9 : mar 9 0 = nI d) (hd : d < 400) :
    ∃ (c' : Nat) (K' S' M' : Nat → Nat) (fk' fz' fm' gk' gz' gm' : Nat → Int32), fX4_appendAddedByte fk fz fm (nI c) = some (fk', fz', fm', nI c') ∧ fX8_addByte msc mar b = some (va_up msc 2 (nI c'), wA (mI mar gk' gz' gm') 0 d 1 (fun _ => b)) ∧ FR c' K' S' M' fk' fz' fm' gk' gz' gm' ∧ c' ≤ c + 1 ∧ (∀ i, i < c' → S' i ≤ o + 1) := by
  have newI : ∀ (hX : fX4_appendAddedByte fk fz fm (nI c) = (fX4_append fk fz fm (nI c) 1 1 0).bind fun R2 => some (R2.1, R2.2.1, R2.2.2.1, R2.2.2.2)) (hM : fX8_addByte msc mar b = (fX8_instruct msc mar 1 1 0).bind fun R2 => (fX8_write R2.1 R2.2 0 b).bind fun R4 => some (R2.1, R4)), ∃ (c' : Nat) (K' S' M' : Nat → Nat) (fk' fz' fm' gk' gz' gm' : Nat → Int32), fX4_appendAddedByte fk fz fm (nI c) = some (fk', fz', fm', nI c') ∧ fX8_addByte msc mar b = some (va_up msc 2 (nI c'), wA (mI mar gk' gz' gm') 0 d 1 (fun _ => b)) ∧ FR c' K' S' M' fk' fz' fm' gk' gz' gm' ∧ c' ≤ c + 1 ∧ (∀ i, i < c' → S' i ≤ o + 1) := by
    intro hX hM
    refine ⟨c + 1, va_up K c 1, va_up S c 1, va_up M c 0, upd fk c 1, upd fz c 1, upd fm c 0, upd (mar 5) c 1, upd (mar 6) c 1, upd (mar 7) c 0, ?_, ?_, FR_add (k := 1) (s := 1) (m := 0) h (Or.inl ⟨rfl, by omega, by omega, rfl⟩), Nat.le_refl _, fun i hi => ?_⟩
    · rw [hX, x_ins (by omega), Option.bind_some]
    · rw [hM, m_ins h2 (by omega), Option.bind_some]
      dsimp only
      rw [wr_0 (c := d) (show (mI mar _ _ _) 9 0 = nI d from h9) hd, Option.bind_some]
    · rw [up_ap]; by_cases e : i = c
      · rw [if_pos e]; omega
      · rw [if_neg e]; have := hS i (by omega); omega
  by_cases h0 : c = 0
  · subst h0
    refine newI ?_ ?_
    · rw [fX4_appendAddedByte, if_pos (by decide)]
    · rw [fX8_addByte, h2, if_pos (by decide)]
  · obtain ⟨ek, es, em, gk, gz, gm, ok⟩ := h (c - 1) (by omega)
    obtain ⟨b1, b2, b3⟩ := okI_b ok
    have i1 : inb (nI (c - 1)) 64 = true := by rw [inb_nI (by omega)]; omega
    have e1 : nI c - (1 : Int32) = nI (c - 1) := by rw [L1, pk_sub (by omega)]
    have nX : fX4_appendAddedByte fk fz fm (nI c) = if nI (K (c - 1)) = (1 : Int32) then some (fk, upd fz (c - 1) (nI (S (c - 1)) + 1), fm, nI c) else (fX4_append fk fz fm (nI c) 1 1 0).bind fun R2 => some (R2.1, R2.2.1, R2.2.2.1, R2.2.2.2) := by
      rw [fX4_appendAddedByte, e1, if_neg (nI_pos (by omega)), if_pos i1, if_pos i1, if_pos i1, nI_clamp (by omega), ek, es]
    have nM : fX8_addByte msc mar b = if nI (K (c - 1)) = (1 : Int32) then (fX8_write msc (va_up mar 6 (upd (mar 6) (c - 1) (nI (S (c - 1)) + 1))) 0 b).bind fun R14 => some (msc, R14) else (fX8_instruct msc mar 1 1 0).bind fun R2 => (fX8_write R2.1 R2.2 0 b).bind fun R4 => some (R2.1, R4) := by
      rw [fX8_addByte, h2, if_neg (by rw [L0, nI_leI (by omega) (by omega)]; omega), e1, if_pos i1, if_pos i1, if_pos i1, nI_clamp (by omega), gk, gz]
    by_cases hk : K (c - 1) = 1
    · have hk2 : nI (K (c - 1)) = (1 : Int32) := by rw [hk]; rfl
      have hs := hS (c - 1) (by omega)
      refine ⟨c, K, va_up S (c - 1) (S (c - 1) + 1), M, fk, upd fz (c - 1) (nI (S (c - 1) + 1)), fm, mar 5, upd (mar 6) (c - 1) (nI (S (c - 1) + 1)), mar 7, ?_, ?_, fun i hi => ?_, by omega, fun i hi => ?_⟩
      · rw [nX, if_pos hk2, nI_1]
      · have e7 : mI mar (mar 5) (upd (mar 6) (c - 1) (nI (S (c - 1) + 1))) (mar 7) = va_up mar 6 (upd (mar 6) (c - 1) (nI (S (c - 1) + 1))) := by
          unfold mI; rw [up_id (f := mar) rfl]; exact up_id rfl
        rw [nM, if_pos hk2, nI_1, up_id h2, e7, wr_0 (c := d) (show (va_up mar 6 _) 9 0 = nI d from h9) hd, Option.bind_some]
      · obtain ⟨a1, a2, a3, a4, a5, a6, a7⟩ := h i hi
        by_cases e : i = c - 1
        · subst e
          simp only [upd_s, up_ap, if_true]
          refine ⟨a1, trivial, a3, a4, trivial, a6, ?_⟩
          rcases a7 with ⟨q1, q2, q3, q4⟩ | ⟨q1, q2, q3, q4⟩ | ⟨q1, q2, q3, q4⟩
          · exact Or.inl ⟨q1, by omega, by omega, q4⟩
          · omega
          · omega
        · simp only [upd_n e, up_ap, if_neg e]
          exact ⟨a1, a2, a3, a4, a5, a6, a7⟩
      · rw [up_ap]; by_cases e : i = c - 1
        · rw [if_pos e]; omega
        · rw [if_neg e]; have := hS i hi; omega
    · have hk2 : ¬ nI (K (c - 1)) = (1 : Int32) := by rw [L1, nI_eq (by omega) (by omega)]; exact hk
      exact newI (by rw [nX, if_neg hk2]) (by rw [nM, if_neg hk2])
/-- the caches, both sides -/
def CA (cp : Nat) (fn fs : Nat → Int32) (c17 t1 : Int32) (gn gs : Nat → Int32) : Prop := (∀ i, i < 4 → fn i = gn i) ∧ (∀ i, i < 768 → fs i = gs i) ∧ c17 = nI cp ∧ t1 = nI (cp % 4)
theorem CA_add {cp x : Nat} {fn fs : Nat → Int32} {c17 t1 : Int32} {gn gs : Nat → Int32} (h : CA cp fn fs c17 t1 gn gs) : CA (cp + 1) (upd fn (cp % 4) (nI x)) (upd fs (x % 768) (nI x)) (nI (cp + 1)) (nI ((cp % 4 + 1) % 4)) (upd gn (cp % 4) (nI x)) (upd gs (x % 768) (nI x)) := by
  refine ⟨fun i hi => ?_, fun i hi => ?_, rfl, by congr 1; omega⟩
  · rw [upd_ap, upd_ap, h.1 i hi]
  · rw [upd_ap, upd_ap, h.2.1 i hi]
/-- a copy's address and instruction -/
theorem addr_sim {c cp a x hh : Nat} {s : Int32} {sg : Bool} {sc : Nat → Int32} {ar : Nat → Nat → Int32} {msc : Nat → Int32} {mar : Nat → Nat → Int32} (hC : CA cp (ar 10) (ar 11) (sc 17) (msc 1) (mar 2) (mar 3)) (h7 : sc 7 = nI a) (h9 : mar 9 2 = nI a) (ha : a + 2 ≤ 64) (hx : x < 112) (hcp : cp < 1000) (h2 : msc 2 = nI c) (hc : c < 64) :
    ∃ (m l : Nat) (v : Nat → Int32), m ≤ 8 ∧ 1 ≤ l ∧ l ≤ 2 ∧ (∀ j, j < l → isb (v j)) ∧
      fX3_writeAddress sc ar sg (nI x) (nI hh) = some (nI m, va_up (va_up sc 7 (nI (a + l))) 17 (nI (cp + 1)), va_up (va_up (va_up ar 7 (apd (ar 7) a l v)) 10 (upd (ar 10) (cp % 4) (nI x))) 11 (upd (ar 11) (x % 768) (nI x))) ∧
      fX8_copy msc mar (nI x) s (nI hh) = some (va_up (va_up msc 2 (nI (c + 1))) 1 (nI ((cp % 4 + 1) % 4)), va_up (va_up (mI (wA mar 2 a l v) (upd (mar 5) c 3) (upd (mar 6) c s) (upd (mar 7) c (nI m))) 2 (upd (mar 2) (cp % 4) (nI x))) 3 (upd (mar 3) (x % 768) (nI x))) := by
  obtain ⟨hC1, hC2, hC3, hC4⟩ := hC
  obtain ⟨b, dd, hb, hd, hda, hX, hM⟩ := least_sim (fs := ar 11) (cp := sc 17) (sc := msc) (n := s) (h := hh) (a := x) (fn := ar 10) (ar := mar) (by omega) hC1 5 1 0 x FU FU (by omega) (by rw [FUv]; omega) (by rw [FUv]; omega) (by omega) rfl (Nat.le_refl _)
  have eX : fX0_leastMode (ar 10) (ar 11) (sc 17) (nI x) (nI hh) = some (nI b) := by rw [fX0_leastMode, L0, L1, hX, Option.bind_some]
  have rx : nI x - nI x / (768 : Int32) * (768 : Int32) = nI (x % 768) := by rw [L768, pk_rem (by omega) (by omega) (by omega)]
  have e768 : x % 768 = x := Nat.mod_eq_of_lt (by omega)
  have i768 : inb (nI (x % 768)) 768 = true := by rw [inb_nI (by omega)]; omega
  have sX : fX0_same (ar 10) (ar 11) (sc 17) (nI (x % 768)) = some (ar 11 (x % 768)) := by
    rw [fX0_same, if_neg (nI_pos (by omega)), if_neg (by rw [L768, nI_leI (by omega) (by omega)]; omega), if_pos i768, nI_clamp (by omega)]
  have hM0 : fX8_copy_L6 msc mar (nI x) s (nI hh) FU 0 1 = some (nI b) := hM
  rw [fX3_writeAddress, show (768 : Int32) = nI 768 from rfl, fmod (by omega) (by omega) (by omega), Option.bind_some, sX, Option.bind_some, fX8_copy, hM0, Option.bind_some, rx, if_pos i768, nI_clamp (by omega), ← hC2 _ (by omega)]
  have mn : ∀ (mr : Nat → Nat → Int32) (sz : Nat → Int32), sz 1 = nI (cp % 4) → mr 2 = mar 2 → mr 3 = mar 3 → fX8_note sz mr (nI x) = some (va_up sz 1 (nI ((cp % 4 + 1) % 4)), va_up (va_up mr 2 (upd (mar 2) (cp % 4) (nI x))) 3 (upd (mar 3) (x % 768) (nI x))) := fun mr sz e1 e2 e3 => by
    rw [m_note e1 (by omega) (by omega), e2, e3]
  by_cases hs : ar 11 (x % 768) = nI x
  · have r256 : nI (x % 768) - nI (x % 768) / (256 : Int32) * (256 : Int32) = nI (x % 768 % 256) := by rw [L256, pk_rem (by omega) (by omega) (by omega)]
    have d256 : (6 : Int32) + nI (x % 768) / (256 : Int32) = nI (6 + x % 768 / 256) := by rw [L256, pk_div (by omega) (by omega) (by omega), L6, nI_add]
    refine ⟨6 + x % 768 / 256, 1, fun _ => nI (x % 768 % 256), by omega, by omega, by omega, fun _ _ => ⟨_, by omega, rfl⟩, ?_, ?_⟩
    · rw [if_pos hs, r256, d256, h7, row_app1 (by omega) (by omega), Option.bind_some, hC3, x_learn (by omega) (by omega), Option.bind_some]
    · rw [if_pos hs, r256, d256, wr_2 h9 (by omega), Option.bind_some, m_ins h2 hc, Option.bind_some]
      dsimp only
      rw [mn (mI (wA mar 2 a _ _) _ _ _) _ (show (va_up msc 2 _) 1 = nI (cp % 4) from hC4) rfl rfl, Option.bind_some]
      rfl
  · have hl : vlen dd = 1 := vlen_1 (by omega)
    refine ⟨b, vlen dd, vfun dd, by omega, by omega, by omega, fun _ _ => vfun_b (by omega), ?_, ?_⟩
    · rw [if_neg hs, eX, Option.bind_some, x_int hb, Option.bind_some, hd, h7, row_appInt (by omega) (by omega) (by omega), Option.bind_some, hC3, x_learn (by omega) (by omega), Option.bind_some]
    · rw [if_neg hs, m_int hb, Option.bind_some, ← dst_eq hb hC1, hd, wrI_2 (by omega) (by omega) h9, Option.bind_some, m_ins (mar := wA mar 2 a (vlen dd) (vfun dd)) h2 hc, Option.bind_some]
      dsimp only
      rw [mn (mI (wA mar 2 a _ _) _ _ _) _ (show (va_up msc 2 _) 1 = nI (cp % 4) from hC4) rfl rfl, Option.bind_some]
      rfl
