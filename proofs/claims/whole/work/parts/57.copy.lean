/-! PURE: RUN and COPY, both sides -/
theorem x_run_L {n mk : Nat} {b : Int32} {sg : Bool} {sc : Nat → Int32} {ar : Nat → Nat → Int32} (hm : mk + n ≤ 400) : ∀ (r i k : Nat), i + r = n → r < k → fX2_run_L17 sg (nI n) b k (nI i) (va_up sc 9 (nI (mk + i))) (va_up ar 9 (apd (ar 9) mk i (fun _ => b))) = some (va_up sc 9 (nI (mk + n)), va_up ar 9 (apd (ar 9) mk n (fun _ => b)))
  | 0, i, k + 1, hi, _ => by
    have e : i = n := by omega
    subst e
    rw [fX2_run_L17, if_pos (by rw [nI_leI (by omega) (by omega)]; omega)]
  | r + 1, i, k + 1, hi, hk => by
    rw [fX2_run_L17, if_neg (by rw [nI_leI (by omega) (by omega)]; omega), show (va_up sc 9 (nI (mk + i))) 9 = nI (mk + i) from rfl, show (va_up ar 9 (apd (ar 9) mk i fun _ => b)) 9 = apd (ar 9) mk i (fun _ => b) from rfl, row_app (by omega) (by omega), Option.bind_some, up_up, up_up, nI_1]
    have h := x_run_L (sg := sg) (sc := sc) (ar := ar) (b := b) hm r (i + 1) k (by omega) (by omega)
    rw [apd_s] at h
    exact h
  | r, i, 0, hi, hk => by omega
theorem m_run_L {n mk : Nat} {b : Int32} {msc : Nat → Int32} {mar : Nat → Nat → Int32} (h3 : msc 3 = 0) (hm : mk + n ≤ 400) : ∀ (r i k : Nat), i + r = n → r < k → 1 ≤ i → fX8_perform_L91 (nI 2) (nI n) k b (nI i) msc (rA mar 4 mk i (fun _ => b)) = some (msc, rA mar 4 mk n (fun _ => b))
  | 0, i, k + 1, hi, _, _ => by
    have e : i = n := by omega
    subst e
    rw [fX8_perform_L91, if_pos (by rw [nI_leI (by omega) (by omega)]; omega)]
  | r + 1, i, k + 1, hi, hk, h1 => by
    have ap : fX8_append msc (rA mar 4 mk i (fun _ => b)) (4 : Int32) b = some (rA mar 4 mk (i + 1) (fun _ => b)) := m_app_s (r := 4) (g := fun _ => b) (by omega) (by omega)
    rw [fX8_perform_L91, if_neg (by rw [nI_leI (by omega) (by omega)]; omega), if_pos h3, if_neg (by decide), if_neg (by rw [L0, nI_eq (by omega) (by omega)]; omega), ap, Option.bind_some, nI_1]
    exact m_run_L h3 hm r (i + 1) k (by omega) (by omega) (by omega)
  | r, i, 0, hi, hk, _ => by omega
/-- RUN, both sides -/
theorem run_exec {dl sl b ss sp ws we e0 e1 e2 mk p0 p1 p2 cp n : Nat} {db : Nat → Nat} {sg : Bool} {sc : Nat → Int32} {ar : Nat → Nat → Int32} {msc : Nat → Int32} {mar : Nat → Nat → Int32} (h : DW dl db sl b ss sp ws we e0 e1 e2 mk p0 p1 p2 cp sg sc ar msc mar) (hn : 1 ≤ n) (hm : mk + n ≤ we) :
    ∃ (r : Int32) (sc' : Nat → Int32) (ar' : Nat → Nat → Int32) (msc' : Nat → Int32) (mar' : Nat → Nat → Int32), fX2_run sc ar sg (nI n) = some (r, sc', ar') ∧ fX8_perform_L91 2 (nI n) FU 0 0 msc mar = some (msc', mar') ∧ EF sc sc' ar ar' msc msc' mar mar' ∧ OK9 sc' ∧
      ((r = 1 ∧ DW dl db sl b ss sp ws we e0 e1 e2 (mk + n) (p0 + 1) p1 p2 cp sg sc' ar' msc' mar') ∨ (r = 0 ∧ msc' 3 = 1)) := by
  obtain ⟨hd, hM, hR, hC, hcp, h3⟩ := h
  obtain ⟨⟨r1, r2, r3, r4, r5, r6⟩, hR1, hR2⟩ := id hR
  have h1 := hd.1
  have hw := hM.2.2.2.2.2.2.2
  have s0 : FU = 5999 + 1 := rfl
  have hl0 : ¬ nI n ≤ (0 : Int32) := by rw [L0, nI_leI (by omega) (by omega)]; omega
  by_cases hq : p0 < e0
  · have hb : isb (nI (db p0)) := ⟨_, (hd.2 p0 (by omega)).2.2, rfl⟩
    have hdb := (hd.2 p0 (by omega)).2.2
    have hx := x_run_L (n := n) (mk := mk) (b := nI (db p0)) (sg := sg) (sc := va_up sc 23 (nI (p0 + 1))) (ar := ar) (by omega) n 0 FU (by omega) (by rw [FUv]; omega)
    rw [apd_0, up_id (f := ar) rfl, Nat.add_zero mk, up_id (f := va_up sc 23 (nI (p0 + 1))) (k := 9) (x := nI mk) hM.2.1.1] at hx
    have nx := m_byte (msc := msc) (s := 0) (p := p0) hd r6 (by omega) r3 r4 hq
    have hy := m_run_L (n := n) (mk := mk) (b := nI (db p0)) (mar := va_up mar 10 (upd (mar 10) 0 (nI (p0 + 1)))) h3 (by omega) (n - 1) 1 5999 (by omega) (by omega) (by omega)
    refine ⟨1, va_up (va_up sc 23 (nI (p0+1))) 9 (nI (mk+n)), va_up ar 9 (apd (ar 9) mk n fun _ => nI (db p0)), msc, rA (va_up mar 10 (upd (mar 10) 0 (nI (p0 + 1)))) 4 mk n (fun _ => nI (db p0)), ?_, ?_, ?_, ⟨mk + n, by omega, rfl⟩, Or.inl ⟨rfl, ?_⟩⟩
    · have hx' : fX2_run_L17 sg (nI n) (nI (db p0)) FU 0 (va_up sc 23 (nI (p0 + 1))) ar = some (va_up (va_up sc 23 (nI (p0 + 1))) 9 (nI (mk + n)), va_up ar 9 (apd (ar 9) mk n fun _ => nI (db p0))) := hx
      rw [fX2_run, r1, r2, x_byte hd r6 hq, Option.bind_some]
      dsimp only
      rw [if_neg (nI_ne_m1 (by omega)), hx', Option.bind_some]
    · have nx' : fX8_next msc mar (0 : Int32) = some (nI (db p0), msc, va_up mar 10 (upd (mar 10) 0 (nI (p0 + 1)))) := nx
      have ap : fX8_append msc (va_up mar 10 (upd (mar 10) 0 (nI (p0 + 1)))) (4 : Int32) (nI (db p0)) = some (rA (va_up mar 10 (upd (mar 10) 0 (nI (p0 + 1)))) 4 mk 1 (fun _ => nI (db p0))) := ap_4 hM.2.1.2.1 (by omega)
      rw [s0, fX8_perform_L91, if_neg hl0, if_pos h3, if_neg (by decide), if_pos rfl, nx', Option.bind_some]
      dsimp only
      rw [ap, Option.bind_some]
      exact hy
    · exact EF_add (fun k hk => by rw [up_nin (by decide) hk, up_nin (by decide) hk]) (fun _ _ => rfl) (fun k hk => up_nin (by decide) hk) (by show upd (mar 10) 0 (nI (p0 + 1)) 3 = _; rw [upd_n (by decide)])
    · refine ⟨DLT_kept hd rfl (fun j hj => ?_), MS_add hM (fun j hj => hb) hm rfl rfl (fun k hk => by rw [up_nin (by decide) hk, up_nin (by decide) hk]) rfl (fun _ _ => rfl), ⟨⟨rfl, r2, ?_, r4, hq, r6⟩, ?_, ?_⟩, hC, by omega, h3⟩
      · show apd (mar 0) (1000 * 4 + mk) n (fun _ => nI (db p0)) j = _; rw [apd_lo (by omega)]
      · show upd (mar 10) 0 (nI (p0 + 1)) 0 = _; rw [upd_s]
      · exact ⟨hR1.1, hR1.2.1, by show upd (mar 10) 0 (nI (p0 + 1)) 1 = _; rw [upd_n (by decide)]; exact hR1.2.2.1, hR1.2.2.2⟩
      · exact ⟨hR2.1, hR2.2.1, by show upd (mar 10) 0 (nI (p0 + 1)) 2 = _; rw [upd_n (by decide)]; exact hR2.2.2.1, hR2.2.2.2⟩
  · have nx : fX8_next msc mar (0 : Int32) = some (0, va_up msc 3 1, mar) := m_byte_no (s := 0) (by omega) r3 r4 (by omega) (by omega)
    have ap : fX8_append (va_up msc 3 1) mar (4 : Int32) 0 = some (rA mar 4 mk 1 (fun _ => 0)) := ap_4 hM.2.1.2.1 (by omega)
    refine ⟨0, va_up sc 23 (nI p0), ar, va_up msc 3 1, rA mar 4 mk 1 (fun _ => 0), ?_, ?_, ?_, ⟨mk, by omega, hM.2.1.1⟩, Or.inr ⟨rfl, rfl⟩⟩
    · rw [fX2_run, r1, r2, x_byte_no (by omega) (by omega), Option.bind_some]
      dsimp only
      rw [if_pos rfl]
    · rw [s0, fX8_perform_L91, if_neg hl0, if_pos h3, if_neg (by decide), if_pos rfl, nx, Option.bind_some]
      dsimp only
      rw [ap, Option.bind_some, show (5999 : Nat) = 5998 + 1 from rfl, fX8_perform_L91]
      by_cases hl2 : nI n ≤ (0 : Int32) + 1
      · rw [if_pos hl2]
      · rw [if_neg hl2, if_neg bad_ne]
    · have := EF_add (sc := sc) (sc1 := va_up sc 23 (nI p0)) (ar := ar) (msc := msc) (msc1 := va_up msc 3 1) (mar := mar) (mar1 := mar) (mk := mk) (m := 1) (v := fun _ => 0) (v' := fun _ => 0) (fun k hk => up_nin (by decide) hk) (fun k hk => up_nin (by decide) hk) (fun k hk => rfl) rfl
      exact ⟨this.1, fun _ _ => rfl, this.2.2⟩
/-- a byte of the string, both sides -/
theorem str_eq {sl b ss sp ws we mk q : Nat} {sg : Bool} {sc : Nat → Int32} {ar : Nat → Nat → Int32} {msc : Nat → Int32} {mar : Nat → Nat → Int32} (h : MS sl b ss sp ws we mk sg sc ar msc mar) (hq : q < ss + (mk - ws)) : ∃ v : Int32, isb v ∧ fX2_stringAt sc ar sg (nI q) = some v ∧ fX8_readString msc mar (nI q) = some v := by
  obtain ⟨⟨a1, a2, a3⟩, ⟨b1, b2, b3⟩, ⟨c1, c2, c3, c4⟩, ⟨d1, d2, d3, d4, d5⟩, ⟨hb, hb0, hb1, hb2⟩, w1, w2, w3⟩ := h
  have hss : ss ≤ 400 := by
    rcases (show b = 0 ∨ b = 1 ∨ b = 2 by omega) with q | q | q
    · have := hb0 q; omega
    · have := (hb1 q).1; omega
    · have := (hb2 q).1; omega
  rw [fX2_stringAt, fX8_readString, c1, c2, c3, d1, d2, d3, d4]
  by_cases h1 : q < ss
  · rw [if_neg (show ¬ nI ss ≤ nI q by rw [nI_leI (by omega) (by omega)]; omega), if_pos (show nI q < nI ss by rw [nI_ltI (by omega) (by omega)]; omega)]
    rcases (show b = 0 ∨ b = 1 ∨ b = 2 by omega) with e | e | e
    · have := hb0 e; omega
    · subst e
      obtain ⟨g1, g2⟩ := hb1 rfl
      obtain ⟨k1, k2⟩ := a3 (sp + q) (by omega)
      refine ⟨_, k2, ?_, ?_⟩
      · rw [if_neg (show ¬ sg = true by rw [g2]; decide), a1, nI_add, row_at (by omega) (by omega) (by omega), Option.bind_some]
      · rw [if_pos (show nI 1 = (1:Int32) from rfl), nI_add, if_pos (by rw [inb_nI (by omega)]; omega), nI_clamp (by omega), k1, Nat.zero_add]
    · subst e
      obtain ⟨g1, g2⟩ := hb2 rfl
      obtain ⟨k1, k2⟩ := b3 (sp + q) (by omega)
      refine ⟨_, k2, ?_, ?_⟩
      · rw [if_pos g2, b1, nI_add, row_at (by omega) (by omega) (by omega), Option.bind_some]
      · rw [if_neg (show ¬ nI 2 = (1:Int32) by decide), L4000, nI_add, nI_add, if_pos (by rw [inb_nI (by omega)]; omega), nI_clamp (by omega), k1, Nat.add_assoc]
  · rw [if_pos (show nI ss ≤ nI q by rw [nI_leI (by omega) (by omega)]; omega), if_neg (show ¬ nI q < nI ss by rw [nI_ltI (by omega) (by omega)]; omega)]
    obtain ⟨k1, k2⟩ := b3 (ws + q - ss) (by omega)
    refine ⟨_, k2, ?_, ?_⟩
    · rw [b1, nI_add, pk_sub (by omega), row_at (by omega) (by omega) (by omega), Option.bind_some]
    · rw [L4000, nI_add, nI_add, pk_sub (by omega), if_pos (by rw [inb_nI (by omega)]; omega), nI_clamp (by omega), k1]
      congr 2; omega
theorem rA_app (mar : Nat → Nat → Int32) (r c m m' : Nat) (g g' : Nat → Int32) : rA (rA mar r c m g) r (c + m) m' g' = rA mar r c (m + m') (apd g m m' g') := by
  unfold rA
  rw [up2 mar 0 1 (by decide)]
  rw [show (va_up (va_up mar 0 (apd (mar 0) (1000 * r + c) m g)) 1 (upd (mar 1) r (nI (c + m)))) 0 = apd (mar 0) (1000 * r + c) m g from rfl, show (va_up (va_up mar 0 (apd (mar 0) (1000 * r + c) m g)) 1 (upd (mar 1) r (nI (c + m)))) 1 = upd (mar 1) r (nI (c + m)) from rfl, upd_upd, apd_app, Nat.add_assoc c, Nat.add_assoc (1000 * r)]
/-- COPY's bytes, both sides -/
theorem copy_both {sl b ss sp ws we a n : Nat} {sg : Bool} {msc : Nat → Int32} (h3 : msc 3 = 0) (ha : a < 2 ^ 29) (hn : n < 2 ^ 29) : ∀ (r i mm kx km : Nat) (sc : Nat → Int32) (ar : Nat → Nat → Int32) (mar : Nat → Nat → Int32), MS sl b ss sp ws we mm sg sc ar msc mar → i + r = n → r < kx → r < km → a + i < ss + (mm - ws) → mm + r ≤ we → ∃ v : Nat → Int32, (∀ j, j < r → isb (v j)) ∧ fX2_copy_L21 sg (nI n) (lN a) kx (nI i) sc ar = some (va_up sc 9 (nI (mm + r)), va_up ar 9 (apd (ar 9) mm r v)) ∧ fX8_perform_L38 msc (nI n) (nI a) km (nI i) mar = some (rA mar 4 mm r v)
  | 0, i, mm, kx + 1, km + 1, sc, ar, mar, h, hi, _, _, _, _ => by
    have e : i = n := by omega
    subst e
    have hl : nI i ≤ nI i := by rw [nI_leI (by omega) (by omega)]; omega
    refine ⟨fun _ => 0, fun j hj => by omega, ?_, ?_⟩
    · rw [fX2_copy_L21, if_pos hl, apd_0, up_id (f := ar) rfl, Nat.add_zero, up_id h.2.1.1]
    · rw [fX8_perform_L38, if_pos hl, rA_0 h.2.1.2.1]
  | r + 1, i, mm, kx + 1, km + 1, sc, ar, mar, h, hi, hkx, hkm, hai, hmk => by
    have hwe := h.2.2.2.2.2.2.2
    have hws := h.2.2.2.2.2.1
    obtain ⟨v0, hv0, x0, m0⟩ := str_eq h (q := a + i) hai
    have hl : ¬ nI n ≤ nI i := by rw [nI_leI (by omega) (by omega)]; omega
    have hMS := MS_add (m := 1) (v := fun _ => v0) (mar1 := mar) (sc1 := va_up sc 9 (nI (mm+1))) (msc1 := msc) h (fun _ _ => hv0) (by omega) rfl rfl (fun k hk => up_nin (by decide) hk) rfl (fun _ _ => rfl)
    obtain ⟨v, hv, x1, m1⟩ := copy_both h3 ha hn r (i + 1) (mm + 1) kx km _ _ _ hMS (by omega) (by omega) (by omega) (by omega) (by omega)
    refine ⟨apd (fun _ => v0) 1 r v, fun j hj => ?_, ?_, ?_⟩
    · by_cases j0 : j < 1
      · rw [apd_lo j0]; exact hv0
      · rw [show j = 1 + (j - 1) by omega, apd_in (by omega)]; exact hv _ (by omega)
    · rw [fX2_copy_L21, if_neg hl, lN_i, nI_add, x0, Option.bind_some, h.2.1.1, row_app1 (by omega) (by omega), Option.bind_some, nI_1]
      dsimp only
      rw [x1, up_up, up_up, show (va_up ar 9 (apd (ar 9) mm 1 fun _ => v0)) 9 = apd (ar 9) mm 1 (fun _ => v0) from rfl, ← apd_app, Nat.add_assoc mm 1 r, Nat.add_comm 1 r]
    · have ap : fX8_append msc mar (4 : Int32) v0 = some (rA mar 4 mm 1 (fun _ => v0)) := ap_4 h.2.1.2.1 (by omega)
      rw [fX8_perform_L38, if_neg hl, if_pos h3, nI_add, m0, Option.bind_some, ap, Option.bind_some, nI_1, m1, rA_app, Nat.add_comm 1 r]
  | r, i, mm, 0, km, sc, ar, mar, h, hi, hk, _, _, _ => by omega
  | r, i, mm, kx, 0, sc, ar, mar, h, hi, _, hk, _, _ => by omega
