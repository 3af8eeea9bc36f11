/-! PURE: a window's instructions followed, both sides -/
/-- what is made, and the segment -/
def MS (sl b ss sp ws we mk : Nat) (sg : Bool) (sc : Nat → Int32) (ar : Nat → Nat → Int32) (msc : Nat → Int32) (mar : Nat → Nat → Int32) : Prop :=
  (sc 0 = nI sl ∧ sl ≤ 48 ∧ SR (ar 0) sl (mar 0) 0) ∧ (sc 9 = nI mk ∧ mar 1 4 = nI mk ∧ SR (ar 9) mk (mar 0) 4000) ∧ (sc 13 = nI sp ∧ sc 14 = nI ss ∧ sc 15 = nI ws ∧ sc 16 = nI we) ∧ (msc 4 = nI b ∧ msc 5 = nI ss ∧ msc 6 = nI sp ∧ msc 7 = nI ws ∧ msc 8 = nI (we - ws)) ∧ (b ≤ 2 ∧ (b = 0 → ss = 0) ∧ (b = 1 → sp + ss ≤ sl ∧ sg = false) ∧ (b = 2 → sp + ss ≤ ws ∧ sg = true)) ∧ ws ≤ mk ∧ mk ≤ we ∧ we ≤ 400
def RDR (dl e0 e1 e2 p0 p1 p2 : Nat) (sc : Nat → Int32) (mar : Nat → Nat → Int32) : Prop :=
  (sc 23 = nI p0 ∧ sc 24 = nI e0 ∧ mar 10 0 = nI p0 ∧ mar 11 0 = nI e0 ∧ p0 ≤ e0 ∧ e0 ≤ dl) ∧ (sc 25 = nI p1 ∧ sc 26 = nI e1 ∧ mar 10 1 = nI p1 ∧ mar 11 1 = nI e1 ∧ p1 ≤ e1 ∧ e1 ≤ dl) ∧ (sc 27 = nI p2 ∧ sc 28 = nI e2 ∧ mar 10 2 = nI p2 ∧ mar 11 2 = nI e2 ∧ p2 ≤ e2 ∧ e2 ≤ dl)
def CAC (cp : Nat) (sc : Nat → Int32) (ar : Nat → Nat → Int32) (msc : Nat → Int32) (mar : Nat → Nat → Int32) : Prop := CA cp (ar 12) (ar 13) (sc 18) (msc 1) (mar 2) (mar 3)
/-- what a window's instructions leave alone -/
def EF (sc sc' : Nat → Int32) (ar ar' : Nat → Nat → Int32) (msc msc' : Nat → Int32) (mar mar' : Nat → Nat → Int32) : Prop := (∀ k, k ∉ [9, 18, 23, 25, 27] → sc' k = sc k) ∧ (∀ k, k ∉ [9, 12, 13] → ar' k = ar k) ∧ (∀ k, k ∉ [1, 3] → msc' k = msc k) ∧ (∀ k, k ∉ [0, 1, 2, 3, 10] → mar' k = mar k) ∧ (∀ j, j < 4000 → mar' 0 j = mar 0 j) ∧ (∀ j, j ≠ 4 → mar' 1 j = mar 1 j) ∧ mar' 10 3 = mar 10 3
theorem EF.rf {sc : Nat → Int32} {ar : Nat → Nat → Int32} {msc : Nat → Int32} {mar : Nat → Nat → Int32} : EF sc sc ar ar msc msc mar mar := ⟨fun _ _ => rfl, fun _ _ => rfl, fun _ _ => rfl, fun _ _ => rfl, fun _ _ => rfl, fun _ _ => rfl, rfl⟩
theorem EF.trans {sc s1 s2 : Nat → Int32} {ar a1 a2 : Nat → Nat → Int32} {msc m1 m2 : Nat → Int32} {mar r1 r2 : Nat → Nat → Int32} (h : EF sc s1 ar a1 msc m1 mar r1) (h2 : EF s1 s2 a1 a2 m1 m2 r1 r2) : EF sc s2 ar a2 msc m2 mar r2 :=
  ⟨fun k hk => (h2.1 k hk).trans (h.1 k hk), fun k hk => (h2.2.1 k hk).trans (h.2.1 k hk), fun k hk => (h2.2.2.1 k hk).trans (h.2.2.1 k hk), fun k hk => (h2.2.2.2.1 k hk).trans (h.2.2.2.1 k hk), fun j hj => (h2.2.2.2.2.1 j hj).trans (h.2.2.2.2.1 j hj), fun j hj => (h2.2.2.2.2.2.1 j hj).trans (h.2.2.2.2.2.1 j hj), h2.2.2.2.2.2.2.trans h.2.2.2.2.2.2⟩
theorem rA10 (mar : Nat → Nat → Int32) (U U' g : Nat → Int32) (r c m : Nat) : va_up (rA (va_up mar 10 U) r c m g) 10 U' = rA (va_up mar 10 U') r c m g := by
  funext k
  unfold rA
  simp only [up_ap]
  by_cases h1 : k = 1
  · subst h1; rfl
  · by_cases h0 : k = 0
    · subst h0; rfl
    · by_cases h10 : k = 10
      · subst h10; rfl
      · simp only [h1, h0, h10, if_false]
/-- MS behind m bytes more, on both sides -/
theorem MS_add {sl b ss sp ws we mk m : Nat} {sg : Bool} {sc : Nat → Int32} {ar : Nat → Nat → Int32} {msc : Nat → Int32} {mar mar1 : Nat → Nat → Int32} {sc1 msc1 : Nat → Int32} {v : Nat → Int32} (h : MS sl b ss sp ws we mk sg sc ar msc mar) (hv : ∀ j, j < m → isb (v j)) (hm : mk + m ≤ we) (e0 : mar1 0 = mar 0) (e1 : mar1 1 = mar 1) (es : ∀ k, k ∉ [9, 18, 23, 25, 27] → sc1 k = sc k) (e9 : sc1 9 = nI (mk + m)) (em : ∀ k, k ∉ [1, 3] → msc1 k = msc k) : MS sl b ss sp ws we (mk + m) sg sc1 (va_up ar 9 (apd (ar 9) mk m v)) msc1 (rA mar1 4 mk m v) := by
  obtain ⟨⟨a1, a2, a3⟩, ⟨b1, b2, b3⟩, ⟨c1, c2, c3, c4⟩, ⟨d1, d2, d3, d4, d5⟩, hb, w1, w2, w3⟩ := h
  refine ⟨⟨by rw [es 0 (by decide)]; exact a1, a2, ?_⟩, ⟨e9, ?_, ?_⟩, ⟨by rw [es 13 (by decide)]; exact c1, by rw [es 14 (by decide)]; exact c2, by rw [es 15 (by decide)]; exact c3, by rw [es 16 (by decide)]; exact c4⟩, ⟨by rw [em 4 (by decide)]; exact d1, by rw [em 5 (by decide)]; exact d2, by rw [em 6 (by decide)]; exact d3, by rw [em 7 (by decide)]; exact d4, by rw [em 8 (by decide)]; exact d5⟩, hb, by omega, hm, w3⟩
  · show SR (ar 0) sl (apd (mar1 0) (1000 * 4 + mk) m v) 0
    rw [e0]
    exact SR_eq a3 (fun _ _ => rfl) (fun j hj => by rw [apd_lo (by omega)])
  · show upd (mar1 1) 4 (nI (mk + m)) 4 = _; rw [upd_s]
  · show SR (apd (ar 9) mk m v) (mk + m) (apd (mar1 0) (1000 * 4 + mk) m v) 4000
    rw [e0]
    exact SR_apd b3 hv
/-- frames of such a step -/
theorem EF_add {sc sc1 : Nat → Int32} {ar : Nat → Nat → Int32} {msc msc1 : Nat → Int32} {mar mar1 : Nat → Nat → Int32} {mk m : Nat} {v v' : Nat → Int32} (es : ∀ k, k ∉ [9, 18, 23, 25, 27] → sc1 k = sc k) (em : ∀ k, k ∉ [1, 3] → msc1 k = msc k) (er : ∀ k, k ∉ [2, 3, 10] → mar1 k = mar k) (e10 : mar1 10 3 = mar 10 3) : EF sc sc1 ar (va_up ar 9 (apd (ar 9) mk m v)) msc msc1 mar (rA mar1 4 mk m v') := by
  refine ⟨es, fun k hk => up_nin (by decide) hk, em, fun k hk => ?_, fun j hj => ?_, fun j hj => ?_, e10⟩
  · unfold rA; rw [up_nin (by decide) hk, up_nin (by decide) hk, er k (nin_sub (by decide) hk)]
  · show apd (mar1 0) (1000 * 4 + mk) m v' j = _; rw [apd_lo (by omega), er 0 (by decide)]
  · show upd (mar1 1) 4 (nI (mk + m)) j = _; rw [upd_n hj, er 1 (by decide)]
theorem x_add_L {dl n mk p0 e0 : Nat} {db : Nat → Nat} {sg : Bool} {sc : Nat → Int32} {ar : Nat → Nat → Int32} {g : Nat → Int32} (h : DLT dl db (ar 2) g) (he : e0 ≤ dl) (hn : p0 + n ≤ e0) (h24 : sc 24 = nI e0) (hm : mk + n ≤ 400) : ∀ (r i k : Nat), i + r = n → r < k → fX2_add_L15 sg (nI n) k (nI i) (va_up (va_up sc 23 (nI (p0 + i))) 9 (nI (mk + i))) (va_up ar 9 (apd (ar 9) mk i (fun j => nI (db (p0 + j))))) = some (va_up (va_up sc 23 (nI (p0 + n))) 9 (nI (mk + n)), va_up ar 9 (apd (ar 9) mk n (fun j => nI (db (p0 + j)))))
  | 0, i, k + 1, hi, _ => by
    have e : i = n := by omega
    subst e
    rw [fX2_add_L15, if_pos (by rw [nI_leI (by have := h.1; omega) (by have := h.1; omega)]; omega)]
  | r + 1, i, k + 1, hi, hk => by
    have h1 := h.1
    rw [fX2_add_L15, if_neg (by rw [nI_leI (by omega) (by omega)]; omega), show (va_up (va_up sc 23 (nI (p0 + i))) 9 (nI (mk + i))) 23 = nI (p0 + i) from rfl, show (va_up (va_up sc 23 (nI (p0 + i))) 9 (nI (mk + i))) 24 = nI e0 from h24, show (va_up ar 9 (apd (ar 9) mk i fun j => nI (db (p0 + j)))) 2 = ar 2 from rfl, x_byte h he (by omega), Option.bind_some, show (va_up (va_up sc 23 (nI (p0 + i))) 9 (nI (mk + i))) 9 = nI (mk + i) from rfl, show (va_up ar 9 (apd (ar 9) mk i fun j => nI (db (p0 + j)))) 9 = apd (ar 9) mk i (fun j => nI (db (p0 + j))) from rfl, row_app (by omega) (by omega), Option.bind_some, up_up, nI_1]
    dsimp only
    have h := x_add_L (sg := sg) (sc := sc) h he hn h24 hm r (i + 1) k (by omega) (by omega)
    rw [apd_s] at h
    rw [up2 sc 23 9 (by decide)]
    exact h
  | r, i, 0, hi, hk => by omega
theorem m_add_L {dl n mk p0 e0 : Nat} {db : Nat → Nat} {f : Nat → Int32} {msc : Nat → Int32} {mar : Nat → Nat → Int32} (h : DLT dl db f (mar 0)) (he : e0 ≤ dl) (hp : p0 ≤ e0) (h11 : mar 11 0 = nI e0) (h3 : msc 3 = 0) (hm : mk + n ≤ 400) : ∀ (r i k : Nat) (b : Int32), i + r = n → r < k → p0 + i ≤ e0 →
    (p0 + n ≤ e0 → fX8_perform_L91 (nI 1) (nI n) k b (nI i) msc (rA (va_up mar 10 (upd (mar 10) 0 (nI (p0 + i)))) 4 mk i (fun j => nI (db (p0 + j)))) = some (msc, rA (va_up mar 10 (upd (mar 10) 0 (nI (p0 + n)))) 4 mk n (fun j => nI (db (p0 + j))))) ∧
    (e0 < p0 + n → ∃ (m : Nat) (v : Nat → Int32) (U : Nat → Int32), m ≤ n ∧ U 3 = mar 10 3 ∧ fX8_perform_L91 (nI 1) (nI n) k b (nI i) msc (rA (va_up mar 10 (upd (mar 10) 0 (nI (p0 + i)))) 4 mk i (fun j => nI (db (p0 + j)))) = some (va_up msc 3 1, rA (va_up mar 10 U) 4 mk m v))
  | 0, i, k + 1, b, hi, _, hpe => by
    have e : i = n := by omega
    subst e
    have h1 := h.1
    refine ⟨fun _ => ?_, fun q => by omega⟩
    rw [fX8_perform_L91, if_pos (by rw [nI_leI (by omega) (by omega)]; omega)]
  | r + 1, i, k + 1, b, hi, hk, hpe => by
    have h1 := h.1
    have hle : ¬ nI n ≤ nI i := by rw [nI_leI (by omega) (by omega)]; omega
    have hd : DLT dl db f ((rA (va_up mar 10 (upd (mar 10) 0 (nI (p0 + i)))) 4 mk i (fun j => nI (db (p0 + j)))) 0) := by
      refine ⟨h.1, fun q hq => ⟨(h.2 q hq).1, ?_, (h.2 q hq).2.2⟩⟩
      show apd (mar 0) (1000 * 4 + mk) i (fun j => nI (db (p0 + j))) (2000 + q) = _
      rw [apd_lo (by omega)]; exact (h.2 q hq).2.1
    have h10 : (rA (va_up mar 10 (upd (mar 10) 0 (nI (p0 + i)))) 4 mk i (fun j => nI (db (p0 + j)))) 10 0 = nI (p0 + i) := by
      show upd (mar 10) 0 (nI (p0 + i)) 0 = _; rw [upd_s]
    by_cases hlt : p0 + i < e0
    · have nx : fX8_next msc (rA (va_up mar 10 (upd (mar 10) 0 (nI (p0 + i)))) 4 mk i (fun j => nI (db (p0 + j)))) (0 : Int32) = some (nI (db (p0 + i)), msc, rA (va_up mar 10 (upd (mar 10) 0 (nI (p0 + (i + 1))))) 4 mk i (fun j => nI (db (p0 + j)))) := by
        have := m_byte (msc := msc) (s := 0) (p := p0 + i) hd he (by omega) h10 h11 hlt
        rw [show (rA (va_up mar 10 (upd (mar 10) 0 (nI (p0 + i)))) 4 mk i (fun j => nI (db (p0 + j)))) 10 = upd (mar 10) 0 (nI (p0 + i)) from rfl, upd_upd, rA10] at this
        exact this
      have ap : fX8_append msc (rA (va_up mar 10 (upd (mar 10) 0 (nI (p0 + (i + 1))))) 4 mk i (fun j => nI (db (p0 + j)))) (4 : Int32) (nI (db (p0 + i))) = some (rA (va_up mar 10 (upd (mar 10) 0 (nI (p0 + (i + 1))))) 4 mk (i + 1) (fun j => nI (db (p0 + j)))) := m_app_s (r := 4) (g := fun j => nI (db (p0 + j))) (by omega) (by omega)
      rw [fX8_perform_L91, if_neg hle, if_pos h3, if_pos (by decide), nx, Option.bind_some]
      dsimp only
      rw [ap, Option.bind_some, nI_1]
      exact m_add_L h he hp h11 h3 hm r (i + 1) k _ (by omega) (by omega) (by omega)
    · refine ⟨fun q => by omega, fun _ => ?_⟩
      have nx : fX8_next msc (rA (va_up mar 10 (upd (mar 10) 0 (nI (p0 + i)))) 4 mk i (fun j => nI (db (p0 + j)))) (0 : Int32) = some (0, va_up msc 3 1, rA (va_up mar 10 (upd (mar 10) 0 (nI (p0 + i)))) 4 mk i (fun j => nI (db (p0 + j)))) := m_byte_no (s := 0) (by omega) h10 h11 (by omega) (by omega)
      have h14 : (rA (va_up mar 10 (upd (mar 10) 0 (nI (p0 + i)))) 4 mk i (fun j => nI (db (p0 + j)))) 1 4 = nI (mk + i) := by
        show upd (mar 1) 4 (nI (mk + i)) 4 = _; rw [upd_s]
      have e1 := apd_s ((va_up mar 10 (upd (mar 10) 0 (nI (p0 + i)))) 0) (fun j => if j < i then nI (db (p0 + j)) else 0) (1000 * 4 + mk) i
      have ap : fX8_append (va_up msc 3 1) (rA (va_up mar 10 (upd (mar 10) 0 (nI (p0 + i)))) 4 mk i (fun j => nI (db (p0 + j)))) (4 : Int32) 0 = some (rA (va_up mar 10 (upd (mar 10) 0 (nI (p0 + i)))) 4 mk (i + 1) (fun j => if j < i then nI (db (p0 + j)) else 0)) := by
        have eq : rA (va_up mar 10 (upd (mar 10) 0 (nI (p0 + i)))) 4 mk i (fun j => nI (db (p0 + j))) = rA (va_up mar 10 (upd (mar 10) 0 (nI (p0 + i)))) 4 mk i (fun j => if j < i then nI (db (p0 + j)) else 0) := by
          unfold rA; rw [apd_congr (g' := fun j => if j < i then nI (db (p0 + j)) else 0) (fun j hj => by rw [if_pos hj])]
        rw [eq]
        have := m_app_s (sc := va_up msc 3 1) (ar := va_up mar 10 (upd (mar 10) 0 (nI (p0 + i)))) (r := 4) (c := mk) (m := i) (g := fun j => if j < i then nI (db (p0 + j)) else 0) (by omega) (by omega)
        rw [if_neg (Nat.lt_irrefl i)] at this
        exact this
      refine ⟨i + 1, fun j => if j < i then nI (db (p0 + j)) else 0, upd (mar 10) 0 (nI (p0 + i)), by omega, by rw [upd_n (by decide)], ?_⟩
      rw [fX8_perform_L91, if_neg hle, if_pos h3, if_pos (by decide), nx, Option.bind_some]
      dsimp only
      rw [ap, Option.bind_some, nI_1]
      obtain ⟨k, rfl⟩ : ∃ q, k = q + 1 := ⟨k - 1, by omega⟩
      rw [fX8_perform_L91]
      by_cases hl2 : nI n ≤ nI (i + 1)
      · rw [if_pos hl2]
      · rw [if_neg hl2, if_neg (show ¬ (va_up msc 3 1) 3 = 0 by show ¬ (1 : Int32) = 0; decide)]
  | r, i, 0, b, hi, hk, _ => by omega
/-- the outcome of an instruction: X answers 1 and the states stay in step, or 0 and the model is bad -/
def DW (dl : Nat) (db : Nat → Nat) (sl b ss sp ws we e0 e1 e2 mk p0 p1 p2 cp : Nat) (sg : Bool) (sc : Nat → Int32) (ar : Nat → Nat → Int32) (msc : Nat → Int32) (mar : Nat → Nat → Int32) : Prop :=
  DLT dl db (ar 2) (mar 0) ∧ MS sl b ss sp ws we mk sg sc ar msc mar ∧ RDR dl e0 e1 e2 p0 p1 p2 sc mar ∧ CAC cp sc ar msc mar ∧ cp ≤ mk ∧ msc 3 = 0
def OK9 (sc : Nat → Int32) : Prop := ∃ m : Nat, m ≤ 400 ∧ sc 9 = nI m
theorem DLT_kept {dl : Nat} {db : Nat → Nat} {f f' g g' : Nat → Int32} (h : DLT dl db f g) (hf : f' = f) (hg : ∀ j, j < 4000 → g' j = g j) : DLT dl db f' g' := ⟨h.1, fun i hi => by have := h.1; rw [hf, hg _ (by omega)]; exact h.2 i hi⟩
theorem bad_ne {msc : Nat → Int32} : ¬ (va_up msc 3 1) 3 = 0 := by show ¬ (1 : Int32) = 0; decide
/-- ADD, both sides -/
theorem add_exec {dl sl b ss sp ws we e0 e1 e2 mk p0 p1 p2 cp n : Nat} {db : Nat → Nat} {sg : Bool} {sc : Nat → Int32} {ar : Nat → Nat → Int32} {msc : Nat → Int32} {mar : Nat → Nat → Int32} (h : DW dl db sl b ss sp ws we e0 e1 e2 mk p0 p1 p2 cp sg sc ar msc mar) (hn : 1 ≤ n) (hm : mk + n ≤ we) :
    ∃ (r : Int32) (sc' : Nat → Int32) (ar' : Nat → Nat → Int32) (msc' : Nat → Int32) (mar' : Nat → Nat → Int32), fX2_add sc ar sg (nI n) = some (r, sc', ar') ∧ fX8_perform_L91 1 (nI n) FU 0 0 msc mar = some (msc', mar') ∧ EF sc sc' ar ar' msc msc' mar mar' ∧ OK9 sc' ∧
      ((r = 1 ∧ DW dl db sl b ss sp ws we e0 e1 e2 (mk + n) (p0 + n) p1 p2 cp sg sc' ar' msc' mar') ∨ (r = 0 ∧ msc' 3 = 1)) := by
  obtain ⟨hd, hM, hR, hC, hcp, h3⟩ := h
  obtain ⟨⟨r1, r2, r3, r4, r5, r6⟩, hR1, hR2⟩ := id hR
  have h1 := hd.1
  have hw := hM.2.2.2.2.2.2.2
  have hb : ∀ j, j < n → p0 + n ≤ e0 → isb (nI (db (p0 + j))) := fun j hj hq => ⟨_, (hd.2 (p0 + j) (by omega)).2.2, rfl⟩
  have hm0 : rA (va_up mar 10 (upd (mar 10) 0 (nI (p0 + 0)))) 4 mk 0 (fun j => nI (db (p0 + j))) = mar := by
    rw [Nat.add_zero, upd_id r3, up_id rfl, rA_0 hM.2.1.2.1]
  obtain ⟨y1, y2⟩ := m_add_L (n := n) (mk := mk) hd r6 r5 r4 h3 (by omega) n 0 FU 0 (by omega) (by rw [FUv]; omega) (by omega)
  rw [hm0] at y1 y2
  by_cases hq : p0 + n ≤ e0
  · have hx := x_add_L (n := n) (mk := mk) (p0 := p0) (sg := sg) hd r6 hq r2 (by omega) n 0 FU (by omega) (by rw [FUv]; omega)
    rw [apd_0, up_id (f := ar) rfl, Nat.add_zero, Nat.add_zero, up_id (f := sc) r1, up_id (f := sc) hM.2.1.1] at hx
    refine ⟨1, va_up (va_up sc 23 (nI (p0+n))) 9 (nI (mk+n)), va_up ar 9 (apd (ar 9) mk n fun j => nI (db (p0 + j))), msc, rA (va_up mar 10 (upd (mar 10) 0 (nI (p0 + n)))) 4 mk n (fun j => nI (db (p0 + j))), ?_, y1 hq, ?_, ⟨mk + n, by omega, rfl⟩, Or.inl ⟨rfl, ?_⟩⟩
    · have hx' : fX2_add_L15 sg (nI n) FU 0 sc ar = some (va_up (va_up sc 23 (nI (p0 + n))) 9 (nI (mk + n)), va_up ar 9 (apd (ar 9) mk n fun j => nI (db (p0 + j)))) := hx
      rw [fX2_add, fX5_left, Option.bind_some, r1, r2, pk_sub r5, if_pos (by rw [nI_leI (by omega) (by omega)]; omega), hx', Option.bind_some]
    · exact EF_add (fun k hk => by rw [up_nin (by decide) hk, up_nin (by decide) hk]) (fun _ _ => rfl) (fun k hk => up_nin (by decide) hk) (by show upd (mar 10) 0 (nI (p0 + n)) 3 = _; rw [upd_n (by decide)])
    · refine ⟨DLT_kept hd rfl (fun j hj => ?_), MS_add hM (fun j hj => hb j hj hq) hm rfl rfl (fun k hk => by rw [up_nin (by decide) hk, up_nin (by decide) hk]) rfl (fun _ _ => rfl), ⟨⟨rfl, r2, ?_, r4, hq, r6⟩, ?_, ?_⟩, hC, by omega, h3⟩
      · show apd (mar 0) (1000 * 4 + mk) n (fun j => nI (db (p0 + j))) j = _; rw [apd_lo (by omega)]
      · show upd (mar 10) 0 (nI (p0 + n)) 0 = _; rw [upd_s]
      · exact ⟨hR1.1, hR1.2.1, by show upd (mar 10) 0 (nI (p0 + n)) 1 = _; rw [upd_n (by decide)]; exact hR1.2.2.1, hR1.2.2.2⟩
      · exact ⟨hR2.1, hR2.2.1, by show upd (mar 10) 0 (nI (p0 + n)) 2 = _; rw [upd_n (by decide)]; exact hR2.2.2.1, hR2.2.2.2⟩
  · obtain ⟨m, v, U, u1, u2, u3⟩ := y2 (by omega)
    refine ⟨0, sc, ar, _, _, ?_, u3, ?_, ⟨mk, by omega, hM.2.1.1⟩, Or.inr ⟨rfl, rfl⟩⟩
    · rw [fX2_add, fX5_left, Option.bind_some, r1, r2, pk_sub r5, if_neg (by rw [nI_leI (by omega) (by omega)]; omega)]
    · have := EF_add (sc := sc) (sc1 := sc) (ar := ar) (msc := msc) (msc1 := va_up msc 3 1) (mar := mar) (mar1 := va_up mar 10 U) (mk := mk) (m := m) (v := v) (v' := v) (fun _ _ => rfl) (fun k hk => up_nin (by decide) hk) (fun k hk => up_nin (by decide) hk) u2
      exact ⟨fun _ _ => rfl, fun _ _ => rfl, this.2.2⟩
