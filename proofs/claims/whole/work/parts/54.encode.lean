/-! PURE: encode, whole -/
theorem enc_loop {sl tl w : Nat} {src tg : Nat → Int32} {sg : Bool} (hw1 : 1 ≤ w) (hw : w ≤ 64) : ∀ (r fr dl kx km : Nat) (sc : Nat → Int32) (ar : Nat → Nat → Int32) (msc : Nat → Int32) (mar : Nat → Nat → Int32), tl ≤ fr + r → fr ≤ 200 → r < kx → r < km → S0 sl tl src tg sc ar mar → SX sc → sc 2 = nI dl → DR dl (ar 2) mar → dl ≤ 5 + 15 * min fr tl → (∀ i, i < 4 → ar 10 i = mar 2 i) → (∀ i, i < 768 → ar 11 i = mar 3 i) →
    ∃ (sc' : Nat → Int32) (ar' : Nat → Nat → Int32) (msc' : Nat → Int32) (mar' : Nat → Nat → Int32) (dl' : Nat), fX3_writeDelta_L54 sg (nI w) kx (nI fr) sc ar = some (sc', ar') ∧ fX8_encode_L48 (nI w) km (nI fr) msc mar = some (msc', mar') ∧ SX sc' ∧ sc' 2 = nI dl' ∧ DR dl' (ar' 2) mar' ∧ dl' ≤ 1000 ∧ (∀ i, i < 4 → ar' 10 i = mar' 2 i) ∧ (∀ i, i < 768 → ar' 11 i = mar' 3 i) ∧ XF sc sc' ar ar' ∧ MF msc msc' mar mar' := by
  intro r
  induction r using Nat.strongRecOn with
  | ind r ih =>
    intro fr dl kx km sc ar msc mar hr hf2 hkx hkm h hX h2 hD hdl hc1 hc2
    obtain ⟨kx, rfl⟩ : ∃ q, kx = q + 1 := ⟨kx - 1, by omega⟩
    obtain ⟨km, rfl⟩ : ∃ q, km = q + 1 := ⟨km - 1, by omega⟩
    obtain ⟨g0, gs, g1, gt, m0, ms, m1, mt, bs, bt, hs, ht⟩ := id h
    have z1 : (1 : Int32).toNatClampNeg = 1 := by decide
    rw [fX3_writeDelta_L54, fX6_count, Option.bind_some, g1, fX8_encode_L48, if_pos (show inb (1 : Int32) 5 = true by decide), z1, m1]
    by_cases hend : tl ≤ fr
    · have hle : nI tl ≤ nI fr := by rw [nI_leI (by omega) (by omega)]; exact hend
      rw [if_pos hle, if_pos hle]
      exact ⟨sc, ar, msc, mar, dl, rfl, rfl, hX, h2, hD, by omega, hc1, hc2, XF.rf, MF.rf⟩
    · have hle : ¬ nI tl ≤ nI fr := by rw [nI_leI (by omega) (by omega)]; exact hend
      rw [if_neg hle, if_neg hle, Option.bind_some, if_pos (show inb (1 : Int32) 5 = true by decide), nI_add]
      -- the piece
      have hstep : ∀ n : Nat, 1 ≤ n → fr + n ≤ tl → (fr + n = fr + w ∨ (fr + n = tl ∧ tl ≤ fr + w)) → ∃ (sc' : Nat → Int32) (ar' : Nat → Nat → Int32) (msc' : Nat → Int32) (mar' : Nat → Nat → Int32) (dl' : Nat), ((fX3_takePiece sc ar sg (nI fr) (nI (fr + n))).bind fun R16 => (fX3_findInstructions R16.1 R16.2 sg).bind fun R18 => (fX3_chooseCodes R18.1 R18.2 sg).bind fun R20 => (fX3_writeWindow R20.1 R20.2 sg).bind fun R22 => fX3_writeDelta_L54 sg (nI w) kx (nI fr + (if (1 : Int32) < nI w then nI w else (1 : Int32))) R22.1 R22.2) = some (sc', ar') ∧ ((fX8_window msc mar (nI fr) (nI (fr + n))).bind fun R18 => fX8_encode_L48 (nI w) km (nI (fr + w)) R18.1 R18.2) = some (msc', mar') ∧ SX sc' ∧ sc' 2 = nI dl' ∧ DR dl' (ar' 2) mar' ∧ dl' ≤ 1000 ∧ (∀ i, i < 4 → ar' 10 i = mar' 2 i) ∧ (∀ i, i < 768 → ar' 11 i = mar' 3 i) ∧ XF sc sc' ar ar' ∧ MF msc msc' mar mar' := by
        intro n hn hfn hor
        obtain ⟨s1, s2, s3, s4, a1, a2, a3, a4, msc', mar', dl', e1, e2, e3, e4, e5, e6, e7, e8, e9, e10, e11, e12, e13⟩ := win_sim (msc := msc) (sg := sg) h hX h2 hD hn hfn (by omega)
        have ew : nI fr + (if (1 : Int32) < nI w then nI w else (1 : Int32)) = nI (fr + w) := by
          by_cases q : w = 1
          · subst q; rw [if_neg (by decide), nI_1]
          · rw [if_pos (by rw [L1, nI_ltI (by omega) (by omega)]; omega), nI_add]
        have hS0 : S0 sl tl src tg s4 a4 mar' := by
          refine ⟨by rw [e12.1 0 (by decide)]; exact g0, fun i hi => by rw [e12.2 0 (by decide)]; exact gs i hi, by rw [e12.1 1 (by decide)]; exact g1, fun i hi => by rw [e12.2 1 (by decide)]; exact gt i hi, by rw [e13.2.2.1 0 (by decide)]; exact m0, fun i hi => by rw [e13.2.2.2 i (by omega)]; exact ms i hi, by rw [e13.2.2.1 1 (by decide)]; exact m1, fun i hi => by rw [e13.2.2.2 _ (by omega)]; exact mt i hi, bs, bt, hs, ht⟩
        obtain ⟨sc2, ar2, msc2, mar2, dl2, i1, i2, i3, i4, i5, i6, i7, i8, i9, i10⟩ := ih (r - w) (by omega) (fr + w) dl' kx km s4 a4 msc' mar' (by omega) (by omega) (by omega) (by omega) hS0 e6 e7 e8 (by omega) e10 e11
        refine ⟨sc2, ar2, msc2, mar2, dl2, ?_, ?_, i3, i4, i5, i6, i7, i8, e12.trans i9, e13.trans i10⟩
        · rw [e1, Option.bind_some]; dsimp only
          rw [e2, Option.bind_some]; dsimp only
          rw [e3, Option.bind_some]; dsimp only
          rw [e4, Option.bind_some, ew]; exact i1
        · rw [e5, Option.bind_some]; exact i2
      by_cases hlast : tl ≤ fr + w
      · have hl : nI tl ≤ nI (fr + w) := by rw [nI_leI (by omega) (by omega)]; exact hlast
        rw [if_pos hl, if_pos (show inb (1 : Int32) 5 = true by decide)]
        have et : (if nI tl < nI (fr + w) then nI tl else nI (fr + w)) = nI (fr + (tl - fr)) := by
          by_cases q : tl = fr + w
          · rw [if_neg (by rw [nI_ltI (by omega) (by omega)]; omega)]; congr 1; omega
          · rw [if_pos (by rw [nI_ltI (by omega) (by omega)]; omega)]; congr 1; omega
        rw [et]
        have h9 := hstep (tl - fr) (by omega) (by omega) (Or.inr ⟨by omega, hlast⟩)
        rw [show fr + (tl - fr) = tl by omega] at h9 ⊢
        exact h9
      · have hl : ¬ nI tl ≤ nI (fr + w) := by rw [nI_leI (by omega) (by omega)]; exact hlast
        rw [if_neg hl, if_neg (show ¬ nI tl < nI (fr + w) by rw [nI_ltI (by omega) (by omega)]; omega)]
        exact hstep w hw1 (by omega) (Or.inl rfl)
theorem m_head : ∀ k, k < 5 → fX8_head (nI k) = some (HDf k) := by decide +kernel
theorem x_head_L {sg : Bool} {x1 : Int32} {sc : Nat → Int32} {ar : Nat → Nat → Int32} : ∀ (r i k : Nat), i + r = 5 → r < k → fX3_writeDelta_L18 sg x1 (Int32.ofNat 5) k (nI i) (va_up sc 2 (nI i)) (va_up ar 2 (apd (ar 2) 0 i HDf)) = some (va_up sc 2 (nI 5), va_up ar 2 (apd (ar 2) 0 5 HDf))
  | 0, i, k + 1, hi, _ => by
    have e : i = 5 := by omega
    subst e
    rw [fX3_writeDelta_L18, if_pos (by decide)]
  | r + 1, i, k + 1, hi, hk => by
    rw [fX3_writeDelta_L18, show Int32.ofNat 5 = nI 5 from rfl, if_neg (by rw [nI_leI (by omega) (by omega)]; omega), if_pos (by rw [inb_nI (by omega)]; omega), nI_clamp (by omega), show (va_up sc 2 (nI i)) 2 = nI i from rfl, show (va_up ar 2 (apd (ar 2) 0 i HDf)) 2 = apd (ar 2) 0 i HDf from rfl, row_app (by omega) (by omega), Option.bind_some, up_up, up_up, nI_1]
    have h := x_head_L (sg := sg) (x1 := x1) (sc := sc) (ar := ar) r (i + 1) k (by omega) (by omega)
    rw [apd_s, Nat.zero_add] at h
    exact h
  | r, i, 0, hi, hk => by omega
theorem m_head_L {x1 : Int32} {msc : Nat → Int32} {mar : Nat → Nat → Int32} : ∀ (r i k : Nat), i + r = 5 → r < k → fX8_encode_L26 msc x1 k (nI i) (rA mar 2 0 i HDf) = some (rA mar 2 0 5 HDf)
  | 0, i, k + 1, hi, _ => by
    have e : i = 5 := by omega
    subst e
    rw [fX8_encode_L26, if_pos (by decide)]
  | r + 1, i, k + 1, hi, hk => by
    have ap : fX8_append msc (rA mar 2 0 i HDf) (2 : Int32) (HDf i) = some (rA mar 2 0 (i + 1) HDf) := m_app_s (r := 2) (by omega) (by omega)
    rw [fX8_encode_L26, if_neg (by rw [L5, nI_leI (by omega) (by omega)]; omega), m_head i (by omega), Option.bind_some, ap, Option.bind_some, nI_1]
    exact m_head_L r (i + 1) k (by omega) (by omega)
  | r, i, 0, hi, hk => by omega
/-- what the model shows of its caches -/
def shF (ar : Nat → Nat → Int32) (k : Nat) : Int32 := if k < 4 then ar 2 k else ar 3 (k - 4)
theorem m_show_L {msc : Nat → Int32} {mar : Nat → Nat → Int32} {s : Nat} (hs : s < 2) : ∀ (r i k : Nat), i + r = 772 → r < k → fX8_show_L2 msc (nI s) k (nI i) (va_up mar 4 (apd (mar 4) (772 * s) i (shF mar))) = some (va_up mar 4 (apd (mar 4) (772 * s) 772 (shF mar)))
  | 0, i, k + 1, hi, _ => by
    have e : i = 772 := by omega
    subst e
    rw [fX8_show_L2, if_pos (by decide)]
  | r + 1, i, k + 1, hi, hk => by
    have e4 : (772 : Int32) * nI s + nI i = nI (772 * s + i) := by rw [L772, pk_mul, nI_add]
    have ii : inb (nI (772 * s + i)) 1544 = true := by rw [inb_nI (by omega)]; omega
    have h := m_show_L (msc := msc) (mar := mar) hs r (i + 1) k (by omega) (by omega)
    rw [apd_s] at h
    rw [fX8_show_L2, if_neg (by rw [L772, nI_leI (by omega) (by omega)]; omega), e4, nI_clamp (by omega), nI_1, show (va_up mar 4 (apd (mar 4) (772 * s) i (shF mar))) 4 = apd (mar 4) (772 * s) i (shF mar) from rfl, show (va_up mar 4 (apd (mar 4) (772 * s) i (shF mar))) 3 = mar 3 from rfl, show (va_up mar 4 (apd (mar 4) (772 * s) i (shF mar))) 2 = mar 2 from rfl, up_up, up_up]
    by_cases q : 4 ≤ i
    · rw [if_pos (by rw [L4, nI_leI (by omega) (by omega)]; exact q), L4, pk_sub q, if_pos (by rw [inb_nI (by omega)]; omega), if_pos ii, nI_clamp (by omega)]
      rw [show shF mar i = mar 3 (i - 4) by unfold shF; rw [if_neg (by omega)]] at h
      exact h
    · rw [if_neg (by rw [L4, nI_leI (by omega) (by omega)]; exact q), if_pos (by rw [inb_nI (by omega)]; omega), if_pos ii, nI_clamp (by omega)]
      rw [show shF mar i = mar 2 i by unfold shF; rw [if_pos (by omega)]] at h
      exact h
  | r, i, 0, hi, hk => by omega
theorem m_show {msc : Nat → Int32} {mar : Nat → Nat → Int32} {s : Nat} (hs : s < 2) : fX8_show msc mar (nI s) = some (va_up mar 4 (apd (mar 4) (772 * s) 772 (shF mar))) := by
  have h := m_show_L (msc := msc) (mar := mar) hs 772 0 FU (by omega) (by rw [FUv]; omega)
  rw [apd_0, up_id rfl] at h
  rw [fX8_show, L0, h, Option.bind_some]
def mst (k : Nat) : Nat := if k = 0 then 48 else if k = 1 then 64 else if k = 2 then 1000 else 400
/-- THE RELATION of the class's state and the model's -/
def Rel (sc : Nat → Int32) (ar : Nat → Nat → Int32) (msc : Nat → Int32) (mar : Nat → Nat → Int32) : Prop :=
  (∃ L : Nat → Nat, ∀ k, k < 4 → L k ≤ mst k ∧ sc k = nI (L k) ∧ mar 1 k = nI (L k) ∧ SR (ar k) (L k) (mar 0) (1000 * k)) ∧ SX sc ∧ (∀ i, i < 4 → ar 10 i = mar 4 i ∧ ar 14 i = mar 4 (772 + i)) ∧ (∀ i, i < 768 → ar 11 i = mar 4 (4 + i) ∧ ar 15 i = mar 4 (776 + i)) ∧ sc 29 = msc 0
theorem encode_sim {sc : Nat → Int32} {ar : Nat → Nat → Int32} {msc : Nat → Int32} {mar : Nat → Nat → Int32} {sg : Bool} (h : Rel sc ar msc mar) (x : Int32) :
    ∃ (r : Int32) (sc' : Nat → Int32) (ar' : Nat → Nat → Int32) (msc' : Nat → Int32) (mar' : Nat → Nat → Int32), fX7_encode sc ar sg x = some (r, sc', ar') ∧ fX8_encode msc mar x = some (r, msc', mar') ∧ Rel sc' ar' msc' mar' := by
  rw [fX7_encode, fX8_encode]
  by_cases c1 : x < (1 : Int32)
  · rw [if_pos c1, if_pos c1]; exact ⟨_, _, _, _, _, rfl, rfl, h⟩
  rw [if_neg c1, if_neg c1]
  by_cases c2 : ¬ x ≤ (64 : Int32)
  · rw [if_neg c2, if_neg c2]; exact ⟨_, _, _, _, _, rfl, rfl, h⟩
  have c2 : x ≤ (64 : Int32) := Classical.not_not.mp c2
  rw [if_pos c2, if_pos c2]
  obtain ⟨w, hw, rfl⟩ : ∃ w : Nat, w ≤ 64 ∧ x = nI w := nI_of2 (M := 64) (n := 64) (by decide) (fun q => c1 (by
    rw [Int32.lt_iff_toInt_lt] at q ⊢
    have e0 : (0 : Int32).toInt = 0 := by decide
    have e1 : (1 : Int32).toInt = 1 := by decide
    omega)) c2
  have hw1 : 1 ≤ w := by
    rw [L1, nI_ltI (by omega) (by omega)] at c1; omega
  obtain ⟨⟨L, hL⟩, hX, hc4, hc768, h29⟩ := id h
  obtain ⟨a0, a1, a2, a3⟩ := hL 0 (by omega)
  obtain ⟨b0, b1, b2, b3⟩ := hL 1 (by omega)
  obtain ⟨d0, d1, d2, d3⟩ := hL 2 (by omega)
  have z2 : (2 : Int32).toNatClampNeg = 2 := by decide
  have m0 : L 0 ≤ 48 := a0
  have m1 : L 1 ≤ 64 := b0
  have m2 : L 2 ≤ 1000 := d0
  -- heads
  have hx := x_head_L (sg := sg) (x1 := nI w) (sc := va_up sc 2 (nI 0)) (ar := ar) 5 0 FU (by omega) (by rw [FUv]; omega)
  rw [apd_0, up_id (f := ar) rfl, up_up, up_up] at hx
  have hm := m_head_L (x1 := nI w) (msc := va_up msc 1 (nI 0)) (mar := va_up (va_up (va_up mar 2 (zf (mar 2) 4)) 3 (zf (mar 3) 768)) 1 (upd (mar 1) 2 (nI 0))) 5 0 FU (by omega) (by rw [FUv]; omega)
  rw [rA_0 (show upd (mar 1) 2 (nI 0) 2 = nI 0 by rw [upd_s])] at hm
  -- the loop
  have hDR : DR 5 (apd (ar 2) 0 5 HDf) (rA (va_up (va_up (va_up mar 2 (zf (mar 2) 4)) 3 (zf (mar 3) 768)) 1 (upd (mar 1) 2 (nI 0))) 2 0 5 HDf) := by
    have hb : ∀ j, j < 5 → isb (HDf j) := fun j hj => by
      rcases (show j = 0 ∨ j = 1 ∨ j = 2 ∨ j = 3 ∨ j = 4 by omega) with rfl | rfl | rfl | rfl | rfl
      · exact ⟨214, by omega, rfl⟩
      · exact ⟨195, by omega, rfl⟩
      · exact ⟨196, by omega, rfl⟩
      · exact ⟨0, by omega, rfl⟩
      · exact ⟨0, by omega, rfl⟩
    have := DR_add (dl := 0) (m := 5) (f := ar 2) (v := HDf) (v' := HDf) (mar := va_up (va_up (va_up mar 2 (zf (mar 2) 4)) 3 (zf (mar 3) 768)) 1 (upd (mar 1) 2 (nI 0))) ⟨by show upd (mar 1) 2 (nI 0) 2 = _; rw [upd_s], fun j hj => by omega⟩ (fun j hj => ⟨rfl, hb j hj⟩)
    rw [Nat.zero_add] at this
    exact this
  have hRF : RF (va_up (va_up (va_up mar 2 (zf (mar 2) 4)) 3 (zf (mar 3) 768)) 1 (upd (mar 1) 2 (nI 0))) (rA (va_up (va_up (va_up mar 2 (zf (mar 2) 4)) 3 (zf (mar 3) 768)) 1 (upd (mar 1) 2 (nI 0))) 2 0 5 HDf) := RF_add (by omega)
  have hS0 : S0 (L 0) (L 1) (ar 0) (ar 1) (va_up (va_up sc 2 (nI 5)) 17 (nI 0)) (va_up (va_up (va_up ar 2 (apd (ar 2) 0 5 HDf)) 10 (zf (ar 10) 4)) 11 (zf (ar 11) 768)) (rA (va_up (va_up (va_up mar 2 (zf (mar 2) 4)) 3 (zf (mar 3) 768)) 1 (upd (mar 1) 2 (nI 0))) 2 0 5 HDf) := by
    refine ⟨a1, fun i hi => rfl, b1, fun i hi => rfl, ?_, fun i hi => ?_, ?_, fun i hi => ?_, fun i hi => (a3 i hi).2, fun i hi => (b3 i hi).2, m0, m1⟩
    · rw [hRF.2.1 0 (by decide)]; show upd (mar 1) 2 (nI 0) 0 = _; rw [upd_n (by decide)]; exact a2
    · rw [hRF.2.2 i (by omega)]; have := (a3 i hi).1; rw [show 1000 * 0 + i = i by omega] at this; exact this.symm
    · rw [hRF.2.1 1 (by decide)]; show upd (mar 1) 2 (nI 0) 1 = _; rw [upd_n (by decide)]; exact b2
    · rw [hRF.2.2 _ (by omega)]; have := (b3 i hi).1; rw [show 1000 * 1 + i = 1000 + i by omega] at this; exact this.symm
  have hX1 : SX (va_up (va_up sc 2 (nI 5)) 17 (nI 0)) := fun k k4 k10 => by
    obtain ⟨m, hm, e⟩ := hX k k4 k10
    exact ⟨m, hm, by rw [up_ap, if_neg (by omega), up_ap, if_neg (by omega)]; exact e⟩
  obtain ⟨sc', ar', msc', mar', dl', q1, q2, q3, q4, q5, q6, q7, q8, q9, q10⟩ := enc_loop (sg := sg) hw1 hw 64 0 5 FU FU _ _ (va_up msc 1 (nI 0)) _ (by omega) (by omega) (by rw [FUv]; omega) (by rw [FUv]; omega) hS0 hX1 rfl hDR (by omega) (fun i hi => by show zf (ar 10) 4 i = zf (mar 2) 4 i; rw [zf_in hi, zf_in hi]) (fun i hi => by show zf (ar 11) 768 i = zf (mar 3) 768 i; rw [zf_in hi, zf_in hi])
  have eW : fX3_writeDelta sc ar sg (nI w) = some (sc', ar') := by
    rw [fX3_writeDelta, d1, row_keep0 (by omega), Option.bind_some]
    have hx' : fX3_writeDelta_L18 sg (nI w) (Int32.ofNat 5) FU 0 (va_up sc 2 (nI 0)) ar = some (va_up sc 2 (nI 5), va_up ar 2 (apd (ar 2) 0 5 HDf)) := hx
    rw [hx', Option.bind_some]
    dsimp only
    rw [x_clear, Option.bind_some]
    dsimp only
    have q1' : fX3_writeDelta_L54 sg (nI w) FU 0 (va_up (va_up sc 2 (nI 5)) 17 (nI 0)) (va_up (va_up (va_up ar 2 (apd (ar 2) 0 5 HDf)) 10 (zf (ar 10) 4)) 11 (zf (ar 11) 768)) = some (sc', ar') := q1
    rw [show (va_up ar 2 (apd (ar 2) 0 5 HDf)) 10 = ar 10 from rfl, show (va_up ar 2 (apd (ar 2) 0 5 HDf)) 11 = ar 11 from rfl, q1', Option.bind_some]
  have hq2 : fX8_encode_L48 (nI w) FU 0 (va_up msc 1 (nI 0)) (rA (va_up (va_up (va_up mar 2 (zf (mar 2) 4)) 3 (zf (mar 3) 768)) 1 (upd (mar 1) 2 (nI 0))) 2 0 5 HDf) = some (msc', mar') := q2
  have hm' : fX8_encode_L26 (va_up msc 1 (nI 0)) (nI w) FU 0 (va_up (va_up (va_up mar 2 (zf (mar 2) 4)) 3 (zf (mar 3) 768)) 1 (upd (mar 1) 2 (nI 0))) = some (rA (va_up (va_up (va_up mar 2 (zf (mar 2) 4)) 3 (zf (mar 3) 768)) 1 (upd (mar 1) 2 (nI 0))) 2 0 5 HDf) := hm
  have hsh : fX8_show msc' mar' (0 : Int32) = some (va_up mar' 4 (apd (mar' 4) (772 * 0) 772 (shF mar'))) := m_show (s := 0) (by omega)
  have hm4 : mar' 4 = mar 4 := by rw [q10.2.1 4 (by decide)]; rfl
  rw [eW, Option.bind_some, fX6_count, Option.bind_some, m_forget, Option.bind_some, if_pos (show inb (2 : Int32) 5 = true by decide)]
  dsimp only
  rw [z2, show (va_up (va_up mar 2 (zf (mar 2) 4)) 3 (zf (mar 3) 768)) 1 = mar 1 from rfl, show (0 : Int32) = nI 0 from rfl, ← show (0 : Int32) = nI 0 from rfl]
  have hm'' : fX8_encode_L26 (va_up msc 1 0) (nI w) FU 0 (va_up (va_up (va_up mar 2 (zf (mar 2) 4)) 3 (zf (mar 3) 768)) 1 (upd (mar 1) 2 0)) = some (rA (va_up (va_up (va_up mar 2 (zf (mar 2) 4)) 3 (zf (mar 3) 768)) 1 (upd (mar 1) 2 (nI 0))) 2 0 5 HDf) := hm'
  have hq2' : fX8_encode_L48 (nI w) FU 0 (va_up msc 1 0) (rA (va_up (va_up (va_up mar 2 (zf (mar 2) 4)) 3 (zf (mar 3) 768)) 1 (upd (mar 1) 2 (nI 0))) 2 0 5 HDf) = some (msc', mar') := hq2
  rw [hm'', Option.bind_some, hq2', Option.bind_some]
  dsimp only
  rw [hsh, Option.bind_some, if_pos (show inb (2 : Int32) 5 = true by decide), show (va_up mar' 4 (apd (mar' 4) (772 * 0) 772 (shF mar'))) 1 2 = nI dl' from q5.1]
  refine ⟨nI dl', sc', ar', msc', va_up mar' 4 (apd (mar' 4) (772 * 0) 772 (shF mar')), by rw [q4], rfl, ?_⟩
  · refine ⟨⟨va_up L 2 dl', fun k hk => ?_⟩, q3, fun i hi => ?_, fun i hi => ?_, ?_⟩
    · rcases (show k = 0 ∨ k = 1 ∨ k = 2 ∨ k = 3 by omega) with rfl | rfl | rfl | rfl
      · refine ⟨a0, by rw [q9.1 0 (by decide)]; exact a1, ?_, ?_⟩
        · show mar' 1 0 = _; rw [q10.2.2.1 0 (by decide), hRF.2.1 0 (by decide)]; show upd (mar 1) 2 (nI 0) 0 = _; rw [upd_n (by decide)]; exact a2
        · show SR (ar' 0) (L 0) (mar' 0) _
          rw [q9.2 0 (by decide)]
          exact SR_eq a3 (fun _ _ => rfl) (fun j hj => by rw [q10.2.2.2 _ (by omega), hRF.2.2 _ (by omega)]; rfl)
      · refine ⟨b0, by rw [q9.1 1 (by decide)]; exact b1, ?_, ?_⟩
        · show mar' 1 1 = _; rw [q10.2.2.1 1 (by decide), hRF.2.1 1 (by decide)]; show upd (mar 1) 2 (nI 0) 1 = _; rw [upd_n (by decide)]; exact b2
        · show SR (ar' 1) (L 1) (mar' 0) _
          rw [q9.2 1 (by decide)]
          exact SR_eq b3 (fun _ _ => rfl) (fun j hj => by rw [q10.2.2.2 _ (by omega), hRF.2.2 _ (by omega)]; rfl)
      · exact ⟨q6, q4, q5.1, q5.2⟩
      · obtain ⟨f0, f1, f2, f3⟩ := hL 3 (by omega)
        have m3 : L 3 ≤ 400 := f0
        refine ⟨f0, by rw [q9.1 3 (by decide)]; exact f1, ?_, ?_⟩
        · show mar' 1 3 = _; rw [q10.2.2.1 3 (by decide), hRF.2.1 3 (by decide)]; show upd (mar 1) 2 (nI 0) 3 = _; rw [upd_n (by decide)]; exact f2
        · show SR (ar' 3) (L 3) (mar' 0) _
          rw [q9.2 3 (by decide)]
          exact SR_eq f3 (fun _ _ => rfl) (fun j hj => by rw [q10.2.2.2 _ (by omega), hRF.2.2 _ (by omega)]; rfl)
    · refine ⟨?_, ?_⟩
      · show _ = apd (mar' 4) (772 * 0) 772 (shF mar') i
        rw [show i = 772 * 0 + i by omega, apd_in (by omega)]
        rw [show 772 * 0 + i = i by omega, q7 i hi]; unfold shF; rw [if_pos hi]
      · show _ = apd (mar' 4) (772 * 0) 772 (shF mar') (772 + i)
        rw [apd_hi (by omega), hm4, q9.2 14 (by decide)]; exact (hc4 i hi).2
    · refine ⟨?_, ?_⟩
      · show _ = apd (mar' 4) (772 * 0) 772 (shF mar') (4 + i)
        rw [show 4 + i = 772 * 0 + (4 + i) by omega, apd_in (by omega), q8 i hi]; unfold shF; rw [if_neg (by omega), show 4 + i - 4 = i by omega]
      · show _ = apd (mar' 4) (772 * 0) 772 (shF mar') (776 + i)
        rw [apd_hi (by omega), hm4, q9.2 15 (by decide)]; exact (hc768 i hi).2
    · rw [q9.1 29 (by decide), q10.1 0 (by decide)]; exact h29
