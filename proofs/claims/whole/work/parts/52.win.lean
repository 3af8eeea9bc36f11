/-! PURE: a whole window, both sides -/
theorem tp_L {sg : Bool} {fr n sl : Nat} {sc : Nat → Int32} {ar : Nat → Nat → Int32} {f : Nat → Int32} {tl : Nat} (h1 : sc 1 = nI tl) (hn : fr + n ≤ tl) (ht : tl ≤ 64) (hs : sl ≤ 48) : ∀ (r i k : Nat), i + r = n → r < k → fX3_takePiece_L13 sg (nI (fr + n)) k (nI (fr + i)) (va_up sc 4 (nI (sl + i))) (va_up ar 4 (apd f sl i (fun j => ar 1 (fr + j)))) = some (va_up sc 4 (nI (sl + n)), va_up ar 4 (apd f sl n (fun j => ar 1 (fr + j))))
  | 0, i, k + 1, hi, _ => by
    have e : i = n := by omega
    subst e
    rw [fX3_takePiece_L13, if_pos (by rw [nI_leI (by omega) (by omega)]; omega)]
  | r + 1, i, k + 1, hi, hk => by
    rw [fX3_takePiece_L13, if_neg (by rw [nI_leI (by omega) (by omega)]; omega), show (va_up sc 4 (nI (sl + i))) 1 = nI tl from h1, show (va_up ar 4 (apd f sl i fun j => ar 1 (fr + j))) 1 = ar 1 from rfl, row_at (by omega) (by omega) (by omega), Option.bind_some, show (va_up sc 4 (nI (sl + i))) 4 = nI (sl + i) from rfl, show (va_up ar 4 (apd f sl i fun j => ar 1 (fr + j))) 4 = apd f sl i (fun j => ar 1 (fr + j)) from rfl, row_app (by omega) (by omega), Option.bind_some, up_up, up_up, nI_1]
    have h := tp_L (sg := sg) (f := f) (ar := ar) h1 hn ht hs r (i + 1) k (by omega) (by omega)
    rw [apd_s] at h
    exact h
  | r, i, 0, hi, hk => by omega
theorem x_take {sg : Bool} {fr n sl tl m5 m6 m7 m8 : Nat} {sc : Nat → Int32} {ar : Nat → Nat → Int32} (h0 : sc 0 = nI sl) (h1 : sc 1 = nI tl) (hn : fr + n ≤ tl) (ht : tl ≤ 64) (hs : sl ≤ 48) (h5 : sc 5 = nI m5) (h6 : sc 6 = nI m6) (h7 : sc 7 = nI m7) (h8 : sc 8 = nI m8) (b5 : m5 < 2 ^ 30) (b6 : m6 < 2 ^ 30) (b7 : m7 < 2 ^ 30) (b8 : m8 < 2 ^ 30) :
    ∃ (sc' : Nat → Int32) (ar' : Nat → Nat → Int32), fX3_takePiece sc ar sg (nI fr) (nI (fr + n)) = some (sc', ar') ∧ sc' 0 = nI sl ∧ sc' 4 = nI (sl + n) ∧ (∀ i, i < sl + n → ar' 4 i = if i < sl then ar 0 i else ar 1 (fr + (i - sl))) ∧ sc' 5 = nI 0 ∧ sc' 6 = nI 0 ∧ sc' 7 = nI 0 ∧ sc' 8 = nI 0 ∧ sc' 17 = nI 0 ∧ sc' 20 = nI 0 ∧ (∀ i, i < 4 → ar' 10 i = nI 0) ∧ (∀ i, i < 768 → ar' 11 i = nI 0) ∧ (∀ k, k ∉ [0, 4, 5, 6, 7, 8, 17, 20] → sc' k = sc k) ∧ (∀ k, k ∉ [4, 10, 11] → ar' k = ar k) := by
  have hb := row_become (f := ar 4) (ct := sc 4) (f2 := ar 0) (n := 112) (n2 := 48) (c2 := sl) (by omega) (by omega) hs (by omega)
  have hl := tp_L (sg := sg) (fr := fr) (n := n) (sl := sl) (sc := va_up (va_up sc 4 (nI sl)) 0 (nI sl)) (ar := va_up ar 4 (apd (ar 4) 0 sl (ar 0))) (f := apd (ar 4) 0 sl (ar 0)) (tl := tl) (show sc 1 = nI tl from h1) hn ht hs n 0 FU (by omega) (by rw [FUv]; omega)
  rw [apd_0, Nat.add_zero, Nat.add_zero, up_id (f := va_up (va_up sc 4 (nI sl)) 0 (nI sl)) (k := 4) (x := nI sl) rfl, up_id (f := va_up ar 4 (apd (ar 4) 0 sl (ar 0))) (k := 4) (x := apd (ar 4) 0 sl (ar 0)) rfl] at hl
  rw [fX3_takePiece, h0, hb, Option.bind_some]
  dsimp only
  rw [hl, Option.bind_some]
  dsimp only
  rw [x_clear, Option.bind_some, fX4_clear, Option.bind_some, show (va_up (va_up (va_up sc 4 (nI sl)) 0 (nI sl)) 4 (nI (sl + n))) 5 = nI m5 from h5, row_keep0 (by omega), Option.bind_some, show (va_up (va_up (va_up sc 4 (nI sl)) 0 (nI sl)) 4 (nI (sl + n))) 6 = nI m6 from h6, row_keep0 (by omega), Option.bind_some, show (va_up (va_up (va_up sc 4 (nI sl)) 0 (nI sl)) 4 (nI (sl + n))) 7 = nI m7 from h7, row_keep0 (by omega), Option.bind_some, show (va_up (va_up (va_up sc 4 (nI sl)) 0 (nI sl)) 4 (nI (sl + n))) 8 = nI m8 from h8, row_keep0 (by omega), Option.bind_some]
  · refine ⟨_, _, rfl, rfl, rfl, fun i hi => ?_, rfl, rfl, rfl, rfl, rfl, rfl, fun i hi => zf_in hi, fun i hi => zf_in hi, fun k hk => ?_, fun k hk => ?_⟩
    · show apd (apd (ar 4) 0 sl (ar 0)) sl n (fun j => ar 1 (fr + j)) i = _
      by_cases q : i < sl
      · rw [apd_lo q, if_pos q]; simp only [apd]; rw [if_pos (by omega)]; congr 1
      · rw [if_neg q]; simp only [apd]; rw [if_pos (by omega)]
    · rw [up_nin (by decide) hk, up_nin (by decide) hk, up_nin (by decide) hk, up_nin (by decide) hk, up_nin (by decide) hk, up_nin (by decide) hk, up_nin (by decide) hk, up_nin (by decide) hk, up_nin (by decide) hk]
    · rw [up_nin (by decide) hk, up_nin (by decide) hk, up_nin (by decide) hk, up_nin (by decide) hk]
theorem m_zero {msc : Nat → Int32} {mar : Nat → Nat → Int32} {x1 x2 x3 : Int32} : ∃ W : Nat → Int32, fX8_window_L14 msc x1 x2 x3 FU 0 mar = some (va_up mar 9 W) ∧ W 0 = nI 0 ∧ W 1 = nI 0 ∧ W 2 = nI 0 := by
  have s0 : FU = 5996 + 1 + 1 + 1 + 1 := rfl
  have c0 : (0 : Int32).toNatClampNeg = 0 := by decide
  have c1 : ((0 : Int32) + 1).toNatClampNeg = 1 := by decide
  have c2 : ((0 : Int32) + 1 + 1).toNatClampNeg = 2 := by decide
  refine ⟨upd (upd (upd (mar 9) 0 0) 1 0) 2 0, ?_, ?_, ?_, ?_⟩
  · rw [s0, fX8_window_L14, if_neg (by decide), if_pos (by decide), fX8_window_L14, if_neg (by decide), if_pos (by decide), fX8_window_L14, if_neg (by decide), if_pos (by decide), fX8_window_L14, if_pos (by decide), c0, c1, c2, up_up, up_up]
    rfl
  · rw [upd_n (by decide), upd_n (by decide), upd_s]; rfl
  · rw [upd_n (by decide), upd_s]; rfl
  · rw [upd_s]; rfl
/-- the segment's part of a window -/
def sgF (f : Nat → Int32) (dl sl : Nat) : Nat → Int32 := if sl = 0 then apd f dl 1 (fun _ => 0) else apd (apd (apd f dl 1 (fun _ => 1)) (dl + 1) (vlen sl) (vfun sl)) (dl + 1 + vlen sl) (vlen 0) (vfun 0)
def sgL (dl sl : Nat) : Nat := if sl = 0 then dl + 1 else dl + 1 + vlen sl + vlen 0
theorem ww_eq (sc : Nat → Int32) (ar : Nat → Nat → Int32) (sg : Bool) : fX3_writeWindow sc ar sg = (if sc 0 = 0 then (fX6_append 1000 (ar 2) (sc 2) (0 : Int32)).bind fun R13 => some ((va_up sc 2 R13.2), (va_up ar 2 R13.1)) else (fX6_append 1000 (ar 2) (sc 2) (1 : Int32)).bind fun R5 => (fX6_appendInteger 1000 R5.1 R5.2 (sc 0)).bind fun R9 => (fX6_appendInteger 1000 R9.1 R9.2 (0 : Int32)).bind fun R11 => some ((va_up sc 2 R11.2), (va_up ar 2 R11.1)) : Option ((Nat → Int32) × (Nat → Nat → Int32))).bind fun R15 =>
    ((fX6_appendInteger 320 (R15.2 8) (R15.1 8) (R15.1 4 - R15.1 0)).bind (fun R20 => (fX6_append 320 R20.1 R20.2 (0 : Int32)).bind fun R22 => (fX6_appendInteger 320 R22.1 R22.2 (R15.1 5)).bind fun R26 => (fX6_appendInteger 320 R26.1 R26.2 (R15.1 6)).bind fun R30 => (fX6_appendInteger 320 R30.1 R30.2 (R15.1 7)).bind fun R34 => (fX6_appendRow 320 64 R34.1 R34.2 (R15.2 5) (R15.1 5)).bind fun R36 => (fX6_appendRow 320 128 R36.1 R36.2 (R15.2 6) (R15.1 6)).bind fun R38 => (fX6_appendRow 320 64 R38.1 R38.2 (R15.2 7) (R15.1 7)).bind fun R40 => (fX6_appendInteger 1000 (R15.2 2) (R15.1 2) R40.2).bind fun R44 => (fX6_appendRow 1000 320 R44.1 R44.2 R40.1 R40.2).bind fun R46 => some (R40, R46))).bind fun P => some (va_up (va_up R15.1 8 P.1.2) 2 P.2.2, va_up (va_up R15.2 8 P.1.1) 2 P.2.1) := by
  rw [fX3_writeWindow]
  simp only [fX6_count, Option.bind_some, up_up, Option.bind_assoc]
theorem x_ww {sg : Bool} {sc : Nat → Int32} {ar : Nat → Nat → Int32} {dl sl n d cc a : Nat} (h0 : sc 0 = nI sl) (h2 : sc 2 = nI dl) (h4 : sc 4 = nI (sl + n)) (h5 : sc 5 = nI d) (h6 : sc 6 = nI cc) (h7 : sc 7 = nI a) (h8 : sc 8 = nI 0) (hs : sl ≤ 48) (hn : n ≤ 64) (hd : d ≤ 64) (hc : cc ≤ 128) (ha : a ≤ 64) (hC : dl + 5 + bsz n d cc a ≤ 1000) :
    ∃ (sc' : Nat → Int32) (ar' : Nat → Nat → Int32), fX3_writeWindow sc ar sg = some (sc', ar') ∧ sc' 2 = nI (sgL dl sl + vlen (bsz n d cc a) + bsz n d cc a) ∧ ar' 2 = wp (sgF (ar 2) dl sl) (sgL dl sl) n d cc a (ar 5) (ar 6) (ar 7) ∧ sc' 8 = nI (bsz n d cc a) ∧ (∀ k, k ∉ [2, 8] → sc' k = sc k) ∧ (∀ k, k ∉ [2, 8] → ar' k = ar k) := by
  have l0 : vlen 0 = 1 := by decide
  have ls : vlen sl = 1 := vlen_1 (by omega)
  have hseg : (if sc 0 = 0 then (fX6_append 1000 (ar 2) (sc 2) (0 : Int32)).bind fun R13 => some ((va_up sc 2 R13.2), (va_up ar 2 R13.1)) else (fX6_append 1000 (ar 2) (sc 2) (1 : Int32)).bind fun R5 => (fX6_appendInteger 1000 R5.1 R5.2 (sc 0)).bind fun R9 => (fX6_appendInteger 1000 R9.1 R9.2 (0 : Int32)).bind fun R11 => some ((va_up sc 2 R11.2), (va_up ar 2 R11.1)) : Option ((Nat → Int32) × (Nat → Nat → Int32))) = some (va_up sc 2 (nI (sgL dl sl)), va_up ar 2 (sgF (ar 2) dl sl)) := by
    unfold sgL sgF
    by_cases q : sl = 0
    · subst q
      rw [if_pos (by rw [h0]; rfl), h2, row_app1 (by omega) (by omega), Option.bind_some, if_pos rfl, if_pos rfl]
    · rw [if_neg (by rw [h0, L0, nI_eq (by omega) (by omega)]; exact q), h2, row_app1 (by omega) (by omega), Option.bind_some, h0]
      dsimp only
      rw [row_appInt (by omega) (by omega) (by omega), Option.bind_some]
      dsimp only
      rw [show (0 : Int32) = nI 0 from rfl, row_appInt (by omega) (by omega) (by omega), Option.bind_some, if_neg q, if_neg q]
  have hL : sgL dl sl ≤ dl + 3 := by unfold sgL; split <;> omega
  rw [ww_eq, hseg, Option.bind_some]
  dsimp only
  rw [show (va_up sc 2 (nI (sgL dl sl))) 8 = nI 0 from h8, show (va_up sc 2 (nI (sgL dl sl))) 4 = nI (sl + n) from h4, show (va_up sc 2 (nI (sgL dl sl))) 0 = nI sl from h0, show (va_up sc 2 (nI (sgL dl sl))) 5 = nI d from h5, show (va_up sc 2 (nI (sgL dl sl))) 6 = nI cc from h6, show (va_up sc 2 (nI (sgL dl sl))) 7 = nI a from h7, show (va_up sc 2 (nI (sgL dl sl))) 2 = nI (sgL dl sl) from rfl, pk_sub (by omega), show sl + n - sl = n by omega, x_tail hn hd hc ha (by omega), Option.bind_some]
  refine ⟨_, _, rfl, rfl, rfl, rfl, fun k hk => ?_, fun k hk => ?_⟩
  · rw [up_nin (by decide) hk, up_nin (by decide) hk, up_nin (by decide) hk]
  · rw [up_nin (by decide) hk, up_nin (by decide) hk, up_nin (by decide) hk]
/-- the model's segment part -/
theorem m_seg {msc : Nat → Int32} {R9 : Nat → Nat → Int32} {dl sl : Nat} (h0 : R9 1 0 = nI sl) (h2 : R9 1 2 = nI dl) (hs : sl ≤ 48) (hd : dl + 5 ≤ 1000) :
    ∃ r : Nat → Nat → Int32, (∀ {β : Type} (k : (Nat → Nat → Int32) → Option β), ((if ((R9 1) (0 : Int32).toNatClampNeg) ≤ 0 then some (0 : Int32) else some (1 : Int32) : Option (Int32)).bind fun R14 => (fX8_append msc R9 (2 : Int32) R14).bind fun R15 => if inb (0 : Int32) 5 = true then (if ((R15 1) (0 : Int32).toNatClampNeg) ≤ 0 then some R15 else if inb (0 : Int32) 5 = true then (fX8_appendInteger msc R15 ((R15 1) (0 : Int32).toNatClampNeg)).bind fun R21 => (fX8_appendInteger msc R21 (0 : Int32)).bind fun R23 => some R23 else none : Option ((Nat → Nat → Int32))).bind k else none) = k r) ∧ r 1 2 = nI (sgL dl sl) ∧ (∀ F : Nat → Int32, DR dl F R9 → DR (sgL dl sl) (sgF F dl sl) r) ∧ RF R9 r := by
  have z : (0 : Int32).toNatClampNeg = 0 := by decide
  have l0 : vlen 0 = 1 := by decide
  have ls : vlen sl = 1 := vlen_1 (by omega)
  have u : ∀ (ar : Nat → Nat → Int32) (c m : Nat) (g : Nat → Int32), (rA ar 2 c m g) 1 2 = nI (c + m) := fun ar c m g => by show upd (ar 1) 2 (nI (c + m)) 2 = _; rw [upd_s]
  have v : ∀ (ar : Nat → Nat → Int32) (c m : Nat) (g : Nat → Int32), (rA ar 2 c m g) 1 0 = ar 1 0 := fun ar c m g => by show upd (ar 1) 2 (nI (c + m)) 0 = _; rw [upd_n (by decide)]
  by_cases q : sl = 0
  · subst q
    refine ⟨rA R9 2 dl 1 (fun _ => 0), fun k => ?_, u _ _ _ _, fun F hF => ?_, RF_add (by omega)⟩
    · rw [z, h0, if_pos (show nI 0 ≤ 0 by decide), Option.bind_some, ap_2 h2 (by omega), Option.bind_some, if_pos (by decide), v, h0, if_pos (show nI 0 ≤ 0 by decide), Option.bind_some]
    · exact DR_add (m := 1) (v := fun _ => 0) (v' := fun _ => 0) hF (fun _ _ => ⟨rfl, 0, by omega, rfl⟩)
  · have hn : ¬ nI sl ≤ 0 := by rw [L0, nI_leI (by omega) (by omega)]; omega
    have eI : fX8_appendInteger msc (rA (rA R9 2 dl 1 fun _ => 1) 2 (dl + 1) (vlen sl) (vfun sl)) (0 : Int32) = some (rA (rA (rA R9 2 dl 1 fun _ => 1) 2 (dl + 1) (vlen sl) (vfun sl)) 2 (dl + 1 + vlen sl) (vlen 0) (vfun 0)) := m_appInt (v := 0) (by omega) (by omega) (u _ _ _ _)
    refine ⟨rA (rA (rA R9 2 dl 1 (fun _ => 1)) 2 (dl + 1) (vlen sl) (vfun sl)) 2 (dl + 1 + vlen sl) (vlen 0) (vfun 0), fun k => ?_, ?_, fun F hF => ?_, ?_⟩
    · rw [z, h0, if_neg hn, Option.bind_some, ap_2 h2 (by omega), Option.bind_some, if_pos (by decide), v, h0, if_neg hn, if_pos (by decide), m_appInt (by omega) (by omega) (u _ _ _ _), Option.bind_some, eI, Option.bind_some, Option.bind_some]
    · rw [u]; unfold sgL; rw [if_neg q]
    · unfold sgL sgF; rw [if_neg q, if_neg q]
      have p1 := DR_add (m := 1) (v := fun _ => 1) (v' := fun _ => 1) hF (fun _ _ => ⟨rfl, 1, by omega, rfl⟩)
      have p2 := DR_add (m := vlen sl) p1 (fun j _ => ⟨rfl, vfun_b (v := sl) (j := j) (by omega)⟩)
      exact DR_add (m := vlen 0) p2 (fun j _ => ⟨rfl, vfun_b (v := 0) (j := j) (by omega)⟩)
    · refine ((RF_add ?_).trans (RF_add ?_)).trans (RF_add ?_)
      all_goals omega
