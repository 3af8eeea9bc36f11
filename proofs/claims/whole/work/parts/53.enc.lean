/-! PURE: encode, both sides -/
def XF (sc sc' : Nat → Int32) (ar ar' : Nat → Nat → Int32) : Prop := (∀ k, k ∉ [2, 4, 5, 6, 7, 8, 10, 11, 17, 20] → sc' k = sc k) ∧ (∀ k, k ∉ [2, 4, 5, 6, 7, 8, 10, 11, 16, 17, 18] → ar' k = ar k)
def MF (msc msc' : Nat → Int32) (mar mar' : Nat → Nat → Int32) : Prop := (∀ k, k ∉ [1, 2] → msc' k = msc k) ∧ (∀ k, k ∉ [0, 1, 2, 3, 5, 6, 7, 8, 9] → mar' k = mar k) ∧ (∀ j, j ≠ 2 → mar' 1 j = mar 1 j) ∧ (∀ j, j < 2000 ∨ 3000 ≤ j → mar' 0 j = mar 0 j)
theorem XF.trans {sc s1 s2 : Nat → Int32} {ar a1 a2 : Nat → Nat → Int32} (h : XF sc s1 ar a1) (h2 : XF s1 s2 a1 a2) : XF sc s2 ar a2 := ⟨fun k hk => (h2.1 k hk).trans (h.1 k hk), fun k hk => (h2.2 k hk).trans (h.2 k hk)⟩
theorem MF.trans {msc m1 m2 : Nat → Int32} {mar r1 r2 : Nat → Nat → Int32} (h : MF msc m1 mar r1) (h2 : MF m1 m2 r1 r2) : MF msc m2 mar r2 := ⟨fun k hk => (h2.1 k hk).trans (h.1 k hk), fun k hk => (h2.2.1 k hk).trans (h.2.1 k hk), fun j hj => (h2.2.2.1 j hj).trans (h.2.2.1 j hj), fun j hj => (h2.2.2.2 j hj).trans (h.2.2.2 j hj)⟩
theorem XF.rf {sc : Nat → Int32} {ar : Nat → Nat → Int32} : XF sc sc ar ar := ⟨fun _ _ => rfl, fun _ _ => rfl⟩
theorem MF.rf {msc : Nat → Int32} {mar : Nat → Nat → Int32} : MF msc msc mar mar := ⟨fun _ _ => rfl, fun _ _ => rfl, fun _ _ => rfl, fun _ _ => rfl⟩
theorem nin_sub {k : Nat} {L M : List Nat} (h : ∀ x ∈ M, x ∈ L) (hk : k ∉ L) : k ∉ M := fun q => hk (h k q)
/-- scratch rows hold counts -/
def SX (sc : Nat → Int32) : Prop := ∀ k, 4 ≤ k → k < 10 → ∃ m : Nat, m < 2 ^ 30 ∧ sc k = nI m
theorem win_sim {sl tl : Nat} {src tg : Nat → Int32} {dl fr n : Nat} {sg : Bool} {sc : Nat → Int32} {ar : Nat → Nat → Int32} {msc : Nat → Int32} {mar : Nat → Nat → Int32} (h : S0 sl tl src tg sc ar mar) (hX : SX sc) (h2 : sc 2 = nI dl) (hD : DR dl (ar 2) mar) (hn : 1 ≤ n) (hfr : fr + n ≤ tl) (hb : dl + 11 + 4 * n ≤ 1000) :
    ∃ (s1 s2 s3 s4 : Nat → Int32) (a1 a2 a3 a4 : Nat → Nat → Int32) (msc' : Nat → Int32) (mar' : Nat → Nat → Int32) (dl' : Nat), fX3_takePiece sc ar sg (nI fr) (nI (fr + n)) = some (s1, a1) ∧ fX3_findInstructions s1 a1 sg = some (s2, a2) ∧ fX3_chooseCodes s2 a2 sg = some (s3, a3) ∧ fX3_writeWindow s3 a3 sg = some (s4, a4) ∧ fX8_window msc mar (nI fr) (nI (fr + n)) = some (msc', mar') ∧ SX s4 ∧ s4 2 = nI dl' ∧ DR dl' (a4 2) mar' ∧ dl' ≤ dl + 11 + 4 * n ∧ (∀ i, i < 4 → a4 10 i = mar' 2 i) ∧ (∀ i, i < 768 → a4 11 i = mar' 3 i) ∧ XF sc s4 ar a4 ∧ MF msc msc' mar mar' := by
  obtain ⟨g0, gs, g1, gt, m0, ms, m1, mt, bs, bt, hs, ht⟩ := id h
  obtain ⟨m5, b5, e5⟩ := hX 5 (by omega) (by omega)
  obtain ⟨m6, b6, e6⟩ := hX 6 (by omega) (by omega)
  obtain ⟨m7, b7, e7⟩ := hX 7 (by omega) (by omega)
  obtain ⟨m8, b8, e8⟩ := hX 8 (by omega) (by omega)
  obtain ⟨s1, a1, t1, t0, t4, tS, t5, t6, t7, t8, t17, t20, tn, ts, tf, ta⟩ := x_take (sg := sg) (fr := fr) (n := n) (ar := ar) g0 g1 hfr ht hs e5 e6 e7 e8 b5 b6 b7 b8
  -- the model up to the search
  obtain ⟨W, w1, w0, ww1, w2⟩ := m_zero (msc := va_up (va_up msc 1 (nI 0)) 2 0) (mar := va_up (va_up mar 2 (zf (mar 2) 4)) 3 (zf (mar 3) 768)) (x1 := nI fr) (x2 := nI (fr + n)) (x3 := 0)
  -- the search
  have hstr : STR sl n fr (fun i => if i < sl then src i else tg (fr + (i - sl))) s1 a1 (va_up (va_up (va_up mar 2 (zf (mar 2) 4)) 3 (zf (mar 3) 768)) 9 W) := by
    refine ⟨t4, fun i hi => ?_, m0, fun i hi => ?_, fun j hj => ?_, fun i hi => ?_, hs, by omega⟩
    · rw [tS i hi]
      dsimp only
      by_cases q : i < sl
      · rw [if_pos q, if_pos q, gs i q]
      · rw [if_neg q, if_neg q, gt _ (by omega)]
    · dsimp only; rw [if_pos hi]; exact ms i hi
    · dsimp only; rw [if_neg (by omega), show sl + j - sl = j by omega, show 1000 + fr + j = 1000 + (fr + j) by omega]; exact mt _ (by omega)
    · dsimp only
      by_cases q : i < sl
      · rw [if_pos q]; exact bs i q
      · rw [if_neg q]; exact bt _ (by omega)
  have hFI : FI sl n fr (fun i => if i < sl then src i else tg (fr + (i - sl))) 0 s1 a1 (va_up (va_up msc 1 (nI 0)) 2 0) (va_up (va_up (va_up mar 2 (zf (mar 2) 4)) 3 (zf (mar 3) 768)) 9 W) :=
    ⟨0, 0, 0, 0, fun _ => 0, fun _ => 0, fun _ => 0, hstr, t20, rfl, fun i hi => by omega, fun i hi => by omega, Nat.le_refl _, t5, w0, fun j hj => by omega, Nat.le_refl _, t7, w2, fun j hj => by omega, Nat.le_refl _, ⟨fun i hi => by rw [tn i hi]; exact (zf_in hi).symm, fun i hi => by rw [ts i hi]; exact (zf_in hi).symm, t17, rfl⟩, Nat.le_refl _⟩
  obtain ⟨s2, a2, msc2, mar2, f1, f2, f3, f4⟩ := find_sim (sg := sg) hFI t0
  obtain ⟨c, d, a, cp, K, S, M, q1, q2, q3, q4, q5, q6, q7, q8, q9, q10, q11, q12, q13, q14, q15, q16⟩ := f3
  -- the codes
  have hCR : CR 0 s2 a2 mar2 := ⟨by rw [f4.1 6 (by decide)]; exact t6, by rw [f4.2.2.2.2]; exact ww1, fun j hj => by omega⟩
  obtain ⟨s3, a3, mar3, cc, c1, c2, c3, c4, c5⟩ := choose_sim (sg := sg) (c := c) (K := K) (S := S) (M := M) (by omega) c 0 0 FU FU s2 a2 msc2 mar2 (by omega) (by rw [FUv]; omega) (by rw [FUv]; omega) (by omega) q2 q3 q4 hCR
  have c1' : fX3_chooseCodes s2 a2 sg = some (s3, a3) := by rw [fX3_chooseCodes, show (0 : Int32) = nI 0 from rfl, c1, Option.bind_some]
  have c2' : fX8_writeCodes msc2 mar2 = some mar3 := by rw [fX8_writeCodes, show (0 : Int32) = nI 0 from rfl, c2, Option.bind_some]
  obtain ⟨cf1, cf2, cf3, cf4, cf5⟩ := id c5
  -- sizes
  have ln : vlen n = 1 := vlen_1 (by omega)
  have ld : vlen d = 1 := vlen_1 (by omega)
  have la : vlen a = 1 := vlen_1 (by omega)
  have lc := vlen_le cc
  have lB := vlen_le (bsz n d cc a)
  have eB : bsz n d cc a = vlen n + 1 + vlen d + vlen cc + vlen a + d + cc + a := rfl
  -- X writes
  have k3 : ∀ k, k ≠ 6 → k ∉ [5, 7, 10, 11, 17, 20] → s3 k = s1 k := fun k h6 hk => (cf1 k h6).trans (f4.1 k hk)
  obtain ⟨s4, a4, x1, x2, x3, x4, x5, x6⟩ := x_ww (sg := sg) (sc := s3) (ar := a3) (dl := dl) (sl := sl) (n := n) (d := d) (cc := cc) (a := a) (by rw [k3 0 (by decide) (by decide)]; exact t0) (by rw [k3 2 (by decide) (by decide), tf 2 (by decide)]; exact h2) (by rw [k3 4 (by decide) (by decide)]; exact t4) (by rw [cf1 5 (by decide)]; exact q7) c4.1 (by rw [cf1 7 (by decide)]; exact q11) (by rw [k3 8 (by decide) (by decide)]; exact t8) hs (by omega) (by omega) (by omega) (by omega) (by omega)
  -- the model writes
  have mk : ∀ k, k ∉ [2, 3, 5, 6, 7, 8, 9] → mar3 k = mar k := fun k hk => by
    rw [cf3 k (fun e => hk (by rw [e]; decide)) (fun e => hk (by rw [e]; decide)), f4.2.2.2.1 k hk, up_nin (by decide) hk, up_nin (by decide) hk, up_nin (by decide) hk]
  obtain ⟨r, r1, r2, r3, r4⟩ := m_seg (msc := msc2) (R9 := mar3) (dl := dl) (sl := sl) (by rw [mk 1 (by decide)]; exact m0) (by rw [mk 1 (by decide)]; exact hD.1) hs (by omega)
  have hL : sgL dl sl ≤ dl + 3 := by
    have l0 : vlen 0 = 1 := by decide
    have ls : vlen sl = 1 := vlen_1 (by omega)
    unfold sgL; split <;> omega
  have r8 : r 8 = mar3 8 := r4.1 8 (by decide) (by decide)
  have r9 : r 9 = mar3 9 := r4.1 9 (by decide) (by decide)
  obtain ⟨mar4, y1, y2, y3⟩ := m_tail (msc := msc2) (r := r) (x1 := nI fr) (x2 := nI (fr + n)) (C := sgL dl sl) (n := n) (d := d) (cc := cc) (a := a) (vd := a3 5) (vc := a3 6) (va := a3 7) (by rw [pk_sub (by omega)]; congr 1; omega) (by rw [r9, cf5 0 (by decide)]; exact q8) (by rw [r9]; exact c4.2.1) (by rw [r9, cf5 2 (by decide)]; exact q12) (by omega) (by omega) (by omega) (by omega) r2 (by omega)
    (by rw [r8, cf2 5 (by decide)]; exact SR_eq q9 (fun _ _ => rfl) (fun j hj => cf4 _ (by omega))) (by rw [r8]; exact c4.2.2) (by rw [r8, cf2 7 (by decide)]; exact SR_eq q13 (fun _ _ => rfl) (fun j hj => cf4 _ (by omega)))
  have a32 : a3 2 = ar 2 := by rw [cf2 2 (by decide), f4.2.1 2 (by decide), ta 2 (by decide)]
  have hD3 : DR dl (a3 2) mar3 := by
    rw [a32]; exact ⟨by rw [mk 1 (by decide)]; exact hD.1, by rw [mk 0 (by decide)]; exact hD.2⟩
  refine ⟨s1, s2, s3, s4, a1, a2, a3, a4, msc2, mar4, sgL dl sl + vlen (bsz n d cc a) + bsz n d cc a, t1, f1, c1', x1, ?_, ?_, x2, ?_, by omega, ?_, ?_, ?_, ?_⟩
  · rw [fX8_window, m_forget, Option.bind_some]
    dsimp only
    rw [w1, Option.bind_some, f2, Option.bind_some]
    dsimp only
    rw [c2', Option.bind_some, if_pos (by decide)]
    refine (r1 _).trans ?_
    exact y1
  · intro k k4 k10
    rcases (show k = 4 ∨ k = 5 ∨ k = 6 ∨ k = 7 ∨ k = 8 ∨ k = 9 by omega) with rfl | rfl | rfl | rfl | rfl | rfl
    · exact ⟨sl + n, by omega, by rw [x5 4 (by decide), k3 4 (by decide) (by decide)]; exact t4⟩
    · exact ⟨d, by omega, by rw [x5 5 (by decide), cf1 5 (by decide)]; exact q7⟩
    · exact ⟨cc, by omega, by rw [x5 6 (by decide)]; exact c4.1⟩
    · exact ⟨a, by omega, by rw [x5 7 (by decide), cf1 7 (by decide)]; exact q11⟩
    · exact ⟨bsz n d cc a, by omega, x4⟩
    · obtain ⟨m9, b9, e9⟩ := hX 9 (by omega) (by omega)
      exact ⟨m9, b9, by rw [x5 9 (by decide), k3 9 (by decide) (by decide), tf 9 (by decide)]; exact e9⟩
  · rw [x3]; exact y2 _ (r3 _ hD3)
  · intro i hi
    rw [x6 10 (by decide), cf2 10 (by decide), y3.1 2 (by decide) (by decide), r4.1 2 (by decide) (by decide), cf3 2 (by decide) (by decide)]; exact q15.1 i hi
  · intro i hi
    rw [x6 11 (by decide), cf2 11 (by decide), y3.1 3 (by decide) (by decide), r4.1 3 (by decide) (by decide), cf3 3 (by decide) (by decide)]; exact q15.2.1 i hi
  · refine ⟨fun k hk => ?_, fun k hk => ?_⟩
    · rw [x5 k (nin_sub (by decide) hk), k3 k (fun e => hk (by rw [e]; decide)) (nin_sub (by decide) hk)]
      by_cases e : k = 0
      · rw [e, t0, g0]
      · exact tf k (fun q => by
          rcases List.mem_cons.mp q with q | q
          · exact e q
          · exact nin_sub (M := [4, 5, 6, 7, 8, 17, 20]) (by decide) hk q)
    · rw [x6 k (nin_sub (by decide) hk), cf2 k (fun e => hk (by rw [e]; decide)), f4.2.1 k (nin_sub (by decide) hk), ta k (nin_sub (by decide) hk)]
  · refine ⟨fun k hk => ?_, fun k hk => ?_, fun j hj => ?_, fun j hj => ?_⟩
    · rw [f4.2.2.1 k hk, up_nin (by decide) hk, up_nin (by decide) hk]
    · rw [y3.1 k (fun e => hk (by rw [e]; decide)) (fun e => hk (by rw [e]; decide)), r4.1 k (fun e => hk (by rw [e]; decide)) (fun e => hk (by rw [e]; decide)), mk k (nin_sub (by decide) hk)]
    · rw [y3.2.1 j hj, r4.2.1 j hj, mk 1 (by decide)]
    · rw [y3.2.2 j hj, r4.2.2 j hj, mk 0 (by decide)]
